set_option maxHeartbeats 1000000 in
theorem c_Text_hasTest {sh : gS} {g : gM} (hx : gFix sh) (hf : gFin g) {o : Int} (ho : gsz sh o 10 8) {N : Nat} (hs : gsz sh (g o 5) 13 N) (i : Int) (hi : 0 ≤ i ∧ i * 3 + 3 < (N : Int)) (hN : N ≤ 400) (hv1 : 0 ≤ g (g o 5) (i * 3 + 2) ∧ g (g o 5) (i * 3 + 2) ≤ 400) (hv2 : 0 ≤ g (g o 5) (i * 3 + 3) ∧ g (g o 5) (i * 3 + 3) ≤ 400) : gTri f_Text_hasTest 0 0 0 [(2, o), (0, i)] sh g (gR (some (0, bi (g (g o 5) (i * 3 + 2) < g (g o 5) (i * 3 + 3)))) sh g) := by
  refine gTri.of (by decide +kernel) rfl ?_
  show gWP f_Text_hasTest _ _ _ 0 [(2, o), (0, i), (9, 0)] [] sh g _
  refine gw_iload_n (gc k_Text_hasTest_0 0 rfl) rfl ?_
  refine gw_iconst (gc k_Text_hasTest_0 1 rfl) ?_
  refine gw_imul (gc k_Text_hasTest_0 2 rfl) ?_
  refine gw_iconst (gc k_Text_hasTest_0 3 rfl) ?_
  refine gw_iadd (gc k_Text_hasTest_0 4 rfl) ?_
  refine gw_istore_2 (gc k_Text_hasTest_0 5 rfl) rfl rfl ?_
  refine gw_aload_n (gc k_Text_hasTest_0 6 rfl) rfl rfl ?_
  refine gw_getf 5 rfl (gc k_Text_hasTest_0 7 rfl) fl_Text_18 ho ?_
  refine gw_iload_n (gc k_Text_hasTest_0 8 rfl) rfl ?_
  refine gw_iald (gc k_Text_hasTest_0 9 rfl) hs (by omega) ?_
  refine gw_aload_n (gc k_Text_hasTest_0 10 rfl) rfl rfl ?_
  refine gw_getf 5 rfl (gc k_Text_hasTest_0 11 rfl) fl_Text_18 ho ?_
  refine gw_iload_n (gc k_Text_hasTest_0 12 rfl) rfl ?_
  refine gw_iconst (gc k_Text_hasTest_0 13 rfl) ?_
  refine gw_iadd (gc k_Text_hasTest_0 14 rfl) ?_
  rw [show i * 3 + 2 + 1 = i * 3 + 3 by omega]
  refine gw_iald (gc k_Text_hasTest_0 15 rfl) hs (by omega) ?_
  refine gw_icmp_ge (tgt := 27) (gc k_Text_hasTest_0 16 rfl) rfl (by omega) (fun c20 => ?_) (fun c20 => ?_)
  · refine gw_iconst (gc k_Text_hasTest_0 19 rfl) ?_
    refine gw_zreturn (gc k_Text_hasTest_0 20 rfl) rfl (by omega) ?_
    exact ⟨by first | rw [bi_1 (by omega)] | rw [bi_0 (by omega)], rfl, rfl⟩
  · refine gw_iconst (gc k_Text_hasTest_0 17 rfl) ?_
    refine gw_goto (tgt := 28) (gc k_Text_hasTest_0 18 rfl) rfl ?_
    refine gw_zreturn (gc k_Text_hasTest_0 20 rfl) rfl (by omega) ?_
    exact ⟨by first | rw [bi_1 (by omega)] | rw [bi_0 (by omega)], rfl, rfl⟩
