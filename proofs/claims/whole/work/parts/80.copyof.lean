/-! ===== a text is kept ===== -/
theorem gsz_last (sh : gS) (q n : Nat) : gsz (sh ++ [(q, n)]) (sh.length : Int) q n := ⟨Int.natCast_nonneg _, by rw [Int.toNat_natCast, List.getElem?_append_right (Nat.le_refl _), Nat.sub_self]; rfl⟩
theorem gsz.app {sh : gS} {a : Int} {q n : Nat} (h : gsz sh a q n) (t : gS) : gsz (sh ++ t) a q n := ⟨h.1, by rw [List.getElem?_append_left (List.getElem?_eq_some_iff.mp h.2).1]; exact h.2⟩
theorem gsz.lt {sh : gS} {a : Int} {q n : Nat} (h : gsz sh a q n) : a < (sh.length : Int) := by
  have h1 := (List.getElem?_eq_some_iff.mp h.2).1
  have h2 := h.1
  omega
set_option maxHeartbeats 4000000 in
theorem c_Arr_copyOf {sh : gS} {g : gM} {a : Int} {N n : Nat} (hs : gsz sh a 13 N) (hn : n ≤ N) (hN : N ≤ 400) : gTri f_Arr_copyOf 3 1 n [(2, a), (0, (n : Int))] sh g (fun x s2 g2 => x = some (2, (sh.length : Int)) ∧ s2 = sh ++ [(13, n)] ∧ ∃ f, g2 = gfr g (sh.length : Int) f ∧ ∀ y, 0 ≤ y → y < (n : Int) → f y = g a y) := by
  refine gTri.of (by decide +kernel) rfl ?_
  show gWP f_Arr_copyOf _ _ _ 0 [(2, a), (0, (n : Int)), (9, 0)] [] sh g _
  refine gw_iload_n (gc k_Arr_copyOf_0 0 rfl) rfl ?_
  refine gw_aload_n (gc k_Arr_copyOf_0 1 rfl) rfl rfl ?_
  refine gw_alen13 (gc k_Arr_copyOf_0 2 rfl) hs (by omega) ?_
  refine gw_icmp_ne (tgt := 14) (gc k_Arr_copyOf_0 3 rfl) rfl (by omega) (fun c3 => ?_) (fun c3 => ?_)
  · refine gw_iload_n (gc k_Arr_copyOf_0 8 rfl) rfl ?_
    refine gw_newai (gc k_Arr_copyOf_0 9 rfl) wd_aint (by omega) (Int.toNat_natCast n) ⟨Nat.le_refl _, Nat.le_refl _⟩ ?_
    refine gw_astore_2 (gc k_Arr_copyOf_0 10 rfl) rfl rfl rfl ?_
    refine gw_aload_n (gc k_Arr_copyOf_0 11 rfl) rfl rfl ?_
    refine gw_iconst (gc k_Arr_copyOf_0 12 rfl) ?_
    refine gw_aload_n (gc k_Arr_copyOf_0 13 rfl) rfl rfl ?_
    refine gw_iconst (gc k_Arr_copyOf_0 14 rfl) ?_
    refine gw_aload_n (gc k_Arr_copyOf_0 15 rfl) rfl rfl ?_
    refine gw_alen13 (gc k_Arr_copyOf_0 16 rfl) (hs.app _) (by omega) ?_
    refine gw_iload_n (gc k_Arr_copyOf_0 17 rfl) rfl ?_
    refine gw_mmin (gc k_Arr_copyOf_0 18 rfl) y_Math_min ln_Arr_304 (by omega) rfl rfl ?_
    rw [show (if (n : Int) < (N : Int) then (n : Int) else (N : Int)) = (n : Int) by split <;> omega]
    refine gw_copy (gc k_Arr_copyOf_0 19 rfl) ln_Arr_150 (gm3 90 rfl rfl) (gm3 89 rfl rfl) (gm1 15 rfl rfl) (hs.app _) (gsz_last sh 13 n) (by omega) rfl rfl ?_
    refine gw_aload_n (gc k_Arr_copyOf_0 20 rfl) rfl rfl ?_
    refine gw_areturn (gc k_Arr_copyOf_0 21 rfl) rfl (Or.inr ⟨_, rfl⟩) ?_
    exact ⟨rfl, rfl, _, gfr_gfr _ _ _ _, fun y y0 y1 => (if_pos (show 0 ≤ y ∧ y < 0 + (n : Int) by omega)).trans ((gfr_a g (sh.length : Int) _ _ (by have := hs.lt; omega)).trans (congrArg (g a) (by omega)))⟩
  · refine gw_aload_n (gc k_Arr_copyOf_0 4 rfl) rfl rfl ?_
    refine gw_clone (gc k_Arr_copyOf_0 5 rfl) ln_Arr_316 wd_same wd_cnat wd_cins wd_csel hs rfl rfl ⟨by omega, by omega⟩ ?_
    refine gw_castI (gc k_Arr_copyOf_0 6 rfl) cl_Arr_317 (gsz_last sh 13 _) ?_
    refine gw_areturn (gc k_Arr_copyOf_0 7 rfl) rfl (Or.inr ⟨_, rfl⟩) ?_
    obtain rfl : n = N := by omega
    exact ⟨rfl, rfl, _, rfl, fun y _ _ => rfl⟩
