theorem mvQ_fin {g g1 : gM} {what voice n p v : Int} (hf : gFin g) (h : mvQ g what voice n p v g1) : gFin g1 := by
  rcases h with ⟨_, _, rfl⟩ | ⟨_, _, _, rfl⟩ | ⟨_, _, _, _, rfl⟩ | ⟨_, _, _, _, rfl⟩
  · exact hf
  · exact hf
  · exact hf
  · exact (hf.keep what).up rfl
theorem mvQ_r {g g1 : gM} {what voice n p v : Int} (ho : rowOK (g 179)) (hb : (-2147483648 ≤ n ∧ n ≤ 2147483647) ∧ (-2147483648 ≤ p ∧ p ≤ 2147483647)) (hv : voice = 0 ∨ voice = 12) (h : mvQ g what voice n p v g1) : -6 ≤ v ∧ v ≤ 2147483647 := by
  have hm := ro_many ho
  rcases h with ⟨_, rfl, _⟩ | ⟨_, _, rfl, _⟩ | ⟨_, _, _, rfl, _⟩ | ⟨_, h2, _, rfl, _⟩
  · omega
  · omega
  · omega
  · have := ro_pitch ho (voice + n) (by omega)
    omega
set_option maxHeartbeats 1000000 in
theorem c_Model_undo {sh : gS} {g : gM} (hx : gFix sh) (hf : gFin g) (hu : 0 ≤ g 177 33 ∧ g 177 33 ≤ 16) : gTri f_Model_undo 1 0 0 [(2, 177)] sh g (fun r s2 g2 => s2 = sh ∧ ((g 177 33 = 0 ∧ r = some (0, -3) ∧ g2 = refM g (-3)) ∨ (0 < g 177 33 ∧ r = some (0, g 190 (26 * (g 177 33 - 1) + 25)) ∧ g2 = goodM (gfr (gup g 177 33 (g 177 33 - 1)) 179 (cpF (g 179) (g 190) 0 (26 * (g 177 33 - 1)) 25))))) := by
  refine gTri.of (by decide +kernel) rfl ?_
  show gWP f_Model_undo _ _ _ 0 [(2, 177), (9, 0), (9, 0)] [] sh g _
  refine gw_aload_n (gc k_Model_undo_0 0 rfl) rfl rfl ?_
  refine gw_getf 33 rfl (gc k_Model_undo_0 1 rfl) fl_Model_11 (gAt hx rfl rfl) ?_
  refine gw_if_ne (tgt := 14) (gc k_Model_undo_0 2 rfl) rfl (by omega) (fun c4 => ?_) (fun c4 => ?_)
  · refine gw_aload_n (gc k_Model_undo_0 7 rfl) rfl rfl ?_
    refine gw_dup (gc k_Model_undo_0 8 rfl) rfl ?_
    refine gw_getf 33 rfl (gc k_Model_undo_0 9 rfl) fl_Model_11 (gAt hx rfl rfl) ?_
    refine gw_iconst (gc k_Model_undo_0 10 rfl) ?_
    refine gw_isub (gc k_Model_undo_0 11 rfl) ?_
    refine gw_putIK 33 rfl (gc k_Model_undo_0 12 rfl) fl_Model_11 (gAt hx rfl rfl) hf rfl (fun hf => ?_)
    have e0 : gup g 177 33 (g 177 33 - 1) 177 33 = g 177 33 - 1 := gup_s _ _ _ _
    refine gw_bipush (gc k_Model_undo_0 13 rfl) (by decide) ?_
    refine gw_aload_n (gc k_Model_undo_0 14 rfl) rfl rfl ?_
    refine gw_getf 33 rfl (gc k_Model_undo_0 15 rfl) fl_Model_11 (gAt hx rfl rfl) ?_
    rw [e0]
    refine gw_imul (gc k_Model_undo_0 16 rfl) ?_
    refine gw_istore_1 (gc k_Model_undo_0 17 rfl) rfl rfl ?_
    refine gw_iconst (gc k_Model_undo_0 18 rfl) ?_
    refine gw_istore_2 (gc k_Model_undo_0 19 rfl) rfl rfl ?_
    refine cp_start 179 0 (26 * (g 177 33 - 1)) (g 190) ?_
    rw [gup_fn _ _ _ _ (show (179 : Int) ≠ 177 by decide)]
    refine gloop (σ := Int) (I := fun i => 0 ≤ i ∧ i ≤ 25) (μ := fun i => (25 - i).toNat) (P := fun i => gWP f_Model_undo _ _ _ 34 [(2, 177), (0, 26 * (g 177 33 - 1)), (0, i)] [] sh (gfr (gup g 177 33 (g 177 33 - 1)) 179 (cpF (g 179) (g 190) 0 (26 * (g 177 33 - 1)) i)) _) (fun i hI ih => ?_) 0 (by omega)
    have hf := hf.fr (a := 179) (f := cpF (g 179) (g 190) 0 (26 * (g 177 33 - 1)) i) (fun _ => rfl)
    refine gw_iload_n (gc k_Model_undo_0 20 rfl) rfl ?_
    refine gw_bipush (gc k_Model_undo_0 21 rfl) (by decide) ?_
    refine gw_icmp_ge (tgt := 60) (gc k_Model_undo_0 22 rfl) rfl (by omega) (fun c37 => ?_) (fun c37 => ?_)
    · refine gw_aload_n (gc k_Model_undo_0 35 rfl) rfl rfl ?_
      refine gw_aload_n (gc k_Model_undo_0 36 rfl) rfl rfl ?_
      refine gw_getref (gc k_Model_undo_0 37 rfl) fl_Model_66 (gAt hx rfl rfl) (gRf hf rfl rfl) ?_
      refine gw_iload_n (gc k_Model_undo_0 38 rfl) rfl ?_
      refine gw_bipush (gc k_Model_undo_0 39 rfl) (by decide) ?_
      refine gw_iadd (gc k_Model_undo_1 0 rfl) ?_
      refine gw_iald (gc k_Model_undo_1 1 rfl) (gAt hx rfl rfl) (by omega) ?_
      refine gw_cV1 (gc k_Model_undo_1 2 rfl) y_Model_good ln_Model_14 (c_Model_good hx hf _) rfl rfl (gAt hx rfl rfl) rfl rfl ?_
      refine gw_ireturn (gc k_Model_undo_1 3 rfl) rfl ?_
      have hi2 : i = 25 := by omega
      subst hi2
      refine ⟨rfl, Or.inr ⟨by omega, gsi ?_, rfl⟩⟩
      rw [gfr_a _ _ _ _ (by decide), gup_a _ _ _ _ _ (by decide)]
    · refine gw_aload_n (gc k_Model_undo_0 23 rfl) rfl rfl ?_
      refine gw_getref (gc k_Model_undo_0 24 rfl) fl_Model_28 (gAt hx rfl rfl) (gRf hf rfl rfl) ?_
      refine gw_iload_n (gc k_Model_undo_0 25 rfl) rfl ?_
      refine gw_aload_n (gc k_Model_undo_0 26 rfl) rfl rfl ?_
      refine gw_getref (gc k_Model_undo_0 27 rfl) fl_Model_66 (gAt hx rfl rfl) (gRf hf rfl rfl) ?_
      refine gw_iload_n (gc k_Model_undo_0 28 rfl) rfl ?_
      refine gw_iload_n (gc k_Model_undo_0 29 rfl) rfl ?_
      refine gw_iadd (gc k_Model_undo_0 30 rfl) ?_
      refine gw_iald (gc k_Model_undo_0 31 rfl) (gAt hx rfl rfl) (by omega) ?_
      refine gw_iastF (gc k_Model_undo_0 32 rfl) (gAt hx rfl rfl) (by omega) hf rfl (fun hf => ?_)
      refine gw_iinc_2 (gc k_Model_undo_0 33 rfl) rfl rfl ?_
      refine gw_goto (tgt := 34) (gc k_Model_undo_0 34 rfl) rfl ?_
      refine cp_step0 (by omega) (ih (i + 1) (by omega) (by omega)) ?_
      rw [gfr_a _ _ _ _ (by decide), gup_a _ _ _ _ _ (by decide)]
  · refine gw_aload_n (gc k_Model_undo_0 3 rfl) rfl rfl ?_
    refine gw_bipush (gc k_Model_undo_0 4 rfl) (by decide) ?_
    refine gw_cV1 (gc k_Model_undo_0 5 rfl) y_Model_refuses ln_Model_106 (c_refuses hx hf (-3) (by omega)) rfl rfl (gAt hx rfl rfl) rfl rfl ?_
    refine gw_ireturn (gc k_Model_undo_0 6 rfl) rfl ?_
    exact ⟨rfl, Or.inl ⟨by omega, rfl, rfl⟩⟩
set_option maxHeartbeats 1000000 in
theorem c_Model_goodOr {sh : gS} {g : gM} (hx : gFix sh) (hf : gFin g) (v : Int) (h : -6 ≤ v ∧ v ≤ 2147483647) : gTri f_Model_goodOr 1 0 0 [(2, 177), (0, v)] sh g (gR (some (0, v)) sh (if v < 0 then refM g v else goodM g)) := by
  refine gTri.of (by decide +kernel) rfl ?_
  show gWP f_Model_goodOr _ _ _ 0 [(2, 177), (0, v)] [] sh g _
  refine gw_iload_n (gc k_Model_goodOr_0 0 rfl) rfl ?_
  refine gw_if_ge (tgt := 12) (gc k_Model_goodOr_0 1 rfl) rfl (by omega) (fun c1 => ?_) (fun c1 => ?_)
  · refine gw_aload_n (gc k_Model_goodOr_0 6 rfl) rfl rfl ?_
    refine gw_iload_n (gc k_Model_goodOr_0 7 rfl) rfl ?_
    refine gw_cV1 (gc k_Model_goodOr_0 8 rfl) y_Model_good ln_Model_14 (c_Model_good hx hf v) rfl rfl (gAt hx rfl rfl) rfl rfl ?_
    refine gw_ireturn (gc k_Model_goodOr_0 9 rfl) rfl ?_
    first | exact ⟨rfl, rfl, by rw [if_pos (by omega)]⟩ | exact ⟨rfl, rfl, by rw [if_neg (by omega)]; rfl⟩
  · refine gw_aload_n (gc k_Model_goodOr_0 2 rfl) rfl rfl ?_
    refine gw_iload_n (gc k_Model_goodOr_0 3 rfl) rfl ?_
    refine gw_cV1 (gc k_Model_goodOr_0 4 rfl) y_Model_refuses ln_Model_106 (c_refuses hx hf v (by omega)) rfl rfl (gAt hx rfl rfl) rfl rfl ?_
    refine gw_goto (tgt := 17) (gc k_Model_goodOr_0 5 rfl) rfl ?_
    refine gw_ireturn (gc k_Model_goodOr_0 9 rfl) rfl ?_
    first | exact ⟨rfl, rfl, by rw [if_pos (by omega)]⟩ | exact ⟨rfl, rfl, by rw [if_neg (by omega)]; rfl⟩
set_option maxHeartbeats 1000000 in
theorem c_Model_movesKept {sh : gS} {g : gM} (hx : gFix sh) (hf : gFin g) (what voice n p : Int) (hb : (-2147483648 ≤ n ∧ n ≤ 2147483647) ∧ (-2147483648 ≤ p ∧ p ≤ 2147483647)) (hv : voice = 0 ∨ voice = 12) (ho : rowOK (g 179)) (hu : 0 ≤ g 177 33 ∧ g 177 33 ≤ 16) : gTri f_Model_movesKept 2 0 0 [(2, 177), (0, what), (0, voice), (0, n), (0, p)] sh g (fun r s2 g2 => s2 = sh ∧ ∃ v, r = some (0, v) ∧ mvQ g what voice n p v g2) := by
  refine gTri.of (by decide +kernel) rfl ?_
  show gWP f_Model_movesKept _ _ _ 0 [(2, 177), (0, what), (0, voice), (0, n), (0, p), (9, 0)] [] sh g _
  have hm := ro_many ho
  refine gw_iload (gc k_Model_movesKept_0 0 rfl) rfl ?_
  refine gw_cS1 (gc k_Model_movesKept_0 1 rfl) y_Model_isPitch ln_Model_116 (c_Model_isPitch p hb.2) rfl rfl rfl rfl ?_
  refine gw_bne (tgt := 10) (gc k_Model_movesKept_0 2 rfl) rfl (fun c5 => ?_) (fun c5 => ?_)
  · refine gw_aload_n (gc k_Model_movesKept_0 5 rfl) rfl rfl ?_
    refine gw_iload_n (gc k_Model_movesKept_0 6 rfl) rfl ?_
    refine gw_cV1 (gc k_Model_movesKept_0 7 rfl) y_Model_isNote ln_Model_124 (c_Model_isNote hx hf n hb.1 hm) rfl rfl (gAt hx rfl rfl) rfl rfl ?_
    refine gw_bne (tgt := 21) (gc k_Model_movesKept_0 8 rfl) rfl (fun c15 => ?_) (fun c15 => ?_)
    · have hp := ro_pitch ho (voice + n) (by omega)
      refine gw_aload_n (gc k_Model_movesKept_0 11 rfl) rfl rfl ?_
      refine gw_getref (gc k_Model_movesKept_0 12 rfl) fl_Model_28 (gAt hx rfl rfl) (gRf hf rfl rfl) ?_
      refine gw_iload_n (gc k_Model_movesKept_0 13 rfl) rfl ?_
      refine gw_iload_n (gc k_Model_movesKept_0 14 rfl) rfl ?_
      refine gw_iadd (gc k_Model_movesKept_0 15 rfl) ?_
      refine gw_iald (gc k_Model_movesKept_0 16 rfl) (gAt hx rfl rfl) (by omega) ?_
      refine gw_istore_5 (gc k_Model_movesKept_0 17 rfl) rfl rfl ?_
      refine gw_iload (gc k_Model_movesKept_0 18 rfl) rfl ?_
      refine gw_iload (gc k_Model_movesKept_0 19 rfl) rfl ?_
      refine gw_icmp_ne (tgt := 41) (gc k_Model_movesKept_0 20 rfl) rfl (by omega) (fun c35 => ?_) (fun c35 => ?_)
      · refine gw_aload_n (gc k_Model_movesKept_0 23 rfl) rfl rfl ?_
        refine gw_iload_n (gc k_Model_movesKept_0 24 rfl) rfl ?_
        refine gw_cV0 (gc k_Model_movesKept_0 25 rfl) y_Model_keeps ln_Model_335 (c_Model_keeps hx hf what hu) rfl rfl (gAt hx rfl rfl) rfl rfl ?_
        have hf := hf.keep what
        refine gw_aload_n (gc k_Model_movesKept_0 26 rfl) rfl rfl ?_
        refine gw_getref (gc k_Model_movesKept_0 27 rfl) fl_Model_28 (gAt hx rfl rfl) (gRf hf rfl rfl) ?_
        refine gw_iload_n (gc k_Model_movesKept_0 28 rfl) rfl ?_
        refine gw_iload_n (gc k_Model_movesKept_0 29 rfl) rfl ?_
        refine gw_iadd (gc k_Model_movesKept_0 30 rfl) ?_
        refine gw_iload (gc k_Model_movesKept_0 31 rfl) rfl ?_
        refine gw_iastF (gc k_Model_movesKept_0 32 rfl) (gAt hx rfl rfl) (by omega) hf rfl (fun hf => ?_)
        refine gw_iload (gc k_Model_movesKept_0 33 rfl) rfl ?_
        refine gw_ireturn (gc k_Model_movesKept_0 34 rfl) rfl ?_
        exact ⟨rfl, _, rfl, Or.inr (Or.inr (Or.inr ⟨by assumption, by assumption, by assumption, rfl, rfl⟩))⟩
      · refine gw_bipush (gc k_Model_movesKept_0 21 rfl) (by decide) ?_
        refine gw_ireturn (gc k_Model_movesKept_0 22 rfl) rfl ?_
        exact ⟨rfl, _, rfl, Or.inr (Or.inr (Or.inl ⟨by assumption, by assumption, by assumption, rfl, rfl⟩))⟩
    · refine gw_bipush (gc k_Model_movesKept_0 9 rfl) (by decide) ?_
      refine gw_ireturn (gc k_Model_movesKept_0 10 rfl) rfl ?_
      exact ⟨rfl, _, rfl, Or.inr (Or.inl ⟨by assumption, by assumption, rfl, rfl⟩)⟩
  · refine gw_iconst (gc k_Model_movesKept_0 3 rfl) ?_
    refine gw_ireturn (gc k_Model_movesKept_0 4 rfl) rfl ?_
    exact ⟨rfl, _, rfl, Or.inl ⟨by assumption, rfl, rfl⟩⟩
set_option maxHeartbeats 1000000 in
theorem c_Model_exchanges {sh : gS} {g : gM} (hx : gFix sh) (hf : gFin g) (hm : 0 ≤ g 179 41 ∧ g 179 41 ≤ 12) : gTri f_Model_exchanges 1 0 0 [(2, 177)] sh g (gR none sh (exM g)) := by
  refine gTri.of (by decide +kernel) rfl ?_
  show gWP f_Model_exchanges _ _ _ 0 [(2, 177), (9, 0), (9, 0)] [] sh g _
  refine gw_iconst (gc k_Model_exchanges_0 0 rfl) ?_
  refine gw_istore_1 (gc k_Model_exchanges_0 1 rfl) rfl rfl ?_
  refine gWP.eqm (g' := gfr g 179 (exF (g 179) 0)) (gfr_id _ _ _ (fun y => by unfold exF; rw [if_neg (by omega), if_neg (by omega)])) ?_
  refine gloop (σ := Int × gV) (I := fun s => 0 ≤ s.1 ∧ s.1 ≤ g 179 41) (μ := fun s => (g 179 41 - s.1).toNat) (P := fun s => gWP f_Model_exchanges _ _ _ 2 [(2, 177), (0, s.1), s.2] [] sh (gfr g 179 (exF (g 179) s.1)) _) (fun s hI ih => ?_) (0, ((9, 0) : gV)) (by dsimp only; omega)
  obtain ⟨i, x2⟩ := s
  dsimp only at hI ih ⊢
  have hf := hf.fr (a := 179) (f := exF (g 179) i) (fun _ => rfl)
  refine gw_iload_n (gc k_Model_exchanges_0 2 rfl) rfl ?_
  refine gw_aload_n (gc k_Model_exchanges_0 3 rfl) rfl rfl ?_
  refine gw_cV1 (gc k_Model_exchanges_0 4 rfl) y_Model_noteMany ln_Model_112 (c_Model_noteMany hx hf) rfl rfl (gAt hx rfl rfl) rfl rfl ?_
  rw [show gfr g 179 (exF (g 179) i) 179 41 = g 179 41 from by rw [gfr_s]; unfold exF; rw [if_neg (by omega), if_neg (by omega)]]
  refine gw_icmp_ge (tgt := 52) (gc k_Model_exchanges_0 5 rfl) rfl (by omega) (fun c7 => ?_) (fun c7 => ?_)
  · refine gw_return (gc k_Model_exchanges_0 34 rfl) rfl ?_
    have hi2 : i = g 179 41 := by omega
    subst hi2
    exact ⟨rfl, rfl, rfl⟩
  · refine gw_aload_n (gc k_Model_exchanges_0 6 rfl) rfl rfl ?_
    refine gw_getref (gc k_Model_exchanges_0 7 rfl) fl_Model_28 (gAt hx rfl rfl) (gRf hf rfl rfl) ?_
    refine gw_iconst (gc k_Model_exchanges_0 8 rfl) ?_
    refine gw_iload_n (gc k_Model_exchanges_0 9 rfl) rfl ?_
    refine gw_iadd (gc k_Model_exchanges_0 10 rfl) ?_
    refine gw_iald (gc k_Model_exchanges_0 11 rfl) (gAt hx rfl rfl) (by omega) ?_
    refine gw_istore_2 (gc k_Model_exchanges_0 12 rfl) rfl rfl ?_
    refine gw_aload_n (gc k_Model_exchanges_0 13 rfl) rfl rfl ?_
    refine gw_getref (gc k_Model_exchanges_0 14 rfl) fl_Model_28 (gAt hx rfl rfl) (gRf hf rfl rfl) ?_
    refine gw_iconst (gc k_Model_exchanges_0 15 rfl) ?_
    refine gw_iload_n (gc k_Model_exchanges_0 16 rfl) rfl ?_
    refine gw_iadd (gc k_Model_exchanges_0 17 rfl) ?_
    refine gw_aload_n (gc k_Model_exchanges_0 18 rfl) rfl rfl ?_
    refine gw_getref (gc k_Model_exchanges_0 19 rfl) fl_Model_28 (gAt hx rfl rfl) (gRf hf rfl rfl) ?_
    refine gw_bipush (gc k_Model_exchanges_0 20 rfl) (by decide) ?_
    refine gw_iload_n (gc k_Model_exchanges_0 21 rfl) rfl ?_
    refine gw_iadd (gc k_Model_exchanges_0 22 rfl) ?_
    refine gw_iald (gc k_Model_exchanges_0 23 rfl) (gAt hx rfl rfl) (by omega) ?_
    refine gw_iastF (gc k_Model_exchanges_0 24 rfl) (gAt hx rfl rfl) (by omega) hf rfl (fun hf => ?_)
    refine gw_aload_n (gc k_Model_exchanges_0 25 rfl) rfl rfl ?_
    refine gw_getref (gc k_Model_exchanges_0 26 rfl) fl_Model_28 (gAt hx rfl rfl) (gRf hf rfl rfl) ?_
    refine gw_bipush (gc k_Model_exchanges_0 27 rfl) (by decide) ?_
    refine gw_iload_n (gc k_Model_exchanges_0 28 rfl) rfl ?_
    refine gw_iadd (gc k_Model_exchanges_0 29 rfl) ?_
    refine gw_iload_n (gc k_Model_exchanges_0 30 rfl) rfl ?_
    refine gw_iastF (gc k_Model_exchanges_0 31 rfl) (gAt hx rfl rfl) (by omega) hf rfl (fun hf => ?_)
    refine gw_iinc_1 (gc k_Model_exchanges_0 32 rfl) rfl rfl ?_
    refine gw_goto (tgt := 2) (gc k_Model_exchanges_0 33 rfl) rfl ?_
    refine gWP.eqm ?_ (ih (i + 1, _) (by dsimp only; omega) (by dsimp only; omega))
    rw [gup_gfr, gup_gfr]
    refine gfr_ext _ _ (fun y => ?_)
    simp only [gfr_s, gup_s]
    unfold exF
    by_cases h1 : y = 12 + i
    · subst h1
      rw [if_pos rfl, if_neg (by omega), if_pos (by omega), if_neg (by omega), if_neg (by omega)]
      exact congrArg _ (by omega)
    · rw [if_neg h1]
      by_cases h2 : y = 0 + i
      · subst h2
        rw [if_pos rfl, if_pos (by omega), if_neg (by omega), if_neg (by omega)]
        exact congrArg _ (by omega)
      · rw [if_neg h2]
        by_cases h3 : 0 ≤ y ∧ y < i
        · rw [if_pos h3, if_pos (by omega)]
        · rw [if_neg h3, if_neg (by omega)]
          by_cases h4 : 12 ≤ y ∧ y < 12 + i
          · rw [if_pos h4, if_pos (by omega)]
          · rw [if_neg h4, if_neg (by omega)]
set_option maxHeartbeats 1000000 in
theorem c_Model_swapsKept {sh : gS} {g : gM} (hx : gFix sh) (hf : gFin g) (hm : 0 ≤ g 179 41 ∧ g 179 41 ≤ 12) (hu : 0 ≤ g 177 33 ∧ g 177 33 ≤ 16) : gTri f_Model_swapsKept 2 0 0 [(2, 177)] sh g (fun r s2 g2 => s2 = sh ∧ ∃ v, r = some (0, v) ∧ swQ g v g2) := by
  refine gTri.of (by decide +kernel) rfl ?_
  show gWP f_Model_swapsKept _ _ _ 0 [(2, 177)] [] sh g _
  refine gw_aload_n (gc k_Model_swapsKept_0 0 rfl) rfl rfl ?_
  refine gw_cV1 (gc k_Model_swapsKept_0 1 rfl) y_Model_noteMany ln_Model_112 (c_Model_noteMany hx hf) rfl rfl (gAt hx rfl rfl) rfl rfl ?_
  refine gw_if_ne (tgt := 10) (gc k_Model_swapsKept_0 2 rfl) rfl (by omega) (fun c4 => ?_) (fun c4 => ?_)
  · refine gw_aload_n (gc k_Model_swapsKept_0 5 rfl) rfl rfl ?_
    refine gw_iconst (gc k_Model_swapsKept_0 6 rfl) ?_
    refine gw_cV0 (gc k_Model_swapsKept_0 7 rfl) y_Model_keeps ln_Model_335 (c_Model_keeps hx hf 2 hu) rfl rfl (gAt hx rfl rfl) rfl rfl ?_
    have hf := hf.keep 2
    have ek : keepM g 2 179 = g 179 := by funext y; unfold keepM; rw [gup_a _ _ _ _ _ (by decide), gfr_a _ _ _ _ (by decide)]
    refine gw_aload_n (gc k_Model_swapsKept_0 8 rfl) rfl rfl ?_
    refine gw_cV0 (gc k_Model_swapsKept_0 9 rfl) y_Model_exchanges ln_Model_338 (c_Model_exchanges hx hf (by rw [ek]; exact hm)) rfl rfl (gAt hx rfl rfl) rfl rfl ?_
    have hf := hf.ex
    refine gw_aload_n (gc k_Model_swapsKept_0 10 rfl) rfl rfl ?_
    refine gw_cV1 (gc k_Model_swapsKept_0 11 rfl) y_Model_noteMany ln_Model_112 (c_Model_noteMany hx hf) rfl rfl (gAt hx rfl rfl) rfl rfl ?_
    refine gw_ireturn (gc k_Model_swapsKept_0 12 rfl) rfl ?_
    refine ⟨rfl, _, rfl, Or.inr ⟨by omega, ?_, rfl⟩⟩
    unfold exM
    rw [gfr_s, ek]
    unfold exF
    rw [if_neg (by omega), if_neg (by omega)]
  · refine gw_bipush (gc k_Model_swapsKept_0 3 rfl) (by decide) ?_
    refine gw_ireturn (gc k_Model_swapsKept_0 4 rfl) rfl ?_
    exact ⟨rfl, _, rfl, Or.inl ⟨by assumption, rfl, rfl⟩⟩
set_option maxHeartbeats 1000000 in
theorem c_Model_set {sh : gS} {g : gM} (hx : gFix sh) (hf : gFin g) (n p : Int) (hb : (-2147483648 ≤ n ∧ n ≤ 2147483647) ∧ (-2147483648 ≤ p ∧ p ≤ 2147483647)) (ho : rowOK (g 179)) (hu : 0 ≤ g 177 33 ∧ g 177 33 ≤ 16) : gTri f_Model_set 3 0 0 [(2, 177), (0, n), (0, p)] sh g (fun r s2 g2 => s2 = sh ∧ ∃ v g1, r = some (0, v) ∧ mvQ g 0 0 n p v g1 ∧ g2 = if v < 0 then refM g1 v else goodM g1) := by
  refine gTri.of (by decide +kernel) rfl ?_
  show gWP f_Model_set _ _ _ 0 [(2, 177), (0, n), (0, p)] [] sh g _
  refine gw_aload_n (gc k_Model_set_0 0 rfl) rfl rfl ?_
  refine gw_aload_n (gc k_Model_set_0 1 rfl) rfl rfl ?_
  refine gw_iconst (gc k_Model_set_0 2 rfl) ?_
  refine gw_iconst (gc k_Model_set_0 3 rfl) ?_
  refine gw_iload_n (gc k_Model_set_0 4 rfl) rfl ?_
  refine gw_iload_n (gc k_Model_set_0 5 rfl) rfl ?_
  refine gw_xV1 (gc k_Model_set_0 6 rfl) y_Model_movesKept ln_Model_341 (c_Model_movesKept hx hf 0 0 n p hb (by omega) ho hu) rfl rfl (gAt hx rfl rfl) rfl rfl (fun r6 sh2 g6 hq6 => ?_)
  obtain ⟨rfl, v, rfl, hq⟩ := hq6
  have hvr := mvQ_r ho hb (by omega) hq
  have hf := mvQ_fin hf hq
  refine gw_cV1 (gc k_Model_set_0 7 rfl) y_Model_goodOr ln_Model_345 (c_Model_goodOr hx hf v hvr) rfl rfl (gAt hx rfl rfl) rfl rfl ?_
  refine gw_ireturn (gc k_Model_set_0 8 rfl) rfl ?_
  exact ⟨rfl, _, _, rfl, hq, rfl⟩
set_option maxHeartbeats 1000000 in
theorem c_Model_shift {sh : gS} {g : gM} (hx : gFix sh) (hf : gFin g) (n p : Int) (hb : (-2147483648 ≤ n ∧ n ≤ 2147483647) ∧ (-2147483648 ≤ p ∧ p ≤ 2147483647)) (ho : rowOK (g 179)) (hu : 0 ≤ g 177 33 ∧ g 177 33 ≤ 16) : gTri f_Model_shift 3 0 0 [(2, 177), (0, n), (0, p)] sh g (fun r s2 g2 => s2 = sh ∧ ∃ v g1, r = some (0, v) ∧ mvQ g 1 12 n p v g1 ∧ g2 = if v < 0 then refM g1 v else goodM g1) := by
  refine gTri.of (by decide +kernel) rfl ?_
  show gWP f_Model_shift _ _ _ 0 [(2, 177), (0, n), (0, p)] [] sh g _
  refine gw_aload_n (gc k_Model_shift_0 0 rfl) rfl rfl ?_
  refine gw_aload_n (gc k_Model_shift_0 1 rfl) rfl rfl ?_
  refine gw_iconst (gc k_Model_shift_0 2 rfl) ?_
  refine gw_bipush (gc k_Model_shift_0 3 rfl) (by decide) ?_
  refine gw_iload_n (gc k_Model_shift_0 4 rfl) rfl ?_
  refine gw_iload_n (gc k_Model_shift_0 5 rfl) rfl ?_
  refine gw_xV1 (gc k_Model_shift_0 6 rfl) y_Model_movesKept ln_Model_341 (c_Model_movesKept hx hf 1 12 n p hb (by omega) ho hu) rfl rfl (gAt hx rfl rfl) rfl rfl (fun r7 sh2 g7 hq7 => ?_)
  obtain ⟨rfl, v, rfl, hq⟩ := hq7
  have hvr := mvQ_r ho hb (by omega) hq
  have hf := mvQ_fin hf hq
  refine gw_cV1 (gc k_Model_shift_0 7 rfl) y_Model_goodOr ln_Model_345 (c_Model_goodOr hx hf v hvr) rfl rfl (gAt hx rfl rfl) rfl rfl ?_
  refine gw_ireturn (gc k_Model_shift_0 8 rfl) rfl ?_
  exact ⟨rfl, _, _, rfl, hq, rfl⟩
set_option maxHeartbeats 1000000 in
theorem c_Model_swap {sh : gS} {g : gM} (hx : gFix sh) (hf : gFin g) (ho : rowOK (g 179)) (hu : 0 ≤ g 177 33 ∧ g 177 33 ≤ 16) : gTri f_Model_swap 3 0 0 [(2, 177)] sh g (fun r s2 g2 => s2 = sh ∧ ∃ v g1, r = some (0, v) ∧ swQ g v g1 ∧ g2 = if v < 0 then refM g1 v else goodM g1) := by
  refine gTri.of (by decide +kernel) rfl ?_
  show gWP f_Model_swap _ _ _ 0 [(2, 177)] [] sh g _
  refine gw_aload_n (gc k_Model_swap_0 0 rfl) rfl rfl ?_
  refine gw_aload_n (gc k_Model_swap_0 1 rfl) rfl rfl ?_
  refine gw_xV1 (gc k_Model_swap_0 2 rfl) y_Model_swapsKept ln_Model_348 (c_Model_swapsKept hx hf (ro_many ho) hu) rfl rfl (gAt hx rfl rfl) rfl rfl (fun r2 sh2 g2 hq2 => ?_)
  obtain ⟨rfl, v, rfl, hq⟩ := hq2
  have hm := ro_many ho
  have hvr : -6 ≤ v ∧ v ≤ 2147483647 := by rcases hq with ⟨_, rfl, _⟩ | ⟨_, rfl, _⟩ <;> omega
  have hf : gFin g2 := by rcases hq with ⟨_, _, rfl⟩ | ⟨_, _, rfl⟩
                          · exact hf
                          · exact (hf.keep 2).ex
  refine gw_cV1 (gc k_Model_swap_0 3 rfl) y_Model_goodOr ln_Model_345 (c_Model_goodOr hx hf v hvr) rfl rfl (gAt hx rfl rfl) rfl rfl ?_
  refine gw_ireturn (gc k_Model_swap_0 4 rfl) rfl ?_
  exact ⟨rfl, _, _, rfl, hq, rfl⟩
set_option maxHeartbeats 1000000 in
theorem c_Model_noteAt {sh : gS} {g : gM} (n a h : Int) : gTri f_Model_noteAt 0 0 0 [(0, n), (0, a), (0, h)] sh g (gR (some (0, 625 * n + 25 * a + h)) sh g) := by
  refine gTri.of (by decide +kernel) rfl ?_
  show gWP f_Model_noteAt _ _ _ 0 [(0, n), (0, a), (0, h)] [] sh g _
  refine gw_sipush (gc k_Model_noteAt_0 0 rfl) (by decide) ?_
  refine gw_iload_n (gc k_Model_noteAt_0 1 rfl) rfl ?_
  refine gw_imul (gc k_Model_noteAt_0 2 rfl) ?_
  refine gw_bipush (gc k_Model_noteAt_0 3 rfl) (by decide) ?_
  refine gw_iload_n (gc k_Model_noteAt_0 4 rfl) rfl ?_
  refine gw_imul (gc k_Model_noteAt_0 5 rfl) ?_
  refine gw_iadd (gc k_Model_noteAt_0 6 rfl) ?_
  refine gw_iload_n (gc k_Model_noteAt_0 7 rfl) rfl ?_
  refine gw_iadd (gc k_Model_noteAt_0 8 rfl) ?_
  refine gw_ireturn (gc k_Model_noteAt_0 9 rfl) rfl ?_
  exact ⟨rfl, rfl, rfl⟩
set_option maxHeartbeats 1000000 in
theorem c_Model_isWithin {sh : gS} {g : gM} (hx : gFix sh) (hf : gFin g) (p : Int) (h : (-2147483648 ≤ p ∧ p ≤ 2147483647)) (ho : rowOK (g 179)) : gTri f_Model_isWithin 1 0 0 [(2, 177), (0, p)] sh g (gR (some (0, bi (g 179 39 ≤ p ∧ p ≤ g 179 40))) sh g) := by
  refine gTri.of (by decide +kernel) rfl ?_
  show gWP f_Model_isWithin _ _ _ 0 [(2, 177), (0, p)] [] sh g _
  have h1 := ro_low ho
  have h2 := ro_high ho
  refine gw_iload_n (gc k_Model_isWithin_0 0 rfl) rfl ?_
  refine gw_aload_n (gc k_Model_isWithin_0 1 rfl) rfl rfl ?_
  refine gw_getref (gc k_Model_isWithin_0 2 rfl) fl_Model_28 (gAt hx rfl rfl) (gRf hf rfl rfl) ?_
  refine gw_bipush (gc k_Model_isWithin_0 3 rfl) (by decide) ?_
  refine gw_iald (gc k_Model_isWithin_0 4 rfl) (gAt hx rfl rfl) (by omega) ?_
  refine gw_aload_n (gc k_Model_isWithin_0 5 rfl) rfl rfl ?_
  refine gw_getref (gc k_Model_isWithin_0 6 rfl) fl_Model_28 (gAt hx rfl rfl) (gRf hf rfl rfl) ?_
  refine gw_bipush (gc k_Model_isWithin_0 7 rfl) (by decide) ?_
  refine gw_iald (gc k_Model_isWithin_0 8 rfl) (gAt hx rfl rfl) (by omega) ?_
  refine gw_cS1 (gc k_Model_isWithin_0 9 rfl) y_Model_lies ln_Model_18 (c_Model_lies p (g 179 39) (g 179 40) ⟨h, by omega, by omega⟩) rfl rfl rfl rfl ?_
  refine gw_zreturn (gc k_Model_isWithin_0 10 rfl) rfl (bi_01 _) ?_
  exact ⟨rfl, rfl, rfl⟩
set_option maxHeartbeats 1000000 in
theorem c_Model_interval {sh : gS} {g : gM} (hx : gFix sh) (hf : gFin g) (n : Int) (hn : 0 ≤ n ∧ n < 12) (ho : rowOK (g 179)) : gTri f_Model_interval 1 0 0 [(2, 177), (0, n)] sh g (gR (some (0, (if g 179 n - g 179 (12 + n) < 0 then -(g 179 n - g 179 (12 + n)) else g 179 n - g 179 (12 + n)) % 12)) sh g) := by
  refine gTri.of (by decide +kernel) rfl ?_
  show gWP f_Model_interval _ _ _ 0 [(2, 177), (0, n)] [] sh g _
  have h1 := ro_pitch ho n (by omega)
  have h2 := ro_pitch ho (12 + n) (by omega)
  refine gw_aload_n (gc k_Model_interval_0 0 rfl) rfl rfl ?_
  refine gw_iload_n (gc k_Model_interval_0 1 rfl) rfl ?_
  refine gw_cV1 (gc k_Model_interval_0 2 rfl) y_Model_apartOf ln_Model_141 (c_Model_apartOf hx hf n hn) rfl rfl (gAt hx rfl rfl) rfl rfl ?_
  refine gw_cS1 (gc k_Model_interval_0 3 rfl) y_Model_bare ln_Model_325 (c_Model_bare _ (by omega)) rfl rfl rfl rfl ?_
  refine gw_bipush (gc k_Model_interval_0 4 rfl) (by decide) ?_
  refine gw_iremN (gc k_Model_interval_0 5 rfl) (by split <;> omega) ?_
  refine gw_ireturn (gc k_Model_interval_0 6 rfl) rfl ?_
  exact ⟨rfl, rfl, rfl⟩
def ivM (r : Int → Int) (n : Int) : Int := (if r n - r (12 + n) < 0 then -(r n - r (12 + n)) else r n - r (12 + n)) % 12
def parM (r : Int → Int) (n a : Int) : Prop := ivM r n = a ∧ ivM r (n - 1) = a ∧ ¬ r n - r (n - 1) = 0
theorem parM_dec (r : Int → Int) (n a : Int) : parM r n a ∨ ¬ parM r n a := Classical.em _
noncomputable def parB (r : Int → Int) (n a : Int) : Int := if ivM r n = a then (if ivM r (n - 1) = a then (if r n - r (n - 1) = 0 then 0 else 1) else 0) else 0
set_option maxHeartbeats 1000000 in
theorem c_Model_isParallel {sh : gS} {g : gM} (hx : gFix sh) (hf : gFin g) (n a : Int) (hn : 1 ≤ n ∧ n < 12) (ha : (-2147483648 ≤ a ∧ a ≤ 2147483647)) (ho : rowOK (g 179)) : gTri f_Model_isParallel 2 0 0 [(2, 177), (0, n), (0, a)] sh g (gR (some (0, bi (ivM (g 179) n = a ∧ ivM (g 179) (n - 1) = a ∧ ¬ g 179 n = g 179 (n - 1)))) sh g) := by
  refine gTri.of (by decide +kernel) rfl ?_
  show gWP f_Model_isParallel _ _ _ 0 [(2, 177), (0, n), (0, a)] [] sh g _
  have hi1 : ∀ m : Int, 0 ≤ ivM (g 179) m ∧ ivM (g 179) m < 12 := fun m => by unfold ivM; omega
  have q1 := hi1 n
  have q2 := hi1 (n - 1)
  have h1 := ro_pitch ho n (by omega)
  have h2 := ro_pitch ho (n - 1) (by omega)
  refine gw_aload_n (gc k_Model_isParallel_0 0 rfl) rfl rfl ?_
  refine gw_iload_n (gc k_Model_isParallel_0 1 rfl) rfl ?_
  refine gw_cV1 (gc k_Model_isParallel_0 2 rfl) y_Model_interval ln_Model_413 (c_Model_interval hx hf n (by omega) ho) rfl rfl (gAt hx rfl rfl) rfl rfl ?_
  rw [show (if g 179 n - g 179 (12 + n) < 0 then -(g 179 n - g 179 (12 + n)) else g 179 n - g 179 (12 + n)) % 12 = ivM (g 179) n from rfl]
  refine gw_iload_n (gc k_Model_isParallel_0 3 rfl) rfl ?_
  refine gw_icmp_ne (tgt := 20) (gc k_Model_isParallel_0 4 rfl) rfl (by omega) (fun c6 => ?_) (fun c6 => ?_)
  · refine gw_iconst (gc k_Model_isParallel_0 12 rfl) ?_
    refine gw_zreturn (gc k_Model_isParallel_0 13 rfl) rfl (by omega) ?_
    first | exact ⟨bi_t (by omega), rfl, rfl⟩ | exact ⟨bi_f (by omega), rfl, rfl⟩
  · refine gw_aload_n (gc k_Model_isParallel_0 5 rfl) rfl rfl ?_
    refine gw_iload_n (gc k_Model_isParallel_0 6 rfl) rfl ?_
    refine gw_iconst (gc k_Model_isParallel_0 7 rfl) ?_
    refine gw_isub (gc k_Model_isParallel_0 8 rfl) ?_
    refine gw_cV1 (gc k_Model_isParallel_0 9 rfl) y_Model_interval ln_Model_413 (c_Model_interval hx hf (n - 1) (by omega) ho) rfl rfl (gAt hx rfl rfl) rfl rfl ?_
    rw [show (if g 179 (n - 1) - g 179 (12 + (n - 1)) < 0 then -(g 179 (n - 1) - g 179 (12 + (n - 1))) else g 179 (n - 1) - g 179 (12 + (n - 1))) % 12 = ivM (g 179) (n - 1) from rfl]
    refine gw_iload_n (gc k_Model_isParallel_0 10 rfl) rfl ?_
    refine gw_icmp_eq (tgt := 22) (gc k_Model_isParallel_0 11 rfl) rfl (by omega) (fun c17 => ?_) (fun c17 => ?_)
    · refine gw_aload_n (gc k_Model_isParallel_0 14 rfl) rfl rfl ?_
      refine gw_iload_n (gc k_Model_isParallel_0 15 rfl) rfl ?_
      refine gw_cV1 (gc k_Model_isParallel_0 16 rfl) y_Model_leapOf ln_Model_144 (c_Model_leapOf hx hf n (by omega)) rfl rfl (gAt hx rfl rfl) rfl rfl ?_
      rw [if_neg (show ¬ n = 0 by omega)]
      refine gw_if_eq (tgt := 34) (gc k_Model_isParallel_0 17 rfl) rfl (by omega) (fun c27 => ?_) (fun c27 => ?_)
      · refine gw_iconst (gc k_Model_isParallel_0 20 rfl) ?_
        refine gw_zreturn (gc k_Model_isParallel_0 21 rfl) rfl (by omega) ?_
        first | exact ⟨bi_t (by omega), rfl, rfl⟩ | exact ⟨bi_f (by omega), rfl, rfl⟩
      · refine gw_iconst (gc k_Model_isParallel_0 18 rfl) ?_
        refine gw_goto (tgt := 35) (gc k_Model_isParallel_0 19 rfl) rfl ?_
        refine gw_zreturn (gc k_Model_isParallel_0 21 rfl) rfl (by omega) ?_
        first | exact ⟨bi_t (by omega), rfl, rfl⟩ | exact ⟨bi_f (by omega), rfl, rfl⟩
    · refine gw_iconst (gc k_Model_isParallel_0 12 rfl) ?_
      refine gw_zreturn (gc k_Model_isParallel_0 13 rfl) rfl (by omega) ?_
      first | exact ⟨bi_t (by omega), rfl, rfl⟩ | exact ⟨bi_f (by omega), rfl, rfl⟩
set_option maxHeartbeats 1000000 in
theorem c_Model_heard {sh : gS} {g : gM} (hx : gFix sh) (hf : gFin g) (f n : Int) (h : (-2147483648 ≤ f ∧ f ≤ 2147483647) ∧ (-2147483648 ≤ n ∧ n ≤ 2147483647)) (ho : rowOK (g 179)) : gTri f_Model_heard 1 0 0 [(2, 177), (0, f), (0, n)] sh g (fun r s2 g2 => s2 = sh ∧ ((¬ ((0 ≤ f ∧ f ≤ 3) ∧ -24 ≤ n ∧ n ≤ 999) ∧ r = some (0, -1) ∧ g2 = refM g (-1)) ∨ (((0 ≤ f ∧ f ≤ 3) ∧ -24 ≤ n ∧ n ≤ 999) ∧ g 179 42 = 6 ∧ r = some (0, -5) ∧ g2 = refM g (-5)) ∨ (((0 ≤ f ∧ f ≤ 3) ∧ -24 ≤ n ∧ n ≤ 999) ∧ g 179 42 < 6 ∧ r = some (0, g 179 42 + 1) ∧ g2 = goodM (gup (gup (gup g 179 (25 + 2 * g 179 42) f) 179 (25 + 2 * g 179 42 + 1) n) 179 42 (g 179 42 + 1))))) := by
  refine gTri.of (by decide +kernel) rfl ?_
  show gWP f_Model_heard _ _ _ 0 [(2, 177), (0, f), (0, n), (9, 0)] [] sh g _
  have hm := ro_heardN ho
  refine gw_iload_n (gc k_Model_heard_0 0 rfl) rfl ?_
  refine gw_iconst (gc k_Model_heard_0 1 rfl) ?_
  refine gw_iconst (gc k_Model_heard_0 2 rfl) ?_
  refine gw_cS1 (gc k_Model_heard_0 3 rfl) y_Model_lies ln_Model_18 (c_Model_lies f 0 3 ⟨h.1, by omega, by omega⟩) rfl rfl rfl rfl ?_
  refine gw_beq (tgt := 21) (gc k_Model_heard_0 4 rfl) rfl (fun c6 => ?_) (fun c6 => ?_)
  · refine gw_aload_n (gc k_Model_heard_0 10 rfl) rfl rfl ?_
    refine gw_iconst (gc k_Model_heard_0 11 rfl) ?_
    refine gw_cV1 (gc k_Model_heard_0 12 rfl) y_Model_refuses ln_Model_106 (c_refuses hx hf (-1) (by omega)) rfl rfl (gAt hx rfl rfl) rfl rfl ?_
    refine gw_ireturn (gc k_Model_heard_0 13 rfl) rfl ?_
    exact ⟨rfl, Or.inl ⟨by omega, rfl, rfl⟩⟩
  · refine gw_iload_n (gc k_Model_heard_0 5 rfl) rfl ?_
    refine gw_bipush (gc k_Model_heard_0 6 rfl) (by decide) ?_
    refine gw_sipush (gc k_Model_heard_0 7 rfl) (by decide) ?_
    refine gw_cS1 (gc k_Model_heard_0 8 rfl) y_Model_lies ln_Model_18 (c_Model_lies n (-24) 999 ⟨h.2, by omega, by omega⟩) rfl rfl rfl rfl ?_
    refine gw_bne (tgt := 27) (gc k_Model_heard_0 9 rfl) rfl (fun c18 => ?_) (fun c18 => ?_)
    · refine gw_bipush (gc k_Model_heard_0 14 rfl) (by decide) ?_
      refine gw_iconst (gc k_Model_heard_0 15 rfl) ?_
      refine gw_aload_n (gc k_Model_heard_0 16 rfl) rfl rfl ?_
      refine gw_getref (gc k_Model_heard_0 17 rfl) fl_Model_28 (gAt hx rfl rfl) (gRf hf rfl rfl) ?_
      refine gw_bipush (gc k_Model_heard_0 18 rfl) (by decide) ?_
      refine gw_iald (gc k_Model_heard_0 19 rfl) (gAt hx rfl rfl) (by omega) ?_
      refine gw_imul (gc k_Model_heard_0 20 rfl) ?_
      refine gw_iadd (gc k_Model_heard_0 21 rfl) ?_
      refine gw_istore_3 (gc k_Model_heard_0 22 rfl) rfl rfl ?_
      refine gw_aload_n (gc k_Model_heard_0 23 rfl) rfl rfl ?_
      refine gw_getref (gc k_Model_heard_0 24 rfl) fl_Model_28 (gAt hx rfl rfl) (gRf hf rfl rfl) ?_
      refine gw_bipush (gc k_Model_heard_0 25 rfl) (by decide) ?_
      refine gw_iald (gc k_Model_heard_0 26 rfl) (gAt hx rfl rfl) (by omega) ?_
      refine gw_bipush (gc k_Model_heard_0 27 rfl) (by decide) ?_
      refine gw_icmp_ne (tgt := 59) (gc k_Model_heard_0 28 rfl) rfl (by omega) (fun c49 => ?_) (fun c49 => ?_)
      · refine gw_aload_n (gc k_Model_heard_0 33 rfl) rfl rfl ?_
        refine gw_getref (gc k_Model_heard_0 34 rfl) fl_Model_28 (gAt hx rfl rfl) (gRf hf rfl rfl) ?_
        refine gw_iload_n (gc k_Model_heard_0 35 rfl) rfl ?_
        refine gw_iload_n (gc k_Model_heard_0 36 rfl) rfl ?_
        refine gw_iastF (gc k_Model_heard_0 37 rfl) (gAt hx rfl rfl) (by omega) hf rfl (fun hf => ?_)
        refine gw_aload_n (gc k_Model_heard_0 38 rfl) rfl rfl ?_
        refine gw_getref (gc k_Model_heard_0 39 rfl) fl_Model_28 (gAt hx rfl rfl) (gRf hf rfl rfl) ?_
        refine gw_iload_n (gc k_Model_heard_1 0 rfl) rfl ?_
        refine gw_iconst (gc k_Model_heard_1 1 rfl) ?_
        refine gw_iadd (gc k_Model_heard_1 2 rfl) ?_
        refine gw_iload_n (gc k_Model_heard_1 3 rfl) rfl ?_
        refine gw_iastF (gc k_Model_heard_1 4 rfl) (gAt hx rfl rfl) (by omega) hf rfl (fun hf => ?_)
        refine gw_aload_n (gc k_Model_heard_1 5 rfl) rfl rfl ?_
        refine gw_getref (gc k_Model_heard_1 6 rfl) fl_Model_28 (gAt hx rfl rfl) (gRf hf rfl rfl) ?_
        refine gw_bipush (gc k_Model_heard_1 7 rfl) (by decide) ?_
        refine gw_dup2 (gc k_Model_heard_1 8 rfl) rfl ?_
        refine gw_iald (gc k_Model_heard_1 9 rfl) (gAt hx rfl rfl) (by omega) ?_
        refine gw_iconst (gc k_Model_heard_1 10 rfl) ?_
        rw [gup_k _ _ _ _ (show (42 : Int) ≠ 25 + 2 * g 179 42 + 1 by omega), gup_k _ _ _ _ (show (42 : Int) ≠ 25 + 2 * g 179 42 by omega)]
        refine gw_iadd (gc k_Model_heard_1 11 rfl) ?_
        refine gw_iastF (gc k_Model_heard_1 12 rfl) (gAt hx rfl rfl) (by omega) hf rfl (fun hf => ?_)
        refine gw_aload_n (gc k_Model_heard_1 13 rfl) rfl rfl ?_
        refine gw_aload_n (gc k_Model_heard_1 14 rfl) rfl rfl ?_
        refine gw_getref (gc k_Model_heard_1 15 rfl) fl_Model_28 (gAt hx rfl rfl) (gRf hf rfl rfl) ?_
        refine gw_bipush (gc k_Model_heard_1 16 rfl) (by decide) ?_
        refine gw_iald (gc k_Model_heard_1 17 rfl) (gAt hx rfl rfl) (by omega) ?_
        rw [gup_s]
        refine gw_cV1 (gc k_Model_heard_1 18 rfl) y_Model_good ln_Model_14 (c_Model_good hx hf _) rfl rfl (gAt hx rfl rfl) rfl rfl ?_
        refine gw_ireturn (gc k_Model_heard_1 19 rfl) rfl ?_
        exact ⟨rfl, Or.inr (Or.inr ⟨by omega, by omega, rfl, rfl⟩)⟩
      · refine gw_aload_n (gc k_Model_heard_0 29 rfl) rfl rfl ?_
        refine gw_bipush (gc k_Model_heard_0 30 rfl) (by decide) ?_
        refine gw_cV1 (gc k_Model_heard_0 31 rfl) y_Model_refuses ln_Model_106 (c_refuses hx hf (-5) (by omega)) rfl rfl (gAt hx rfl rfl) rfl rfl ?_
        refine gw_ireturn (gc k_Model_heard_0 32 rfl) rfl ?_
        exact ⟨rfl, Or.inr (Or.inl ⟨by omega, by omega, rfl, rfl⟩)⟩
    · refine gw_aload_n (gc k_Model_heard_0 10 rfl) rfl rfl ?_
      refine gw_iconst (gc k_Model_heard_0 11 rfl) ?_
      refine gw_cV1 (gc k_Model_heard_0 12 rfl) y_Model_refuses ln_Model_106 (c_refuses hx hf (-1) (by omega)) rfl rfl (gAt hx rfl rfl) rfl rfl ?_
      refine gw_ireturn (gc k_Model_heard_0 13 rfl) rfl ?_
      exact ⟨rfl, Or.inl ⟨by omega, rfl, rfl⟩⟩
set_option maxHeartbeats 1000000 in
theorem c_Model_forget {sh : gS} {g : gM} (hx : gFix sh) (hf : gFin g) : gTri f_Model_forget 0 0 0 [(2, 177)] sh g (gR (some (0, g 179 42)) sh (gup g 179 42 0)) := by
  refine gTri.of (by decide +kernel) rfl ?_
  show gWP f_Model_forget _ _ _ 0 [(2, 177), (9, 0)] [] sh g _
  refine gw_aload_n (gc k_Model_forget_0 0 rfl) rfl rfl ?_
  refine gw_getref (gc k_Model_forget_0 1 rfl) fl_Model_28 (gAt hx rfl rfl) (gRf hf rfl rfl) ?_
  refine gw_bipush (gc k_Model_forget_0 2 rfl) (by decide) ?_
  refine gw_iald (gc k_Model_forget_0 3 rfl) (gAt hx rfl rfl) (by omega) ?_
  refine gw_istore_1 (gc k_Model_forget_0 4 rfl) rfl rfl ?_
  refine gw_aload_n (gc k_Model_forget_0 5 rfl) rfl rfl ?_
  refine gw_getref (gc k_Model_forget_0 6 rfl) fl_Model_28 (gAt hx rfl rfl) (gRf hf rfl rfl) ?_
  refine gw_bipush (gc k_Model_forget_0 7 rfl) (by decide) ?_
  refine gw_iconst (gc k_Model_forget_0 8 rfl) ?_
  refine gw_iastF (gc k_Model_forget_0 9 rfl) (gAt hx rfl rfl) (by omega) hf rfl (fun hf => ?_)
  refine gw_iload_n (gc k_Model_forget_0 10 rfl) rfl ?_
  refine gw_ireturn (gc k_Model_forget_0 11 rfl) rfl ?_
  exact ⟨rfl, rfl, rfl⟩
set_option maxHeartbeats 1000000 in
theorem c_Model_draws {sh : gS} {g : gM} (hx : gFix sh) (hf : gFin g) (k : Int) (hk : 1 ≤ k ∧ k ≤ 100) (hl : 0 ≤ g 177 50 ∧ g 177 50 ≤ 1000002) : gTri f_Model_draws 0 0 0 [(2, 177), (0, k)] sh g (gR (some (0, (1103 * g 177 50 + 12345) % 1000003 % k)) sh (gup g 177 50 ((1103 * g 177 50 + 12345) % 1000003))) := by
  refine gTri.of (by decide +kernel) rfl ?_
  show gWP f_Model_draws _ _ _ 0 [(2, 177), (0, k)] [] sh g _
  refine gw_aload_n (gc k_Model_draws_0 0 rfl) rfl rfl ?_
  refine gw_ldc2 (gc k_Model_draws_0 1 rfl) cn_Model_480 ?_
  refine gw_aload_n (gc k_Model_draws_0 2 rfl) rfl rfl ?_
  refine gw_getf 50 rfl (gc k_Model_draws_0 3 rfl) fl_Model_482 (gAt hx rfl rfl) ?_
  refine gw_i2l (gc k_Model_draws_0 4 rfl) (by omega) ?_
  refine gw_lmul (gc k_Model_draws_0 5 rfl) ?_
  refine gw_ldc2 (gc k_Model_draws_0 6 rfl) cn_Model_485 ?_
  refine gw_ladd (gc k_Model_draws_0 7 rfl) ?_
  refine gw_ldc2 (gc k_Model_draws_0 8 rfl) cn_Model_487 ?_
  refine gw_lremN (gc k_Model_draws_0 9 rfl) (by omega) ?_
  refine gw_l2i (gc k_Model_draws_0 10 rfl) ?_
  refine gw_putIK 50 rfl (gc k_Model_draws_0 11 rfl) fl_Model_482 (gAt hx rfl rfl) hf rfl (fun hf => ?_)
  refine gw_aload_n (gc k_Model_draws_0 12 rfl) rfl rfl ?_
  refine gw_getf 50 rfl (gc k_Model_draws_0 13 rfl) fl_Model_482 (gAt hx rfl rfl) ?_
  rw [gup_s]
  refine gw_iload_n (gc k_Model_draws_0 14 rfl) rfl ?_
  refine gw_iremN (gc k_Model_draws_0 15 rfl) (by omega) ?_
  refine gw_ireturn (gc k_Model_draws_0 16 rfl) rfl ?_
  exact ⟨rfl, rfl, rfl⟩
set_option maxHeartbeats 1000000 in
theorem c_Model_drawn {sh : gS} {g : gM} (hx : gFix sh) (hf : gFin g) (n w : Int) (h : (-2147483648 ≤ n ∧ n ≤ 2147483647) ∧ (-2147483648 ≤ w ∧ w ≤ 2147483647)) (hd : -1 ≤ g 177 49 ∧ g 177 49 ≤ 12) : gTri f_Model_drawn 1 0 0 [(2, 177), (0, n), (0, w)] sh g (gR (some (0, if 0 ≤ n ∧ n ≤ g 177 49 - 1 ∧ 0 ≤ w ∧ w ≤ 1 then g 200 (if w = 0 then 12 + n else n) else -1)) sh g) := by
  refine gTri.of (by decide +kernel) rfl ?_
  show gWP f_Model_drawn _ _ _ 0 [(2, 177), (0, n), (0, w)] [] sh g _
  refine gw_iload_n (gc k_Model_drawn_0 0 rfl) rfl ?_
  refine gw_iconst (gc k_Model_drawn_0 1 rfl) ?_
  refine gw_aload_n (gc k_Model_drawn_0 2 rfl) rfl rfl ?_
  refine gw_getf 49 rfl (gc k_Model_drawn_0 3 rfl) fl_Model_103 (gAt hx rfl rfl) ?_
  refine gw_iconst (gc k_Model_drawn_0 4 rfl) ?_
  refine gw_isub (gc k_Model_drawn_0 5 rfl) ?_
  refine gw_cS1 (gc k_Model_drawn_0 6 rfl) y_Model_lies ln_Model_18 (c_Model_lies n 0 (g 177 49 - 1) ⟨h.1, by omega, by omega⟩) rfl rfl rfl rfl ?_
  refine gw_beq (tgt := 23) (gc k_Model_drawn_0 7 rfl) rfl (fun c11 => ?_) (fun c11 => ?_)
  · refine gw_iconst (gc k_Model_drawn_0 13 rfl) ?_
    refine gw_ireturn (gc k_Model_drawn_0 14 rfl) rfl ?_
    exact ⟨gsi (by rw [if_neg (by omega)]), rfl, rfl⟩
  · refine gw_iload_n (gc k_Model_drawn_0 8 rfl) rfl ?_
    refine gw_iconst (gc k_Model_drawn_0 9 rfl) ?_
    refine gw_iconst (gc k_Model_drawn_0 10 rfl) ?_
    refine gw_cS1 (gc k_Model_drawn_0 11 rfl) y_Model_lies ln_Model_18 (c_Model_lies w 0 1 ⟨h.2, by omega, by omega⟩) rfl rfl rfl rfl ?_
    refine gw_bne (tgt := 25) (gc k_Model_drawn_0 12 rfl) rfl (fun c20 => ?_) (fun c20 => ?_)
    · refine gw_aload_n (gc k_Model_drawn_0 15 rfl) rfl rfl ?_
      refine gw_getref (gc k_Model_drawn_0 16 rfl) fl_Model_100 (gAt hx rfl rfl) (gRf hf rfl rfl) ?_
      refine gw_iload_n (gc k_Model_drawn_0 17 rfl) rfl ?_
      refine gw_if_ne (tgt := 38) (gc k_Model_drawn_0 18 rfl) rfl (by omega) (fun c30 => ?_) (fun c30 => ?_)
      · refine gw_iconst (gc k_Model_drawn_0 21 rfl) ?_
        refine gw_iload_n (gc k_Model_drawn_0 22 rfl) rfl ?_
        refine gw_iadd (gc k_Model_drawn_0 23 rfl) ?_
        refine gw_iald (gc k_Model_drawn_0 24 rfl) (gAt hx rfl rfl) (by omega) ?_
        refine gw_ireturn (gc k_Model_drawn_0 25 rfl) rfl ?_
        first | exact ⟨gsi (by rw [if_pos (show 0 ≤ n ∧ n ≤ g 177 49 - 1 ∧ 0 ≤ w ∧ w ≤ 1 by omega), if_pos (show w = 0 by assumption)]), rfl, rfl⟩ | exact ⟨gsi (by rw [if_pos (show 0 ≤ n ∧ n ≤ g 177 49 - 1 ∧ 0 ≤ w ∧ w ≤ 1 by omega), if_neg (show ¬ w = 0 by assumption), Int.zero_add]), rfl, rfl⟩
      · refine gw_bipush (gc k_Model_drawn_0 19 rfl) (by decide) ?_
        refine gw_goto (tgt := 39) (gc k_Model_drawn_0 20 rfl) rfl ?_
        refine gw_iload_n (gc k_Model_drawn_0 22 rfl) rfl ?_
        refine gw_iadd (gc k_Model_drawn_0 23 rfl) ?_
        refine gw_iald (gc k_Model_drawn_0 24 rfl) (gAt hx rfl rfl) (by omega) ?_
        refine gw_ireturn (gc k_Model_drawn_0 25 rfl) rfl ?_
        first | exact ⟨gsi (by rw [if_pos (show 0 ≤ n ∧ n ≤ g 177 49 - 1 ∧ 0 ≤ w ∧ w ≤ 1 by omega), if_pos (show w = 0 by assumption)]), rfl, rfl⟩ | exact ⟨gsi (by rw [if_pos (show 0 ≤ n ∧ n ≤ g 177 49 - 1 ∧ 0 ≤ w ∧ w ≤ 1 by omega), if_neg (show ¬ w = 0 by assumption), Int.zero_add]), rfl, rfl⟩
    · refine gw_iconst (gc k_Model_drawn_0 13 rfl) ?_
      refine gw_ireturn (gc k_Model_drawn_0 14 rfl) rfl ?_
      exact ⟨gsi (by rw [if_neg (by omega)]), rfl, rfl⟩
set_option maxHeartbeats 1000000 in
theorem c_Model_refusals {sh : gS} {g : gM} (hx : gFix sh) (hf : gFin g) (k : Int) (hk : 0 ≤ k ∧ k ≤ 4) : gTri f_Model_refusals 0 0 0 [(2, 177), (0, k)] sh g (gR (some (0, g 178 (if k < 3 then k + 1 else k + 2))) sh g) := by
  refine gTri.of (by decide +kernel) rfl ?_
  show gWP f_Model_refusals _ _ _ 0 [(2, 177), (0, k)] [] sh g _
  refine gw_iload_n (gc k_Model_refusals_0 0 rfl) rfl ?_
  refine gw_iconst (gc k_Model_refusals_0 1 rfl) ?_
  refine gw_icmp_ge (tgt := 16) (gc k_Model_refusals_0 2 rfl) rfl (by omega) (fun c2 => ?_) (fun c2 => ?_)
  · refine gw_aload_n (gc k_Model_refusals_0 10 rfl) rfl rfl ?_
    refine gw_getref (gc k_Model_refusals_0 11 rfl) fl_Model_7 (gAt hx rfl rfl) (gRf hf rfl rfl) ?_
    refine gw_iload_n (gc k_Model_refusals_0 12 rfl) rfl ?_
    refine gw_iconst (gc k_Model_refusals_0 13 rfl) ?_
    refine gw_iadd (gc k_Model_refusals_0 14 rfl) ?_
    refine gw_iald (gc k_Model_refusals_0 15 rfl) (gAt hx rfl rfl) (by omega) ?_
    refine gw_ireturn (gc k_Model_refusals_0 16 rfl) rfl ?_
    first | exact ⟨gsi (by rw [if_pos (by omega)]), rfl, rfl⟩ | exact ⟨gsi (by rw [if_neg (by omega)]), rfl, rfl⟩
  · refine gw_aload_n (gc k_Model_refusals_0 3 rfl) rfl rfl ?_
    refine gw_getref (gc k_Model_refusals_0 4 rfl) fl_Model_7 (gAt hx rfl rfl) (gRf hf rfl rfl) ?_
    refine gw_iload_n (gc k_Model_refusals_0 5 rfl) rfl ?_
    refine gw_iconst (gc k_Model_refusals_0 6 rfl) ?_
    refine gw_iadd (gc k_Model_refusals_0 7 rfl) ?_
    refine gw_iald (gc k_Model_refusals_0 8 rfl) (gAt hx rfl rfl) (by omega) ?_
    refine gw_goto (tgt := 24) (gc k_Model_refusals_0 9 rfl) rfl ?_
    refine gw_ireturn (gc k_Model_refusals_0 16 rfl) rfl ?_
    first | exact ⟨gsi (by rw [if_pos (by omega)]), rfl, rfl⟩ | exact ⟨gsi (by rw [if_neg (by omega)]), rfl, rfl⟩
set_option maxHeartbeats 1000000 in
theorem c_Model_small {sh : gS} {g : gM} (v : Int) (h : -9000000000000000000 ≤ v ∧ v ≤ 9000000000000000000) : gTri f_Model_small 0 0 0 [(1, v)] sh g (gR (some (0, if v < 0 ∨ 1000000 < v then -1 else v)) sh g) := by
  refine gTri.of (by decide +kernel) rfl ?_
  show gWP f_Model_small _ _ _ 0 [(1, v), (9, 0)] [] sh g _
  refine gw_lload_n (gc k_Model_small_0 0 rfl) rfl ?_
  refine gw_lconst0 (gc k_Model_small_0 1 rfl) ?_
  refine gw_lc_lt (tgt := 14) (gc k_Model_small_0 2 rfl) (gc k_Model_small_0 3 rfl) rfl (by omega) (fun c3 => ?_) (fun c3 => ?_)
  · refine gw_iconst (gc k_Model_small_0 8 rfl) ?_
    refine gw_goto (tgt := 20) (gc k_Model_small_0 9 rfl) rfl ?_
    refine gw_ireturn (gc k_Model_small_0 12 rfl) rfl ?_
    first | exact ⟨gsi (by rw [if_pos (by omega)]), rfl, rfl⟩ | exact ⟨gsi (by rw [if_neg (by omega)]), rfl, rfl⟩
  · refine gw_lload_n (gc k_Model_small_0 4 rfl) rfl ?_
    refine gw_ldc2 (gc k_Model_small_0 5 rfl) cn_Model_467 ?_
    refine gw_lc_le (tgt := 18) (gc k_Model_small_0 6 rfl) (gc k_Model_small_0 7 rfl) rfl (by omega) (fun c11 => ?_) (fun c11 => ?_)
    · refine gw_lload_n (gc k_Model_small_0 10 rfl) rfl ?_
      refine gw_l2i (gc k_Model_small_0 11 rfl) ?_
      refine gw_ireturn (gc k_Model_small_0 12 rfl) rfl ?_
      first | exact ⟨gsi (by rw [if_pos (by omega)]), rfl, rfl⟩ | exact ⟨gsi (by rw [if_neg (by omega)]), rfl, rfl⟩
    · refine gw_iconst (gc k_Model_small_0 8 rfl) ?_
      refine gw_goto (tgt := 20) (gc k_Model_small_0 9 rfl) rfl ?_
      refine gw_ireturn (gc k_Model_small_0 12 rfl) rfl ?_
      first | exact ⟨gsi (by rw [if_pos (by omega)]), rfl, rfl⟩ | exact ⟨gsi (by rw [if_neg (by omega)]), rfl, rfl⟩

