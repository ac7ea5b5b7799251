theorem pPartW_cases {T V : Int → Int} {o : Bool} {sub : Option (Int → Int → PR)} {p n p2 n2 : Int} {c : PK} {s : PS} (h : pPartW T V o sub p n = .inr (p2, n2, c, s)) :
    (T p = 191 ∧ ∃ f q, sub = some f ∧ f (p + 1) n = .inr (q, n2, c, s) ∧ T q = 193 ∧ p2 = q + 1) ∨
    (T p = 50 ∧ V p ≤ 1000 ∧ n < 50 ∧ p2 = p + 1 ∧ n2 = n + 1 ∧ c = [(0, V p)] ∧ s = fun _ => some (V p)) ∨
    (o = false ∧ (8 ≤ T p ∧ T p ≤ 17) ∧ n < 50 ∧ p2 = p + 1 ∧ n2 = n + 1 ∧ c = [(1, lwI (T p))] ∧ s = fun w => some (w (lwI (T p)))) ∨
    (o = true ∧ (17 ≤ T p ∧ T p ≤ 21) ∧ n < 50 ∧ p2 = p + 1 ∧ n2 = n + 1 ∧ c = [(1, T p - 17)] ∧ s = fun w => some (w (T p - 17))) ∨
    (o = true ∧ (T p = 15 ∨ T p = 16) ∧ T (p + 1) = 50 ∧ V (p + 1) ≤ 11 ∧ n < 50 ∧ p2 = p + 2 ∧ n2 = n + 1 ∧ c = [(1, (if T p = 15 then 5 else 17) + V (p + 1))] ∧ s = fun w => some (w ((if T p = 15 then 5 else 17) + V (p + 1)))) := by
  unfold pPartW at h
  split at h
  · next h1 =>
    cases sub with
    | none => cases h
    | some f =>
      dsimp only at h
      cases hf : f (p + 1) n with
      | inl x => rw [hf] at h; cases h
      | inr x =>
        obtain ⟨q2, m2, c2, s2⟩ := x
        rw [hf] at h
        dsimp only at h
        split at h
        · next h2 => cases h; exact Or.inl ⟨h1, f, q2, rfl, hf, h2, rfl⟩
        · cases h
  · split at h
    · cases h
    · split at h
      · next h3 => cases h; exact Or.inr (Or.inl ⟨h3.1, h3.2, by omega, rfl, rfl, rfl, rfl⟩)
      · split at h
        · next h4 => cases h; exact Or.inr (Or.inr (Or.inl ⟨h4.1, h4.2, by omega, rfl, rfl, rfl, rfl⟩))
        · split at h
          · next h5 => cases h; exact Or.inr (Or.inr (Or.inr (Or.inl ⟨h5.1, h5.2, by omega, rfl, rfl, rfl, rfl⟩)))
          · split at h
            · next h6 =>
              split at h
              · next h7 => cases h; exact Or.inr (Or.inr (Or.inr (Or.inr ⟨h6.1, h6.2, h7.1, h7.2, by omega, rfl, rfl, rfl, rfl⟩)))
              · cases h
            · cases h
theorem evV_0 {br : Int} {v : Option Int} : evV 0 br v = 0 := if_neg (by omega)
theorem evB_0 {br : Int} {v : Option Int} : evB 0 br v = br := if_neg (by omega)
theorem evV_b {live : Int} {v : Option Int} : evV live 1 v = 0 := if_neg (by omega)
theorem evB_b {live : Int} {v : Option Int} : evB live 1 v = 1 := if_neg (by omega)
theorem evV_s {x : Int} : evV 1 0 (some x) = x := if_pos ⟨rfl, rfl⟩
theorem evB_s {x : Int} : evB 1 0 (some x) = 0 := if_neg (by intro h; cases h.2.2)
theorem evB_some {live br x : Int} : evB live br (some x) = br := if_neg (by intro h; cases h.2.2)
theorem evV_n {live br : Int} : evV live br none = 0 := by unfold evV; split <;> rfl
theorem evB_n : evB 1 0 none = 1 := if_pos ⟨rfl, rfl, rfl⟩
theorem evB_01 {live br : Int} {v : Option Int} (h : br = 0 ∨ br = 1) : evB live br v = 0 ∨ evB live br v = 1 := by unfold evB; split <;> omega
theorem evV_bd {live br : Int} {v : Option Int} (h : ∀ x, v = some x → bd9 x) : bd9 (evV live br v) := by
  unfold evV
  split
  · cases v with
    | none => unfold bd9; exact ⟨by decide, by decide⟩
    | some x => exact h x rfl
  · unfold bd9; exact ⟨by decide, by decide⟩
set_option maxHeartbeats 1000000 in
theorem c_Model_orderValue {sh : gS} {g : gM} (hx : gFix sh) (hf : gFin g) {T V : Int → Int} {b : Int} {w : Int → Int} (E : EvC T V b true w g) (c k x y : Int) (hc : 15 ≤ c ∧ c ≤ 21) (hk : 0 ≤ k ∧ k < 12) : gTri f_Model_orderValue 2 0 0 [(2, 177), (0, c), (0, k)] sh (evM g x y) (gR (some (0, if c = 15 then w (5 + k) else if c = 16 then w (17 + k) else w (c - 17))) sh (evM g x y)) := by
  refine gTri.of (by decide +kernel) rfl ?_
  show gWP f_Model_orderValue _ _ _ 0 [(2, 177), (0, c), (0, k)] [] sh (evM g x y) _
  have hfe := fun x y => hf.ev x y
  have ho := E.2.2.2.2.1
  obtain ⟨w0, w1, w2, w3, w4, wn⟩ := E.2.2.2.2.2.2.2 rfl
  have hw := wn k hk.1 hk.2
  have hm := ro_many ho
  have em : evM g x y 179 = g 179 := evM_fn _ _ _ (by decide)
  refine gw_iload_n (gc k_Model_orderValue_0 0 rfl) rfl ?_
  rcases (show c = 15 ∨ c = 16 ∨ c = 17 ∨ c = 18 ∨ c = 19 ∨ c = 20 ∨ (c < 15 ∨ 20 < c) by omega) with hs1 | hs1 | hs1 | hs1 | hs1 | hs1 | hs1
  · refine gw_tableIn (tgt := 40) (gc k_Model_orderValue_0 1 rfl) (by omega) (by omega) (by rw [hs1]; rfl) rfl ?_
    refine gw_aload_n (gc k_Model_orderValue_0 2 rfl) rfl rfl ?_
    refine gw_iload_n (gc k_Model_orderValue_0 3 rfl) rfl ?_
    refine gw_cV1 (gc k_Model_orderValue_0 4 rfl) y_Model_isNote ln_Model_124 (c_Model_isNote hx (hfe _ _) k (by omega) (by rw [em]; exact hm)) rfl rfl (gAt hx rfl rfl) rfl rfl ?_
    rw [em]
    refine gw_beq (tgt := 59) (gc k_Model_orderValue_0 5 rfl) rfl (fun c45 => ?_) (fun c45 => ?_)
    · refine gw_iconst (gc k_Model_orderValue_0 13 rfl) ?_
      refine gw_ireturn (gc k_Model_orderValue_0 14 rfl) rfl ?_
      refine ⟨gsi ?_, rfl, rfl⟩
      first
      | (rw [if_pos (by omega), hw.1, if_pos (by omega)]; simp only [em, Int.zero_add]; done)
      | (rw [if_pos (by omega), hw.1, if_neg (by omega)]; done)
      | (rw [if_neg (by omega), if_pos (by omega), hw.2, if_pos (by omega)]; simp only [em]; done)
      | (rw [if_neg (by omega), if_pos (by omega), hw.2, if_neg (by omega)]; done)
      | (subst hs1; rw [if_neg (by omega), if_neg (by omega)]; simp only [em, evM_k _ _ _ (show (27 : Int) ≠ 22 by decide) (by decide), evM_k _ _ _ (show (28 : Int) ≠ 22 by decide) (by decide), evM_k _ _ _ (show (29 : Int) ≠ 22 by decide) (by decide), evM_k _ _ _ (show (30 : Int) ≠ 22 by decide) (by decide)]; first | exact w0.symm | exact w1.symm | exact w2.symm | exact w3.symm | exact w4.symm)
      | (obtain rfl : c = 21 := by omega
         rw [if_neg (by omega), if_neg (by omega)]; simp only [evM_k _ _ _ (show (30 : Int) ≠ 22 by decide) (by decide)]; exact w4.symm)
    · refine gw_aload_n (gc k_Model_orderValue_0 6 rfl) rfl rfl ?_
      refine gw_getref (gc k_Model_orderValue_0 7 rfl) fl_Model_28 (gAt hx rfl rfl) (gRf (hfe _ _) rfl rfl) ?_
      refine gw_iconst (gc k_Model_orderValue_0 8 rfl) ?_
      refine gw_iload_n (gc k_Model_orderValue_0 9 rfl) rfl ?_
      refine gw_iadd (gc k_Model_orderValue_0 10 rfl) ?_
      refine gw_iald (gc k_Model_orderValue_0 11 rfl) (gAt hx rfl rfl) (by omega) ?_
      refine gw_goto (tgt := 60) (gc k_Model_orderValue_0 12 rfl) rfl ?_
      refine gw_ireturn (gc k_Model_orderValue_0 14 rfl) rfl ?_
      refine ⟨gsi ?_, rfl, rfl⟩
      first
      | (rw [if_pos (by omega), hw.1, if_pos (by omega)]; simp only [em, Int.zero_add]; done)
      | (rw [if_pos (by omega), hw.1, if_neg (by omega)]; done)
      | (rw [if_neg (by omega), if_pos (by omega), hw.2, if_pos (by omega)]; simp only [em]; done)
      | (rw [if_neg (by omega), if_pos (by omega), hw.2, if_neg (by omega)]; done)
      | (subst hs1; rw [if_neg (by omega), if_neg (by omega)]; simp only [em, evM_k _ _ _ (show (27 : Int) ≠ 22 by decide) (by decide), evM_k _ _ _ (show (28 : Int) ≠ 22 by decide) (by decide), evM_k _ _ _ (show (29 : Int) ≠ 22 by decide) (by decide), evM_k _ _ _ (show (30 : Int) ≠ 22 by decide) (by decide)]; first | exact w0.symm | exact w1.symm | exact w2.symm | exact w3.symm | exact w4.symm)
      | (obtain rfl : c = 21 := by omega
         rw [if_neg (by omega), if_neg (by omega)]; simp only [evM_k _ _ _ (show (30 : Int) ≠ 22 by decide) (by decide)]; exact w4.symm)
  · refine gw_tableIn (tgt := 61) (gc k_Model_orderValue_0 1 rfl) (by omega) (by omega) (by rw [hs1]; rfl) rfl ?_
    refine gw_aload_n (gc k_Model_orderValue_0 15 rfl) rfl rfl ?_
    refine gw_iload_n (gc k_Model_orderValue_0 16 rfl) rfl ?_
    refine gw_cV1 (gc k_Model_orderValue_0 17 rfl) y_Model_isNote ln_Model_124 (c_Model_isNote hx (hfe _ _) k (by omega) (by rw [em]; exact hm)) rfl rfl (gAt hx rfl rfl) rfl rfl ?_
    rw [em]
    refine gw_beq (tgt := 81) (gc k_Model_orderValue_0 18 rfl) rfl (fun c66 => ?_) (fun c66 => ?_)
    · refine gw_iconst (gc k_Model_orderValue_0 26 rfl) ?_
      refine gw_ireturn (gc k_Model_orderValue_0 27 rfl) rfl ?_
      refine ⟨gsi ?_, rfl, rfl⟩
      first
      | (rw [if_pos (by omega), hw.1, if_pos (by omega)]; simp only [em, Int.zero_add]; done)
      | (rw [if_pos (by omega), hw.1, if_neg (by omega)]; done)
      | (rw [if_neg (by omega), if_pos (by omega), hw.2, if_pos (by omega)]; simp only [em]; done)
      | (rw [if_neg (by omega), if_pos (by omega), hw.2, if_neg (by omega)]; done)
      | (subst hs1; rw [if_neg (by omega), if_neg (by omega)]; simp only [em, evM_k _ _ _ (show (27 : Int) ≠ 22 by decide) (by decide), evM_k _ _ _ (show (28 : Int) ≠ 22 by decide) (by decide), evM_k _ _ _ (show (29 : Int) ≠ 22 by decide) (by decide), evM_k _ _ _ (show (30 : Int) ≠ 22 by decide) (by decide)]; first | exact w0.symm | exact w1.symm | exact w2.symm | exact w3.symm | exact w4.symm)
      | (obtain rfl : c = 21 := by omega
         rw [if_neg (by omega), if_neg (by omega)]; simp only [evM_k _ _ _ (show (30 : Int) ≠ 22 by decide) (by decide)]; exact w4.symm)
    · refine gw_aload_n (gc k_Model_orderValue_0 19 rfl) rfl rfl ?_
      refine gw_getref (gc k_Model_orderValue_0 20 rfl) fl_Model_28 (gAt hx rfl rfl) (gRf (hfe _ _) rfl rfl) ?_
      refine gw_bipush (gc k_Model_orderValue_0 21 rfl) (by decide) ?_
      refine gw_iload_n (gc k_Model_orderValue_0 22 rfl) rfl ?_
      refine gw_iadd (gc k_Model_orderValue_0 23 rfl) ?_
      refine gw_iald (gc k_Model_orderValue_0 24 rfl) (gAt hx rfl rfl) (by omega) ?_
      refine gw_goto (tgt := 82) (gc k_Model_orderValue_0 25 rfl) rfl ?_
      refine gw_ireturn (gc k_Model_orderValue_0 27 rfl) rfl ?_
      refine ⟨gsi ?_, rfl, rfl⟩
      first
      | (rw [if_pos (by omega), hw.1, if_pos (by omega)]; simp only [em, Int.zero_add]; done)
      | (rw [if_pos (by omega), hw.1, if_neg (by omega)]; done)
      | (rw [if_neg (by omega), if_pos (by omega), hw.2, if_pos (by omega)]; simp only [em]; done)
      | (rw [if_neg (by omega), if_pos (by omega), hw.2, if_neg (by omega)]; done)
      | (subst hs1; rw [if_neg (by omega), if_neg (by omega)]; simp only [em, evM_k _ _ _ (show (27 : Int) ≠ 22 by decide) (by decide), evM_k _ _ _ (show (28 : Int) ≠ 22 by decide) (by decide), evM_k _ _ _ (show (29 : Int) ≠ 22 by decide) (by decide), evM_k _ _ _ (show (30 : Int) ≠ 22 by decide) (by decide)]; first | exact w0.symm | exact w1.symm | exact w2.symm | exact w3.symm | exact w4.symm)
      | (obtain rfl : c = 21 := by omega
         rw [if_neg (by omega), if_neg (by omega)]; simp only [evM_k _ _ _ (show (30 : Int) ≠ 22 by decide) (by decide)]; exact w4.symm)
  · refine gw_tableIn (tgt := 83) (gc k_Model_orderValue_0 1 rfl) (by omega) (by omega) (by rw [hs1]; rfl) rfl ?_
    refine gw_aload_n (gc k_Model_orderValue_0 28 rfl) rfl rfl ?_
    refine gw_getref (gc k_Model_orderValue_0 29 rfl) fl_Model_28 (gAt hx rfl rfl) (gRf (hfe _ _) rfl rfl) ?_
    refine gw_bipush (gc k_Model_orderValue_0 30 rfl) (by decide) ?_
    refine gw_iald (gc k_Model_orderValue_0 31 rfl) (gAt hx rfl rfl) (by omega) ?_
    refine gw_ireturn (gc k_Model_orderValue_0 32 rfl) rfl ?_
    refine ⟨gsi ?_, rfl, rfl⟩
    first
    | (rw [if_pos (by omega), hw.1, if_pos (by omega)]; simp only [em, Int.zero_add]; done)
    | (rw [if_pos (by omega), hw.1, if_neg (by omega)]; done)
    | (rw [if_neg (by omega), if_pos (by omega), hw.2, if_pos (by omega)]; simp only [em]; done)
    | (rw [if_neg (by omega), if_pos (by omega), hw.2, if_neg (by omega)]; done)
    | (subst hs1; rw [if_neg (by omega), if_neg (by omega)]; simp only [em, evM_k _ _ _ (show (27 : Int) ≠ 22 by decide) (by decide), evM_k _ _ _ (show (28 : Int) ≠ 22 by decide) (by decide), evM_k _ _ _ (show (29 : Int) ≠ 22 by decide) (by decide), evM_k _ _ _ (show (30 : Int) ≠ 22 by decide) (by decide)]; first | exact w0.symm | exact w1.symm | exact w2.symm | exact w3.symm | exact w4.symm)
    | (obtain rfl : c = 21 := by omega
       rw [if_neg (by omega), if_neg (by omega)]; simp only [evM_k _ _ _ (show (30 : Int) ≠ 22 by decide) (by decide)]; exact w4.symm)
  · refine gw_tableIn (tgt := 91) (gc k_Model_orderValue_0 1 rfl) (by omega) (by omega) (by rw [hs1]; rfl) rfl ?_
    refine gw_aload_n (gc k_Model_orderValue_0 33 rfl) rfl rfl ?_
    refine gw_getf 27 rfl (gc k_Model_orderValue_0 34 rfl) fl_Model_297 (gAt hx rfl rfl) ?_
    refine gw_ireturn (gc k_Model_orderValue_0 35 rfl) rfl ?_
    refine ⟨gsi ?_, rfl, rfl⟩
    first
    | (rw [if_pos (by omega), hw.1, if_pos (by omega)]; simp only [em, Int.zero_add]; done)
    | (rw [if_pos (by omega), hw.1, if_neg (by omega)]; done)
    | (rw [if_neg (by omega), if_pos (by omega), hw.2, if_pos (by omega)]; simp only [em]; done)
    | (rw [if_neg (by omega), if_pos (by omega), hw.2, if_neg (by omega)]; done)
    | (subst hs1; rw [if_neg (by omega), if_neg (by omega)]; simp only [em, evM_k _ _ _ (show (27 : Int) ≠ 22 by decide) (by decide), evM_k _ _ _ (show (28 : Int) ≠ 22 by decide) (by decide), evM_k _ _ _ (show (29 : Int) ≠ 22 by decide) (by decide), evM_k _ _ _ (show (30 : Int) ≠ 22 by decide) (by decide)]; first | exact w0.symm | exact w1.symm | exact w2.symm | exact w3.symm | exact w4.symm)
    | (obtain rfl : c = 21 := by omega
       rw [if_neg (by omega), if_neg (by omega)]; simp only [evM_k _ _ _ (show (30 : Int) ≠ 22 by decide) (by decide)]; exact w4.symm)
  · refine gw_tableIn (tgt := 96) (gc k_Model_orderValue_0 1 rfl) (by omega) (by omega) (by rw [hs1]; rfl) rfl ?_
    refine gw_aload_n (gc k_Model_orderValue_0 36 rfl) rfl rfl ?_
    refine gw_getf 28 rfl (gc k_Model_orderValue_0 37 rfl) fl_Model_300 (gAt hx rfl rfl) ?_
    refine gw_ireturn (gc k_Model_orderValue_0 38 rfl) rfl ?_
    refine ⟨gsi ?_, rfl, rfl⟩
    first
    | (rw [if_pos (by omega), hw.1, if_pos (by omega)]; simp only [em, Int.zero_add]; done)
    | (rw [if_pos (by omega), hw.1, if_neg (by omega)]; done)
    | (rw [if_neg (by omega), if_pos (by omega), hw.2, if_pos (by omega)]; simp only [em]; done)
    | (rw [if_neg (by omega), if_pos (by omega), hw.2, if_neg (by omega)]; done)
    | (subst hs1; rw [if_neg (by omega), if_neg (by omega)]; simp only [em, evM_k _ _ _ (show (27 : Int) ≠ 22 by decide) (by decide), evM_k _ _ _ (show (28 : Int) ≠ 22 by decide) (by decide), evM_k _ _ _ (show (29 : Int) ≠ 22 by decide) (by decide), evM_k _ _ _ (show (30 : Int) ≠ 22 by decide) (by decide)]; first | exact w0.symm | exact w1.symm | exact w2.symm | exact w3.symm | exact w4.symm)
    | (obtain rfl : c = 21 := by omega
       rw [if_neg (by omega), if_neg (by omega)]; simp only [evM_k _ _ _ (show (30 : Int) ≠ 22 by decide) (by decide)]; exact w4.symm)
  · refine gw_tableIn (tgt := 101) (gc k_Model_orderValue_0 1 rfl) (by omega) (by omega) (by rw [hs1]; rfl) rfl ?_
    refine gw_aload_n (gc k_Model_orderValue_0 39 rfl) rfl rfl ?_
    refine gw_getf 29 rfl (gc k_Model_orderValue_1 0 rfl) fl_Model_303 (gAt hx rfl rfl) ?_
    refine gw_ireturn (gc k_Model_orderValue_1 1 rfl) rfl ?_
    refine ⟨gsi ?_, rfl, rfl⟩
    first
    | (rw [if_pos (by omega), hw.1, if_pos (by omega)]; simp only [em, Int.zero_add]; done)
    | (rw [if_pos (by omega), hw.1, if_neg (by omega)]; done)
    | (rw [if_neg (by omega), if_pos (by omega), hw.2, if_pos (by omega)]; simp only [em]; done)
    | (rw [if_neg (by omega), if_pos (by omega), hw.2, if_neg (by omega)]; done)
    | (subst hs1; rw [if_neg (by omega), if_neg (by omega)]; simp only [em, evM_k _ _ _ (show (27 : Int) ≠ 22 by decide) (by decide), evM_k _ _ _ (show (28 : Int) ≠ 22 by decide) (by decide), evM_k _ _ _ (show (29 : Int) ≠ 22 by decide) (by decide), evM_k _ _ _ (show (30 : Int) ≠ 22 by decide) (by decide)]; first | exact w0.symm | exact w1.symm | exact w2.symm | exact w3.symm | exact w4.symm)
    | (obtain rfl : c = 21 := by omega
       rw [if_neg (by omega), if_neg (by omega)]; simp only [evM_k _ _ _ (show (30 : Int) ≠ 22 by decide) (by decide)]; exact w4.symm)
  · refine gw_tableOut (tgt := 106) (gc k_Model_orderValue_0 1 rfl) (by omega) (by omega) rfl ?_
    refine gw_aload_n (gc k_Model_orderValue_1 2 rfl) rfl rfl ?_
    refine gw_getf 30 rfl (gc k_Model_orderValue_1 3 rfl) fl_Model_306 (gAt hx rfl rfl) ?_
    refine gw_ireturn (gc k_Model_orderValue_1 4 rfl) rfl ?_
    refine ⟨gsi ?_, rfl, rfl⟩
    first
    | (rw [if_pos (by omega), hw.1, if_pos (by omega)]; simp only [em, Int.zero_add]; done)
    | (rw [if_pos (by omega), hw.1, if_neg (by omega)]; done)
    | (rw [if_neg (by omega), if_pos (by omega), hw.2, if_pos (by omega)]; simp only [em]; done)
    | (rw [if_neg (by omega), if_pos (by omega), hw.2, if_neg (by omega)]; done)
    | (subst hs1; rw [if_neg (by omega), if_neg (by omega)]; simp only [em, evM_k _ _ _ (show (27 : Int) ≠ 22 by decide) (by decide), evM_k _ _ _ (show (28 : Int) ≠ 22 by decide) (by decide), evM_k _ _ _ (show (29 : Int) ≠ 22 by decide) (by decide), evM_k _ _ _ (show (30 : Int) ≠ 22 by decide) (by decide)]; first | exact w0.symm | exact w1.symm | exact w2.symm | exact w3.symm | exact w4.symm)
    | (obtain rfl : c = 21 := by omega
       rw [if_neg (by omega), if_neg (by omega)]; simp only [evM_k _ _ _ (show (30 : Int) ≠ 22 by decide) (by decide)]; exact w4.symm)
set_option maxHeartbeats 2000000 in
theorem ev_partA {sh : gS} {g : gM} (hx : gFix sh) (hf : gFin g) {T V : Int → Int} {b : Int} {o : Bool} {w : Int → Int} (E : EvC T V b o w g) {D : Nat} (hD : 3 ≤ D) (p p2 : Int) (s : PS) (hp : 0 ≤ p ∧ p ≤ 401) (live br : Int) (hl : live = 0 ∨ live = 1) (hb : br = 0 ∨ br = 1) (hT : T p = 191) (q : Int) (hq : 0 ≤ q ∧ q ≤ 401) {d : Nat} (hd : d + 1 ≤ D) (hS : gTri f_Model_sumOf d 0 0 [(2, 177), (0, live)] sh (evM g (b + (p + 1)) br) (gR (some (1, evV live br (s w))) sh (evM g (b + q) (evB live br (s w))))) (h2 : p2 = q + 1) : gTri f_Model_partOf D 0 0 [(2, 177), (0, live)] sh (evM g (b + p) br) (gR (some (1, evV live br (s w))) sh (evM g (b + p2) (evB live br (s w)))) := by
  have hfe := fun x y => hf.ev x y
  have h1 := E.1
  have hrg := E.rg p hp.1
  refine gTri.of (by decide +kernel) rfl ?_
  show gWP f_Model_partOf _ _ _ 0 [(2, 177), (0, live), (9, 0), (9, 0)] [] sh (evM g (b + p) br) _
  refine gw_aload_n (gc k_Model_partOf_0 0 rfl) rfl rfl ?_
  refine gw_bipush (gc k_Model_partOf_0 1 rfl) (by decide) ?_
  refine gw_cS1 (gc k_Model_partOf_0 2 rfl) y_Model_sign ln_Model_220 (c_Model_sign 91) rfl rfl rfl (gble (by omega)) ?_
  rw [show (100 : Int) + 91 = 191 from rfl]
  refine gw_cV1 (gc k_Model_partOf_0 3 rfl) y_Model_passes0 ln_Model_285 (c_passY hx hf E p 191 br (by omega) (by omega) hT) rfl rfl (gAt hx rfl rfl) rfl (gble (by omega)) ?_
  refine gw_if_eq (tgt := 30) (gc k_Model_partOf_0 4 rfl) rfl (by omega) (fun c9 => ?_) (fun c9 => ?_)
  · exact absurd c9 (by decide)
  · refine gw_aload_n (gc k_Model_partOf_0 5 rfl) rfl rfl ?_
    refine gw_iload_n (gc k_Model_partOf_0 6 rfl) rfl ?_
    refine gw_cV1 (gc k_Model_partOf_0 7 rfl) y_Model_sumOf ln_Model_288 hS rfl rfl (gAt hx rfl rfl) rfl (gble (by omega)) ?_
    refine gw_lstore_2 (gc k_Model_partOf_0 8 rfl) rfl rfl ?_
    refine gw_aload_n (gc k_Model_partOf_0 9 rfl) rfl rfl ?_
    refine gw_dup (gc k_Model_partOf_0 10 rfl) rfl ?_
    refine gw_getf 22 rfl (gc k_Model_partOf_0 11 rfl) fl_Model_261 (gAt hx rfl rfl) ?_
    refine gw_iconst (gc k_Model_partOf_0 12 rfl) ?_
    refine gw_iadd (gc k_Model_partOf_0 13 rfl) ?_
    refine gw_putIK 22 rfl (gc k_Model_partOf_0 14 rfl) fl_Model_261 (gAt hx rfl rfl) (hfe _ _) rfl (fun _ => ?_)
    refine gw_lload_n (gc k_Model_partOf_0 15 rfl) rfl ?_
    refine gw_lreturn (gc k_Model_partOf_0 16 rfl) rfl ?_
    exact ⟨rfl, rfl, by rw [evM_inc, h2]⟩
set_option maxHeartbeats 2000000 in
theorem ev_partBf {sh : gS} {g : gM} (hx : gFix sh) (hf : gFin g) {T V : Int → Int} {b : Int} {w : Int → Int} (E : EvC T V b false w g) {D : Nat} (hD : 3 ≤ D) (p p2 : Int) (s : PS) (hp : 0 ≤ p ∧ p ≤ 401) (live br : Int) (hl : live = 0 ∨ live = 1) (hb : br = 0 ∨ br = 1) (hT : T p = 50) (h2 : p2 = p + 1) (hs : s = fun _ => some (V p)) : gTri f_Model_partOf D 0 0 [(2, 177), (0, live)] sh (evM g (b + p) br) (gR (some (1, evV live br (s w))) sh (evM g (b + p2) (evB live br (s w)))) := by
  have hfe := fun x y => hf.ev x y
  have h1 := E.1
  have hrg := E.rg p hp.1
  have hv := E.val p hp.1 (by omega)
  have hlt := E.lt p hp.1 (by omega)
  refine gTri.of (by decide +kernel) rfl ?_
  show gWP f_Model_partOf _ _ _ 0 [(2, 177), (0, live), (9, 0), (9, 0)] [] sh (evM g (b + p) br) _
  refine gw_aload_n (gc k_Model_partOf_0 0 rfl) rfl rfl ?_
  refine gw_bipush (gc k_Model_partOf_0 1 rfl) (by decide) ?_
  refine gw_cS1 (gc k_Model_partOf_0 2 rfl) y_Model_sign ln_Model_220 (c_Model_sign 91) rfl rfl rfl (gble (by omega)) ?_
  rw [show (100 : Int) + 91 = 191 from rfl]
  refine gw_cV1 (gc k_Model_partOf_0 3 rfl) y_Model_passes0 ln_Model_285 (c_passN hx hf E p 191 br (by omega) (by omega) (by omega)) rfl rfl (gAt hx rfl rfl) rfl (gble (by omega)) ?_
  refine gw_if_eq (tgt := 30) (gc k_Model_partOf_0 4 rfl) rfl (by omega) (fun c9 => ?_) (fun c9 => ?_)
  · refine gw_aload_n (gc k_Model_partOf_0 17 rfl) rfl rfl ?_
    refine gw_aload_n (gc k_Model_partOf_0 18 rfl) rfl rfl ?_
    refine gw_getf 22 rfl (gc k_Model_partOf_0 19 rfl) fl_Model_261 (gAt hx rfl rfl) ?_
    refine gw_cV1 (gc k_Model_partOf_0 20 rfl) y_Model_codeAt ln_Model_264 (c_codeAt hx hf E p _ _ (by omega)) rfl rfl (gAt hx rfl rfl) rfl (gble (by omega)) ?_
    refine gw_istore_2 (gc k_Model_partOf_0 21 rfl) rfl rfl ?_
    refine gw_iconst (gc k_Model_partOf_0 22 rfl) ?_
    refine gw_istore_3 (gc k_Model_partOf_0 23 rfl) rfl rfl ?_
    refine gw_aload_n (gc k_Model_partOf_0 24 rfl) rfl rfl ?_
    refine gw_dup (gc k_Model_partOf_0 25 rfl) rfl ?_
    refine gw_getf 22 rfl (gc k_Model_partOf_0 26 rfl) fl_Model_261 (gAt hx rfl rfl) ?_
    refine gw_iconst (gc k_Model_partOf_0 27 rfl) ?_
    refine gw_iadd (gc k_Model_partOf_0 28 rfl) ?_
    refine gw_putIK 22 rfl (gc k_Model_partOf_0 29 rfl) fl_Model_261 (gAt hx rfl rfl) (hfe _ _) rfl (fun _ => ?_)
    rw [evM_inc]
    refine gw_aload_n (gc k_Model_partOf_0 30 rfl) rfl rfl ?_
    refine gw_getf 25 rfl (gc k_Model_partOf_0 31 rfl) fl_Model_291 (gAt hx rfl rfl) ?_
    rw [evM_k _ _ _ (show (25 : Int) ≠ 22 by decide) (by decide), E.2.2.2.1]
    refine gw_if_eq (tgt := 94) (gc k_Model_partOf_0 32 rfl) rfl (by omega) (fun c55 => ?_) (fun c55 => ?_)
    · refine gw_iload_n (gc k_Model_partOf_1 13 rfl) rfl ?_
      refine gw_if_eq (tgt := 105) (gc k_Model_partOf_1 14 rfl) rfl (by omega) (fun c95 => ?_) (fun c95 => ?_)
      · refine gw_lconst0 (gc k_Model_partOf_1 18 rfl) ?_
        refine gw_lreturn (gc k_Model_partOf_1 19 rfl) rfl ?_
        first
        | (have z : live = 0 := by omega
           subst z
           exact ⟨gsl (evV_0).symm, rfl, by rw [evB_0, h2]⟩)
        | (have z : br = 1 := by omega
           subst z
           exact ⟨gsl (evV_b).symm, rfl, by rw [evB_b, h2]⟩)
      · refine gw_aload_n (gc k_Model_partOf_1 15 rfl) rfl rfl ?_
        refine gw_getf 24 rfl (gc k_Model_partOf_1 16 rfl) fl_Model_271 (gAt hx rfl rfl) ?_
        rw [evM_24]
        refine gw_if_eq (tgt := 107) (gc k_Model_partOf_1 17 rfl) rfl (by omega) (fun c102 => ?_) (fun c102 => ?_)
        · refine gw_iload_n (gc k_Model_partOf_1 20 rfl) rfl ?_
          refine gw_bipush (gc k_Model_partOf_1 21 rfl) (by decide) ?_
          refine gw_icmp_ne (tgt := 130) (gc k_Model_partOf_1 22 rfl) rfl (by omega) (fun c110 => ?_) (fun c110 => ?_)
          · exact absurd hT c110
          · refine gw_aload_n (gc k_Model_partOf_1 23 rfl) rfl rfl ?_
            refine gw_getref (gc k_Model_partOf_1 24 rfl) fl_Model_28 (gAt hx rfl rfl) (gRf (hfe _ _) rfl rfl) ?_
            refine gw_sipush (gc k_Model_partOf_1 25 rfl) (by decide) ?_
            refine gw_aload_n (gc k_Model_partOf_1 26 rfl) rfl rfl ?_
            refine gw_getf 22 rfl (gc k_Model_partOf_1 27 rfl) fl_Model_261 (gAt hx rfl rfl) ?_
            rw [evM_22]
            refine gw_iadd (gc k_Model_partOf_1 28 rfl) ?_
            refine gw_iconst (gc k_Model_partOf_1 29 rfl) ?_
            refine gw_isub (gc k_Model_partOf_1 30 rfl) ?_
            refine gw_iald (gc k_Model_partOf_1 31 rfl) (gAt hx rfl rfl) (by omega) ?_
            refine gw_i2l (gc k_Model_partOf_1 32 rfl) (by rw [evM_fn _ _ _ (by decide), show 2852 + (b + (p + 1)) - 1 = 2852 + (b + p) by omega, ← hv.1]; omega) ?_
            refine gw_lreturn (gc k_Model_partOf_1 33 rfl) rfl ?_
            obtain rfl : live = 1 := by omega
            obtain rfl : br = 0 := by omega
            subst hs
            exact ⟨gsl (by rw [evV_s, evM_fn _ _ _ (by decide), show 2852 + (b + (p + 1)) - 1 = 2852 + (b + p) by omega, ← hv.1]), rfl, by rw [evB_s, h2]⟩
        · refine gw_lconst0 (gc k_Model_partOf_1 18 rfl) ?_
          refine gw_lreturn (gc k_Model_partOf_1 19 rfl) rfl ?_
          first
          | (have z : live = 0 := by omega
             subst z
             exact ⟨gsl (evV_0).symm, rfl, by rw [evB_0, h2]⟩)
          | (have z : br = 1 := by omega
             subst z
             exact ⟨gsl (evV_b).symm, rfl, by rw [evB_b, h2]⟩)
    · exact absurd rfl c55
  · exact absurd c9 (by decide)
set_option maxHeartbeats 2000000 in
theorem ev_partBt {sh : gS} {g : gM} (hx : gFix sh) (hf : gFin g) {T V : Int → Int} {b : Int} {w : Int → Int} (E : EvC T V b true w g) {D : Nat} (hD : 3 ≤ D) (p p2 : Int) (s : PS) (hp : 0 ≤ p ∧ p ≤ 401) (live br : Int) (hl : live = 0 ∨ live = 1) (hb : br = 0 ∨ br = 1) (hT : T p = 50) (h2 : p2 = p + 1) (hs : s = fun _ => some (V p)) : gTri f_Model_partOf D 0 0 [(2, 177), (0, live)] sh (evM g (b + p) br) (gR (some (1, evV live br (s w))) sh (evM g (b + p2) (evB live br (s w)))) := by
  have hfe := fun x y => hf.ev x y
  have h1 := E.1
  have hrg := E.rg p hp.1
  have hv := E.val p hp.1 (by omega)
  have hlt := E.lt p hp.1 (by omega)
  refine gTri.of (by decide +kernel) rfl ?_
  show gWP f_Model_partOf _ _ _ 0 [(2, 177), (0, live), (9, 0), (9, 0)] [] sh (evM g (b + p) br) _
  refine gw_aload_n (gc k_Model_partOf_0 0 rfl) rfl rfl ?_
  refine gw_bipush (gc k_Model_partOf_0 1 rfl) (by decide) ?_
  refine gw_cS1 (gc k_Model_partOf_0 2 rfl) y_Model_sign ln_Model_220 (c_Model_sign 91) rfl rfl rfl (gble (by omega)) ?_
  rw [show (100 : Int) + 91 = 191 from rfl]
  refine gw_cV1 (gc k_Model_partOf_0 3 rfl) y_Model_passes0 ln_Model_285 (c_passN hx hf E p 191 br (by omega) (by omega) (by omega)) rfl rfl (gAt hx rfl rfl) rfl (gble (by omega)) ?_
  refine gw_if_eq (tgt := 30) (gc k_Model_partOf_0 4 rfl) rfl (by omega) (fun c9 => ?_) (fun c9 => ?_)
  · refine gw_aload_n (gc k_Model_partOf_0 17 rfl) rfl rfl ?_
    refine gw_aload_n (gc k_Model_partOf_0 18 rfl) rfl rfl ?_
    refine gw_getf 22 rfl (gc k_Model_partOf_0 19 rfl) fl_Model_261 (gAt hx rfl rfl) ?_
    refine gw_cV1 (gc k_Model_partOf_0 20 rfl) y_Model_codeAt ln_Model_264 (c_codeAt hx hf E p _ _ (by omega)) rfl rfl (gAt hx rfl rfl) rfl (gble (by omega)) ?_
    refine gw_istore_2 (gc k_Model_partOf_0 21 rfl) rfl rfl ?_
    refine gw_iconst (gc k_Model_partOf_0 22 rfl) ?_
    refine gw_istore_3 (gc k_Model_partOf_0 23 rfl) rfl rfl ?_
    refine gw_aload_n (gc k_Model_partOf_0 24 rfl) rfl rfl ?_
    refine gw_dup (gc k_Model_partOf_0 25 rfl) rfl ?_
    refine gw_getf 22 rfl (gc k_Model_partOf_0 26 rfl) fl_Model_261 (gAt hx rfl rfl) ?_
    refine gw_iconst (gc k_Model_partOf_0 27 rfl) ?_
    refine gw_iadd (gc k_Model_partOf_0 28 rfl) ?_
    refine gw_putIK 22 rfl (gc k_Model_partOf_0 29 rfl) fl_Model_261 (gAt hx rfl rfl) (hfe _ _) rfl (fun _ => ?_)
    rw [evM_inc]
    refine gw_aload_n (gc k_Model_partOf_0 30 rfl) rfl rfl ?_
    refine gw_getf 25 rfl (gc k_Model_partOf_0 31 rfl) fl_Model_291 (gAt hx rfl rfl) ?_
    rw [evM_k _ _ _ (show (25 : Int) ≠ 22 by decide) (by decide), E.2.2.2.1]
    refine gw_if_eq (tgt := 94) (gc k_Model_partOf_0 32 rfl) rfl (by omega) (fun c55 => ?_) (fun c55 => ?_)
    · exact absurd c55 (by decide)
    · refine gw_iload_n (gc k_Model_partOf_0 33 rfl) rfl ?_
      refine gw_bipush (gc k_Model_partOf_0 34 rfl) (by decide) ?_
      refine gw_icmp_eq (tgt := 70) (gc k_Model_partOf_0 35 rfl) rfl (by omega) (fun c61 => ?_) (fun c61 => ?_)
      · exact absurd c61 (by omega)
      · refine gw_iload_n (gc k_Model_partOf_0 36 rfl) rfl ?_
        refine gw_bipush (gc k_Model_partOf_0 37 rfl) (by decide) ?_
        refine gw_icmp_ne (tgt := 94) (gc k_Model_partOf_0 38 rfl) rfl (by omega) (fun c67 => ?_) (fun c67 => ?_)
        · refine gw_iload_n (gc k_Model_partOf_1 13 rfl) rfl ?_
          refine gw_if_eq (tgt := 105) (gc k_Model_partOf_1 14 rfl) rfl (by omega) (fun c95 => ?_) (fun c95 => ?_)
          · refine gw_lconst0 (gc k_Model_partOf_1 18 rfl) ?_
            refine gw_lreturn (gc k_Model_partOf_1 19 rfl) rfl ?_
            first
            | (have z : live = 0 := by omega
               subst z
               exact ⟨gsl (evV_0).symm, rfl, by rw [evB_0, h2]⟩)
            | (have z : br = 1 := by omega
               subst z
               exact ⟨gsl (evV_b).symm, rfl, by rw [evB_b, h2]⟩)
          · refine gw_aload_n (gc k_Model_partOf_1 15 rfl) rfl rfl ?_
            refine gw_getf 24 rfl (gc k_Model_partOf_1 16 rfl) fl_Model_271 (gAt hx rfl rfl) ?_
            rw [evM_24]
            refine gw_if_eq (tgt := 107) (gc k_Model_partOf_1 17 rfl) rfl (by omega) (fun c102 => ?_) (fun c102 => ?_)
            · refine gw_iload_n (gc k_Model_partOf_1 20 rfl) rfl ?_
              refine gw_bipush (gc k_Model_partOf_1 21 rfl) (by decide) ?_
              refine gw_icmp_ne (tgt := 130) (gc k_Model_partOf_1 22 rfl) rfl (by omega) (fun c110 => ?_) (fun c110 => ?_)
              · exact absurd hT c110
              · refine gw_aload_n (gc k_Model_partOf_1 23 rfl) rfl rfl ?_
                refine gw_getref (gc k_Model_partOf_1 24 rfl) fl_Model_28 (gAt hx rfl rfl) (gRf (hfe _ _) rfl rfl) ?_
                refine gw_sipush (gc k_Model_partOf_1 25 rfl) (by decide) ?_
                refine gw_aload_n (gc k_Model_partOf_1 26 rfl) rfl rfl ?_
                refine gw_getf 22 rfl (gc k_Model_partOf_1 27 rfl) fl_Model_261 (gAt hx rfl rfl) ?_
                rw [evM_22]
                refine gw_iadd (gc k_Model_partOf_1 28 rfl) ?_
                refine gw_iconst (gc k_Model_partOf_1 29 rfl) ?_
                refine gw_isub (gc k_Model_partOf_1 30 rfl) ?_
                refine gw_iald (gc k_Model_partOf_1 31 rfl) (gAt hx rfl rfl) (by omega) ?_
                refine gw_i2l (gc k_Model_partOf_1 32 rfl) (by rw [evM_fn _ _ _ (by decide), show 2852 + (b + (p + 1)) - 1 = 2852 + (b + p) by omega, ← hv.1]; omega) ?_
                refine gw_lreturn (gc k_Model_partOf_1 33 rfl) rfl ?_
                obtain rfl : live = 1 := by omega
                obtain rfl : br = 0 := by omega
                subst hs
                exact ⟨gsl (by rw [evV_s, evM_fn _ _ _ (by decide), show 2852 + (b + (p + 1)) - 1 = 2852 + (b + p) by omega, ← hv.1]), rfl, by rw [evB_s, h2]⟩
            · refine gw_lconst0 (gc k_Model_partOf_1 18 rfl) ?_
              refine gw_lreturn (gc k_Model_partOf_1 19 rfl) rfl ?_
              first
              | (have z : live = 0 := by omega
                 subst z
                 exact ⟨gsl (evV_0).symm, rfl, by rw [evB_0, h2]⟩)
              | (have z : br = 1 := by omega
                 subst z
                 exact ⟨gsl (evV_b).symm, rfl, by rw [evB_b, h2]⟩)
        · exact absurd c67 (by omega)
  · exact absurd c9 (by decide)
set_option maxHeartbeats 2000000 in
theorem ev_partC {sh : gS} {g : gM} (hx : gFix sh) (hf : gFin g) {T V : Int → Int} {b : Int} {w : Int → Int} (E : EvC T V b false w g) {D : Nat} (hD : 3 ≤ D) (p p2 : Int) (s : PS) (hp : 0 ≤ p ∧ p ≤ 401) (live br : Int) (hl : live = 0 ∨ live = 1) (hb : br = 0 ∨ br = 1) (hT : 8 ≤ T p ∧ T p ≤ 17) (h2 : p2 = p + 1) (hs : s = fun w => some (w (lwI (T p)))) : gTri f_Model_partOf D 0 0 [(2, 177), (0, live)] sh (evM g (b + p) br) (gR (some (1, evV live br (s w))) sh (evM g (b + p2) (evB live br (s w)))) := by
  have hfe := fun x y => hf.ev x y
  have h1 := E.1
  have hrg := E.rg p hp.1
  have hw := E.2.2.2.2.2.2.1 rfl (T p) hT.1 hT.2
  have hwb := E.2.2.2.2.2.1 (lwI (T p))
  have hlt := E.lt p hp.1 (by omega)
  refine gTri.of (by decide +kernel) rfl ?_
  show gWP f_Model_partOf _ _ _ 0 [(2, 177), (0, live), (9, 0), (9, 0)] [] sh (evM g (b + p) br) _
  refine gw_aload_n (gc k_Model_partOf_0 0 rfl) rfl rfl ?_
  refine gw_bipush (gc k_Model_partOf_0 1 rfl) (by decide) ?_
  refine gw_cS1 (gc k_Model_partOf_0 2 rfl) y_Model_sign ln_Model_220 (c_Model_sign 91) rfl rfl rfl (gble (by omega)) ?_
  rw [show (100 : Int) + 91 = 191 from rfl]
  refine gw_cV1 (gc k_Model_partOf_0 3 rfl) y_Model_passes0 ln_Model_285 (c_passN hx hf E p 191 br (by omega) (by omega) (by omega)) rfl rfl (gAt hx rfl rfl) rfl (gble (by omega)) ?_
  refine gw_if_eq (tgt := 30) (gc k_Model_partOf_0 4 rfl) rfl (by omega) (fun c9 => ?_) (fun c9 => ?_)
  · refine gw_aload_n (gc k_Model_partOf_0 17 rfl) rfl rfl ?_
    refine gw_aload_n (gc k_Model_partOf_0 18 rfl) rfl rfl ?_
    refine gw_getf 22 rfl (gc k_Model_partOf_0 19 rfl) fl_Model_261 (gAt hx rfl rfl) ?_
    refine gw_cV1 (gc k_Model_partOf_0 20 rfl) y_Model_codeAt ln_Model_264 (c_codeAt hx hf E p _ _ (by omega)) rfl rfl (gAt hx rfl rfl) rfl (gble (by omega)) ?_
    refine gw_istore_2 (gc k_Model_partOf_0 21 rfl) rfl rfl ?_
    refine gw_iconst (gc k_Model_partOf_0 22 rfl) ?_
    refine gw_istore_3 (gc k_Model_partOf_0 23 rfl) rfl rfl ?_
    refine gw_aload_n (gc k_Model_partOf_0 24 rfl) rfl rfl ?_
    refine gw_dup (gc k_Model_partOf_0 25 rfl) rfl ?_
    refine gw_getf 22 rfl (gc k_Model_partOf_0 26 rfl) fl_Model_261 (gAt hx rfl rfl) ?_
    refine gw_iconst (gc k_Model_partOf_0 27 rfl) ?_
    refine gw_iadd (gc k_Model_partOf_0 28 rfl) ?_
    refine gw_putIK 22 rfl (gc k_Model_partOf_0 29 rfl) fl_Model_261 (gAt hx rfl rfl) (hfe _ _) rfl (fun _ => ?_)
    rw [evM_inc]
    refine gw_aload_n (gc k_Model_partOf_0 30 rfl) rfl rfl ?_
    refine gw_getf 25 rfl (gc k_Model_partOf_0 31 rfl) fl_Model_291 (gAt hx rfl rfl) ?_
    rw [evM_k _ _ _ (show (25 : Int) ≠ 22 by decide) (by decide), E.2.2.2.1]
    refine gw_if_eq (tgt := 94) (gc k_Model_partOf_0 32 rfl) rfl (by omega) (fun c55 => ?_) (fun c55 => ?_)
    · refine gw_iload_n (gc k_Model_partOf_1 13 rfl) rfl ?_
      refine gw_if_eq (tgt := 105) (gc k_Model_partOf_1 14 rfl) rfl (by omega) (fun c95 => ?_) (fun c95 => ?_)
      · refine gw_lconst0 (gc k_Model_partOf_1 18 rfl) ?_
        refine gw_lreturn (gc k_Model_partOf_1 19 rfl) rfl ?_
        first
        | (have z : live = 0 := by omega
           subst z
           exact ⟨gsl (evV_0).symm, rfl, by rw [evB_0, h2]⟩)
        | (have z : br = 1 := by omega
           subst z
           exact ⟨gsl (evV_b).symm, rfl, by rw [evB_b, h2]⟩)
      · refine gw_aload_n (gc k_Model_partOf_1 15 rfl) rfl rfl ?_
        refine gw_getf 24 rfl (gc k_Model_partOf_1 16 rfl) fl_Model_271 (gAt hx rfl rfl) ?_
        rw [evM_24]
        refine gw_if_eq (tgt := 107) (gc k_Model_partOf_1 17 rfl) rfl (by omega) (fun c102 => ?_) (fun c102 => ?_)
        · refine gw_iload_n (gc k_Model_partOf_1 20 rfl) rfl ?_
          refine gw_bipush (gc k_Model_partOf_1 21 rfl) (by decide) ?_
          refine gw_icmp_ne (tgt := 130) (gc k_Model_partOf_1 22 rfl) rfl (by omega) (fun c110 => ?_) (fun c110 => ?_)
          · refine gw_aload_n (gc k_Model_partOf_1 34 rfl) rfl rfl ?_
            refine gw_getf 25 rfl (gc k_Model_partOf_1 35 rfl) fl_Model_291 (gAt hx rfl rfl) ?_
            rw [evM_k _ _ _ (show (25 : Int) ≠ 22 by decide) (by decide), E.2.2.2.1]
            refine gw_if_eq (tgt := 147) (gc k_Model_partOf_1 36 rfl) rfl (by omega) (fun c134 => ?_) (fun c134 => ?_)
            · refine gw_aload_n (gc k_Model_partOf_2 3 rfl) rfl rfl ?_
              refine gw_getref (gc k_Model_partOf_2 4 rfl) fl_Model_63 (gAt hx rfl rfl) (gRf (hfe _ _) rfl rfl) ?_
              refine gw_iload_n (gc k_Model_partOf_2 5 rfl) rfl ?_
              refine gw_bipush (gc k_Model_partOf_2 6 rfl) (by decide) ?_
              refine gw_isub (gc k_Model_partOf_2 7 rfl) ?_
              refine gw_iald (gc k_Model_partOf_2 8 rfl) (gAt hx rfl rfl) (by omega) ?_
              rw [evM_fn _ _ _ (show (189 : Int) ≠ 177 by decide), hw]
              refine gw_i2l (gc k_Model_partOf_2 9 rfl) (by omega) ?_
              refine gw_lreturn (gc k_Model_partOf_2 10 rfl) rfl ?_
              obtain rfl : live = 1 := by omega
              obtain rfl : br = 0 := by omega
              subst hs
              exact ⟨gsl (by rw [evV_s]), rfl, by rw [evB_s, h2]⟩
            · exact absurd rfl c134
          · exact absurd c110 (by omega)
        · refine gw_lconst0 (gc k_Model_partOf_1 18 rfl) ?_
          refine gw_lreturn (gc k_Model_partOf_1 19 rfl) rfl ?_
          first
          | (have z : live = 0 := by omega
             subst z
             exact ⟨gsl (evV_0).symm, rfl, by rw [evB_0, h2]⟩)
          | (have z : br = 1 := by omega
             subst z
             exact ⟨gsl (evV_b).symm, rfl, by rw [evB_b, h2]⟩)
    · exact absurd rfl c55
  · exact absurd c9 (by decide)
set_option maxHeartbeats 2000000 in
theorem ev_partD {sh : gS} {g : gM} (hx : gFix sh) (hf : gFin g) {T V : Int → Int} {b : Int} {w : Int → Int} (E : EvC T V b true w g) {D : Nat} (hD : 3 ≤ D) (p p2 : Int) (s : PS) (hp : 0 ≤ p ∧ p ≤ 401) (live br : Int) (hl : live = 0 ∨ live = 1) (hb : br = 0 ∨ br = 1) (hT : 17 ≤ T p ∧ T p ≤ 21) (h2 : p2 = p + 1) (hs : s = fun w => some (w (T p - 17))) : gTri f_Model_partOf D 0 0 [(2, 177), (0, live)] sh (evM g (b + p) br) (gR (some (1, evV live br (s w))) sh (evM g (b + p2) (evB live br (s w)))) := by
  have hfe := fun x y => hf.ev x y
  have h1 := E.1
  have hrg := E.rg p hp.1
  have hwb := E.2.2.2.2.2.1 (T p - 17)
  have hlt := E.lt p hp.1 (by omega)
  refine gTri.of (by decide +kernel) rfl ?_
  show gWP f_Model_partOf _ _ _ 0 [(2, 177), (0, live), (9, 0), (9, 0)] [] sh (evM g (b + p) br) _
  refine gw_aload_n (gc k_Model_partOf_0 0 rfl) rfl rfl ?_
  refine gw_bipush (gc k_Model_partOf_0 1 rfl) (by decide) ?_
  refine gw_cS1 (gc k_Model_partOf_0 2 rfl) y_Model_sign ln_Model_220 (c_Model_sign 91) rfl rfl rfl (gble (by omega)) ?_
  rw [show (100 : Int) + 91 = 191 from rfl]
  refine gw_cV1 (gc k_Model_partOf_0 3 rfl) y_Model_passes0 ln_Model_285 (c_passN hx hf E p 191 br (by omega) (by omega) (by omega)) rfl rfl (gAt hx rfl rfl) rfl (gble (by omega)) ?_
  refine gw_if_eq (tgt := 30) (gc k_Model_partOf_0 4 rfl) rfl (by omega) (fun c9 => ?_) (fun c9 => ?_)
  · refine gw_aload_n (gc k_Model_partOf_0 17 rfl) rfl rfl ?_
    refine gw_aload_n (gc k_Model_partOf_0 18 rfl) rfl rfl ?_
    refine gw_getf 22 rfl (gc k_Model_partOf_0 19 rfl) fl_Model_261 (gAt hx rfl rfl) ?_
    refine gw_cV1 (gc k_Model_partOf_0 20 rfl) y_Model_codeAt ln_Model_264 (c_codeAt hx hf E p _ _ (by omega)) rfl rfl (gAt hx rfl rfl) rfl (gble (by omega)) ?_
    refine gw_istore_2 (gc k_Model_partOf_0 21 rfl) rfl rfl ?_
    refine gw_iconst (gc k_Model_partOf_0 22 rfl) ?_
    refine gw_istore_3 (gc k_Model_partOf_0 23 rfl) rfl rfl ?_
    refine gw_aload_n (gc k_Model_partOf_0 24 rfl) rfl rfl ?_
    refine gw_dup (gc k_Model_partOf_0 25 rfl) rfl ?_
    refine gw_getf 22 rfl (gc k_Model_partOf_0 26 rfl) fl_Model_261 (gAt hx rfl rfl) ?_
    refine gw_iconst (gc k_Model_partOf_0 27 rfl) ?_
    refine gw_iadd (gc k_Model_partOf_0 28 rfl) ?_
    refine gw_putIK 22 rfl (gc k_Model_partOf_0 29 rfl) fl_Model_261 (gAt hx rfl rfl) (hfe _ _) rfl (fun _ => ?_)
    rw [evM_inc]
    refine gw_aload_n (gc k_Model_partOf_0 30 rfl) rfl rfl ?_
    refine gw_getf 25 rfl (gc k_Model_partOf_0 31 rfl) fl_Model_291 (gAt hx rfl rfl) ?_
    rw [evM_k _ _ _ (show (25 : Int) ≠ 22 by decide) (by decide), E.2.2.2.1]
    refine gw_if_eq (tgt := 94) (gc k_Model_partOf_0 32 rfl) rfl (by omega) (fun c55 => ?_) (fun c55 => ?_)
    · exact absurd c55 (by decide)
    · refine gw_iload_n (gc k_Model_partOf_0 33 rfl) rfl ?_
      refine gw_bipush (gc k_Model_partOf_0 34 rfl) (by decide) ?_
      refine gw_icmp_eq (tgt := 70) (gc k_Model_partOf_0 35 rfl) rfl (by omega) (fun c61 => ?_) (fun c61 => ?_)
      · exact absurd c61 (by omega)
      · refine gw_iload_n (gc k_Model_partOf_0 36 rfl) rfl ?_
        refine gw_bipush (gc k_Model_partOf_0 37 rfl) (by decide) ?_
        refine gw_icmp_ne (tgt := 94) (gc k_Model_partOf_0 38 rfl) rfl (by omega) (fun c67 => ?_) (fun c67 => ?_)
        · refine gw_iload_n (gc k_Model_partOf_1 13 rfl) rfl ?_
          refine gw_if_eq (tgt := 105) (gc k_Model_partOf_1 14 rfl) rfl (by omega) (fun c95 => ?_) (fun c95 => ?_)
          · refine gw_lconst0 (gc k_Model_partOf_1 18 rfl) ?_
            refine gw_lreturn (gc k_Model_partOf_1 19 rfl) rfl ?_
            first
            | (have z : live = 0 := by omega
               subst z
               exact ⟨gsl (evV_0).symm, rfl, by rw [evB_0, h2]⟩)
            | (have z : br = 1 := by omega
               subst z
               exact ⟨gsl (evV_b).symm, rfl, by rw [evB_b, h2]⟩)
          · refine gw_aload_n (gc k_Model_partOf_1 15 rfl) rfl rfl ?_
            refine gw_getf 24 rfl (gc k_Model_partOf_1 16 rfl) fl_Model_271 (gAt hx rfl rfl) ?_
            rw [evM_24]
            refine gw_if_eq (tgt := 107) (gc k_Model_partOf_1 17 rfl) rfl (by omega) (fun c102 => ?_) (fun c102 => ?_)
            · refine gw_iload_n (gc k_Model_partOf_1 20 rfl) rfl ?_
              refine gw_bipush (gc k_Model_partOf_1 21 rfl) (by decide) ?_
              refine gw_icmp_ne (tgt := 130) (gc k_Model_partOf_1 22 rfl) rfl (by omega) (fun c110 => ?_) (fun c110 => ?_)
              · refine gw_aload_n (gc k_Model_partOf_1 34 rfl) rfl rfl ?_
                refine gw_getf 25 rfl (gc k_Model_partOf_1 35 rfl) fl_Model_291 (gAt hx rfl rfl) ?_
                rw [evM_k _ _ _ (show (25 : Int) ≠ 22 by decide) (by decide), E.2.2.2.1]
                refine gw_if_eq (tgt := 147) (gc k_Model_partOf_1 36 rfl) rfl (by omega) (fun c134 => ?_) (fun c134 => ?_)
                · exact absurd c134 (by decide)
                · refine gw_aload_n (gc k_Model_partOf_1 37 rfl) rfl rfl ?_
                  refine gw_iload_n (gc k_Model_partOf_1 38 rfl) rfl ?_
                  refine gw_iload_n (gc k_Model_partOf_1 39 rfl) rfl ?_
                  refine gw_cV1 (gc k_Model_partOf_2 0 rfl) y_Model_orderValue ln_Model_294 (c_Model_orderValue hx hf E (T p) 0 _ _ (by omega) (by omega)) rfl rfl (gAt hx rfl rfl) rfl (gble (by omega)) ?_
                  rw [if_neg (show ¬ T p = 15 by omega), if_neg (show ¬ T p = 16 by omega)]
                  refine gw_i2l (gc k_Model_partOf_2 1 rfl) (by omega) ?_
                  refine gw_goto (tgt := 157) (gc k_Model_partOf_2 2 rfl) rfl ?_
                  refine gw_lreturn (gc k_Model_partOf_2 10 rfl) rfl ?_
                  obtain rfl : live = 1 := by omega
                  obtain rfl : br = 0 := by omega
                  subst hs
                  exact ⟨gsl (by rw [evV_s]), rfl, by rw [evB_s, h2]⟩
              · exact absurd c110 (by omega)
            · refine gw_lconst0 (gc k_Model_partOf_1 18 rfl) ?_
              refine gw_lreturn (gc k_Model_partOf_1 19 rfl) rfl ?_
              first
              | (have z : live = 0 := by omega
                 subst z
                 exact ⟨gsl (evV_0).symm, rfl, by rw [evB_0, h2]⟩)
              | (have z : br = 1 := by omega
                 subst z
                 exact ⟨gsl (evV_b).symm, rfl, by rw [evB_b, h2]⟩)
        · exact absurd c67 (by omega)
  · exact absurd c9 (by decide)
set_option maxHeartbeats 2000000 in
theorem ev_partE {sh : gS} {g : gM} (hx : gFix sh) (hf : gFin g) {T V : Int → Int} {b : Int} {w : Int → Int} (E : EvC T V b true w g) {D : Nat} (hD : 3 ≤ D) (p p2 : Int) (s : PS) (hp : 0 ≤ p ∧ p ≤ 401) (live br : Int) (hl : live = 0 ∨ live = 1) (hb : br = 0 ∨ br = 1) (hT : T p = 15 ∨ T p = 16) (hT2 : T (p + 1) = 50) (hV : V (p + 1) ≤ 11) (h2 : p2 = p + 2) (hs : s = fun w => some (w ((if T p = 15 then 5 else 17) + V (p + 1)))) : gTri f_Model_partOf D 0 0 [(2, 177), (0, live)] sh (evM g (b + p) br) (gR (some (1, evV live br (s w))) sh (evM g (b + p2) (evB live br (s w)))) := by
  have hfe := fun x y => hf.ev x y
  have h1 := E.1
  have hrg := E.rg p hp.1
  have hv := E.val (p + 1) (by omega) (by omega)
  have hwb := E.2.2.2.2.2.1 ((if T p = 15 then 5 else 17) + V (p + 1))
  have hlt := E.lt (p + 1) (by omega) (by omega)
  refine gTri.of (by decide +kernel) rfl ?_
  show gWP f_Model_partOf _ _ _ 0 [(2, 177), (0, live), (9, 0), (9, 0)] [] sh (evM g (b + p) br) _
  refine gw_aload_n (gc k_Model_partOf_0 0 rfl) rfl rfl ?_
  refine gw_bipush (gc k_Model_partOf_0 1 rfl) (by decide) ?_
  refine gw_cS1 (gc k_Model_partOf_0 2 rfl) y_Model_sign ln_Model_220 (c_Model_sign 91) rfl rfl rfl (gble (by omega)) ?_
  rw [show (100 : Int) + 91 = 191 from rfl]
  refine gw_cV1 (gc k_Model_partOf_0 3 rfl) y_Model_passes0 ln_Model_285 (c_passN hx hf E p 191 br (by omega) (by omega) (by omega)) rfl rfl (gAt hx rfl rfl) rfl (gble (by omega)) ?_
  refine gw_if_eq (tgt := 30) (gc k_Model_partOf_0 4 rfl) rfl (by omega) (fun c9 => ?_) (fun c9 => ?_)
  · refine gw_aload_n (gc k_Model_partOf_0 17 rfl) rfl rfl ?_
    refine gw_aload_n (gc k_Model_partOf_0 18 rfl) rfl rfl ?_
    refine gw_getf 22 rfl (gc k_Model_partOf_0 19 rfl) fl_Model_261 (gAt hx rfl rfl) ?_
    refine gw_cV1 (gc k_Model_partOf_0 20 rfl) y_Model_codeAt ln_Model_264 (c_codeAt hx hf E p _ _ (by omega)) rfl rfl (gAt hx rfl rfl) rfl (gble (by omega)) ?_
    refine gw_istore_2 (gc k_Model_partOf_0 21 rfl) rfl rfl ?_
    refine gw_iconst (gc k_Model_partOf_0 22 rfl) ?_
    refine gw_istore_3 (gc k_Model_partOf_0 23 rfl) rfl rfl ?_
    refine gw_aload_n (gc k_Model_partOf_0 24 rfl) rfl rfl ?_
    refine gw_dup (gc k_Model_partOf_0 25 rfl) rfl ?_
    refine gw_getf 22 rfl (gc k_Model_partOf_0 26 rfl) fl_Model_261 (gAt hx rfl rfl) ?_
    refine gw_iconst (gc k_Model_partOf_0 27 rfl) ?_
    refine gw_iadd (gc k_Model_partOf_0 28 rfl) ?_
    refine gw_putIK 22 rfl (gc k_Model_partOf_0 29 rfl) fl_Model_261 (gAt hx rfl rfl) (hfe _ _) rfl (fun _ => ?_)
    rw [evM_inc]
    refine gw_aload_n (gc k_Model_partOf_0 30 rfl) rfl rfl ?_
    refine gw_getf 25 rfl (gc k_Model_partOf_0 31 rfl) fl_Model_291 (gAt hx rfl rfl) ?_
    rw [evM_k _ _ _ (show (25 : Int) ≠ 22 by decide) (by decide), E.2.2.2.1]
    refine gw_if_eq (tgt := 94) (gc k_Model_partOf_0 32 rfl) rfl (by omega) (fun c55 => ?_) (fun c55 => ?_)
    · exact absurd c55 (by decide)
    · refine gw_iload_n (gc k_Model_partOf_0 33 rfl) rfl ?_
      refine gw_bipush (gc k_Model_partOf_0 34 rfl) (by decide) ?_
      refine gw_icmp_eq (tgt := 70) (gc k_Model_partOf_0 35 rfl) rfl (by omega) (fun c61 => ?_) (fun c61 => ?_)
      · refine gw_aload_n (gc k_Model_partOf_0 39 rfl) rfl rfl ?_
        refine gw_getref (gc k_Model_partOf_1 0 rfl) fl_Model_28 (gAt hx rfl rfl) (gRf (hfe _ _) rfl rfl) ?_
        refine gw_sipush (gc k_Model_partOf_1 1 rfl) (by decide) ?_
        refine gw_aload_n (gc k_Model_partOf_1 2 rfl) rfl rfl ?_
        refine gw_getf 22 rfl (gc k_Model_partOf_1 3 rfl) fl_Model_261 (gAt hx rfl rfl) ?_
        rw [evM_22]
        refine gw_iadd (gc k_Model_partOf_1 4 rfl) ?_
        refine gw_iald (gc k_Model_partOf_1 5 rfl) (gAt hx rfl rfl) (by omega) ?_
        rw [evM_fn _ _ _ (show (179 : Int) ≠ 177 by decide), ← hv.1]
        refine gw_istore_3 (gc k_Model_partOf_1 6 rfl) rfl rfl ?_
        refine gw_aload_n (gc k_Model_partOf_1 7 rfl) rfl rfl ?_
        refine gw_dup (gc k_Model_partOf_1 8 rfl) rfl ?_
        refine gw_getf 22 rfl (gc k_Model_partOf_1 9 rfl) fl_Model_261 (gAt hx rfl rfl) ?_
        refine gw_iconst (gc k_Model_partOf_1 10 rfl) ?_
        refine gw_iadd (gc k_Model_partOf_1 11 rfl) ?_
        refine gw_putIK 22 rfl (gc k_Model_partOf_1 12 rfl) fl_Model_261 (gAt hx rfl rfl) (hfe _ _) rfl (fun _ => ?_)
        rw [evM_inc, show p + 1 + 1 = p + 2 by omega]
        refine gw_iload_n (gc k_Model_partOf_1 13 rfl) rfl ?_
        refine gw_if_eq (tgt := 105) (gc k_Model_partOf_1 14 rfl) rfl (by omega) (fun c95 => ?_) (fun c95 => ?_)
        · refine gw_lconst0 (gc k_Model_partOf_1 18 rfl) ?_
          refine gw_lreturn (gc k_Model_partOf_1 19 rfl) rfl ?_
          first
          | (have z : live = 0 := by omega
             subst z
             exact ⟨gsl (evV_0).symm, rfl, by rw [evB_0, h2]⟩)
          | (have z : br = 1 := by omega
             subst z
             exact ⟨gsl (evV_b).symm, rfl, by rw [evB_b, h2]⟩)
        · refine gw_aload_n (gc k_Model_partOf_1 15 rfl) rfl rfl ?_
          refine gw_getf 24 rfl (gc k_Model_partOf_1 16 rfl) fl_Model_271 (gAt hx rfl rfl) ?_
          rw [evM_24]
          refine gw_if_eq (tgt := 107) (gc k_Model_partOf_1 17 rfl) rfl (by omega) (fun c102 => ?_) (fun c102 => ?_)
          · refine gw_iload_n (gc k_Model_partOf_1 20 rfl) rfl ?_
            refine gw_bipush (gc k_Model_partOf_1 21 rfl) (by decide) ?_
            refine gw_icmp_ne (tgt := 130) (gc k_Model_partOf_1 22 rfl) rfl (by omega) (fun c110 => ?_) (fun c110 => ?_)
            · refine gw_aload_n (gc k_Model_partOf_1 34 rfl) rfl rfl ?_
              refine gw_getf 25 rfl (gc k_Model_partOf_1 35 rfl) fl_Model_291 (gAt hx rfl rfl) ?_
              rw [evM_k _ _ _ (show (25 : Int) ≠ 22 by decide) (by decide), E.2.2.2.1]
              refine gw_if_eq (tgt := 147) (gc k_Model_partOf_1 36 rfl) rfl (by omega) (fun c134 => ?_) (fun c134 => ?_)
              · exact absurd c134 (by decide)
              · refine gw_aload_n (gc k_Model_partOf_1 37 rfl) rfl rfl ?_
                refine gw_iload_n (gc k_Model_partOf_1 38 rfl) rfl ?_
                refine gw_iload_n (gc k_Model_partOf_1 39 rfl) rfl ?_
                refine gw_cV1 (gc k_Model_partOf_2 0 rfl) y_Model_orderValue ln_Model_294 (c_Model_orderValue hx hf E (T p) (V (p + 1)) _ _ (by omega) (by omega)) rfl rfl (gAt hx rfl rfl) rfl (gble (by omega)) ?_
                rw [show (if T p = 15 then w (5 + V (p + 1)) else if T p = 16 then w (17 + V (p + 1)) else w (T p - 17)) = w ((if T p = 15 then 5 else 17) + V (p + 1)) from by rcases hT with q | q <;> rw [q] <;> rfl]
                refine gw_i2l (gc k_Model_partOf_2 1 rfl) (by omega) ?_
                refine gw_goto (tgt := 157) (gc k_Model_partOf_2 2 rfl) rfl ?_
                refine gw_lreturn (gc k_Model_partOf_2 10 rfl) rfl ?_
                obtain rfl : live = 1 := by omega
                obtain rfl : br = 0 := by omega
                subst hs
                exact ⟨gsl (by rw [evV_s]), rfl, by rw [evB_s, h2]⟩
            · exact absurd c110 (by omega)
          · refine gw_lconst0 (gc k_Model_partOf_1 18 rfl) ?_
            refine gw_lreturn (gc k_Model_partOf_1 19 rfl) rfl ?_
            first
            | (have z : live = 0 := by omega
               subst z
               exact ⟨gsl (evV_0).symm, rfl, by rw [evB_0, h2]⟩)
            | (have z : br = 1 := by omega
               subst z
               exact ⟨gsl (evV_b).symm, rfl, by rw [evB_b, h2]⟩)
      · refine gw_iload_n (gc k_Model_partOf_0 36 rfl) rfl ?_
        refine gw_bipush (gc k_Model_partOf_0 37 rfl) (by decide) ?_
        refine gw_icmp_ne (tgt := 94) (gc k_Model_partOf_0 38 rfl) rfl (by omega) (fun c67 => ?_) (fun c67 => ?_)
        · exact absurd c67 (by omega)
        · refine gw_aload_n (gc k_Model_partOf_0 39 rfl) rfl rfl ?_
          refine gw_getref (gc k_Model_partOf_1 0 rfl) fl_Model_28 (gAt hx rfl rfl) (gRf (hfe _ _) rfl rfl) ?_
          refine gw_sipush (gc k_Model_partOf_1 1 rfl) (by decide) ?_
          refine gw_aload_n (gc k_Model_partOf_1 2 rfl) rfl rfl ?_
          refine gw_getf 22 rfl (gc k_Model_partOf_1 3 rfl) fl_Model_261 (gAt hx rfl rfl) ?_
          rw [evM_22]
          refine gw_iadd (gc k_Model_partOf_1 4 rfl) ?_
          refine gw_iald (gc k_Model_partOf_1 5 rfl) (gAt hx rfl rfl) (by omega) ?_
          rw [evM_fn _ _ _ (show (179 : Int) ≠ 177 by decide), ← hv.1]
          refine gw_istore_3 (gc k_Model_partOf_1 6 rfl) rfl rfl ?_
          refine gw_aload_n (gc k_Model_partOf_1 7 rfl) rfl rfl ?_
          refine gw_dup (gc k_Model_partOf_1 8 rfl) rfl ?_
          refine gw_getf 22 rfl (gc k_Model_partOf_1 9 rfl) fl_Model_261 (gAt hx rfl rfl) ?_
          refine gw_iconst (gc k_Model_partOf_1 10 rfl) ?_
          refine gw_iadd (gc k_Model_partOf_1 11 rfl) ?_
          refine gw_putIK 22 rfl (gc k_Model_partOf_1 12 rfl) fl_Model_261 (gAt hx rfl rfl) (hfe _ _) rfl (fun _ => ?_)
          rw [evM_inc, show p + 1 + 1 = p + 2 by omega]
          refine gw_iload_n (gc k_Model_partOf_1 13 rfl) rfl ?_
          refine gw_if_eq (tgt := 105) (gc k_Model_partOf_1 14 rfl) rfl (by omega) (fun c95 => ?_) (fun c95 => ?_)
          · refine gw_lconst0 (gc k_Model_partOf_1 18 rfl) ?_
            refine gw_lreturn (gc k_Model_partOf_1 19 rfl) rfl ?_
            first
            | (have z : live = 0 := by omega
               subst z
               exact ⟨gsl (evV_0).symm, rfl, by rw [evB_0, h2]⟩)
            | (have z : br = 1 := by omega
               subst z
               exact ⟨gsl (evV_b).symm, rfl, by rw [evB_b, h2]⟩)
          · refine gw_aload_n (gc k_Model_partOf_1 15 rfl) rfl rfl ?_
            refine gw_getf 24 rfl (gc k_Model_partOf_1 16 rfl) fl_Model_271 (gAt hx rfl rfl) ?_
            rw [evM_24]
            refine gw_if_eq (tgt := 107) (gc k_Model_partOf_1 17 rfl) rfl (by omega) (fun c102 => ?_) (fun c102 => ?_)
            · refine gw_iload_n (gc k_Model_partOf_1 20 rfl) rfl ?_
              refine gw_bipush (gc k_Model_partOf_1 21 rfl) (by decide) ?_
              refine gw_icmp_ne (tgt := 130) (gc k_Model_partOf_1 22 rfl) rfl (by omega) (fun c110 => ?_) (fun c110 => ?_)
              · refine gw_aload_n (gc k_Model_partOf_1 34 rfl) rfl rfl ?_
                refine gw_getf 25 rfl (gc k_Model_partOf_1 35 rfl) fl_Model_291 (gAt hx rfl rfl) ?_
                rw [evM_k _ _ _ (show (25 : Int) ≠ 22 by decide) (by decide), E.2.2.2.1]
                refine gw_if_eq (tgt := 147) (gc k_Model_partOf_1 36 rfl) rfl (by omega) (fun c134 => ?_) (fun c134 => ?_)
                · exact absurd c134 (by decide)
                · refine gw_aload_n (gc k_Model_partOf_1 37 rfl) rfl rfl ?_
                  refine gw_iload_n (gc k_Model_partOf_1 38 rfl) rfl ?_
                  refine gw_iload_n (gc k_Model_partOf_1 39 rfl) rfl ?_
                  refine gw_cV1 (gc k_Model_partOf_2 0 rfl) y_Model_orderValue ln_Model_294 (c_Model_orderValue hx hf E (T p) (V (p + 1)) _ _ (by omega) (by omega)) rfl rfl (gAt hx rfl rfl) rfl (gble (by omega)) ?_
                  rw [show (if T p = 15 then w (5 + V (p + 1)) else if T p = 16 then w (17 + V (p + 1)) else w (T p - 17)) = w ((if T p = 15 then 5 else 17) + V (p + 1)) from by rcases hT with q | q <;> rw [q] <;> rfl]
                  refine gw_i2l (gc k_Model_partOf_2 1 rfl) (by omega) ?_
                  refine gw_goto (tgt := 157) (gc k_Model_partOf_2 2 rfl) rfl ?_
                  refine gw_lreturn (gc k_Model_partOf_2 10 rfl) rfl ?_
                  obtain rfl : live = 1 := by omega
                  obtain rfl : br = 0 := by omega
                  subst hs
                  exact ⟨gsl (by rw [evV_s]), rfl, by rw [evB_s, h2]⟩
              · exact absurd c110 (by omega)
            · refine gw_lconst0 (gc k_Model_partOf_1 18 rfl) ?_
              refine gw_lreturn (gc k_Model_partOf_1 19 rfl) rfl ?_
              first
              | (have z : live = 0 := by omega
                 subst z
                 exact ⟨gsl (evV_0).symm, rfl, by rw [evB_0, h2]⟩)
              | (have z : br = 1 := by omega
                 subst z
                 exact ⟨gsl (evV_b).symm, rfl, by rw [evB_b, h2]⟩)
  · exact absurd c9 (by decide)
theorem ev_part {sh : gS} {g : gM} (hx : gFix sh) (hf : gFin g) {T V : Int → Int} {b : Int} {o : Bool} {w : Int → Int} (E : EvC T V b o w g) {D : Nat} (hD : 3 ≤ D) {sub : Option (Int → Int → PR)} (hs : ∀ f, sub = some f → ∃ d, d + 1 ≤ D ∧ EvL sh g b w 1 f_Model_sumOf d f) : EvL sh g b w 1 f_Model_partOf D (pPartW T V o sub) := by
  intro p n p2 n2 c s e hp
  have hwb := E.2.2.2.2.2.1
  have h1 := E.1
  rcases pPartW_cases e with ⟨hT, f, q, hsub, hfq, hq, h2⟩ | ⟨hT, hV, _, h2, _, _, hs2⟩ | ⟨rfl, hT, _, h2, _, _, hs2⟩ | ⟨rfl, hT, _, h2, _, _, hs2⟩ | ⟨rfl, hT, hT2, hV, _, h2, _, _, hs2⟩
  · obtain ⟨d, hd, hE⟩ := hs f hsub
    have hlt := E.lt p hp.1 (by omega)
    have hS := hE (p + 1) n q n2 c s hfq (by omega)
    have hq0 : 0 ≤ q ∧ q ≤ 401 := by
      by_cases z : 0 ≤ q
      · have := E.lt q z (by omega); omega
      · rw [E.2.1 q, if_neg (by omega)] at hq; omega
    refine ⟨hS.1, fun z => absurd z (by decide), fun live br hl hb => ?_⟩
    exact ev_partA hx hf E hD p p2 s hp live br hl hb hT q hq0 hd (hS.2.2 live br hl hb) h2
  · have hv := E.val p hp.1 (by omega)
    refine ⟨fun v hv2 => ?_, fun z => absurd z (by decide), fun live br hl hb => ?_⟩
    · rw [hs2] at hv2; cases hv2; unfold bd9; omega
    · cases o with
      | false => exact ev_partBf hx hf E hD p p2 s hp live br hl hb hT h2 hs2
      | true => exact ev_partBt hx hf E hD p p2 s hp live br hl hb hT h2 hs2
  · refine ⟨fun v hv2 => ?_, fun z => absurd z (by decide), fun live br hl hb => ?_⟩
    · rw [hs2] at hv2; cases hv2; exact hwb _
    · exact ev_partC hx hf E hD p p2 s hp live br hl hb hT h2 hs2
  · refine ⟨fun v hv2 => ?_, fun z => absurd z (by decide), fun live br hl hb => ?_⟩
    · rw [hs2] at hv2; cases hv2; exact hwb _
    · exact ev_partD hx hf E hD p p2 s hp live br hl hb hT h2 hs2
  · refine ⟨fun v hv2 => ?_, fun z => absurd z (by decide), fun live br hl hb => ?_⟩
    · rw [hs2] at hv2; cases hv2; exact hwb _
    · exact ev_partE hx hf E hD p p2 s hp live br hl hb hT hT2 hV h2 hs2
