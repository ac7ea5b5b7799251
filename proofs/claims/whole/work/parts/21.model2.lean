/-! ===== the reference: its row, what is asked of a note ===== -/
def rowOK (r : Int → Int) : Prop := (0 ≤ r 41 ∧ r 41 ≤ 12) ∧ (∀ i, 0 ≤ i → i < 24 → 0 ≤ r i ∧ r i ≤ 24) ∧ (0 ≤ r 24 ∧ r 24 ≤ 999) ∧ (0 ≤ r 37 ∧ r 37 ≤ 10) ∧ (0 ≤ r 38 ∧ r 38 ≤ 9) ∧ (0 ≤ r 39 ∧ r 39 ≤ 24) ∧ (0 ≤ r 40 ∧ r 40 ≤ 24) ∧ (0 ≤ r 42 ∧ r 42 ≤ 6) ∧ (0 ≤ r 43 ∧ r 43 ≤ 6) ∧ (-1 ≤ r 44 ∧ r 44 < r 43 ∨ r 44 = -1) ∧ (∀ j, 0 ≤ j → j < 6 → (0 ≤ r (25 + 2 * j) ∧ r (25 + 2 * j) ≤ 3) ∧ (-24 ≤ r (25 + 2 * j + 1) ∧ r (25 + 2 * j + 1) ≤ 999)) ∧ (∀ i, 45 ≤ i → i < 52 → 0 ≤ r i ∧ r i ≤ 400) ∧ (∀ i, 52 ≤ i → i < 2852 → 0 ≤ r i ∧ r i ≤ 355) ∧ (∀ i, 2852 ≤ i → i < 5652 → 0 ≤ r i ∧ r i ≤ 20000000)
theorem ro_many {r : Int → Int} (h : rowOK r) : 0 ≤ r 41 ∧ r 41 ≤ 12 := h.1
theorem ro_pitch {r : Int → Int} (h : rowOK r) (i : Int) (h0 : 0 ≤ i ∧ i < 24) : 0 ≤ r i ∧ r i ≤ 24 := h.2.1 i h0.1 h0.2
theorem ro_day {r : Int → Int} (h : rowOK r) : 0 ≤ r 24 ∧ r 24 ≤ 999 := h.2.2.1
theorem ro_slips {r : Int → Int} (h : rowOK r) : 0 ≤ r 37 ∧ r 37 ≤ 10 := h.2.2.2.1
theorem ro_mood {r : Int → Int} (h : rowOK r) : 0 ≤ r 38 ∧ r 38 ≤ 9 := h.2.2.2.2.1
theorem ro_low {r : Int → Int} (h : rowOK r) : 0 ≤ r 39 ∧ r 39 ≤ 24 := h.2.2.2.2.2.1
theorem ro_high {r : Int → Int} (h : rowOK r) : 0 ≤ r 40 ∧ r 40 ≤ 24 := h.2.2.2.2.2.2.1
theorem ro_heardN {r : Int → Int} (h : rowOK r) : 0 ≤ r 42 ∧ r 42 ≤ 6 := h.2.2.2.2.2.2.2.1
theorem ro_told {r : Int → Int} (h : rowOK r) : 0 ≤ r 43 ∧ r 43 ≤ 6 := h.2.2.2.2.2.2.2.2.1
theorem ro_force {r : Int → Int} (h : rowOK r) : -1 ≤ r 44 ∧ r 44 < 6 := by
  have h1 := h.2.2.2.2.2.2.2.2.2.1
  have h2 := h.2.2.2.2.2.2.2.2.1
  omega
theorem ro_heard {r : Int → Int} (h : rowOK r) (j : Int) (h0 : 0 ≤ j ∧ j < 6) : (0 ≤ r (25 + 2 * j) ∧ r (25 + 2 * j) ≤ 3) ∧ (-24 ≤ r (25 + 2 * j + 1) ∧ r (25 + 2 * j + 1) ≤ 999) := h.2.2.2.2.2.2.2.2.2.2.1 j h0.1 h0.2
theorem ro_size {r : Int → Int} (h : rowOK r) (i : Int) (h0 : 45 ≤ i ∧ i < 52) : 0 ≤ r i ∧ r i ≤ 400 := h.2.2.2.2.2.2.2.2.2.2.2.1 i h0.1 h0.2
theorem ro_code {r : Int → Int} (h : rowOK r) (i : Int) (h0 : 52 ≤ i ∧ i < 2852) : 0 ≤ r i ∧ r i ≤ 355 := h.2.2.2.2.2.2.2.2.2.2.2.2.1 i h0.1 h0.2
theorem ro_value {r : Int → Int} (h : rowOK r) (i : Int) (h0 : 2852 ≤ i ∧ i < 5652) : 0 ≤ r i ∧ r i ≤ 20000000 := h.2.2.2.2.2.2.2.2.2.2.2.2.2 i h0.1 h0.2
/-- what is asked of a note, in the reference's order -/
def askM (r : Int → Int) (n here : Int) (p : Prop) [Decidable p] (ahead : Int) : Int → Int := fun y =>
  if y = 0 then n else if y = 1 then here - r (12 + n) else if y = 2 then (if p then ahead - r (12 + n - 1) else 0) else if y = 3 then (if p then here - ahead else 0)
  else if y = 4 then (if p then r (12 + n) - r (12 + n - 1) else 0) else if y = 5 then bi (n = r 41 - 1) else if y = 6 then r 38 else if y = 7 then here else if y = 8 then r (12 + n) else r 24
/-- the ten asked numbers laid -/
theorem ask_lays (g : gM) (a v0 v1 v2 v3 v4 v5 v6 v7 v8 v9 : Int) : gup (gup (gup (gup (gup (gup (gup (gup (gup (gup g a 0 v0) a 1 v1) a 2 v2) a 3 v3) a 4 v4) a 5 v5) a 6 v6) a 7 v7) a 8 v8) a 9 v9 = gfr g a (fun y => if y = 0 then v0 else if y = 1 then v1 else if y = 2 then v2 else if y = 3 then v3 else if y = 4 then v4 else if y = 5 then v5 else if y = 6 then v6 else if y = 7 then v7 else if y = 8 then v8 else if y = 9 then v9 else g a y) := by
  rw [gup_as g, gup_gfr, gup_gfr, gup_gfr, gup_gfr, gup_gfr, gup_gfr, gup_gfr, gup_gfr, gup_gfr]
  refine gfr_ext g a (fun y => ?_)
  by_cases h0 : y = 0
  · subst h0; rfl
  by_cases h1 : y = 1
  · subst h1; rfl
  by_cases h2 : y = 2
  · subst h2; rfl
  by_cases h3 : y = 3
  · subst h3; rfl
  by_cases h4 : y = 4
  · subst h4; rfl
  by_cases h5 : y = 5
  · subst h5; rfl
  by_cases h6 : y = 6
  · subst h6; rfl
  by_cases h7 : y = 7
  · subst h7; rfl
  by_cases h8 : y = 8
  · subst h8; rfl
  by_cases h9 : y = 9
  · subst h9; rfl
  simp only [h0, h1, h2, h3, h4, h5, h6, h7, h8, h9, if_false]
set_option maxHeartbeats 1000000 in
theorem c_Model_apartOf {sh : gS} {g : gM} (hx : gFix sh) (hf : gFin g) (n : Int) (hn : 0 ≤ n ∧ n < 12) : gTri f_Model_apartOf 0 0 0 [(2, 177), (0, n)] sh g (gR (some (0, g 179 n - g 179 (12 + n))) sh g) := by
  refine gTri.of (by decide +kernel) rfl ?_
  show gWP f_Model_apartOf _ _ _ 0 [(2, 177), (0, n)] [] sh g _
  refine gw_aload_n (gc k_Model_apartOf_0 0 rfl) rfl rfl ?_
  refine gw_getref (gc k_Model_apartOf_0 1 rfl) fl_Model_28 (gAt hx rfl rfl) (gRf hf rfl rfl) ?_
  refine gw_iconst (gc k_Model_apartOf_0 2 rfl) ?_
  refine gw_iload_n (gc k_Model_apartOf_0 3 rfl) rfl ?_
  refine gw_iadd (gc k_Model_apartOf_0 4 rfl) ?_
  refine gw_iald (gc k_Model_apartOf_0 5 rfl) (gAt hx rfl rfl) (by omega) ?_
  refine gw_aload_n (gc k_Model_apartOf_0 6 rfl) rfl rfl ?_
  refine gw_getref (gc k_Model_apartOf_0 7 rfl) fl_Model_28 (gAt hx rfl rfl) (gRf hf rfl rfl) ?_
  refine gw_bipush (gc k_Model_apartOf_0 8 rfl) (by decide) ?_
  refine gw_iload_n (gc k_Model_apartOf_0 9 rfl) rfl ?_
  refine gw_iadd (gc k_Model_apartOf_0 10 rfl) ?_
  refine gw_iald (gc k_Model_apartOf_0 11 rfl) (gAt hx rfl rfl) (by omega) ?_
  refine gw_isub (gc k_Model_apartOf_0 12 rfl) ?_
  refine gw_ireturn (gc k_Model_apartOf_0 13 rfl) rfl ?_
  exact ⟨gsi (by rw [Int.zero_add]), rfl, rfl⟩
set_option maxHeartbeats 1000000 in
theorem c_Model_leapOf {sh : gS} {g : gM} (hx : gFix sh) (hf : gFin g) (n : Int) (hn : 0 ≤ n ∧ n < 12) : gTri f_Model_leapOf 0 0 0 [(2, 177), (0, n)] sh g (gR (some (0, if n = 0 then 0 else g 179 n - g 179 (n - 1))) sh g) := by
  refine gTri.of (by decide +kernel) rfl ?_
  show gWP f_Model_leapOf _ _ _ 0 [(2, 177), (0, n)] [] sh g _
  refine gw_iload_n (gc k_Model_leapOf_0 0 rfl) rfl ?_
  refine gw_if_ne (tgt := 6) (gc k_Model_leapOf_0 1 rfl) rfl (by omega) (fun c1 => ?_) (fun c1 => ?_)
  · refine gw_aload_n (gc k_Model_leapOf_0 4 rfl) rfl rfl ?_
    refine gw_getref (gc k_Model_leapOf_0 5 rfl) fl_Model_28 (gAt hx rfl rfl) (gRf hf rfl rfl) ?_
    refine gw_iconst (gc k_Model_leapOf_0 6 rfl) ?_
    refine gw_iload_n (gc k_Model_leapOf_0 7 rfl) rfl ?_
    refine gw_iadd (gc k_Model_leapOf_0 8 rfl) ?_
    refine gw_iald (gc k_Model_leapOf_0 9 rfl) (gAt hx rfl rfl) (by omega) ?_
    refine gw_aload_n (gc k_Model_leapOf_0 10 rfl) rfl rfl ?_
    refine gw_getref (gc k_Model_leapOf_0 11 rfl) fl_Model_28 (gAt hx rfl rfl) (gRf hf rfl rfl) ?_
    refine gw_iconst (gc k_Model_leapOf_0 12 rfl) ?_
    refine gw_iload_n (gc k_Model_leapOf_0 13 rfl) rfl ?_
    refine gw_iadd (gc k_Model_leapOf_0 14 rfl) ?_
    refine gw_iconst (gc k_Model_leapOf_0 15 rfl) ?_
    refine gw_isub (gc k_Model_leapOf_0 16 rfl) ?_
    refine gw_iald (gc k_Model_leapOf_0 17 rfl) (gAt hx rfl rfl) (by omega) ?_
    refine gw_isub (gc k_Model_leapOf_0 18 rfl) ?_
    refine gw_ireturn (gc k_Model_leapOf_0 19 rfl) rfl ?_
    exact ⟨gsi (by first | (rw [if_pos (by omega)]; done) | rw [if_neg (by omega), Int.zero_add]), rfl, rfl⟩
  · refine gw_iconst (gc k_Model_leapOf_0 2 rfl) ?_
    refine gw_ireturn (gc k_Model_leapOf_0 3 rfl) rfl ?_
    exact ⟨gsi (by first | (rw [if_pos (by omega)]; done) | rw [if_neg (by omega), Int.zero_add]), rfl, rfl⟩
set_option maxHeartbeats 1000000 in
theorem c_Model_at {sh : gS} {g : gM} (hx : gFix sh) (hf : gFin g) (n w : Int) (h : (-2147483648 ≤ n ∧ n ≤ 2147483647) ∧ (-2147483648 ≤ w ∧ w ≤ 2147483647)) (ho : rowOK (g 179)) : gTri f_Model_at 2 0 0 [(2, 177), (0, n), (0, w)] sh g (gR (some (0, if 0 ≤ n ∧ n ≤ g 179 41 - 1 ∧ 0 ≤ w ∧ w ≤ 1 then (if w = 0 then g 179 n - g 179 (12 + n) else if n = 0 then 0 else g 179 n - g 179 (n - 1)) else -1000)) sh g) := by
  refine gTri.of (by decide +kernel) rfl ?_
  show gWP f_Model_at _ _ _ 0 [(2, 177), (0, n), (0, w)] [] sh g _
  have hm := ro_many ho
  refine gw_aload_n (gc k_Model_at_0 0 rfl) rfl rfl ?_
  refine gw_iload_n (gc k_Model_at_0 1 rfl) rfl ?_
  refine gw_cV1 (gc k_Model_at_0 2 rfl) y_Model_isNote ln_Model_124 (c_Model_isNote hx hf n h.1 hm) rfl rfl (gAt hx rfl rfl) rfl rfl ?_
  refine gw_beq (tgt := 17) (gc k_Model_at_0 3 rfl) rfl (fun c5 => ?_) (fun c5 => ?_)
  · refine gw_sipush (gc k_Model_at_0 9 rfl) (by decide) ?_
    refine gw_ireturn (gc k_Model_at_0 10 rfl) rfl ?_
    exact ⟨gsi (by rw [if_neg (by omega)]), rfl, rfl⟩
  · refine gw_iload_n (gc k_Model_at_0 4 rfl) rfl ?_
    refine gw_iconst (gc k_Model_at_0 5 rfl) ?_
    refine gw_iconst (gc k_Model_at_0 6 rfl) ?_
    refine gw_cS1 (gc k_Model_at_0 7 rfl) y_Model_lies ln_Model_18 (c_Model_lies w 0 1 ⟨h.2, by omega, by omega⟩) rfl rfl rfl rfl ?_
    refine gw_bne (tgt := 21) (gc k_Model_at_0 8 rfl) rfl (fun c14 => ?_) (fun c14 => ?_)
    · refine gw_iload_n (gc k_Model_at_0 11 rfl) rfl ?_
      refine gw_if_ne (tgt := 33) (gc k_Model_at_0 12 rfl) rfl (by omega) (fun c22 => ?_) (fun c22 => ?_)
      · refine gw_aload_n (gc k_Model_at_0 17 rfl) rfl rfl ?_
        refine gw_iload_n (gc k_Model_at_0 18 rfl) rfl ?_
        refine gw_cV1 (gc k_Model_at_0 19 rfl) y_Model_leapOf ln_Model_144 (c_Model_leapOf hx hf n (by omega)) rfl rfl (gAt hx rfl rfl) rfl rfl ?_
        refine gw_ireturn (gc k_Model_at_0 20 rfl) rfl ?_
        exact ⟨gsi (by first | rw [if_pos (show 0 ≤ n ∧ n ≤ g 179 41 - 1 ∧ 0 ≤ w ∧ w ≤ 1 from by omega), if_pos (show w = 0 from by assumption)] | rw [if_pos (show 0 ≤ n ∧ n ≤ g 179 41 - 1 ∧ 0 ≤ w ∧ w ≤ 1 from by omega), if_neg (show ¬ w = 0 from by assumption)]), rfl, rfl⟩
      · refine gw_aload_n (gc k_Model_at_0 13 rfl) rfl rfl ?_
        refine gw_iload_n (gc k_Model_at_0 14 rfl) rfl ?_
        refine gw_cV1 (gc k_Model_at_0 15 rfl) y_Model_apartOf ln_Model_141 (c_Model_apartOf hx hf n (by omega)) rfl rfl (gAt hx rfl rfl) rfl rfl ?_
        refine gw_goto (tgt := 38) (gc k_Model_at_0 16 rfl) rfl ?_
        refine gw_ireturn (gc k_Model_at_0 20 rfl) rfl ?_
        exact ⟨gsi (by first | rw [if_pos (show 0 ≤ n ∧ n ≤ g 179 41 - 1 ∧ 0 ≤ w ∧ w ≤ 1 from by omega), if_pos (show w = 0 from by assumption)] | rw [if_pos (show 0 ≤ n ∧ n ≤ g 179 41 - 1 ∧ 0 ≤ w ∧ w ≤ 1 from by omega), if_neg (show ¬ w = 0 from by assumption)]), rfl, rfl⟩
    · refine gw_sipush (gc k_Model_at_0 9 rfl) (by decide) ?_
      refine gw_ireturn (gc k_Model_at_0 10 rfl) rfl ?_
      exact ⟨gsi (by rw [if_neg (by omega)]), rfl, rfl⟩
set_option maxHeartbeats 1000000 in
theorem c_Model_isTerm {sh : gS} {g : gM} (w v : Int) (h : (-2147483648 ≤ w ∧ w ≤ 2147483647) ∧ (-2147483648 ≤ v ∧ v ≤ 2147483647)) : gTri f_Model_isTerm 2 0 0 [(0, w), (0, v)] sh g (gR (some (0, bi (0 ≤ v ∧ ((w = 0 ∧ v ≤ 999) ∨ (w = 1 ∧ v ≤ 10) ∨ (w = 2 ∧ v ≤ 9) ∨ (w = 3 ∧ v ≤ 24) ∨ (w = 4 ∧ v ≤ 24))))) sh g) := by
  refine gTri.of (by decide +kernel) rfl ?_
  show gWP f_Model_isTerm _ _ _ 0 [(0, w), (0, v)] [] sh g _
  refine gw_iload_n (gc k_Model_isTerm_0 0 rfl) rfl ?_
  rcases (show w = 0 ∨ w = 1 ∨ w = 2 ∨ w = 3 ∨ w = 4 ∨ (w < 0 ∨ 4 < w) by omega) with hs1 | hs1 | hs1 | hs1 | hs1 | hs1
  · refine gw_tableIn (tgt := 36) (gc k_Model_isTerm_0 1 rfl) (by omega) (by omega) (by rw [hs1]; rfl) rfl ?_
    refine gw_iload_n (gc k_Model_isTerm_0 2 rfl) rfl ?_
    refine gw_iconst (gc k_Model_isTerm_0 3 rfl) ?_
    refine gw_sipush (gc k_Model_isTerm_0 4 rfl) (by decide) ?_
    refine gw_cS1 (gc k_Model_isTerm_0 5 rfl) y_Model_lies ln_Model_18 (c_Model_lies v 0 999 ⟨h.2, by omega, by omega⟩) rfl rfl rfl rfl ?_
    refine gw_zreturn (gc k_Model_isTerm_0 6 rfl) rfl (bi_01 _) ?_
    exact ⟨gsi (bi_iff (by omega)), rfl, rfl⟩
  · refine gw_tableIn (tgt := 45) (gc k_Model_isTerm_0 1 rfl) (by omega) (by omega) (by rw [hs1]; rfl) rfl ?_
    refine gw_iload_n (gc k_Model_isTerm_0 7 rfl) rfl ?_
    refine gw_iconst (gc k_Model_isTerm_0 8 rfl) ?_
    refine gw_bipush (gc k_Model_isTerm_0 9 rfl) (by decide) ?_
    refine gw_cS1 (gc k_Model_isTerm_0 10 rfl) y_Model_lies ln_Model_18 (c_Model_lies v 0 10 ⟨h.2, by omega, by omega⟩) rfl rfl rfl rfl ?_
    refine gw_zreturn (gc k_Model_isTerm_0 11 rfl) rfl (bi_01 _) ?_
    exact ⟨gsi (bi_iff (by omega)), rfl, rfl⟩
  · refine gw_tableIn (tgt := 53) (gc k_Model_isTerm_0 1 rfl) (by omega) (by omega) (by rw [hs1]; rfl) rfl ?_
    refine gw_iload_n (gc k_Model_isTerm_0 12 rfl) rfl ?_
    refine gw_iconst (gc k_Model_isTerm_0 13 rfl) ?_
    refine gw_bipush (gc k_Model_isTerm_0 14 rfl) (by decide) ?_
    refine gw_cS1 (gc k_Model_isTerm_0 15 rfl) y_Model_lies ln_Model_18 (c_Model_lies v 0 9 ⟨h.2, by omega, by omega⟩) rfl rfl rfl rfl ?_
    refine gw_zreturn (gc k_Model_isTerm_0 16 rfl) rfl (bi_01 _) ?_
    exact ⟨gsi (bi_iff (by omega)), rfl, rfl⟩
  · refine gw_tableIn (tgt := 61) (gc k_Model_isTerm_0 1 rfl) (by omega) (by omega) (by rw [hs1]; rfl) rfl ?_
    refine gw_iload_n (gc k_Model_isTerm_0 17 rfl) rfl ?_
    refine gw_cS1 (gc k_Model_isTerm_0 18 rfl) y_Model_isPitch ln_Model_116 (c_Model_isPitch v h.2) rfl rfl rfl rfl ?_
    refine gw_zreturn (gc k_Model_isTerm_0 19 rfl) rfl (bi_01 _) ?_
    exact ⟨gsi (bi_iff (by omega)), rfl, rfl⟩
  · refine gw_tableIn (tgt := 61) (gc k_Model_isTerm_0 1 rfl) (by omega) (by omega) (by rw [hs1]; rfl) rfl ?_
    refine gw_iload_n (gc k_Model_isTerm_0 17 rfl) rfl ?_
    refine gw_cS1 (gc k_Model_isTerm_0 18 rfl) y_Model_isPitch ln_Model_116 (c_Model_isPitch v h.2) rfl rfl rfl rfl ?_
    refine gw_zreturn (gc k_Model_isTerm_0 19 rfl) rfl (bi_01 _) ?_
    exact ⟨gsi (bi_iff (by omega)), rfl, rfl⟩
  · refine gw_tableOut (tgt := 66) (gc k_Model_isTerm_0 1 rfl) (by omega) (by omega) rfl ?_
    refine gw_iconst (gc k_Model_isTerm_0 20 rfl) ?_
    refine gw_zreturn (gc k_Model_isTerm_0 21 rfl) rfl (by omega) ?_
    exact ⟨bi_f (by omega), rfl, rfl⟩
set_option maxHeartbeats 1000000 in
theorem c_Model_termAt {sh : gS} {g : gM} (w : Int) (h : 0 ≤ w ∧ w ≤ 4) : gTri f_Model_termAt 0 0 0 [(0, w)] sh g (gR (some (0, if w = 0 then 24 else 36 + w)) sh g) := by
  refine gTri.of (by decide +kernel) rfl ?_
  show gWP f_Model_termAt _ _ _ 0 [(0, w)] [] sh g _
  refine gw_iload_n (gc k_Model_termAt_0 0 rfl) rfl ?_
  rcases (show w = 0 ∨ w = 1 ∨ w = 2 ∨ w = 3 ∨ (w < 0 ∨ 3 < w) by omega) with hs1 | hs1 | hs1 | hs1 | hs1
  · refine gw_tableIn (tgt := 32) (gc k_Model_termAt_0 1 rfl) (by omega) (by omega) (by rw [hs1]; rfl) rfl ?_
    refine gw_bipush (gc k_Model_termAt_0 2 rfl) (by decide) ?_
    refine gw_ireturn (gc k_Model_termAt_0 3 rfl) rfl ?_
    exact ⟨gsi (by first | rw [if_pos (by omega)] | (rw [if_neg (by omega)]; omega)), rfl, rfl⟩
  · refine gw_tableIn (tgt := 35) (gc k_Model_termAt_0 1 rfl) (by omega) (by omega) (by rw [hs1]; rfl) rfl ?_
    refine gw_bipush (gc k_Model_termAt_0 4 rfl) (by decide) ?_
    refine gw_ireturn (gc k_Model_termAt_0 5 rfl) rfl ?_
    exact ⟨gsi (by first | rw [if_pos (by omega)] | (rw [if_neg (by omega)]; omega)), rfl, rfl⟩
  · refine gw_tableIn (tgt := 38) (gc k_Model_termAt_0 1 rfl) (by omega) (by omega) (by rw [hs1]; rfl) rfl ?_
    refine gw_bipush (gc k_Model_termAt_0 6 rfl) (by decide) ?_
    refine gw_ireturn (gc k_Model_termAt_0 7 rfl) rfl ?_
    exact ⟨gsi (by first | rw [if_pos (by omega)] | (rw [if_neg (by omega)]; omega)), rfl, rfl⟩
  · refine gw_tableIn (tgt := 41) (gc k_Model_termAt_0 1 rfl) (by omega) (by omega) (by rw [hs1]; rfl) rfl ?_
    refine gw_bipush (gc k_Model_termAt_0 8 rfl) (by decide) ?_
    refine gw_ireturn (gc k_Model_termAt_0 9 rfl) rfl ?_
    exact ⟨gsi (by first | rw [if_pos (by omega)] | (rw [if_neg (by omega)]; omega)), rfl, rfl⟩
  · refine gw_tableOut (tgt := 44) (gc k_Model_termAt_0 1 rfl) (by omega) (by omega) rfl ?_
    refine gw_bipush (gc k_Model_termAt_0 10 rfl) (by decide) ?_
    refine gw_ireturn (gc k_Model_termAt_0 11 rfl) rfl ?_
    exact ⟨gsi (by first | rw [if_pos (by omega)] | (rw [if_neg (by omega)]; omega)), rfl, rfl⟩
set_option maxHeartbeats 1000000 in
theorem c_Model_adds {sh : gS} {g : gM} (hx : gFix sh) (hf : gFin g) (u h : Int) (hm : 0 ≤ g 179 41 ∧ g 179 41 ≤ 11) : gTri f_Model_adds 1 0 0 [(2, 177), (0, u), (0, h)] sh g (gR none sh (gup (gup (gup g 179 (12 + g 179 41) u) 179 (g 179 41) h) 179 41 (g 179 41 + 1))) := by
  refine gTri.of (by decide +kernel) rfl ?_
  show gWP f_Model_adds _ _ _ 0 [(2, 177), (0, u), (0, h)] [] sh g _
  refine gw_aload_n (gc k_Model_adds_0 0 rfl) rfl rfl ?_
  refine gw_getref (gc k_Model_adds_0 1 rfl) fl_Model_28 (gAt hx rfl rfl) (gRf hf rfl rfl) ?_
  refine gw_bipush (gc k_Model_adds_0 2 rfl) (by decide) ?_
  refine gw_aload_n (gc k_Model_adds_0 3 rfl) rfl rfl ?_
  refine gw_cV1 (gc k_Model_adds_0 4 rfl) y_Model_noteMany ln_Model_112 (c_Model_noteMany hx hf) rfl rfl (gAt hx rfl rfl) rfl rfl ?_
  refine gw_iadd (gc k_Model_adds_0 5 rfl) ?_
  refine gw_iload_n (gc k_Model_adds_0 6 rfl) rfl ?_
  have hr12 : gref (179 : Int).toNat (12 + g 179 41).toNat = none := rfl
  refine gw_iastF (gc k_Model_adds_0 7 rfl) (gAt hx rfl rfl) (by omega) hf rfl (fun hf => ?_)
  refine gw_aload_n (gc k_Model_adds_0 8 rfl) rfl rfl ?_
  refine gw_getref (gc k_Model_adds_0 9 rfl) fl_Model_28 (gAt hx rfl rfl) (gRf hf rfl rfl) ?_
  refine gw_iconst (gc k_Model_adds_0 10 rfl) ?_
  refine gw_aload_n (gc k_Model_adds_0 11 rfl) rfl rfl ?_
  refine gw_cV1 (gc k_Model_adds_0 12 rfl) y_Model_noteMany ln_Model_112 (c_Model_noteMany hx hf) rfl rfl (gAt hx rfl rfl) rfl rfl ?_
  refine gw_iadd (gc k_Model_adds_0 13 rfl) ?_
  refine gw_iload_n (gc k_Model_adds_0 14 rfl) rfl ?_
  refine gw_iastF (gc k_Model_adds_0 15 rfl) (gAt hx rfl rfl) (by rw [gup_k _ _ _ _ (by omega)]; omega) hf rfl (fun hf => ?_)
  refine gw_aload_n (gc k_Model_adds_0 16 rfl) rfl rfl ?_
  refine gw_getref (gc k_Model_adds_0 17 rfl) fl_Model_28 (gAt hx rfl rfl) (gRf hf rfl rfl) ?_
  refine gw_bipush (gc k_Model_adds_0 18 rfl) (by decide) ?_
  refine gw_dup2 (gc k_Model_adds_0 19 rfl) rfl ?_
  refine gw_iald (gc k_Model_adds_0 20 rfl) (gAt hx rfl rfl) (by omega) ?_
  refine gw_iconst (gc k_Model_adds_0 21 rfl) ?_
  refine gw_iadd (gc k_Model_adds_0 22 rfl) ?_
  refine gw_iastF (gc k_Model_adds_0 23 rfl) (gAt hx rfl rfl) (by omega) hf rfl (fun hf => ?_)
  refine gw_return (gc k_Model_adds_0 24 rfl) rfl ?_
  have e1 : gup g 179 (12 + g 179 41) u 179 41 = g 179 41 := gup_k _ _ _ _ (by omega)
  have e2 : gup (gup g 179 (12 + g 179 41) u) 179 (0 + g 179 41) h 179 41 = g 179 41 := by rw [gup_k _ _ _ _ (by omega)]; exact e1
  refine ⟨rfl, rfl, ?_⟩
  rw [e1, e2, Int.zero_add]
set_option maxHeartbeats 1000000 in
theorem c_Model_takesNote {sh : gS} {g : gM} (hx : gFix sh) (hf : gFin g) (n here ahead : Int) (p : Prop) [Decidable p] (hn : 0 ≤ n ∧ n < 12) (hp : p → 0 < n) (hm : 0 ≤ g 179 41 ∧ g 179 41 ≤ 12) : gTri f_Model_takesNote 1 0 0 [(2, 177), (0, n), (0, here), (0, bi p), (0, ahead)] sh g (gR none sh (gfr g 189 (fun y => if 0 ≤ y ∧ y < 10 then askM (g 179) n here p ahead y else g 189 y))) := by
  refine gTri.of (by decide +kernel) rfl ?_
  show gWP f_Model_takesNote _ _ _ 0 [(2, 177), (0, n), (0, here), (0, bi p), (0, ahead)] [] sh g _
  refine gw_aload_n (gc k_Model_takesNote_0 0 rfl) rfl rfl ?_
  refine gw_getref (gc k_Model_takesNote_0 1 rfl) fl_Model_63 (gAt hx rfl rfl) (gRf hf rfl rfl) ?_
  refine gw_iconst (gc k_Model_takesNote_0 2 rfl) ?_
  refine gw_iload_n (gc k_Model_takesNote_0 3 rfl) rfl ?_
  refine gw_iastF (gc k_Model_takesNote_0 4 rfl) (gAt hx rfl rfl) (by omega) hf rfl (fun hf => ?_)
  refine gw_aload_n (gc k_Model_takesNote_0 5 rfl) rfl rfl ?_
  refine gw_getref (gc k_Model_takesNote_0 6 rfl) fl_Model_63 (gAt hx rfl rfl) (gRf hf rfl rfl) ?_
  refine gw_iconst (gc k_Model_takesNote_0 7 rfl) ?_
  refine gw_iload_n (gc k_Model_takesNote_0 8 rfl) rfl ?_
  refine gw_aload_n (gc k_Model_takesNote_0 9 rfl) rfl rfl ?_
  refine gw_getref (gc k_Model_takesNote_0 10 rfl) fl_Model_28 (gAt hx rfl rfl) (gRf hf rfl rfl) ?_
  refine gw_bipush (gc k_Model_takesNote_0 11 rfl) (by decide) ?_
  refine gw_iload_n (gc k_Model_takesNote_0 12 rfl) rfl ?_
  refine gw_iadd (gc k_Model_takesNote_0 13 rfl) ?_
  refine gw_iald (gc k_Model_takesNote_0 14 rfl) (gAt hx rfl rfl) (by omega) ?_
  refine gw_isub (gc k_Model_takesNote_0 15 rfl) ?_
  refine gw_iastF (gc k_Model_takesNote_0 16 rfl) (gAt hx rfl rfl) (by omega) hf rfl (fun hf => ?_)
  refine gw_aload_n (gc k_Model_takesNote_0 17 rfl) rfl rfl ?_
  refine gw_getref (gc k_Model_takesNote_0 18 rfl) fl_Model_63 (gAt hx rfl rfl) (gRf hf rfl rfl) ?_
  refine gw_iconst (gc k_Model_takesNote_0 19 rfl) ?_
  refine gw_iload_n (gc k_Model_takesNote_0 20 rfl) rfl ?_
  refine gw_join1 51 (fun v => v = if p then ahead - g 179 (12 + n - 1) else 0) (fun v30 hv30 => ?_) (fun kj30 => ?_)
  · refine gw_iastF (gc k_Model_takesNote_0 34 rfl) (gAt hx rfl rfl) (by omega) hf rfl (fun hf => ?_)
    refine gw_aload_n (gc k_Model_takesNote_0 35 rfl) rfl rfl ?_
    refine gw_getref (gc k_Model_takesNote_0 36 rfl) fl_Model_63 (gAt hx rfl rfl) (gRf hf rfl rfl) ?_
    refine gw_iconst (gc k_Model_takesNote_0 37 rfl) ?_
    refine gw_iload_n (gc k_Model_takesNote_0 38 rfl) rfl ?_
    refine gw_join1 69 (fun v => v = if p then here - ahead else 0) (fun v58 hv58 => ?_) (fun kj58 => ?_)
    · refine gw_iastF (gc k_Model_takesNote_1 5 rfl) (gAt hx rfl rfl) (by omega) hf rfl (fun hf => ?_)
      refine gw_aload_n (gc k_Model_takesNote_1 6 rfl) rfl rfl ?_
      refine gw_getref (gc k_Model_takesNote_1 7 rfl) fl_Model_63 (gAt hx rfl rfl) (gRf hf rfl rfl) ?_
      refine gw_iconst (gc k_Model_takesNote_1 8 rfl) ?_
      refine gw_iload_n (gc k_Model_takesNote_1 9 rfl) rfl ?_
      refine gw_join1 104 (fun v => v = if p then g 179 (12 + n) - g 179 (12 + n - 1) else 0) (fun v76 hv76 => ?_) (fun kj76 => ?_)
      · refine gw_iastF (gc k_Model_takesNote_1 28 rfl) (gAt hx rfl rfl) (by omega) hf rfl (fun hf => ?_)
        refine gw_aload_n (gc k_Model_takesNote_1 29 rfl) rfl rfl ?_
        refine gw_getref (gc k_Model_takesNote_1 30 rfl) fl_Model_63 (gAt hx rfl rfl) (gRf hf rfl rfl) ?_
        refine gw_iconst (gc k_Model_takesNote_1 31 rfl) ?_
        refine gw_iload_n (gc k_Model_takesNote_1 32 rfl) rfl ?_
        refine gw_aload_n (gc k_Model_takesNote_1 33 rfl) rfl rfl ?_
        refine gw_cV1 (gc k_Model_takesNote_1 34 rfl) y_Model_noteMany ln_Model_112 (c_Model_noteMany hx hf) rfl rfl (gAt hx rfl rfl) rfl rfl ?_
        simp only [gup_a _ _ _ _ _ (show (179 : Int) ≠ 189 by decide)]
        refine gw_iconst (gc k_Model_takesNote_1 35 rfl) ?_
        refine gw_isub (gc k_Model_takesNote_1 36 rfl) ?_
        refine gw_join2 125 (fun v => v = bi (n = g 179 41 - 1)) (fun v117 hv117 => ?_) (fun kj117 => ?_)
        · refine gw_iastF (gc k_Model_takesNote_2 1 rfl) (gAt hx rfl rfl) (by omega) hf rfl (fun hf => ?_)
          refine gw_aload_n (gc k_Model_takesNote_2 2 rfl) rfl rfl ?_
          refine gw_getref (gc k_Model_takesNote_2 3 rfl) fl_Model_63 (gAt hx rfl rfl) (gRf hf rfl rfl) ?_
          refine gw_bipush (gc k_Model_takesNote_2 4 rfl) (by decide) ?_
          refine gw_aload_n (gc k_Model_takesNote_2 5 rfl) rfl rfl ?_
          refine gw_getref (gc k_Model_takesNote_2 6 rfl) fl_Model_28 (gAt hx rfl rfl) (gRf hf rfl rfl) ?_
          refine gw_bipush (gc k_Model_takesNote_2 7 rfl) (by decide) ?_
          refine gw_iald (gc k_Model_takesNote_2 8 rfl) (gAt hx rfl rfl) (by omega) ?_
          refine gw_iastF (gc k_Model_takesNote_2 9 rfl) (gAt hx rfl rfl) (by omega) hf rfl (fun hf => ?_)
          refine gw_aload_n (gc k_Model_takesNote_2 10 rfl) rfl rfl ?_
          refine gw_getref (gc k_Model_takesNote_2 11 rfl) fl_Model_63 (gAt hx rfl rfl) (gRf hf rfl rfl) ?_
          refine gw_bipush (gc k_Model_takesNote_2 12 rfl) (by decide) ?_
          refine gw_iload_n (gc k_Model_takesNote_2 13 rfl) rfl ?_
          refine gw_iastF (gc k_Model_takesNote_2 14 rfl) (gAt hx rfl rfl) (by omega) hf rfl (fun hf => ?_)
          refine gw_aload_n (gc k_Model_takesNote_2 15 rfl) rfl rfl ?_
          refine gw_getref (gc k_Model_takesNote_2 16 rfl) fl_Model_63 (gAt hx rfl rfl) (gRf hf rfl rfl) ?_
          refine gw_bipush (gc k_Model_takesNote_2 17 rfl) (by decide) ?_
          refine gw_aload_n (gc k_Model_takesNote_2 18 rfl) rfl rfl ?_
          refine gw_getref (gc k_Model_takesNote_2 19 rfl) fl_Model_28 (gAt hx rfl rfl) (gRf hf rfl rfl) ?_
          refine gw_bipush (gc k_Model_takesNote_2 20 rfl) (by decide) ?_
          refine gw_iload_n (gc k_Model_takesNote_2 21 rfl) rfl ?_
          refine gw_iadd (gc k_Model_takesNote_2 22 rfl) ?_
          refine gw_iald (gc k_Model_takesNote_2 23 rfl) (gAt hx rfl rfl) (by omega) ?_
          refine gw_iastF (gc k_Model_takesNote_2 24 rfl) (gAt hx rfl rfl) (by omega) hf rfl (fun hf => ?_)
          refine gw_aload_n (gc k_Model_takesNote_2 25 rfl) rfl rfl ?_
          refine gw_getref (gc k_Model_takesNote_2 26 rfl) fl_Model_63 (gAt hx rfl rfl) (gRf hf rfl rfl) ?_
          refine gw_bipush (gc k_Model_takesNote_2 27 rfl) (by decide) ?_
          refine gw_aload_n (gc k_Model_takesNote_2 28 rfl) rfl rfl ?_
          refine gw_getref (gc k_Model_takesNote_2 29 rfl) fl_Model_28 (gAt hx rfl rfl) (gRf hf rfl rfl) ?_
          refine gw_bipush (gc k_Model_takesNote_2 30 rfl) (by decide) ?_
          refine gw_iald (gc k_Model_takesNote_2 31 rfl) (gAt hx rfl rfl) (by omega) ?_
          refine gw_iastF (gc k_Model_takesNote_2 32 rfl) (gAt hx rfl rfl) (by omega) hf rfl (fun hf => ?_)
          refine gw_return (gc k_Model_takesNote_2 33 rfl) rfl ?_
          refine ⟨rfl, rfl, ?_⟩
          subst hv30; subst hv58; subst hv76; subst hv117
          rw [ask_lays]
          refine gfr_ext _ _ (fun y => ?_)
          simp only [gup_a _ _ _ _ _ (show (179 : Int) ≠ 189 by decide)]
          unfold askM
          by_cases hy : 0 ≤ y ∧ y < 10
          · rw [if_pos hy]
            rcases (show y = 0 ∨ y = 1 ∨ y = 2 ∨ y = 3 ∨ y = 4 ∨ y = 5 ∨ y = 6 ∨ y = 7 ∨ y = 8 ∨ y = 9 by omega) with q | q | q | q | q | q | q | q | q | q <;> subst q <;> rfl
          · rw [if_neg hy, if_neg (by omega), if_neg (by omega), if_neg (by omega), if_neg (by omega), if_neg (by omega), if_neg (by omega), if_neg (by omega), if_neg (by omega), if_neg (by omega), if_neg (by omega)]
        · refine gw_icmp_ne (tgt := 124) (gc k_Model_takesNote_1 37 rfl) rfl (by omega) (fun c117 => ?_) (fun c117 => ?_)
          · refine gw_iconst (gc k_Model_takesNote_2 0 rfl) ?_
            exact kj117 _ (by first | exact (bi_1 (by assumption)).symm | exact (bi_0 (by assumption)).symm)
          · refine gw_iconst (gc k_Model_takesNote_1 38 rfl) ?_
            refine gw_goto (tgt := 125) (gc k_Model_takesNote_1 39 rfl) rfl ?_
            exact kj117 _ (by first | exact (bi_1 (by assumption)).symm | exact (bi_0 (by assumption)).symm)
      · refine gw_beq (tgt := 103) (gc k_Model_takesNote_1 10 rfl) rfl (fun c76 => ?_) (fun c76 => ?_)
        · refine gw_iconst (gc k_Model_takesNote_1 27 rfl) ?_
          exact kj76 _ (by first | (rw [if_pos (by assumption)]; simp [gup_a]; done) | rw [if_neg (by assumption)])
        · refine gw_aload_n (gc k_Model_takesNote_1 11 rfl) rfl rfl ?_
          refine gw_getref (gc k_Model_takesNote_1 12 rfl) fl_Model_28 (gAt hx rfl rfl) (gRf hf rfl rfl) ?_
          refine gw_bipush (gc k_Model_takesNote_1 13 rfl) (by decide) ?_
          refine gw_iload_n (gc k_Model_takesNote_1 14 rfl) rfl ?_
          refine gw_iadd (gc k_Model_takesNote_1 15 rfl) ?_
          refine gw_iald (gc k_Model_takesNote_1 16 rfl) (gAt hx rfl rfl) (by omega) ?_
          refine gw_aload_n (gc k_Model_takesNote_1 17 rfl) rfl rfl ?_
          refine gw_getref (gc k_Model_takesNote_1 18 rfl) fl_Model_28 (gAt hx rfl rfl) (gRf hf rfl rfl) ?_
          refine gw_bipush (gc k_Model_takesNote_1 19 rfl) (by decide) ?_
          refine gw_iload_n (gc k_Model_takesNote_1 20 rfl) rfl ?_
          refine gw_iadd (gc k_Model_takesNote_1 21 rfl) ?_
          refine gw_iconst (gc k_Model_takesNote_1 22 rfl) ?_
          refine gw_isub (gc k_Model_takesNote_1 23 rfl) ?_
          refine gw_iald (gc k_Model_takesNote_1 24 rfl) (gAt hx rfl rfl) (by omega) ?_
          refine gw_isub (gc k_Model_takesNote_1 25 rfl) ?_
          refine gw_goto (tgt := 104) (gc k_Model_takesNote_1 26 rfl) rfl ?_
          exact kj76 _ (by first | (rw [if_pos (by assumption)]; simp [gup_a]; done) | rw [if_neg (by assumption)])
    · refine gw_beq (tgt := 68) (gc k_Model_takesNote_0 39 rfl) rfl (fun c58 => ?_) (fun c58 => ?_)
      · refine gw_iconst (gc k_Model_takesNote_1 4 rfl) ?_
        exact kj58 _ (by first | rw [if_pos (by assumption)] | rw [if_neg (by assumption)])
      · refine gw_iload_n (gc k_Model_takesNote_1 0 rfl) rfl ?_
        refine gw_iload (gc k_Model_takesNote_1 1 rfl) rfl ?_
        refine gw_isub (gc k_Model_takesNote_1 2 rfl) ?_
        refine gw_goto (tgt := 69) (gc k_Model_takesNote_1 3 rfl) rfl ?_
        exact kj58 _ (by first | rw [if_pos (by assumption)] | rw [if_neg (by assumption)])
  · refine gw_beq (tgt := 50) (gc k_Model_takesNote_0 21 rfl) rfl (fun c30 => ?_) (fun c30 => ?_)
    · refine gw_iconst (gc k_Model_takesNote_0 33 rfl) ?_
      exact kj30 _ (by first | (rw [if_pos (by assumption)]; simp [gup_a]; done) | rw [if_neg (by assumption)])
    · refine gw_iload (gc k_Model_takesNote_0 22 rfl) rfl ?_
      refine gw_aload_n (gc k_Model_takesNote_0 23 rfl) rfl rfl ?_
      refine gw_getref (gc k_Model_takesNote_0 24 rfl) fl_Model_28 (gAt hx rfl rfl) (gRf hf rfl rfl) ?_
      refine gw_bipush (gc k_Model_takesNote_0 25 rfl) (by decide) ?_
      refine gw_iload_n (gc k_Model_takesNote_0 26 rfl) rfl ?_
      refine gw_iadd (gc k_Model_takesNote_0 27 rfl) ?_
      refine gw_iconst (gc k_Model_takesNote_0 28 rfl) ?_
      refine gw_isub (gc k_Model_takesNote_0 29 rfl) ?_
      refine gw_iald (gc k_Model_takesNote_0 30 rfl) (gAt hx rfl rfl) (by omega) ?_
      refine gw_isub (gc k_Model_takesNote_0 31 rfl) ?_
      refine gw_goto (tgt := 51) (gc k_Model_takesNote_0 32 rfl) rfl ?_
      exact kj30 _ (by first | (rw [if_pos (by assumption)]; simp [gup_a]; done) | rw [if_neg (by assumption)])
