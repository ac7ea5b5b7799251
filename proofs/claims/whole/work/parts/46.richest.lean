def riR (r : Int → Int) : Int := if r 41 = 0 then 0 else if 0 ≤ mxV r 0 0 then mxV r 0 0 else -1
def waR (r : Int → Int) : Int := if r 41 = 0 then 1 else wyV r 0 0
theorem mxV_bd {r : Int → Int} (ho : rowOK r) (n h : Int) (hn : 0 ≤ n) : -100000000 ≤ mxV r n h ∧ mxV r n h ≤ 2000 := by
  have hm := ro_many ho
  have := mxF_bd (C := fun q => 1 - vBar r n h q) (P := fun q => vGain r n h q + grR r n q) (lo := r 39) (b := 2000) (by omega) (fun q => by
    have h1 := vGain_bd r n h q
    have h2 := grF_bd r (r 39) (r 40) (r 41 - 1 - n).toNat n q
    show vGain r n h q + grF r (r 39) (r 40) (r 41 - 1 - n).toNat n q ≤ _
    omega) (r 40 + 1 - r 39).toNat
  exact this
set_option maxHeartbeats 2000000 in
theorem ri_step {sh : gS} {g0 : gM} (hx : gFix sh) (hf0 : gFin g0) {r : Int → Int} (ho : rowOK r) (hv : vLaid r g0) (i j : Int) (hi2 : 0 ≤ i ∧ i < r 41) {g : gM} (hs : aUp 195 (grR r) r g0 i j g) (hj : r 39 ≤ j ∧ j ≤ r 40) {Q : gQ} (K : ∀ g3, aUp 195 (grR r) r g0 i (j + 1) g3 → gWP f_Model_richest 46 0 0 32 [(2, 177), (0, i), (0, j + 1)] [] sh g3 Q) : gWP f_Model_richest 46 0 0 32 [(2, 177), (0, i), (0, j)] [] sh g Q := by
  have hf := hs.fin (Or.inl rfl) hf0
  have hm := ro_many ho
  have hv2 := hs.laid (Or.inl rfl) hv
  have em := hv2.1
  have hlo := ro_low ho
  have hhi := ro_high ho
  show gWP f_Model_richest _ _ _ 32 [(2, 177), (0, i), (0, j)] [] sh g _
  skip
  refine gw_iload_n (gc k_Model_richest_0 19 rfl) rfl ?_
  refine gw_aload_n (gc k_Model_richest_0 20 rfl) rfl rfl ?_
  refine gw_getref (gc k_Model_richest_0 21 rfl) fl_Model_28 (gAt hx rfl rfl) (gRf hf rfl rfl) ?_
  refine gw_bipush (gc k_Model_richest_0 22 rfl) (by decide) ?_
  refine gw_iald (gc k_Model_richest_0 23 rfl) (gAt hx rfl rfl) (by omega) ?_
  rw [em]
  refine gw_icmp_gt (tgt := 82) (gc k_Model_richest_0 24 rfl) rfl (by omega) (fun c40 => ?_) (fun c40 => ?_)
  · exact absurd c40 (by omega)
  · refine gw_aload_n (gc k_Model_richest_0 25 rfl) rfl rfl ?_
    refine gw_getref (gc k_Model_richest_0 26 rfl) fl_Model_81 (gAt hx rfl rfl) (gRf hf rfl rfl) ?_
    refine gw_bipush (gc k_Model_richest_0 27 rfl) (by decide) ?_
    refine gw_iload_n (gc k_Model_richest_0 28 rfl) rfl ?_
    refine gw_imul (gc k_Model_richest_0 29 rfl) ?_
    refine gw_iload_n (gc k_Model_richest_0 30 rfl) rfl ?_
    refine gw_iadd (gc k_Model_richest_0 31 rfl) ?_
    refine gw_iload_n (gc k_Model_richest_0 32 rfl) rfl ?_
    refine gw_aload_n (gc k_Model_richest_0 33 rfl) rfl rfl ?_
    refine gw_cV1 (gc k_Model_richest_0 34 rfl) y_Model_noteMany ln_Model_112 (c_Model_noteMany hx hf) rfl rfl (gAt hx rfl rfl) rfl rfl ?_
    rw [em]
    refine gw_iconst (gc k_Model_richest_0 35 rfl) ?_
    refine gw_isub (gc k_Model_richest_0 36 rfl) ?_
    refine gw_icmp_ne (tgt := 67) (gc k_Model_richest_0 37 rfl) rfl (by omega) (fun c60 => ?_) (fun c60 => ?_)
    · refine gw_aload_n (gc k_Model_richest_1 0 rfl) rfl rfl ?_
      refine gw_iload_n (gc k_Model_richest_1 1 rfl) rfl ?_
      refine gw_iconst (gc k_Model_richest_1 2 rfl) ?_
      refine gw_iadd (gc k_Model_richest_1 3 rfl) ?_
      refine gw_iload_n (gc k_Model_richest_1 4 rfl) rfl ?_
      refine gw_cV1 (gc k_Model_richest_1 5 rfl) y_Model_mostFrom ln_Model_393 (c_Model_mostFrom hx hf ho hv2 (i + 1) j (by omega) (by omega) (by omega) (fun q a c => hs.2 (i + 1) q (by omega) (by omega) a c (Or.inl (by omega)))) rfl rfl (gAt hx rfl rfl) rfl rfl ?_
      refine gw_iastF (gc k_Model_richest_1 6 rfl) (gAt hx rfl rfl) (by omega) hf rfl (fun hf => ?_)
      refine gw_iinc_2 (gc k_Model_richest_1 7 rfl) rfl rfl ?_
      refine gw_goto (tgt := 32) (gc k_Model_richest_1 8 rfl) rfl ?_
      exact K _ (hs.step ho hj (grR_step (by omega)).symm)
    · refine gw_iconst (gc k_Model_richest_0 38 rfl) ?_
      refine gw_goto (tgt := 75) (gc k_Model_richest_0 39 rfl) rfl ?_
      refine gw_iastF (gc k_Model_richest_1 6 rfl) (gAt hx rfl rfl) (by omega) hf rfl (fun hf => ?_)
      refine gw_iinc_2 (gc k_Model_richest_1 7 rfl) rfl rfl ?_
      refine gw_goto (tgt := 32) (gc k_Model_richest_1 8 rfl) rfl ?_
      exact K _ (hs.step ho hj (grR_last (by omega)).symm)
set_option maxHeartbeats 2000000 in
theorem ri_exit {sh : gS} {g0 : gM} (hx : gFix sh) (hf0 : gFin g0) {r : Int → Int} (ho : rowOK r) (hv : vLaid r g0) (i j : Int) (hi2 : 0 ≤ i ∧ i < r 41) {g : gM} (hs : aUp 195 (grR r) r g0 i j g) (hj : r 40 < j ∧ j ≤ 25) {Q : gQ} (K : gWP f_Model_richest 46 0 0 20 [(2, 177), (0, i - 1), (0, j)] [] sh g Q) : gWP f_Model_richest 46 0 0 32 [(2, 177), (0, i), (0, j)] [] sh g Q := by
  have hf := hs.fin (Or.inl rfl) hf0
  have hm := ro_many ho
  have hv2 := hs.laid (Or.inl rfl) hv
  have em := hv2.1
  have hlo := ro_low ho
  have hhi := ro_high ho
  show gWP f_Model_richest _ _ _ 32 [(2, 177), (0, i), (0, j)] [] sh g _
  refine gw_iload_n (gc k_Model_richest_0 19 rfl) rfl ?_
  refine gw_aload_n (gc k_Model_richest_0 20 rfl) rfl rfl ?_
  refine gw_getref (gc k_Model_richest_0 21 rfl) fl_Model_28 (gAt hx rfl rfl) (gRf hf rfl rfl) ?_
  refine gw_bipush (gc k_Model_richest_0 22 rfl) (by decide) ?_
  refine gw_iald (gc k_Model_richest_0 23 rfl) (gAt hx rfl rfl) (by omega) ?_
  rw [em]
  refine gw_icmp_gt (tgt := 82) (gc k_Model_richest_0 24 rfl) rfl (by omega) (fun c40 => ?_) (fun c40 => ?_)
  · refine gw_iinc_1 (gc k_Model_richest_1 9 rfl) rfl rfl ?_
    refine gw_goto (tgt := 20) (gc k_Model_richest_1 10 rfl) rfl ?_
    rw [show i + -1 = i - 1 by omega]
    exact K
  · exact absurd c40 (by omega)
theorem ri_row {sh : gS} {g0 : gM} (hx : gFix sh) (hf0 : gFin g0) {r : Int → Int} (ho : rowOK r) (hv : vLaid r g0) (i : Int) (hi2 : 0 ≤ i ∧ i < r 41) {Q : gQ} (K : ∀ (g3 : gM) (y : Int), aUp 195 (grR r) r g0 (i - 1) (r 39) g3 → gWP f_Model_richest 46 0 0 20 [(2, 177), (0, i - 1), (0, y)] [] sh g3 Q) : ∀ (m : Nat) (j : Int) (g : gM), r 39 ≤ j → j + m = (if r 39 ≤ r 40 + 1 then r 40 + 1 else r 39) → aUp 195 (grR r) r g0 i j g → gWP f_Model_richest 46 0 0 32 [(2, 177), (0, i), (0, j)] [] sh g Q
  | 0, j, g, h0, e, hs => by
    have hlo := ro_low ho
    have hhi := ro_high ho
    have hj : r 40 < j ∧ j ≤ 25 := by
      by_cases z : r 39 ≤ r 40 + 1
      · rw [if_pos z] at e; omega
      · rw [if_neg z] at e; omega
    exact ri_exit hx hf0 ho hv i j hi2 hs hj (K g _ ⟨hs.1, fun n q a1 a2 a3 a4 a5 => hs.2 n q a1 a2 a3 a4 (by omega)⟩)
  | m + 1, j, g, h0, e, hs => by
    have hj : j ≤ r 40 := by
      by_cases z : r 39 ≤ r 40 + 1
      · rw [if_pos z] at e; omega
      · rw [if_neg z] at e; omega
    exact ri_step hx hf0 ho hv i j hi2 hs ⟨h0, hj⟩ (fun g3 h3 => ri_row hx hf0 ho hv i hi2 K m (j + 1) g3 (by omega) (by omega) h3)
set_option maxHeartbeats 2000000 in
theorem ris_step {sh : gS} {g : gM} (hx : gFix sh) (hf : gFin g) (i : Int) (hi2 : -1 ≤ i ∧ i < 12) (x2 : gV) (h : 0 ≤ i) {Q : gQ} (K : gWP f_Model_richest 46 0 0 32 [(2, 177), (0, i), (0, g 179 39)] [] sh g Q) : gWP f_Model_richest 46 0 0 20 [(2, 177), (0, i), x2] [] sh g Q := by
  skip
  show gWP f_Model_richest _ _ _ 20 [(2, 177), (0, i), x2] [] sh g _
  refine gw_iload_n (gc k_Model_richest_0 12 rfl) rfl ?_
  refine gw_if_lt (tgt := 88) (gc k_Model_richest_0 13 rfl) rfl (by omega) (fun c21 => ?_) (fun c21 => ?_)
  · exact absurd c21 (by omega)
  · refine gw_aload_n (gc k_Model_richest_0 14 rfl) rfl rfl ?_
    refine gw_getref (gc k_Model_richest_0 15 rfl) fl_Model_28 (gAt hx rfl rfl) (gRf hf rfl rfl) ?_
    refine gw_bipush (gc k_Model_richest_0 16 rfl) (by decide) ?_
    refine gw_iald (gc k_Model_richest_0 17 rfl) (gAt hx rfl rfl) (by omega) ?_
    refine gw_istore_2 (gc k_Model_richest_0 18 rfl) rfl rfl ?_
    exact K
set_option maxHeartbeats 2000000 in
theorem ris_exit {sh : gS} {g : gM} (hx : gFix sh) (hf : gFin g) (i : Int) (hi2 : -1 ≤ i ∧ i < 12) (x2 : gV) (h : ¬ 0 ≤ i) {Q : gQ} (K : gWP f_Model_richest 46 0 0 88 [(2, 177), (0, i), x2] [] sh g Q) : gWP f_Model_richest 46 0 0 20 [(2, 177), (0, i), x2] [] sh g Q := by
  skip
  show gWP f_Model_richest _ _ _ 20 [(2, 177), (0, i), x2] [] sh g _
  refine gw_iload_n (gc k_Model_richest_0 12 rfl) rfl ?_
  refine gw_if_lt (tgt := 88) (gc k_Model_richest_0 13 rfl) rfl (by omega) (fun c21 => ?_) (fun c21 => ?_)
  · exact K
  · exact absurd c21 (by omega)
theorem ris_loop {sh : gS} {g0 : gM} (hx : gFix sh) (hf0 : gFin g0) {r : Int → Int} (ho : rowOK r) (hv : vLaid r g0) {Q : gQ} (K : ∀ (g3 : gM) (i : Int) (y : gV), aUp 195 (grR r) r g0 (-1) (r 39) g3 → gWP f_Model_richest 46 0 0 88 [(2, 177), (0, i), y] [] sh g3 Q) : ∀ (m : Nat) (i : Int) (g : gM) (x2 : gV), i + 1 = m → i < r 41 → aUp 195 (grR r) r g0 i (r 39) g → gWP f_Model_richest 46 0 0 20 [(2, 177), (0, i), x2] [] sh g Q
  | 0, i, g, x2, e, h2, hs => by
    have hm := ro_many ho
    obtain rfl : i = -1 := by omega
    exact ris_exit hx (hs.fin (Or.inl rfl) hf0) (-1) (by omega) x2 (by omega) (K g (-1) x2 hs)
  | m + 1, i, g, x2, e, h2, hs => by
    have hm := ro_many ho
    refine ris_step hx (hs.fin (Or.inl rfl) hf0) i (by omega) x2 (by omega) ?_
    rw [(hs.laid (Or.inl rfl) hv).1]
    refine ri_row hx hf0 ho hv i (by omega) (fun g3 y h3 => ris_loop hx hf0 ho hv K m (i - 1) g3 _ (by omega) (by omega) h3) ((if r 39 ≤ r 40 + 1 then r 40 + 1 else r 39) - r 39).toNat (r 39) g (Int.le_refl _) ?_ hs
    split <;> omega
set_option maxHeartbeats 1000000 in
theorem c_Model_richest {sh : gS} {g : gM} (hx : gFix sh) (hf : gFin g) (ho : rowOK (g 179)) (hl : lawsOK (g 179)) : gTri f_Model_richest 46 0 0 [(2, 177)] sh g (fun x s2 g2 => x = some (0, riR (g 179)) ∧ s2 = sh ∧ gVo g g2) := by
  have hm := ro_many ho
  have hmx := mxV_bd ho 0 0 (by decide)
  refine gTri.of (by decide +kernel) rfl ?_
  show gWP f_Model_richest _ _ _ 0 [(2, 177), (9, 0), (9, 0)] [] sh g _
  refine gw_aload_n (gc k_Model_richest_0 0 rfl) rfl rfl ?_
  refine gw_cV1 (gc k_Model_richest_0 1 rfl) y_Model_noteMany ln_Model_112 (c_Model_noteMany hx hf) rfl rfl (gAt hx rfl rfl) rfl rfl ?_
  refine gw_if_ne (tgt := 9) (gc k_Model_richest_0 2 rfl) rfl (by omega) (fun c4 => ?_) (fun c4 => ?_)
  · refine gw_aload_n (gc k_Model_richest_0 5 rfl) rfl rfl ?_
    refine gw_xV1 (gc k_Model_richest_0 6 rfl) y_Model_laysNotes ln_Model_376 (c_Model_laysNotes hx hf ho hl) rfl rfl (gAt hx rfl rfl) rfl rfl (fun r10 sh2 g10 hq10 => ?_)
    obtain ⟨rfl, rfl, hq1⟩ := hq10
    have hf := hq1.fin hf
    have hv := hq1.laid
    have em := hv.1
    refine gw_aload_n (gc k_Model_richest_0 7 rfl) rfl rfl ?_
    refine gw_cV1 (gc k_Model_richest_0 8 rfl) y_Model_noteMany ln_Model_112 (c_Model_noteMany hx hf) rfl rfl (gAt hx rfl rfl) rfl rfl ?_
    rw [em]
    refine gw_iconst (gc k_Model_richest_0 9 rfl) ?_
    refine gw_isub (gc k_Model_richest_0 10 rfl) ?_
    refine gw_istore_1 (gc k_Model_richest_0 11 rfl) rfl rfl ?_
    refine ris_loop hx hf ho hv (fun g3 i y hs => ?_) (g 179 41).toNat (g 179 41 - 1) _ _ (by omega) (by omega) ⟨fun _ _ _ => rfl, fun n q a1 a2 a3 a4 a5 => by omega⟩
    have hf := hs.fin (Or.inl rfl) hf
    have hv2 := hs.laid (Or.inl rfl) hv
    have hw := hq1.vo.tr (hs.vo (Or.inl rfl))
    refine gw_aload_n (gc k_Model_richest_1 11 rfl) rfl rfl ?_
    refine gw_iconst (gc k_Model_richest_1 12 rfl) ?_
    refine gw_iconst (gc k_Model_richest_1 13 rfl) ?_
    refine gw_cV1 (gc k_Model_richest_1 14 rfl) y_Model_mostFrom ln_Model_393 (c_Model_mostFrom hx hf ho hv2 0 0 (by omega) (by omega) (fun _ => rfl) (fun q a c => hs.2 0 q (by omega) (by omega) a c (Or.inl (by omega)))) rfl rfl (gAt hx rfl rfl) rfl rfl ?_
    refine gw_istore_1 (gc k_Model_richest_1 15 rfl) rfl rfl ?_
    refine gw_iload_n (gc k_Model_richest_1 16 rfl) rfl ?_
    refine gw_if_ge (tgt := 103) (gc k_Model_richest_1 17 rfl) rfl (by omega) (fun c96 => ?_) (fun c96 => ?_)
    · refine gw_iload_n (gc k_Model_richest_1 20 rfl) rfl ?_
      refine gw_ireturn (gc k_Model_richest_1 21 rfl) rfl ?_
      exact ⟨by unfold riR; rw [if_neg (by omega)]; first | rw [if_pos (by omega)] | rw [if_neg (by omega)], rfl, hw⟩
    · refine gw_iconst (gc k_Model_richest_1 18 rfl) ?_
      refine gw_goto (tgt := 104) (gc k_Model_richest_1 19 rfl) rfl ?_
      refine gw_ireturn (gc k_Model_richest_1 21 rfl) rfl ?_
      exact ⟨by unfold riR; rw [if_neg (by omega)]; first | rw [if_pos (by omega)] | rw [if_neg (by omega)], rfl, hw⟩
  · refine gw_iconst (gc k_Model_richest_0 3 rfl) ?_
    refine gw_ireturn (gc k_Model_richest_0 4 rfl) rfl ?_
    exact ⟨by unfold riR; rw [if_pos (by omega)], rfl, gVo.rf g⟩
set_option maxHeartbeats 2000000 in
theorem wa_step {sh : gS} {g0 : gM} (hx : gFix sh) (hf0 : gFin g0) {r : Int → Int} (ho : rowOK r) (hv : vLaid r g0) (i j : Int) (hi2 : 0 ≤ i ∧ i < r 41) {g : gM} (hs : aUp 196 (wyR r) r g0 i j g) (hj : r 39 ≤ j ∧ j ≤ r 40) {Q : gQ} (K : ∀ g3, aUp 196 (wyR r) r g0 i (j + 1) g3 → gWP f_Model_ways 46 0 0 32 [(2, 177), (0, i), (0, j + 1)] [] sh g3 Q) : gWP f_Model_ways 46 0 0 32 [(2, 177), (0, i), (0, j)] [] sh g Q := by
  have hf := hs.fin (Or.inr rfl) hf0
  have hm := ro_many ho
  have hv2 := hs.laid (Or.inr rfl) hv
  have em := hv2.1
  have hlo := ro_low ho
  have hhi := ro_high ho
  show gWP f_Model_ways _ _ _ 32 [(2, 177), (0, i), (0, j)] [] sh g _
  skip
  refine gw_iload_n (gc k_Model_ways_0 19 rfl) rfl ?_
  refine gw_aload_n (gc k_Model_ways_0 20 rfl) rfl rfl ?_
  refine gw_getref (gc k_Model_ways_0 21 rfl) fl_Model_28 (gAt hx rfl rfl) (gRf hf rfl rfl) ?_
  refine gw_bipush (gc k_Model_ways_0 22 rfl) (by decide) ?_
  refine gw_iald (gc k_Model_ways_0 23 rfl) (gAt hx rfl rfl) (by omega) ?_
  rw [em]
  refine gw_icmp_gt (tgt := 82) (gc k_Model_ways_0 24 rfl) rfl (by omega) (fun c40 => ?_) (fun c40 => ?_)
  · exact absurd c40 (by omega)
  · refine gw_aload_n (gc k_Model_ways_0 25 rfl) rfl rfl ?_
    refine gw_getref (gc k_Model_ways_0 26 rfl) fl_Model_84 (gAt hx rfl rfl) (gRf hf rfl rfl) ?_
    refine gw_bipush (gc k_Model_ways_0 27 rfl) (by decide) ?_
    refine gw_iload_n (gc k_Model_ways_0 28 rfl) rfl ?_
    refine gw_imul (gc k_Model_ways_0 29 rfl) ?_
    refine gw_iload_n (gc k_Model_ways_0 30 rfl) rfl ?_
    refine gw_iadd (gc k_Model_ways_0 31 rfl) ?_
    refine gw_iload_n (gc k_Model_ways_0 32 rfl) rfl ?_
    refine gw_aload_n (gc k_Model_ways_0 33 rfl) rfl rfl ?_
    refine gw_cV1 (gc k_Model_ways_0 34 rfl) y_Model_noteMany ln_Model_112 (c_Model_noteMany hx hf) rfl rfl (gAt hx rfl rfl) rfl rfl ?_
    rw [em]
    refine gw_iconst (gc k_Model_ways_0 35 rfl) ?_
    refine gw_isub (gc k_Model_ways_0 36 rfl) ?_
    refine gw_icmp_ne (tgt := 67) (gc k_Model_ways_0 37 rfl) rfl (by omega) (fun c60 => ?_) (fun c60 => ?_)
    · refine gw_aload_n (gc k_Model_ways_1 0 rfl) rfl rfl ?_
      refine gw_iload_n (gc k_Model_ways_1 1 rfl) rfl ?_
      refine gw_iconst (gc k_Model_ways_1 2 rfl) ?_
      refine gw_iadd (gc k_Model_ways_1 3 rfl) ?_
      refine gw_iload_n (gc k_Model_ways_1 4 rfl) rfl ?_
      refine gw_cV1 (gc k_Model_ways_1 5 rfl) y_Model_waysFrom ln_Model_400 (c_Model_waysFrom hx hf ho hv2 (i + 1) j (by omega) (by omega) (by omega) (fun q a c => hs.2 (i + 1) q (by omega) (by omega) a c (Or.inl (by omega)))) rfl rfl (gAt hx rfl rfl) rfl rfl ?_
      refine gw_lastF (gc k_Model_ways_1 6 rfl) (gAt hx rfl rfl) (by omega) hf rfl (fun hf => ?_)
      refine gw_iinc_2 (gc k_Model_ways_1 7 rfl) rfl rfl ?_
      refine gw_goto (tgt := 32) (gc k_Model_ways_1 8 rfl) rfl ?_
      exact K _ (hs.step ho hj (wyR_step (by omega)).symm)
    · refine gw_lconst1 (gc k_Model_ways_0 38 rfl) ?_
      refine gw_goto (tgt := 75) (gc k_Model_ways_0 39 rfl) rfl ?_
      refine gw_lastF (gc k_Model_ways_1 6 rfl) (gAt hx rfl rfl) (by omega) hf rfl (fun hf => ?_)
      refine gw_iinc_2 (gc k_Model_ways_1 7 rfl) rfl rfl ?_
      refine gw_goto (tgt := 32) (gc k_Model_ways_1 8 rfl) rfl ?_
      exact K _ (hs.step ho hj (wyR_last (by omega)).symm)
set_option maxHeartbeats 2000000 in
theorem wa_exit {sh : gS} {g0 : gM} (hx : gFix sh) (hf0 : gFin g0) {r : Int → Int} (ho : rowOK r) (hv : vLaid r g0) (i j : Int) (hi2 : 0 ≤ i ∧ i < r 41) {g : gM} (hs : aUp 196 (wyR r) r g0 i j g) (hj : r 40 < j ∧ j ≤ 25) {Q : gQ} (K : gWP f_Model_ways 46 0 0 20 [(2, 177), (0, i - 1), (0, j)] [] sh g Q) : gWP f_Model_ways 46 0 0 32 [(2, 177), (0, i), (0, j)] [] sh g Q := by
  have hf := hs.fin (Or.inr rfl) hf0
  have hm := ro_many ho
  have hv2 := hs.laid (Or.inr rfl) hv
  have em := hv2.1
  have hlo := ro_low ho
  have hhi := ro_high ho
  show gWP f_Model_ways _ _ _ 32 [(2, 177), (0, i), (0, j)] [] sh g _
  refine gw_iload_n (gc k_Model_ways_0 19 rfl) rfl ?_
  refine gw_aload_n (gc k_Model_ways_0 20 rfl) rfl rfl ?_
  refine gw_getref (gc k_Model_ways_0 21 rfl) fl_Model_28 (gAt hx rfl rfl) (gRf hf rfl rfl) ?_
  refine gw_bipush (gc k_Model_ways_0 22 rfl) (by decide) ?_
  refine gw_iald (gc k_Model_ways_0 23 rfl) (gAt hx rfl rfl) (by omega) ?_
  rw [em]
  refine gw_icmp_gt (tgt := 82) (gc k_Model_ways_0 24 rfl) rfl (by omega) (fun c40 => ?_) (fun c40 => ?_)
  · refine gw_iinc_1 (gc k_Model_ways_1 9 rfl) rfl rfl ?_
    refine gw_goto (tgt := 20) (gc k_Model_ways_1 10 rfl) rfl ?_
    rw [show i + -1 = i - 1 by omega]
    exact K
  · exact absurd c40 (by omega)
theorem wa_row {sh : gS} {g0 : gM} (hx : gFix sh) (hf0 : gFin g0) {r : Int → Int} (ho : rowOK r) (hv : vLaid r g0) (i : Int) (hi2 : 0 ≤ i ∧ i < r 41) {Q : gQ} (K : ∀ (g3 : gM) (y : Int), aUp 196 (wyR r) r g0 (i - 1) (r 39) g3 → gWP f_Model_ways 46 0 0 20 [(2, 177), (0, i - 1), (0, y)] [] sh g3 Q) : ∀ (m : Nat) (j : Int) (g : gM), r 39 ≤ j → j + m = (if r 39 ≤ r 40 + 1 then r 40 + 1 else r 39) → aUp 196 (wyR r) r g0 i j g → gWP f_Model_ways 46 0 0 32 [(2, 177), (0, i), (0, j)] [] sh g Q
  | 0, j, g, h0, e, hs => by
    have hlo := ro_low ho
    have hhi := ro_high ho
    have hj : r 40 < j ∧ j ≤ 25 := by
      by_cases z : r 39 ≤ r 40 + 1
      · rw [if_pos z] at e; omega
      · rw [if_neg z] at e; omega
    exact wa_exit hx hf0 ho hv i j hi2 hs hj (K g _ ⟨hs.1, fun n q a1 a2 a3 a4 a5 => hs.2 n q a1 a2 a3 a4 (by omega)⟩)
  | m + 1, j, g, h0, e, hs => by
    have hj : j ≤ r 40 := by
      by_cases z : r 39 ≤ r 40 + 1
      · rw [if_pos z] at e; omega
      · rw [if_neg z] at e; omega
    exact wa_step hx hf0 ho hv i j hi2 hs ⟨h0, hj⟩ (fun g3 h3 => wa_row hx hf0 ho hv i hi2 K m (j + 1) g3 (by omega) (by omega) h3)
set_option maxHeartbeats 2000000 in
theorem was_step {sh : gS} {g : gM} (hx : gFix sh) (hf : gFin g) (i : Int) (hi2 : -1 ≤ i ∧ i < 12) (x2 : gV) (h : 0 ≤ i) {Q : gQ} (K : gWP f_Model_ways 46 0 0 32 [(2, 177), (0, i), (0, g 179 39)] [] sh g Q) : gWP f_Model_ways 46 0 0 20 [(2, 177), (0, i), x2] [] sh g Q := by
  skip
  show gWP f_Model_ways _ _ _ 20 [(2, 177), (0, i), x2] [] sh g _
  refine gw_iload_n (gc k_Model_ways_0 12 rfl) rfl ?_
  refine gw_if_lt (tgt := 88) (gc k_Model_ways_0 13 rfl) rfl (by omega) (fun c21 => ?_) (fun c21 => ?_)
  · exact absurd c21 (by omega)
  · refine gw_aload_n (gc k_Model_ways_0 14 rfl) rfl rfl ?_
    refine gw_getref (gc k_Model_ways_0 15 rfl) fl_Model_28 (gAt hx rfl rfl) (gRf hf rfl rfl) ?_
    refine gw_bipush (gc k_Model_ways_0 16 rfl) (by decide) ?_
    refine gw_iald (gc k_Model_ways_0 17 rfl) (gAt hx rfl rfl) (by omega) ?_
    refine gw_istore_2 (gc k_Model_ways_0 18 rfl) rfl rfl ?_
    exact K
set_option maxHeartbeats 2000000 in
theorem was_exit {sh : gS} {g : gM} (hx : gFix sh) (hf : gFin g) (i : Int) (hi2 : -1 ≤ i ∧ i < 12) (x2 : gV) (h : ¬ 0 ≤ i) {Q : gQ} (K : gWP f_Model_ways 46 0 0 88 [(2, 177), (0, i), x2] [] sh g Q) : gWP f_Model_ways 46 0 0 20 [(2, 177), (0, i), x2] [] sh g Q := by
  skip
  show gWP f_Model_ways _ _ _ 20 [(2, 177), (0, i), x2] [] sh g _
  refine gw_iload_n (gc k_Model_ways_0 12 rfl) rfl ?_
  refine gw_if_lt (tgt := 88) (gc k_Model_ways_0 13 rfl) rfl (by omega) (fun c21 => ?_) (fun c21 => ?_)
  · exact K
  · exact absurd c21 (by omega)
theorem was_loop {sh : gS} {g0 : gM} (hx : gFix sh) (hf0 : gFin g0) {r : Int → Int} (ho : rowOK r) (hv : vLaid r g0) {Q : gQ} (K : ∀ (g3 : gM) (i : Int) (y : gV), aUp 196 (wyR r) r g0 (-1) (r 39) g3 → gWP f_Model_ways 46 0 0 88 [(2, 177), (0, i), y] [] sh g3 Q) : ∀ (m : Nat) (i : Int) (g : gM) (x2 : gV), i + 1 = m → i < r 41 → aUp 196 (wyR r) r g0 i (r 39) g → gWP f_Model_ways 46 0 0 20 [(2, 177), (0, i), x2] [] sh g Q
  | 0, i, g, x2, e, h2, hs => by
    have hm := ro_many ho
    obtain rfl : i = -1 := by omega
    exact was_exit hx (hs.fin (Or.inr rfl) hf0) (-1) (by omega) x2 (by omega) (K g (-1) x2 hs)
  | m + 1, i, g, x2, e, h2, hs => by
    have hm := ro_many ho
    refine was_step hx (hs.fin (Or.inr rfl) hf0) i (by omega) x2 (by omega) ?_
    rw [(hs.laid (Or.inr rfl) hv).1]
    refine wa_row hx hf0 ho hv i (by omega) (fun g3 y h3 => was_loop hx hf0 ho hv K m (i - 1) g3 _ (by omega) (by omega) h3) ((if r 39 ≤ r 40 + 1 then r 40 + 1 else r 39) - r 39).toNat (r 39) g (Int.le_refl _) ?_ hs
    split <;> omega
set_option maxHeartbeats 1000000 in
theorem c_Model_ways {sh : gS} {g : gM} (hx : gFix sh) (hf : gFin g) (ho : rowOK (g 179)) (hl : lawsOK (g 179)) : gTri f_Model_ways 46 0 0 [(2, 177)] sh g (fun x s2 g2 => x = some (1, waR (g 179)) ∧ s2 = sh ∧ gVo g g2) := by
  have hm := ro_many ho
  skip
  refine gTri.of (by decide +kernel) rfl ?_
  show gWP f_Model_ways _ _ _ 0 [(2, 177), (9, 0), (9, 0)] [] sh g _
  refine gw_aload_n (gc k_Model_ways_0 0 rfl) rfl rfl ?_
  refine gw_cV1 (gc k_Model_ways_0 1 rfl) y_Model_noteMany ln_Model_112 (c_Model_noteMany hx hf) rfl rfl (gAt hx rfl rfl) rfl rfl ?_
  refine gw_if_ne (tgt := 9) (gc k_Model_ways_0 2 rfl) rfl (by omega) (fun c4 => ?_) (fun c4 => ?_)
  · refine gw_aload_n (gc k_Model_ways_0 5 rfl) rfl rfl ?_
    refine gw_xV1 (gc k_Model_ways_0 6 rfl) y_Model_laysNotes ln_Model_376 (c_Model_laysNotes hx hf ho hl) rfl rfl (gAt hx rfl rfl) rfl rfl (fun r10 sh2 g10 hq10 => ?_)
    obtain ⟨rfl, rfl, hq1⟩ := hq10
    have hf := hq1.fin hf
    have hv := hq1.laid
    have em := hv.1
    refine gw_aload_n (gc k_Model_ways_0 7 rfl) rfl rfl ?_
    refine gw_cV1 (gc k_Model_ways_0 8 rfl) y_Model_noteMany ln_Model_112 (c_Model_noteMany hx hf) rfl rfl (gAt hx rfl rfl) rfl rfl ?_
    rw [em]
    refine gw_iconst (gc k_Model_ways_0 9 rfl) ?_
    refine gw_isub (gc k_Model_ways_0 10 rfl) ?_
    refine gw_istore_1 (gc k_Model_ways_0 11 rfl) rfl rfl ?_
    refine was_loop hx hf ho hv (fun g3 i y hs => ?_) (g 179 41).toNat (g 179 41 - 1) _ _ (by omega) (by omega) ⟨fun _ _ _ => rfl, fun n q a1 a2 a3 a4 a5 => by omega⟩
    have hf := hs.fin (Or.inr rfl) hf
    have hv2 := hs.laid (Or.inr rfl) hv
    have hw := hq1.vo.tr (hs.vo (Or.inr rfl))
    refine gw_aload_n (gc k_Model_ways_1 11 rfl) rfl rfl ?_
    refine gw_iconst (gc k_Model_ways_1 12 rfl) ?_
    refine gw_iconst (gc k_Model_ways_1 13 rfl) ?_
    refine gw_cV1 (gc k_Model_ways_1 14 rfl) y_Model_waysFrom ln_Model_400 (c_Model_waysFrom hx hf ho hv2 0 0 (by omega) (by omega) (fun _ => rfl) (fun q a c => hs.2 0 q (by omega) (by omega) a c (Or.inl (by omega)))) rfl rfl (gAt hx rfl rfl) rfl rfl ?_
    refine gw_lreturn (gc k_Model_ways_1 15 rfl) rfl ?_
    exact ⟨by unfold waR; rw [if_neg (by omega)], rfl, hw⟩
  · refine gw_lconst1 (gc k_Model_ways_0 3 rfl) ?_
    refine gw_lreturn (gc k_Model_ways_0 4 rfl) rfl ?_
    exact ⟨by unfold waR; rw [if_pos (by omega)], rfl, gVo.rf g⟩
