def hvB (r : Int → Int) (lo hi : Int) : Int := bi (r 41 = 0 ∨ lsV r lo hi 0 0 0 < 100000000)
def vIn (r : Int → Int) (g0 g : gM) : Prop := vLaid r g ∧ gVo g0 g
def cmIn (r : Int → Int) (w : Int) : Nat → Int → Option Int
  | 0, _ => none
  | m + 1, lo => if hvB r lo (lo + w) = 1 then some lo else cmIn r w m (lo + 1)
def cmOut (r : Int → Int) : Nat → Int → Option (Int × Int)
  | 0, _ => none
  | m + 1, w => match cmIn r w (r 40 + 1 - w - r 39).toNat (r 39) with
    | some lo => some (w, lo)
    | none => cmOut r m (w + 1)
def comR (r : Int → Int) (k : Int) : Int := if 0 ≤ k ∧ k ≤ 1 then (match cmOut r (r 40 + 1 - r 39).toNat 0 with
    | some (w, lo) => if k = 0 then w else lo
    | none => -1) else -1
set_option maxHeartbeats 1000000 in
theorem c_Model_hasVoice {sh : gS} {g : gM} (hx : gFix sh) (hf : gFin g) {r : Int → Int} (ho : rowOK r) (hv : vLaid r g) (lo hi : Int) (hlo : (0 ≤ lo ∧ lo ≤ 24) ∧ -1 ≤ hi ∧ hi ≤ 24) : gTri f_Model_hasVoice 4 0 0 [(2, 177), (0, lo), (0, hi)] sh g (fun x s2 g2 => x = some (0, hvB r lo hi) ∧ s2 = sh ∧ rUp r lo hi 0 g (-1) lo g2) := by
  have hm := ro_many ho
  have em := hv.1
  have hls := lsV_bd r lo hi 0 0 0
  refine gTri.of (by decide +kernel) rfl ?_
  show gWP f_Model_hasVoice _ _ _ 0 [(2, 177), (0, lo), (0, hi)] [] sh g _
  refine gw_aload_n (gc k_Model_hasVoice_0 0 rfl) rfl rfl ?_
  refine gw_cV1 (gc k_Model_hasVoice_0 1 rfl) y_Model_noteMany ln_Model_112 (c_Model_noteMany hx hf) rfl rfl (gAt hx rfl rfl) rfl rfl ?_
  rw [em]
  refine gw_if_ne (tgt := 9) (gc k_Model_hasVoice_0 2 rfl) rfl (by omega) (fun c4 => ?_) (fun c4 => ?_)
  · refine gw_aload_n (gc k_Model_hasVoice_0 5 rfl) rfl rfl ?_
    refine gw_iload_n (gc k_Model_hasVoice_0 6 rfl) rfl ?_
    refine gw_iload_n (gc k_Model_hasVoice_0 7 rfl) rfl ?_
    refine gw_iconst (gc k_Model_hasVoice_0 8 rfl) ?_
    refine gw_xV1 (gc k_Model_hasVoice_0 9 rfl) y_Model_laysRest ln_Model_372 (c_Model_laysRest hx hf ho hv lo hi 0 hlo (Or.inl rfl)) rfl rfl (gAt hx rfl rfl) rfl rfl (fun r13 sh2 g13 hq13 => ?_)
    obtain ⟨rfl, rfl, hq⟩ := hq13
    have hf := hq.fin hf
    have hv2 := hv.eq hq.1
    refine gw_aload_n (gc k_Model_hasVoice_0 10 rfl) rfl rfl ?_
    refine gw_iconst (gc k_Model_hasVoice_0 11 rfl) ?_
    refine gw_iconst (gc k_Model_hasVoice_0 12 rfl) ?_
    refine gw_iload_n (gc k_Model_hasVoice_0 13 rfl) rfl ?_
    refine gw_iload_n (gc k_Model_hasVoice_0 14 rfl) rfl ?_
    refine gw_iconst (gc k_Model_hasVoice_0 15 rfl) ?_
    refine gw_cV1 (gc k_Model_hasVoice_0 16 rfl) y_Model_leastFrom ln_Model_360 (c_leastR hx hf ho hv2 0 0 lo hi 0 (by omega) (by omega) (fun _ => rfl) hlo (Or.inl rfl) (fun q a c => hq.2 0 q (by omega) (by omega) a c (Or.inl (by omega)))) rfl rfl (gAt hx rfl rfl) rfl rfl ?_
    refine gw_ldcw (gc k_Model_hasVoice_0 17 rfl) cn_Model_364 ?_
    refine gw_icmp_ge (tgt := 35) (gc k_Model_hasVoice_0 18 rfl) rfl (by omega) (fun c28 => ?_) (fun c28 => ?_)
    · refine gw_iconst (gc k_Model_hasVoice_0 21 rfl) ?_
      refine gw_zreturn (gc k_Model_hasVoice_0 22 rfl) rfl (by omega) ?_
      exact ⟨by unfold hvB; first | rw [bi_1 (by omega)] | rw [bi_0 (by omega)], rfl, hq⟩
    · refine gw_iconst (gc k_Model_hasVoice_0 19 rfl) ?_
      refine gw_goto (tgt := 36) (gc k_Model_hasVoice_0 20 rfl) rfl ?_
      refine gw_zreturn (gc k_Model_hasVoice_0 22 rfl) rfl (by omega) ?_
      exact ⟨by unfold hvB; first | rw [bi_1 (by omega)] | rw [bi_0 (by omega)], rfl, hq⟩
  · refine gw_iconst (gc k_Model_hasVoice_0 3 rfl) ?_
    refine gw_zreturn (gc k_Model_hasVoice_0 4 rfl) rfl (by omega) ?_
    exact ⟨by unfold hvB; rw [bi_1 (by omega)], rfl, fun _ _ _ => rfl, fun n q a1 a2 a3 a4 a5 => by omega⟩
set_option maxHeartbeats 2000000 in
theorem com_no {sh : gS} {g0 : gM} (hx : gFix sh) (hf0 : gFin g0) {r : Int → Int} (ho : rowOK r) (k w lo : Int) (hk : 0 ≤ k ∧ k ≤ 1) (hw : 0 ≤ w ∧ w ≤ 25) (hlo : r 39 ≤ lo ∧ lo ≤ 25) {g : gM} (hs : vIn r g0 g) (hle : lo + w ≤ r 40) (hn : hvB r lo (lo + w) = 0) {Q : gQ} (K : ∀ g3, vIn r g0 g3 → gWP f_Model_compass 46 0 0 44 [(2, 177), (0, k), (0, w), (0, lo + 1)] [] sh g3 Q) : gWP f_Model_compass 46 0 0 44 [(2, 177), (0, k), (0, w), (0, lo)] [] sh g Q := by
  have hf := hf0.vo hs.2
  have hm := ro_many ho
  have em := hs.1.1
  have hlo1 := ro_low ho
  have hhi := ro_high ho
  have hv := hs.1
  show gWP f_Model_compass _ _ _ 44 [(2, 177), (0, k), (0, w), (0, lo)] [] sh g _
  skip
  refine gw_iload_n (gc k_Model_compass_0 27 rfl) rfl ?_
  refine gw_iload_n (gc k_Model_compass_0 28 rfl) rfl ?_
  refine gw_iadd (gc k_Model_compass_0 29 rfl) ?_
  refine gw_aload_n (gc k_Model_compass_0 30 rfl) rfl rfl ?_
  refine gw_getref (gc k_Model_compass_0 31 rfl) fl_Model_28 (gAt hx rfl rfl) (gRf hf rfl rfl) ?_
  refine gw_bipush (gc k_Model_compass_0 32 rfl) (by decide) ?_
  refine gw_iald (gc k_Model_compass_0 33 rfl) (gAt hx rfl rfl) (by omega) ?_
  rw [em]
  refine gw_icmp_gt (tgt := 84) (gc k_Model_compass_0 34 rfl) rfl (by omega) (fun c54 => ?_) (fun c54 => ?_)
  · exact absurd c54 (by omega)
  · refine gw_aload_n (gc k_Model_compass_0 35 rfl) rfl rfl ?_
    refine gw_iload_n (gc k_Model_compass_0 36 rfl) rfl ?_
    refine gw_iload_n (gc k_Model_compass_0 37 rfl) rfl ?_
    refine gw_iload_n (gc k_Model_compass_0 38 rfl) rfl ?_
    refine gw_iadd (gc k_Model_compass_0 39 rfl) ?_
    refine gw_xV1 (gc k_Model_compass_1 0 rfl) y_Model_hasVoice ln_Model_404 (c_Model_hasVoice hx hf ho hv lo (lo + w) (by omega)) rfl rfl (gAt hx rfl rfl) rfl rfl (fun r62 sh2 g62 hq62 => ?_)
    obtain ⟨rfl, rfl, hq⟩ := hq62
    have hs2 : vIn r g0 g62 := ⟨hv.eq hq.1, hs.2.tr hq.vo⟩
    rw [hn]
    refine gw_if_eq (tgt := 78) (gc k_Model_compass_1 1 rfl) rfl (by omega) (fun c65 => ?_) (fun c65 => ?_)
    · refine gw_iinc_3 (gc k_Model_compass_1 8 rfl) rfl rfl ?_
      refine gw_goto (tgt := 44) (gc k_Model_compass_1 9 rfl) rfl ?_
      exact K _ hs2
    · exact absurd rfl c65
set_option maxHeartbeats 2000000 in
theorem com_yes {sh : gS} {g0 : gM} (hx : gFix sh) (hf0 : gFin g0) {r : Int → Int} (ho : rowOK r) (k w lo : Int) (hk : 0 ≤ k ∧ k ≤ 1) (hw : 0 ≤ w ∧ w ≤ 25) (hlo : r 39 ≤ lo ∧ lo ≤ 25) {g : gM} (hs : vIn r g0 g) (hle : lo + w ≤ r 40) (hn : hvB r lo (lo + w) = 1) {Q : gQ} (K : ∀ g3, vIn r g0 g3 → Q (some (0, if k = 0 then w else lo)) sh g3) : gWP f_Model_compass 46 0 0 44 [(2, 177), (0, k), (0, w), (0, lo)] [] sh g Q := by
  have hf := hf0.vo hs.2
  have hm := ro_many ho
  have em := hs.1.1
  have hlo1 := ro_low ho
  have hhi := ro_high ho
  have hv := hs.1
  show gWP f_Model_compass _ _ _ 44 [(2, 177), (0, k), (0, w), (0, lo)] [] sh g _
  refine gw_iload_n (gc k_Model_compass_0 27 rfl) rfl ?_
  refine gw_iload_n (gc k_Model_compass_0 28 rfl) rfl ?_
  refine gw_iadd (gc k_Model_compass_0 29 rfl) ?_
  refine gw_aload_n (gc k_Model_compass_0 30 rfl) rfl rfl ?_
  refine gw_getref (gc k_Model_compass_0 31 rfl) fl_Model_28 (gAt hx rfl rfl) (gRf hf rfl rfl) ?_
  refine gw_bipush (gc k_Model_compass_0 32 rfl) (by decide) ?_
  refine gw_iald (gc k_Model_compass_0 33 rfl) (gAt hx rfl rfl) (by omega) ?_
  rw [em]
  refine gw_icmp_gt (tgt := 84) (gc k_Model_compass_0 34 rfl) rfl (by omega) (fun c54 => ?_) (fun c54 => ?_)
  · exact absurd c54 (by omega)
  · refine gw_aload_n (gc k_Model_compass_0 35 rfl) rfl rfl ?_
    refine gw_iload_n (gc k_Model_compass_0 36 rfl) rfl ?_
    refine gw_iload_n (gc k_Model_compass_0 37 rfl) rfl ?_
    refine gw_iload_n (gc k_Model_compass_0 38 rfl) rfl ?_
    refine gw_iadd (gc k_Model_compass_0 39 rfl) ?_
    refine gw_xV1 (gc k_Model_compass_1 0 rfl) y_Model_hasVoice ln_Model_404 (c_Model_hasVoice hx hf ho hv lo (lo + w) (by omega)) rfl rfl (gAt hx rfl rfl) rfl rfl (fun r62 sh2 g62 hq62 => ?_)
    obtain ⟨rfl, rfl, hq⟩ := hq62
    have hs2 : vIn r g0 g62 := ⟨hv.eq hq.1, hs.2.tr hq.vo⟩
    rw [hn]
    refine gw_if_eq (tgt := 78) (gc k_Model_compass_1 1 rfl) rfl (by omega) (fun c65 => ?_) (fun c65 => ?_)
    · exact absurd c65 (by decide)
    · refine gw_iload_n (gc k_Model_compass_1 2 rfl) rfl ?_
      refine gw_if_ne (tgt := 76) (gc k_Model_compass_1 3 rfl) rfl (by omega) (fun c69 => ?_) (fun c69 => ?_)
      · refine gw_iload_n (gc k_Model_compass_1 6 rfl) rfl ?_
        refine gw_ireturn (gc k_Model_compass_1 7 rfl) rfl ?_
        have K2 := K _ hs2
        rw [if_neg (by omega)] at K2
        exact K2
      · refine gw_iload_n (gc k_Model_compass_1 4 rfl) rfl ?_
        refine gw_goto (tgt := 77) (gc k_Model_compass_1 5 rfl) rfl ?_
        refine gw_ireturn (gc k_Model_compass_1 7 rfl) rfl ?_
        have K2 := K _ hs2
        first | (rw [if_pos (by omega)] at K2; exact K2) | (rw [if_neg (by omega)] at K2; exact K2)
set_option maxHeartbeats 2000000 in
theorem com_next {sh : gS} {g0 : gM} (hx : gFix sh) (hf0 : gFin g0) {r : Int → Int} (ho : rowOK r) (k w lo : Int) (hk : 0 ≤ k ∧ k ≤ 1) (hw : 0 ≤ w ∧ w ≤ 25) (hlo : r 39 ≤ lo ∧ lo ≤ 25) {g : gM} (hs : vIn r g0 g) (hle : ¬ lo + w ≤ r 40) {Q : gQ} (K : gWP f_Model_compass 46 0 0 17 [(2, 177), (0, k), (0, w + 1), (0, lo)] [] sh g Q) : gWP f_Model_compass 46 0 0 44 [(2, 177), (0, k), (0, w), (0, lo)] [] sh g Q := by
  have hf := hf0.vo hs.2
  have hm := ro_many ho
  have em := hs.1.1
  have hlo1 := ro_low ho
  have hhi := ro_high ho
  have hv := hs.1
  show gWP f_Model_compass _ _ _ 44 [(2, 177), (0, k), (0, w), (0, lo)] [] sh g _
  refine gw_iload_n (gc k_Model_compass_0 27 rfl) rfl ?_
  refine gw_iload_n (gc k_Model_compass_0 28 rfl) rfl ?_
  refine gw_iadd (gc k_Model_compass_0 29 rfl) ?_
  refine gw_aload_n (gc k_Model_compass_0 30 rfl) rfl rfl ?_
  refine gw_getref (gc k_Model_compass_0 31 rfl) fl_Model_28 (gAt hx rfl rfl) (gRf hf rfl rfl) ?_
  refine gw_bipush (gc k_Model_compass_0 32 rfl) (by decide) ?_
  refine gw_iald (gc k_Model_compass_0 33 rfl) (gAt hx rfl rfl) (by omega) ?_
  rw [em]
  refine gw_icmp_gt (tgt := 84) (gc k_Model_compass_0 34 rfl) rfl (by omega) (fun c54 => ?_) (fun c54 => ?_)
  · refine gw_iinc_2 (gc k_Model_compass_1 10 rfl) rfl rfl ?_
    refine gw_goto (tgt := 17) (gc k_Model_compass_1 11 rfl) rfl ?_
    exact K
  · exact absurd c54 (by omega)
set_option maxHeartbeats 2000000 in
theorem com_in {sh : gS} {g0 : gM} (hx : gFix sh) (hf0 : gFin g0) {r : Int → Int} (ho : rowOK r) (k w : Int) (hw : 0 ≤ w ∧ w ≤ 26) (x3 : gV) {g : gM} (hs : vIn r g0 g) (hle : w ≤ r 40 - r 39) {Q : gQ} (K : gWP f_Model_compass 46 0 0 44 [(2, 177), (0, k), (0, w), (0, r 39)] [] sh g Q) : gWP f_Model_compass 46 0 0 17 [(2, 177), (0, k), (0, w), x3] [] sh g Q := by
  have hf := hf0.vo hs.2
  have hm := ro_many ho
  have em := hs.1.1
  have hlo1 := ro_low ho
  have hhi := ro_high ho
  have hv := hs.1
  show gWP f_Model_compass _ _ _ 17 [(2, 177), (0, k), (0, w), x3] [] sh g _
  refine gw_iload_n (gc k_Model_compass_0 11 rfl) rfl ?_
  refine gw_aload_n (gc k_Model_compass_0 12 rfl) rfl rfl ?_
  refine gw_getref (gc k_Model_compass_0 13 rfl) fl_Model_28 (gAt hx rfl rfl) (gRf hf rfl rfl) ?_
  refine gw_bipush (gc k_Model_compass_0 14 rfl) (by decide) ?_
  refine gw_iald (gc k_Model_compass_0 15 rfl) (gAt hx rfl rfl) (by omega) ?_
  refine gw_aload_n (gc k_Model_compass_0 16 rfl) rfl rfl ?_
  refine gw_getref (gc k_Model_compass_0 17 rfl) fl_Model_28 (gAt hx rfl rfl) (gRf hf rfl rfl) ?_
  refine gw_bipush (gc k_Model_compass_0 18 rfl) (by decide) ?_
  refine gw_iald (gc k_Model_compass_0 19 rfl) (gAt hx rfl rfl) (by omega) ?_
  refine gw_isub (gc k_Model_compass_0 20 rfl) ?_
  rw [em]
  refine gw_icmp_gt (tgt := 90) (gc k_Model_compass_0 21 rfl) rfl (by omega) (fun c33 => ?_) (fun c33 => ?_)
  · exact absurd c33 (by omega)
  · refine gw_aload_n (gc k_Model_compass_0 22 rfl) rfl rfl ?_
    refine gw_getref (gc k_Model_compass_0 23 rfl) fl_Model_28 (gAt hx rfl rfl) (gRf hf rfl rfl) ?_
    refine gw_bipush (gc k_Model_compass_0 24 rfl) (by decide) ?_
    refine gw_iald (gc k_Model_compass_0 25 rfl) (gAt hx rfl rfl) (by omega) ?_
    rw [em]
    refine gw_istore_3 (gc k_Model_compass_0 26 rfl) rfl rfl ?_
    exact K
set_option maxHeartbeats 2000000 in
theorem com_end {sh : gS} {g0 : gM} (hx : gFix sh) (hf0 : gFin g0) {r : Int → Int} (ho : rowOK r) (k w : Int) (hw : 0 ≤ w ∧ w ≤ 26) (x3 : gV) {g : gM} (hs : vIn r g0 g) (hle : ¬ w ≤ r 40 - r 39) : gWP f_Model_compass 46 0 0 17 [(2, 177), (0, k), (0, w), x3] [] sh g (gR (some (0, -1)) sh g) := by
  have hf := hf0.vo hs.2
  have hm := ro_many ho
  have em := hs.1.1
  have hlo1 := ro_low ho
  have hhi := ro_high ho
  have hv := hs.1
  show gWP f_Model_compass _ _ _ 17 [(2, 177), (0, k), (0, w), x3] [] sh g _
  refine gw_iload_n (gc k_Model_compass_0 11 rfl) rfl ?_
  refine gw_aload_n (gc k_Model_compass_0 12 rfl) rfl rfl ?_
  refine gw_getref (gc k_Model_compass_0 13 rfl) fl_Model_28 (gAt hx rfl rfl) (gRf hf rfl rfl) ?_
  refine gw_bipush (gc k_Model_compass_0 14 rfl) (by decide) ?_
  refine gw_iald (gc k_Model_compass_0 15 rfl) (gAt hx rfl rfl) (by omega) ?_
  refine gw_aload_n (gc k_Model_compass_0 16 rfl) rfl rfl ?_
  refine gw_getref (gc k_Model_compass_0 17 rfl) fl_Model_28 (gAt hx rfl rfl) (gRf hf rfl rfl) ?_
  refine gw_bipush (gc k_Model_compass_0 18 rfl) (by decide) ?_
  refine gw_iald (gc k_Model_compass_0 19 rfl) (gAt hx rfl rfl) (by omega) ?_
  refine gw_isub (gc k_Model_compass_0 20 rfl) ?_
  rw [em]
  refine gw_icmp_gt (tgt := 90) (gc k_Model_compass_0 21 rfl) rfl (by omega) (fun c33 => ?_) (fun c33 => ?_)
  · refine gw_iconst (gc k_Model_compass_1 12 rfl) ?_
    refine gw_ireturn (gc k_Model_compass_1 13 rfl) rfl ?_
    exact ⟨rfl, rfl, rfl⟩
  · exact absurd c33 (by omega)
theorem com_inner {sh : gS} {g0 : gM} (hx : gFix sh) (hf0 : gFin g0) {r : Int → Int} (ho : rowOK r) (k w : Int) (hk : 0 ≤ k ∧ k ≤ 1) (hw : 0 ≤ w ∧ w ≤ 25) {Q : gQ} : ∀ (m : Nat) (lo : Int) (g : gM), r 39 ≤ lo → lo + m = r 40 + 1 - w → vIn r g0 g → (∀ g3 y, vIn r g0 g3 → cmIn r w m lo = none → gWP f_Model_compass 46 0 0 17 [(2, 177), (0, k), (0, w + 1), (0, y)] [] sh g3 Q) → (∀ g3 y, vIn r g0 g3 → cmIn r w m lo = some y → Q (some (0, if k = 0 then w else y)) sh g3) → gWP f_Model_compass 46 0 0 44 [(2, 177), (0, k), (0, w), (0, lo)] [] sh g Q
  | 0, lo, g, h0, e, hs, K1, K2 => by
    have hhi := ro_high ho
    exact com_next hx hf0 ho k w lo hk hw (by omega) hs (by omega) (K1 g _ hs rfl)
  | m + 1, lo, g, h0, e, hs, K1, K2 => by
    have hhi := ro_high ho
    rcases (show hvB r lo (lo + w) = 0 ∨ hvB r lo (lo + w) = 1 from bi_01 _) with z | z
    · have e2 : cmIn r w (m + 1) lo = cmIn r w m (lo + 1) := by
        show (if hvB r lo (lo + w) = 1 then _ else _) = _
        rw [if_neg (by omega)]
      rw [e2] at K1 K2
      exact com_no hx hf0 ho k w lo hk hw (by omega) hs (by omega) z (fun g3 h3 => com_inner hx hf0 ho k w hk hw m (lo + 1) g3 (by omega) (by omega) h3 K1 K2)
    · have e2 : cmIn r w (m + 1) lo = some lo := by
        show (if hvB r lo (lo + w) = 1 then _ else _) = _
        rw [if_pos z]
      exact com_yes hx hf0 ho k w lo hk hw (by omega) hs (by omega) z (fun g3 h3 => K2 g3 lo h3 e2)
theorem com_outer {sh : gS} {g0 : gM} (hx : gFix sh) (hf0 : gFin g0) {r : Int → Int} (ho : rowOK r) (k : Int) (hk : 0 ≤ k ∧ k ≤ 1) : ∀ (m : Nat) (w : Int) (g : gM) (x3 : gV), 0 ≤ w → (w ≤ 25 ∧ m = (r 40 + 1 - r 39 - w).toNat) → vIn r g0 g → gWP f_Model_compass 46 0 0 17 [(2, 177), (0, k), (0, w), x3] [] sh g (fun x s2 g2 => x = some (0, match cmOut r m w with
    | some (w, lo) => if k = 0 then w else lo
    | none => -1) ∧ s2 = sh ∧ gVo g0 g2)
  | 0, w, g, x3, h0, e, hs => by
    exact gWP.mono (com_end hx hf0 ho k w (by omega) x3 hs (by omega)) (fun x s2 g2 z => ⟨z.1, z.2.1, by rw [z.2.2]; exact hs.2⟩)
  | m + 1, w, g, x3, h0, e, hs => by
    have hlo := ro_low ho
    have hhi := ro_high ho
    refine com_in hx hf0 ho k w (by omega) x3 hs (by omega) ?_
    refine com_inner hx hf0 ho k w hk (by omega) (r 40 + 1 - w - r 39).toNat (r 39) g (Int.le_refl _) (by omega) hs (fun g3 y h3 hc => ?_) (fun g3 y h3 hc => ?_)
    · have e2 : cmOut r (m + 1) w = cmOut r m (w + 1) := by
        show (match cmIn r w (r 40 + 1 - w - r 39).toNat (r 39) with
          | some lo => some (w, lo)
          | none => cmOut r m (w + 1)) = _
        rw [hc]
      rw [e2]
      exact com_outer hx hf0 ho k hk m (w + 1) g3 _ (by omega) (by omega) h3
    · have e2 : cmOut r (m + 1) w = some (w, y) := by
        show (match cmIn r w (r 40 + 1 - w - r 39).toNat (r 39) with
          | some lo => some (w, lo)
          | none => cmOut r m (w + 1)) = _
        rw [hc]
      rw [e2]
      exact ⟨rfl, rfl, h3.2⟩
set_option maxHeartbeats 1000000 in
theorem c_Model_compass {sh : gS} {g : gM} (hx : gFix sh) (hf : gFin g) (k : Int) (hb : -2147483648 ≤ k ∧ k ≤ 2147483647) (ho : rowOK (g 179)) (hl : lawsOK (g 179)) : gTri f_Model_compass 46 0 0 [(2, 177), (0, k)] sh g (fun x s2 g2 => x = some (0, comR (g 179) k) ∧ s2 = sh ∧ gVo g g2) := by
  have hlo := ro_low ho
  have hhi := ro_high ho
  refine gTri.of (by decide +kernel) rfl ?_
  show gWP f_Model_compass _ _ _ 0 [(2, 177), (0, k), (9, 0), (9, 0)] [] sh g _
  refine gw_iload_n (gc k_Model_compass_0 0 rfl) rfl ?_
  refine gw_iconst (gc k_Model_compass_0 1 rfl) ?_
  refine gw_iconst (gc k_Model_compass_0 2 rfl) ?_
  refine gw_cS1 (gc k_Model_compass_0 3 rfl) y_Model_lies ln_Model_18 (c_Model_lies _ _ _ (by omega)) rfl rfl rfl rfl ?_
  refine gw_bne (tgt := 11) (gc k_Model_compass_0 4 rfl) rfl (fun c6 => ?_) (fun c6 => ?_)
  · refine gw_aload_n (gc k_Model_compass_0 7 rfl) rfl rfl ?_
    refine gw_xV1 (gc k_Model_compass_0 8 rfl) y_Model_laysNotes ln_Model_376 (c_Model_laysNotes hx hf ho hl) rfl rfl (gAt hx rfl rfl) rfl rfl (fun r12 sh2 g12 hq12 => ?_)
    obtain ⟨rfl, rfl, hq1⟩ := hq12
    refine gw_iconst (gc k_Model_compass_0 9 rfl) ?_
    refine gw_istore_2 (gc k_Model_compass_0 10 rfl) rfl rfl ?_
    unfold comR
    rw [if_pos c6]
    exact com_outer hx hf ho k c6 _ 0 _ _ (Int.le_refl _) ⟨by decide, by rw [Int.sub_zero]⟩ ⟨hq1.laid, hq1.vo⟩
  · refine gw_iconst (gc k_Model_compass_0 5 rfl) ?_
    refine gw_ireturn (gc k_Model_compass_0 6 rfl) rfl ?_
    exact ⟨by unfold comR; rw [if_neg c6], rfl, gVo.rf g⟩
