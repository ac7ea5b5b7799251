def btF (r : Int → Int) (b : Int) : Nat → Int → Int → Int
  | 0, _, p => if p = b then 0 else 100000000
  | m + 1, n, p => mnF (fun q => 1 - vBar r (n + 1) p q) (fun q => vPrice r (n + 1) p q + btF r b m (n + 1) q) (r 39) (r 40 + 1 - r 39).toNat
theorem btF_bd (r : Int → Int) (b : Int) : ∀ (m : Nat) (n p : Int), 0 ≤ btF r b m n p ∧ btF r b m n p ≤ 100000000
  | 0, _, _ => by unfold btF; split <;> omega
  | m + 1, n, p => by
    unfold btF
    have := mnF_bd (C := fun q => 1 - vBar r (n + 1) p q) (P := fun q => vPrice r (n + 1) p q + btF r b m (n + 1) q) (lo := r 39) (b := 0) (by omega) (fun q => by
      have h1 := vPrice_nn r (n + 1) p q
      have h2 := btF_bd r b m (n + 1) q
      show -0 ≤ vPrice r (n + 1) p q + btF r b m (n + 1) q
      omega) (r 40 + 1 - r 39).toNat
    omega
def btR (r : Int → Int) (b n p : Int) : Int := btF r b (r 41 - 1 - n).toNat n p
def btV (r : Int → Int) (b n h : Int) : Int := mnF (fun q => 1 - vBar r n h q) (fun q => vPrice r n h q + btR r b n q) (r 39) (r 40 + 1 - r 39).toNat
theorem btR_last {r : Int → Int} {b n p : Int} (h : n = r 41 - 1) : btR r b n p = if p = b then 0 else 100000000 := by
  unfold btR
  rw [show (r 41 - 1 - n).toNat = 0 by omega]
  rfl
theorem btR_step {r : Int → Int} {b n p : Int} (h : n < r 41 - 1) : btR r b n p = btV r b (n + 1) p := by
  unfold btR btV btR
  rw [show (r 41 - 1 - n).toNat = (r 41 - 1 - (n + 1)).toNat + 1 by omega]
  rfl
def beR (r : Int → Int) (a b : Int) : Int := if ¬ r 41 = 0 ∧ (r 39 ≤ a ∧ a ≤ r 40) ∧ (r 39 ≤ b ∧ b ≤ r 40) then (if vBar r 0 0 a = 0 ∧ vPrice r 0 0 a + btR r b 0 a < 100000000 then vPrice r 0 0 a + btR r b 0 a else -1) else -1
theorem c_leastB {sh : gS} {g : gM} (hx : gFix sh) (hf : gFin g) {r : Int → Int} (ho : rowOK r) (hv : vLaid r g) (n h b : Int) (hn : 0 ≤ n ∧ n < r 41) (hh : 0 ≤ h ∧ h ≤ 24) (h0 : n = 0 → h = 0) (hR : ∀ q, r 39 ≤ q → q ≤ r 40 → g 195 (25 * n + q) = btR r b n q) : gTri f_Model_leastFrom 2 0 0 [(2, 177), (0, n), (0, h), (0, r 39), (0, r 40), (0, 0)] sh g (gR (some (0, btV r b n h)) sh g) := by
  have hm := ro_many ho
  have hlo := ro_low ho
  have hhi := ro_high ho
  have q := c_Model_leastFrom hx hf n h (r 39) (r 40) 0 (by omega) hh (by omega) (Or.inl rfl) (by rw [hv.1]; exact ho) (fun q => 1 - vBar r n h q) (fun q => if r 39 ≤ q ∧ q ≤ r 40 then vPrice r n h q + btR r b n q else 0) (fun q a c => ⟨(hv.2 n h q hn.1 hn.2 hh.1 ⟨hh.2, h0⟩ (by omega) (by omega)).1, by have := vBar_01 r n h q; omega⟩) (fun q a c => by
    rw [hR q a c, (hv.2 n h q hn.1 hn.2 hh.1 ⟨hh.2, h0⟩ (by omega) (by omega)).2.1, hv.1]
    exact (if_pos (show r 39 ≤ q ∧ q ≤ r 40 from ⟨a, c⟩)).symm) (fun q => by
    show -100000 ≤ (if r 39 ≤ q ∧ q ≤ r 40 then vPrice r n h q + btR r b n q else 0) ∧ (if r 39 ≤ q ∧ q ≤ r 40 then vPrice r n h q + btR r b n q else 0) ≤ 200000000
    by_cases z : r 39 ≤ q ∧ q ≤ r 40
    · rw [if_pos z]
      have h1 := vPrice_nn r n h q
      have h2 := vPrice_bd (r := r) n h q (by omega) (by omega)
      have h3 := btF_bd r b (r 41 - 1 - n).toNat n q
      unfold btR
      omega
    · rw [if_neg z]; omega)
  rw [mnF_ext (C2 := fun q => 1 - vBar r n h q) (P2 := fun q => vPrice r n h q + btR r b n q) _ (fun q a c => ⟨rfl, if_pos ⟨a, by omega⟩⟩)] at q
  exact q
set_option maxHeartbeats 2000000 in
theorem be_step {sh : gS} {g0 : gM} (hx : gFix sh) (hf0 : gFin g0) {r : Int → Int} (ho : rowOK r) (hv : vLaid r g0) (a b : Int) (hb : 0 ≤ b ∧ b ≤ 24) (i j : Int) (hi2 : 0 ≤ i ∧ i < r 41) {g : gM} (hs : aUp 195 (btR r b) r g0 i j g) (hj : r 39 ≤ j ∧ j ≤ r 40) {Q : gQ} (K : ∀ g3, aUp 195 (btR r b) r g0 i (j + 1) g3 → gWP f_Model_between 46 0 0 53 [(2, 177), (0, a), (0, b), (0, r 41 - 1), (0, i), (0, j + 1)] [] sh g3 Q) : gWP f_Model_between 46 0 0 53 [(2, 177), (0, a), (0, b), (0, r 41 - 1), (0, i), (0, j)] [] sh g Q := by
  have hf := hs.fin (Or.inl rfl) hf0
  have hm := ro_many ho
  have hv2 := hs.laid (Or.inl rfl) hv
  have em := hv2.1
  have hlo := ro_low ho
  have hhi := ro_high ho
  show gWP f_Model_between _ _ _ 53 [(2, 177), (0, a), (0, b), (0, r 41 - 1), (0, i), (0, j)] [] sh g _
  skip
  refine gw_iload (gc k_Model_between_0 29 rfl) rfl ?_
  refine gw_aload_n (gc k_Model_between_0 30 rfl) rfl rfl ?_
  refine gw_getref (gc k_Model_between_0 31 rfl) fl_Model_28 (gAt hx rfl rfl) (gRf hf rfl rfl) ?_
  refine gw_bipush (gc k_Model_between_0 32 rfl) (by decide) ?_
  refine gw_iald (gc k_Model_between_0 33 rfl) (gAt hx rfl rfl) (by omega) ?_
  rw [em]
  refine gw_icmp_gt (tgt := 131) (gc k_Model_between_0 34 rfl) rfl (by omega) (fun c62 => ?_) (fun c62 => ?_)
  · exact absurd c62 (by omega)
  · refine gw_aload_n (gc k_Model_between_0 35 rfl) rfl rfl ?_
    refine gw_getref (gc k_Model_between_0 36 rfl) fl_Model_81 (gAt hx rfl rfl) (gRf hf rfl rfl) ?_
    refine gw_bipush (gc k_Model_between_0 37 rfl) (by decide) ?_
    refine gw_iload (gc k_Model_between_0 38 rfl) rfl ?_
    refine gw_imul (gc k_Model_between_0 39 rfl) ?_
    refine gw_iload (gc k_Model_between_1 0 rfl) rfl ?_
    refine gw_iadd (gc k_Model_between_1 1 rfl) ?_
    refine gw_iload (gc k_Model_between_1 2 rfl) rfl ?_
    refine gw_iload_n (gc k_Model_between_1 3 rfl) rfl ?_
    refine gw_icmp_ne (tgt := 99) (gc k_Model_between_1 4 rfl) rfl (by omega) (fun c80 => ?_) (fun c80 => ?_)
    · refine gw_aload_n (gc k_Model_between_1 12 rfl) rfl rfl ?_
      refine gw_iload (gc k_Model_between_1 13 rfl) rfl ?_
      refine gw_iconst (gc k_Model_between_1 14 rfl) ?_
      refine gw_iadd (gc k_Model_between_1 15 rfl) ?_
      refine gw_iload (gc k_Model_between_1 16 rfl) rfl ?_
      refine gw_aload_n (gc k_Model_between_1 17 rfl) rfl rfl ?_
      refine gw_getref (gc k_Model_between_1 18 rfl) fl_Model_28 (gAt hx rfl rfl) (gRf hf rfl rfl) ?_
      refine gw_bipush (gc k_Model_between_1 19 rfl) (by decide) ?_
      refine gw_iald (gc k_Model_between_1 20 rfl) (gAt hx rfl rfl) (by omega) ?_
      refine gw_aload_n (gc k_Model_between_1 21 rfl) rfl rfl ?_
      refine gw_getref (gc k_Model_between_1 22 rfl) fl_Model_28 (gAt hx rfl rfl) (gRf hf rfl rfl) ?_
      refine gw_bipush (gc k_Model_between_1 23 rfl) (by decide) ?_
      refine gw_iald (gc k_Model_between_1 24 rfl) (gAt hx rfl rfl) (by omega) ?_
      rw [em]
      refine gw_iconst (gc k_Model_between_1 25 rfl) ?_
      refine gw_cV1 (gc k_Model_between_1 26 rfl) y_Model_leastFrom ln_Model_360 (c_leastB hx hf ho hv2 (i + 1) j b (by omega) (by omega) (by omega) (fun q x y => hs.2 (i + 1) q (by omega) (by omega) x y (Or.inl (by omega)))) rfl rfl (gAt hx rfl rfl) rfl rfl ?_
      refine gw_iastF (gc k_Model_between_1 27 rfl) (gAt hx rfl rfl) (by omega) hf rfl (fun hf => ?_)
      refine gw_iinc_5 (gc k_Model_between_1 28 rfl) rfl rfl ?_
      refine gw_goto (tgt := 53) (gc k_Model_between_1 29 rfl) rfl ?_
      exact K _ (hs.step ho hj (btR_step (by omega)).symm)
    · refine gw_iload (gc k_Model_between_1 5 rfl) rfl ?_
      refine gw_iload_n (gc k_Model_between_1 6 rfl) rfl ?_
      refine gw_icmp_ne (tgt := 93) (gc k_Model_between_1 7 rfl) rfl (by omega) (fun c86 => ?_) (fun c86 => ?_)
      · refine gw_ldcw (gc k_Model_between_1 10 rfl) cn_Model_364 ?_
        refine gw_goto (tgt := 124) (gc k_Model_between_1 11 rfl) rfl ?_
        refine gw_iastF (gc k_Model_between_1 27 rfl) (gAt hx rfl rfl) (by omega) hf rfl (fun hf => ?_)
        refine gw_iinc_5 (gc k_Model_between_1 28 rfl) rfl rfl ?_
        refine gw_goto (tgt := 53) (gc k_Model_between_1 29 rfl) rfl ?_
        exact K _ (hs.step ho hj (by rw [btR_last (by omega)]; first | rw [if_pos (by omega)] | rw [if_neg (by omega)]))
      · refine gw_iconst (gc k_Model_between_1 8 rfl) ?_
        refine gw_goto (tgt := 124) (gc k_Model_between_1 9 rfl) rfl ?_
        refine gw_iastF (gc k_Model_between_1 27 rfl) (gAt hx rfl rfl) (by omega) hf rfl (fun hf => ?_)
        refine gw_iinc_5 (gc k_Model_between_1 28 rfl) rfl rfl ?_
        refine gw_goto (tgt := 53) (gc k_Model_between_1 29 rfl) rfl ?_
        exact K _ (hs.step ho hj (by rw [btR_last (by omega)]; first | rw [if_pos (by omega)] | rw [if_neg (by omega)]))
set_option maxHeartbeats 2000000 in
theorem be_exit {sh : gS} {g0 : gM} (hx : gFix sh) (hf0 : gFin g0) {r : Int → Int} (ho : rowOK r) (hv : vLaid r g0) (a b : Int) (hb : 0 ≤ b ∧ b ≤ 24) (i j : Int) (hi2 : 0 ≤ i ∧ i < r 41) {g : gM} (hs : aUp 195 (btR r b) r g0 i j g) (hj : r 40 < j ∧ j ≤ 25) {Q : gQ} (K : gWP f_Model_between 46 0 0 39 [(2, 177), (0, a), (0, b), (0, r 41 - 1), (0, i - 1), (0, j)] [] sh g Q) : gWP f_Model_between 46 0 0 53 [(2, 177), (0, a), (0, b), (0, r 41 - 1), (0, i), (0, j)] [] sh g Q := by
  have hf := hs.fin (Or.inl rfl) hf0
  have hm := ro_many ho
  have hv2 := hs.laid (Or.inl rfl) hv
  have em := hv2.1
  have hlo := ro_low ho
  have hhi := ro_high ho
  show gWP f_Model_between _ _ _ 53 [(2, 177), (0, a), (0, b), (0, r 41 - 1), (0, i), (0, j)] [] sh g _
  refine gw_iload (gc k_Model_between_0 29 rfl) rfl ?_
  refine gw_aload_n (gc k_Model_between_0 30 rfl) rfl rfl ?_
  refine gw_getref (gc k_Model_between_0 31 rfl) fl_Model_28 (gAt hx rfl rfl) (gRf hf rfl rfl) ?_
  refine gw_bipush (gc k_Model_between_0 32 rfl) (by decide) ?_
  refine gw_iald (gc k_Model_between_0 33 rfl) (gAt hx rfl rfl) (by omega) ?_
  rw [em]
  refine gw_icmp_gt (tgt := 131) (gc k_Model_between_0 34 rfl) rfl (by omega) (fun c62 => ?_) (fun c62 => ?_)
  · refine gw_iinc_4 (gc k_Model_between_1 30 rfl) rfl rfl ?_
    refine gw_goto (tgt := 39) (gc k_Model_between_1 31 rfl) rfl ?_
    rw [show i + -1 = i - 1 by omega]
    exact K
  · exact absurd c62 (by omega)
theorem be_row {sh : gS} {g0 : gM} (hx : gFix sh) (hf0 : gFin g0) {r : Int → Int} (ho : rowOK r) (hv : vLaid r g0) (a b : Int) (hb : 0 ≤ b ∧ b ≤ 24) (i : Int) (hi2 : 0 ≤ i ∧ i < r 41) {Q : gQ} (K : ∀ (g3 : gM) (y : Int), aUp 195 (btR r b) r g0 (i - 1) (r 39) g3 → gWP f_Model_between 46 0 0 39 [(2, 177), (0, a), (0, b), (0, r 41 - 1), (0, i - 1), (0, y)] [] sh g3 Q) : ∀ (m : Nat) (j : Int) (g : gM), r 39 ≤ j → j + m = (if r 39 ≤ r 40 + 1 then r 40 + 1 else r 39) → aUp 195 (btR r b) r g0 i j g → gWP f_Model_between 46 0 0 53 [(2, 177), (0, a), (0, b), (0, r 41 - 1), (0, i), (0, j)] [] sh g Q
  | 0, j, g, h0, e, hs => by
    have hlo := ro_low ho
    have hhi := ro_high ho
    have hj : r 40 < j ∧ j ≤ 25 := by
      by_cases z : r 39 ≤ r 40 + 1
      · rw [if_pos z] at e; omega
      · rw [if_neg z] at e; omega
    exact be_exit hx hf0 ho hv a b hb i j hi2 hs hj (K g _ ⟨hs.1, fun n q a1 a2 a3 a4 a5 => hs.2 n q a1 a2 a3 a4 (by omega)⟩)
  | m + 1, j, g, h0, e, hs => by
    have hj : j ≤ r 40 := by
      by_cases z : r 39 ≤ r 40 + 1
      · rw [if_pos z] at e; omega
      · rw [if_neg z] at e; omega
    exact be_step hx hf0 ho hv a b hb i j hi2 hs ⟨h0, hj⟩ (fun g3 h3 => be_row hx hf0 ho hv a b hb i hi2 K m (j + 1) g3 (by omega) (by omega) h3)
set_option maxHeartbeats 2000000 in
theorem bes_step {sh : gS} {g : gM} (hx : gFix sh) (hf : gFin g) (a b l i : Int) (hi2 : -1 ≤ i ∧ i < 12) (x2 : gV) (h : 0 ≤ i) {Q : gQ} (K : gWP f_Model_between 46 0 0 53 [(2, 177), (0, a), (0, b), (0, l), (0, i), (0, g 179 39)] [] sh g Q) : gWP f_Model_between 46 0 0 39 [(2, 177), (0, a), (0, b), (0, l), (0, i), x2] [] sh g Q := by
  skip
  show gWP f_Model_between _ _ _ 39 [(2, 177), (0, a), (0, b), (0, l), (0, i), x2] [] sh g _
  refine gw_iload (gc k_Model_between_0 22 rfl) rfl ?_
  refine gw_if_lt (tgt := 137) (gc k_Model_between_0 23 rfl) rfl (by omega) (fun c41 => ?_) (fun c41 => ?_)
  · exact absurd c41 (by omega)
  · refine gw_aload_n (gc k_Model_between_0 24 rfl) rfl rfl ?_
    refine gw_getref (gc k_Model_between_0 25 rfl) fl_Model_28 (gAt hx rfl rfl) (gRf hf rfl rfl) ?_
    refine gw_bipush (gc k_Model_between_0 26 rfl) (by decide) ?_
    refine gw_iald (gc k_Model_between_0 27 rfl) (gAt hx rfl rfl) (by omega) ?_
    refine gw_istore_5 (gc k_Model_between_0 28 rfl) rfl rfl ?_
    exact K
set_option maxHeartbeats 2000000 in
theorem bes_exit {sh : gS} {g : gM} (hx : gFix sh) (hf : gFin g) (a b l i : Int) (hi2 : -1 ≤ i ∧ i < 12) (x2 : gV) (h : ¬ 0 ≤ i) {Q : gQ} (K : gWP f_Model_between 46 0 0 137 [(2, 177), (0, a), (0, b), (0, l), (0, i), x2] [] sh g Q) : gWP f_Model_between 46 0 0 39 [(2, 177), (0, a), (0, b), (0, l), (0, i), x2] [] sh g Q := by
  skip
  show gWP f_Model_between _ _ _ 39 [(2, 177), (0, a), (0, b), (0, l), (0, i), x2] [] sh g _
  refine gw_iload (gc k_Model_between_0 22 rfl) rfl ?_
  refine gw_if_lt (tgt := 137) (gc k_Model_between_0 23 rfl) rfl (by omega) (fun c41 => ?_) (fun c41 => ?_)
  · exact K
  · exact absurd c41 (by omega)
theorem bes_loop {sh : gS} {g0 : gM} (hx : gFix sh) (hf0 : gFin g0) {r : Int → Int} (ho : rowOK r) (hv : vLaid r g0) (a b : Int) (hb : 0 ≤ b ∧ b ≤ 24) {Q : gQ} (K : ∀ (g3 : gM) (i : Int) (y : gV), aUp 195 (btR r b) r g0 (-1) (r 39) g3 → gWP f_Model_between 46 0 0 137 [(2, 177), (0, a), (0, b), (0, r 41 - 1), (0, i), y] [] sh g3 Q) : ∀ (m : Nat) (i : Int) (g : gM) (x2 : gV), i + 1 = m → i < r 41 → aUp 195 (btR r b) r g0 i (r 39) g → gWP f_Model_between 46 0 0 39 [(2, 177), (0, a), (0, b), (0, r 41 - 1), (0, i), x2] [] sh g Q
  | 0, i, g, x2, e, h2, hs => by
    have hm := ro_many ho
    obtain rfl : i = -1 := by omega
    exact bes_exit hx (hs.fin (Or.inl rfl) hf0) a b _ (-1) (by omega) x2 (by omega) (K g (-1) x2 hs)
  | m + 1, i, g, x2, e, h2, hs => by
    have hm := ro_many ho
    refine bes_step hx (hs.fin (Or.inl rfl) hf0) a b _ i (by omega) x2 (by omega) ?_
    rw [(hs.laid (Or.inl rfl) hv).1]
    refine be_row hx hf0 ho hv a b hb i (by omega) (fun g3 y h3 => bes_loop hx hf0 ho hv a b hb K m (i - 1) g3 _ (by omega) (by omega) h3) ((if r 39 ≤ r 40 + 1 then r 40 + 1 else r 39) - r 39).toNat (r 39) g (Int.le_refl _) ?_ hs
    split <;> omega
set_option maxHeartbeats 2000000 in
theorem be_end {sh : gS} {g : gM} (hx : gFix sh) (hf : gFin g) {r : Int → Int} (ho : rowOK r) (hv : vLaid r g) (hm0 : ¬ r 41 = 0) (a b l : Int) (ha : r 39 ≤ a ∧ a ≤ r 40) (hb : r 39 ≤ b ∧ b ≤ r 40) (hR : g 195 a = btR r b 0 a) (i : Int) (y : gV) : gWP f_Model_between 46 0 0 137 [(2, 177), (0, a), (0, b), (0, l), (0, i), y] [] sh g (gR (some (0, beR r a b)) sh g) := by
  have hm := ro_many ho
  have hlo := ro_low ho
  have hhi := ro_high ho
  have e25 : (625 * 0 + 25 * 0 + a : Int) = a := by omega
  have hC := hv.2 0 0 a (by omega) (by omega) (by omega) ⟨by omega, fun _ => rfl⟩ (by omega) (by omega)
  rw [e25] at hC
  have hb2 := vBar_01 r 0 0 a
  have h1 := vPrice_bd (r := r) 0 0 a (by omega) (by omega)
  have h3 := btF_bd r b (r 41 - 1 - 0).toNat 0 a
  have h4 : btR r b 0 a = btF r b (r 41 - 1 - 0).toNat 0 a := rfl
  show gWP f_Model_between _ _ _ 137 [(2, 177), (0, a), (0, b), (0, l), (0, i), y] [] sh g _
  refine gw_aload_n (gc k_Model_between_1 32 rfl) rfl rfl ?_
  refine gw_getref (gc k_Model_between_1 33 rfl) fl_Model_78 (gAt hx rfl rfl) (gRf hf rfl rfl) ?_
  refine gw_iconst (gc k_Model_between_1 34 rfl) ?_
  refine gw_iconst (gc k_Model_between_1 35 rfl) ?_
  refine gw_iload_n (gc k_Model_between_1 36 rfl) rfl ?_
  refine gw_cS1 (gc k_Model_between_1 37 rfl) y_Model_noteAt ln_Model_354 (c_Model_noteAt 0 0 a) rfl rfl rfl rfl ?_
  rw [e25]
  refine gw_zald (gc k_Model_between_1 38 rfl) (gAt hx rfl rfl) (by omega) ?_
  rw [hC.1]
  refine gw_if_eq (tgt := 172) (gc k_Model_between_1 39 rfl) rfl (by omega) (fun c148 => ?_) (fun c148 => ?_)
  · refine gw_ldcw (gc k_Model_between_2 13 rfl) cn_Model_364 ?_
    refine gw_istore_4 (gc k_Model_between_2 14 rfl) rfl rfl ?_
    refine gw_iload (gc k_Model_between_2 15 rfl) rfl ?_
    refine gw_ldcw (gc k_Model_between_2 16 rfl) cn_Model_364 ?_
    refine gw_icmp_lt (tgt := 189) (gc k_Model_between_2 17 rfl) rfl (by omega) (fun c182 => ?_) (fun c182 => ?_)
    · refine gw_iload (gc k_Model_between_2 20 rfl) rfl ?_
      refine gw_ireturn (gc k_Model_between_2 21 rfl) rfl ?_
      exact ⟨by unfold beR; rw [if_pos ⟨hm0, ha, hb⟩]; first | exact absurd c182 (by decide) | rw [if_pos (by omega)] | rw [if_neg (by omega)], rfl, rfl⟩
    · refine gw_iconst (gc k_Model_between_2 18 rfl) ?_
      refine gw_goto (tgt := 191) (gc k_Model_between_2 19 rfl) rfl ?_
      refine gw_ireturn (gc k_Model_between_2 21 rfl) rfl ?_
      exact ⟨by unfold beR; rw [if_pos ⟨hm0, ha, hb⟩]; first | exact absurd c182 (by decide) | rw [if_pos (by omega)] | rw [if_neg (by omega)], rfl, rfl⟩
  · refine gw_aload_n (gc k_Model_between_2 0 rfl) rfl rfl ?_
    refine gw_getref (gc k_Model_between_2 1 rfl) fl_Model_72 (gAt hx rfl rfl) (gRf hf rfl rfl) ?_
    refine gw_iconst (gc k_Model_between_2 2 rfl) ?_
    refine gw_iconst (gc k_Model_between_2 3 rfl) ?_
    refine gw_iload_n (gc k_Model_between_2 4 rfl) rfl ?_
    refine gw_cS1 (gc k_Model_between_2 5 rfl) y_Model_noteAt ln_Model_354 (c_Model_noteAt 0 0 a) rfl rfl rfl rfl ?_
    rw [e25]
    refine gw_iald (gc k_Model_between_2 6 rfl) (gAt hx rfl rfl) (by omega) ?_
    rw [hC.2.1]
    refine gw_aload_n (gc k_Model_between_2 7 rfl) rfl rfl ?_
    refine gw_getref (gc k_Model_between_2 8 rfl) fl_Model_81 (gAt hx rfl rfl) (gRf hf rfl rfl) ?_
    refine gw_iload_n (gc k_Model_between_2 9 rfl) rfl ?_
    refine gw_iald (gc k_Model_between_2 10 rfl) (gAt hx rfl rfl) (by omega) ?_
    rw [hR]
    refine gw_iadd (gc k_Model_between_2 11 rfl) ?_
    refine gw_goto (tgt := 175) (gc k_Model_between_2 12 rfl) rfl ?_
    refine gw_istore_4 (gc k_Model_between_2 14 rfl) rfl rfl ?_
    refine gw_iload (gc k_Model_between_2 15 rfl) rfl ?_
    refine gw_ldcw (gc k_Model_between_2 16 rfl) cn_Model_364 ?_
    refine gw_icmp_lt (tgt := 189) (gc k_Model_between_2 17 rfl) rfl (by omega) (fun c182 => ?_) (fun c182 => ?_)
    · refine gw_iload (gc k_Model_between_2 20 rfl) rfl ?_
      refine gw_ireturn (gc k_Model_between_2 21 rfl) rfl ?_
      exact ⟨by unfold beR; rw [if_pos ⟨hm0, ha, hb⟩]; first | exact absurd c182 (by decide) | rw [if_pos (by omega)] | rw [if_neg (by omega)], rfl, rfl⟩
    · refine gw_iconst (gc k_Model_between_2 18 rfl) ?_
      refine gw_goto (tgt := 191) (gc k_Model_between_2 19 rfl) rfl ?_
      refine gw_ireturn (gc k_Model_between_2 21 rfl) rfl ?_
      exact ⟨by unfold beR; rw [if_pos ⟨hm0, ha, hb⟩]; first | exact absurd c182 (by decide) | rw [if_pos (by omega)] | rw [if_neg (by omega)], rfl, rfl⟩
set_option maxHeartbeats 1000000 in
theorem c_Model_between {sh : gS} {g : gM} (hx : gFix sh) (hf : gFin g) (a b : Int) (hab : (-2147483648 ≤ a ∧ a ≤ 2147483647) ∧ (-2147483648 ≤ b ∧ b ≤ 2147483647)) (ho : rowOK (g 179)) (hl : lawsOK (g 179)) : gTri f_Model_between 46 0 0 [(2, 177), (0, a), (0, b)] sh g (fun x s2 g2 => x = some (0, beR (g 179) a b) ∧ s2 = sh ∧ gVo g g2) := by
  have hm := ro_many ho
  have hlo := ro_low ho
  have hhi := ro_high ho
  refine gTri.of (by decide +kernel) rfl ?_
  show gWP f_Model_between _ _ _ 0 [(2, 177), (0, a), (0, b), (9, 0), (9, 0), (9, 0)] [] sh g _
  refine gw_aload_n (gc k_Model_between_0 0 rfl) rfl rfl ?_
  refine gw_cV1 (gc k_Model_between_0 1 rfl) y_Model_noteMany ln_Model_112 (c_Model_noteMany hx hf) rfl rfl (gAt hx rfl rfl) rfl rfl ?_
  refine gw_if_eq (tgt := 23) (gc k_Model_between_0 2 rfl) rfl (by omega) (fun c4 => ?_) (fun c4 => ?_)
  · refine gw_iconst (gc k_Model_between_0 11 rfl) ?_
    refine gw_ireturn (gc k_Model_between_0 12 rfl) rfl ?_
    exact ⟨by unfold beR; rw [if_neg (by omega)], rfl, gVo.rf g⟩
  · refine gw_aload_n (gc k_Model_between_0 3 rfl) rfl rfl ?_
    refine gw_iload_n (gc k_Model_between_0 4 rfl) rfl ?_
    refine gw_cV1 (gc k_Model_between_0 5 rfl) y_Model_isWithin ln_Model_390 (c_Model_isWithin hx hf a (by omega) ho) rfl rfl (gAt hx rfl rfl) rfl rfl ?_
    refine gw_beq (tgt := 23) (gc k_Model_between_0 6 rfl) rfl (fun c12 => ?_) (fun c12 => ?_)
    · refine gw_iconst (gc k_Model_between_0 11 rfl) ?_
      refine gw_ireturn (gc k_Model_between_0 12 rfl) rfl ?_
      exact ⟨by unfold beR; rw [if_neg (by omega)], rfl, gVo.rf g⟩
    · refine gw_aload_n (gc k_Model_between_0 7 rfl) rfl rfl ?_
      refine gw_iload_n (gc k_Model_between_0 8 rfl) rfl ?_
      refine gw_cV1 (gc k_Model_between_0 9 rfl) y_Model_isWithin ln_Model_390 (c_Model_isWithin hx hf b (by omega) ho) rfl rfl (gAt hx rfl rfl) rfl rfl ?_
      refine gw_bne (tgt := 25) (gc k_Model_between_0 10 rfl) rfl (fun c20 => ?_) (fun c20 => ?_)
      · refine gw_aload_n (gc k_Model_between_0 13 rfl) rfl rfl ?_
        refine gw_xV1 (gc k_Model_between_0 14 rfl) y_Model_laysNotes ln_Model_376 (c_Model_laysNotes hx hf ho hl) rfl rfl (gAt hx rfl rfl) rfl rfl (fun r26 sh2 g26 hq26 => ?_)
        obtain ⟨rfl, rfl, hq1⟩ := hq26
        have hf := hq1.fin hf
        have hv := hq1.laid
        have em := hv.1
        refine gw_aload_n (gc k_Model_between_0 15 rfl) rfl rfl ?_
        refine gw_cV1 (gc k_Model_between_0 16 rfl) y_Model_noteMany ln_Model_112 (c_Model_noteMany hx hf) rfl rfl (gAt hx rfl rfl) rfl rfl ?_
        rw [em]
        refine gw_iconst (gc k_Model_between_0 17 rfl) ?_
        refine gw_isub (gc k_Model_between_0 18 rfl) ?_
        refine gw_istore_3 (gc k_Model_between_0 19 rfl) rfl rfl ?_
        refine gw_iload_n (gc k_Model_between_0 20 rfl) rfl ?_
        refine gw_istore_4 (gc k_Model_between_0 21 rfl) rfl rfl ?_
        refine bes_loop hx hf ho hv a b (by omega) (fun g3 i y hs => ?_) (g 179 41).toNat (g 179 41 - 1) _ _ (by omega) (by omega) ⟨fun _ _ _ => rfl, fun n q a1 a2 a3 a4 a5 => by omega⟩
        refine gWP.mono (be_end hx (hs.fin (Or.inl rfl) hf) ho (hs.laid (Or.inl rfl) hv) (by omega) a b _ (by omega) (by omega) ?_ i y) (fun x s2 g2 z => ⟨z.1, z.2.1, ?_⟩)
        · have q := hs.2 0 a (by omega) (by omega) (by omega) (by omega) (Or.inl (by omega))
          rw [show (25 * 0 + a : Int) = a by omega] at q
          exact q
        · rw [z.2.2]
          exact hq1.vo.tr (hs.vo (Or.inl rfl))
      · refine gw_iconst (gc k_Model_between_0 11 rfl) ?_
        refine gw_ireturn (gc k_Model_between_0 12 rfl) rfl ?_
        exact ⟨by unfold beR; rw [if_neg (by omega)], rfl, gVo.rf g⟩
