theorem tlC_nn {w : Int → Int} {h top v : Int} {c : PC} (ht : 0 ≤ top) (hv : 0 ≤ v) : 0 ≤ tlC w h top v c := by
  unfold tlC
  split
  · split
    · exact hv
    · split
      · omega
      · split <;> omega
  · exact hv
theorem tl_nn {w : Int → Int} {h top : Int} (ht : 0 ≤ top) : ∀ (L : List PC) (v : Int), 0 ≤ v → 0 ≤ tl w h top v L
  | [], v, hv => hv
  | c :: L, v, hv => tl_nn ht L _ (tlC_nn ht hv)
theorem tlR_nn {r w : Int → Int} {h top df : Int} (ht : 0 ≤ top) (hv : 0 ≤ df) : 0 ≤ tlR r w h top df := by
  unfold tlR
  split
  · exact hv
  · split
    · exact hv
    · exact tl_nn ht _ _ hv
theorem vPrice_nn (r : Int → Int) (n h p : Int) : 0 ≤ vPrice r n h p := by
  unfold vPrice
  split
  · decide
  · exact tlR_nn (by decide) (by split <;> omega)
theorem cpP_nn (r : Int → Int) (kp n h p : Int) : 0 ≤ cpP r kp n h p := by
  unfold cpP
  split
  · split <;> decide
  · exact vPrice_nn r n h p
theorem cpP_bd (r : Int → Int) (kp n h p : Int) (hh : 0 ≤ h ∧ h ≤ 24) (hp : 0 ≤ p ∧ p ≤ 24) : cpP r kp n h p ≤ 1000 := by
  unfold cpP
  split
  · split <;> decide
  · exact (vPrice_bd n h p (by omega) (by omega)).2
theorem rsF_bd (r : Int → Int) (lo hi kp : Int) : ∀ (m : Nat) (n p : Int), 0 ≤ rsF r lo hi kp m n p ∧ rsF r lo hi kp m n p ≤ 100000000
  | 0, _, _ => by unfold rsF; omega
  | m + 1, n, p => by
    unfold rsF
    have := mnF_bd (C := fun q => 1 - vBar r (n + 1) p q) (P := fun q => cpP r kp (n + 1) p q + rsF r lo hi kp m (n + 1) q) (lo := lo) (b := 0) (by omega) (fun q => by
      have h1 := cpP_nn r kp (n + 1) p q
      have h2 := rsF_bd r lo hi kp m (n + 1) q
      show -0 ≤ cpP r kp (n + 1) p q + rsF r lo hi kp m (n + 1) q
      omega) (hi + 1 - lo).toNat
    omega
def rsR (r : Int → Int) (lo hi kp n p : Int) : Int := rsF r lo hi kp (r 41 - 1 - n).toNat n p
/-- the least from note n on, the note ahead at h -/
def lsV (r : Int → Int) (lo hi kp n h : Int) : Int := mnF (fun q => 1 - vBar r n h q) (fun q => cpP r kp n h q + rsR r lo hi kp n q) lo (hi + 1 - lo).toNat
theorem rsR_last {r : Int → Int} {lo hi kp n p : Int} (h : n = r 41 - 1) : rsR r lo hi kp n p = 0 := by
  unfold rsR
  rw [show (r 41 - 1 - n).toNat = 0 by omega]
  rfl
theorem rsR_step {r : Int → Int} {lo hi kp n p : Int} (h : n < r 41 - 1) : rsR r lo hi kp n p = lsV r lo hi kp (n + 1) p := by
  unfold rsR lsV rsR
  rw [show (r 41 - 1 - n).toNat = (r 41 - 1 - (n + 1)).toNat + 1 by omega]
  rfl
theorem lsV_bd (r : Int → Int) (lo hi kp n h : Int) : 0 ≤ lsV r lo hi kp n h ∧ lsV r lo hi kp n h ≤ 100000000 := by
  unfold lsV
  have := mnF_bd (C := fun q => 1 - vBar r n h q) (P := fun q => cpP r kp n h q + rsR r lo hi kp n q) (lo := lo) (b := 0) (by omega) (fun q => by
    have h1 := cpP_nn r kp n h q
    have h2 := rsF_bd r lo hi kp (r 41 - 1 - n).toNat n q
    show -0 ≤ cpP r kp n h q + rsF r lo hi kp (r 41 - 1 - n).toNat n q
    omega) (hi + 1 - lo).toNat
  omega
/-- the notes laid for the row -/
def vLaid (r : Int → Int) (g : gM) : Prop := g 179 = r ∧ ∀ n h p, 0 ≤ n → n < r 41 → 0 ≤ h → (h ≤ 24 ∧ (n = 0 → h = 0)) → 0 ≤ p → p ≤ 24 → g 194 (625 * n + 25 * h + p) = 1 - vBar r n h p ∧ g 192 (625 * n + 25 * h + p) = vPrice r n h p ∧ g 193 (625 * n + 25 * h + p) = vGain r n h p
theorem vAll.laid {g0 g : gM} (h : vAll g0 (g0 179 41) g) : vLaid (g0 179) g := ⟨h.row, h.2⟩
theorem vLaid.eq {r : Int → Int} {g g2 : gM} (h : vLaid r g) (he : ∀ a k, a ≠ 195 → g2 a k = g a k) : vLaid r g2 := by
  refine ⟨(funext fun k => he 179 k (by decide)).trans h.1, fun n x p a1 a2 a3 a4 a5 a6 => ?_⟩
  rw [he 194 _ (by decide), he 192 _ (by decide), he 193 _ (by decide)]
  exact h.2 n x p a1 a2 a3 a4 a5 a6
theorem c_leastR {sh : gS} {g : gM} (hx : gFix sh) (hf : gFin g) {r : Int → Int} (ho : rowOK r) (hv : vLaid r g) (n h lo hi kp : Int) (hn : 0 ≤ n ∧ n < r 41) (hh : 0 ≤ h ∧ h ≤ 24) (h0 : n = 0 → h = 0) (hlo : (0 ≤ lo ∧ lo ≤ 24) ∧ -1 ≤ hi ∧ hi ≤ 24) (hk : kp = 0 ∨ kp = 1) (hR : ∀ q, lo ≤ q → q ≤ hi → g 195 (25 * n + q) = rsR r lo hi kp n q) : gTri f_Model_leastFrom 2 0 0 [(2, 177), (0, n), (0, h), (0, lo), (0, hi), (0, kp)] sh g (gR (some (0, lsV r lo hi kp n h)) sh g) := by
  have hm := ro_many ho
  have q := c_Model_leastFrom hx hf n h lo hi kp (by omega) hh hlo hk (by rw [hv.1]; exact ho) (fun q => 1 - vBar r n h q) (fun q => if lo ≤ q ∧ q ≤ hi then cpP r kp n h q + rsR r lo hi kp n q else 0) (fun q a c => ⟨(hv.2 n h q hn.1 hn.2 hh.1 ⟨hh.2, h0⟩ (by omega) (by omega)).1, by have := vBar_01 r n h q; omega⟩) (fun q a c => by
    rw [hR q a c, (hv.2 n h q hn.1 hn.2 hh.1 ⟨hh.2, h0⟩ (by omega) (by omega)).2.1, hv.1]
    exact (if_pos (show lo ≤ q ∧ q ≤ hi from ⟨a, c⟩)).symm) (fun q => by
    show -100000 ≤ (if lo ≤ q ∧ q ≤ hi then cpP r kp n h q + rsR r lo hi kp n q else 0) ∧ (if lo ≤ q ∧ q ≤ hi then cpP r kp n h q + rsR r lo hi kp n q else 0) ≤ 200000000
    by_cases z : lo ≤ q ∧ q ≤ hi
    · rw [if_pos z]
      have h1 := cpP_nn r kp n h q
      have h2 := cpP_bd r kp n h q hh (by omega)
      have h3 := rsF_bd r lo hi kp (r 41 - 1 - n).toNat n q
      unfold rsR
      omega
    · rw [if_neg z]; omega)
  rw [mnF_ext (C2 := fun q => 1 - vBar r n h q) (P2 := fun q => cpP r kp n h q + rsR r lo hi kp n q) _ (fun q a c => ⟨rfl, if_pos ⟨a, by omega⟩⟩)] at q
  exact q
/-- the rests laid down to note i, up to pitch j -/
def rUp (r : Int → Int) (lo hi kp : Int) (g0 : gM) (i j : Int) (g : gM) : Prop := (∀ a k, a ≠ 195 → g a k = g0 a k) ∧ ∀ n q, 0 ≤ n → n < r 41 → lo ≤ q → q ≤ hi → (i < n ∨ (n = i ∧ q < j)) → g 195 (25 * n + q) = rsR r lo hi kp n q
theorem rUp.fin {r : Int → Int} {lo hi kp i j : Int} {g0 g : gM} (h : rUp r lo hi kp g0 i j g) (hf : gFin g0) : gFin g := hf.of fun a k z => h.1 _ _ (fun q => z (by
    have : a = 195 := by omega
    subst this
    rfl))
theorem rUp.step {r : Int → Int} {lo hi kp i j v : Int} {g0 g : gM} (h : rUp r lo hi kp g0 i j g) (hlo : 0 ≤ lo ∧ hi ≤ 24) (hj : lo ≤ j ∧ j ≤ hi) (hv : v = rsR r lo hi kp i j) : rUp r lo hi kp g0 i (j + 1) (gup g 195 (25 * i + j) v) := by
  refine ⟨fun a k ha => (congrFun (gup_fn _ _ _ _ ha) k).trans (h.1 a k ha), fun n q a1 a2 a3 a4 a5 => ?_⟩
  by_cases e : n = i ∧ q = j
  · obtain ⟨rfl, rfl⟩ := e
    rw [gup_s, hv]
  · rw [gup_k _ _ _ _ (by omega)]
    exact h.2 n q a1 a2 a3 a4 (by omega)
set_option maxHeartbeats 2000000 in
theorem rest_step {sh : gS} {g0 : gM} (hx : gFix sh) (hf0 : gFin g0) {r : Int → Int} (ho : rowOK r) (hv : vLaid r g0) (lo hi kp : Int) (hlo : (0 ≤ lo ∧ lo ≤ 24) ∧ -1 ≤ hi ∧ hi ≤ 24) (hk : kp = 0 ∨ kp = 1) (i j : Int) (hi2 : 0 ≤ i ∧ i < r 41) {g : gM} (hs : rUp r lo hi kp g0 i j g) (hj : lo ≤ j ∧ j ≤ hi) {Q : gQ} (K : ∀ g3, rUp r lo hi kp g0 i (j + 1) g3 → gWP f_Model_laysRest 3 0 0 16 [(2, 177), (0, lo), (0, hi), (0, kp), (0, i), (0, j + 1)] [] sh g3 Q) : gWP f_Model_laysRest 3 0 0 16 [(2, 177), (0, lo), (0, hi), (0, kp), (0, i), (0, j)] [] sh g Q := by
  have hf := hs.fin hf0
  have hm := ro_many ho
  have hv2 := hv.eq hs.1
  have em := hv2.1
  show gWP f_Model_laysRest _ _ _ 16 [(2, 177), (0, lo), (0, hi), (0, kp), (0, i), (0, j)] [] sh g _
  skip
  refine gw_iload (gc k_Model_laysRest_0 9 rfl) rfl ?_
  refine gw_iload_n (gc k_Model_laysRest_0 10 rfl) rfl ?_
  refine gw_icmp_gt (tgt := 69) (gc k_Model_laysRest_0 11 rfl) rfl (by omega) (fun c19 => ?_) (fun c19 => ?_)
  · exact absurd c19 (by omega)
  · refine gw_aload_n (gc k_Model_laysRest_0 12 rfl) rfl rfl ?_
    refine gw_getref (gc k_Model_laysRest_0 13 rfl) fl_Model_81 (gAt hx rfl rfl) (gRf hf rfl rfl) ?_
    refine gw_bipush (gc k_Model_laysRest_0 14 rfl) (by decide) ?_
    refine gw_iload (gc k_Model_laysRest_0 15 rfl) rfl ?_
    refine gw_imul (gc k_Model_laysRest_0 16 rfl) ?_
    refine gw_iload (gc k_Model_laysRest_0 17 rfl) rfl ?_
    refine gw_iadd (gc k_Model_laysRest_0 18 rfl) ?_
    refine gw_iload (gc k_Model_laysRest_0 19 rfl) rfl ?_
    refine gw_aload_n (gc k_Model_laysRest_0 20 rfl) rfl rfl ?_
    refine gw_cV1 (gc k_Model_laysRest_0 21 rfl) y_Model_noteMany ln_Model_112 (c_Model_noteMany hx hf) rfl rfl (gAt hx rfl rfl) rfl rfl ?_
    rw [em]
    refine gw_iconst (gc k_Model_laysRest_0 22 rfl) ?_
    refine gw_isub (gc k_Model_laysRest_0 23 rfl) ?_
    refine gw_icmp_ne (tgt := 49) (gc k_Model_laysRest_0 24 rfl) rfl (by omega) (fun c42 => ?_) (fun c42 => ?_)
    · refine gw_aload_n (gc k_Model_laysRest_0 27 rfl) rfl rfl ?_
      refine gw_iload (gc k_Model_laysRest_0 28 rfl) rfl ?_
      refine gw_iconst (gc k_Model_laysRest_0 29 rfl) ?_
      refine gw_iadd (gc k_Model_laysRest_0 30 rfl) ?_
      refine gw_iload (gc k_Model_laysRest_0 31 rfl) rfl ?_
      refine gw_iload_n (gc k_Model_laysRest_0 32 rfl) rfl ?_
      refine gw_iload_n (gc k_Model_laysRest_0 33 rfl) rfl ?_
      refine gw_iload_n (gc k_Model_laysRest_0 34 rfl) rfl ?_
      refine gw_cV1 (gc k_Model_laysRest_0 35 rfl) y_Model_leastFrom ln_Model_360 (c_leastR hx hf ho hv2 (i + 1) j lo hi kp (by omega) (by omega) (by omega) hlo hk (fun q a c => hs.2 (i + 1) q (by omega) (by omega) a c (Or.inl (by omega)))) rfl rfl (gAt hx rfl rfl) rfl rfl ?_
      refine gw_iastF (gc k_Model_laysRest_0 36 rfl) (gAt hx rfl rfl) (by omega) hf rfl (fun hf => ?_)
      refine gw_iinc_5 (gc k_Model_laysRest_0 37 rfl) rfl rfl ?_
      refine gw_goto (tgt := 16) (gc k_Model_laysRest_0 38 rfl) rfl ?_
      exact K _ (hs.step (by omega) hj (rsR_step (by omega)).symm)
    · refine gw_iconst (gc k_Model_laysRest_0 25 rfl) ?_
      refine gw_goto (tgt := 62) (gc k_Model_laysRest_0 26 rfl) rfl ?_
      refine gw_iastF (gc k_Model_laysRest_0 36 rfl) (gAt hx rfl rfl) (by omega) hf rfl (fun hf => ?_)
      refine gw_iinc_5 (gc k_Model_laysRest_0 37 rfl) rfl rfl ?_
      refine gw_goto (tgt := 16) (gc k_Model_laysRest_0 38 rfl) rfl ?_
      exact K _ (hs.step (by omega) hj (rsR_last (by omega)).symm)
set_option maxHeartbeats 2000000 in
theorem rest_exit {sh : gS} {g0 : gM} (hx : gFix sh) (hf0 : gFin g0) {r : Int → Int} (ho : rowOK r) (hv : vLaid r g0) (lo hi kp : Int) (hlo : (0 ≤ lo ∧ lo ≤ 24) ∧ -1 ≤ hi ∧ hi ≤ 24) (hk : kp = 0 ∨ kp = 1) (i j : Int) (hi2 : 0 ≤ i ∧ i < r 41) {g : gM} (hs : rUp r lo hi kp g0 i j g) (hj : hi < j ∧ j ≤ 25) {Q : gQ} (K : gWP f_Model_laysRest 3 0 0 8 [(2, 177), (0, lo), (0, hi), (0, kp), (0, i - 1), (0, j)] [] sh g Q) : gWP f_Model_laysRest 3 0 0 16 [(2, 177), (0, lo), (0, hi), (0, kp), (0, i), (0, j)] [] sh g Q := by
  have hf := hs.fin hf0
  have hm := ro_many ho
  have hv2 := hv.eq hs.1
  have em := hv2.1
  show gWP f_Model_laysRest _ _ _ 16 [(2, 177), (0, lo), (0, hi), (0, kp), (0, i), (0, j)] [] sh g _
  refine gw_iload (gc k_Model_laysRest_0 9 rfl) rfl ?_
  refine gw_iload_n (gc k_Model_laysRest_0 10 rfl) rfl ?_
  refine gw_icmp_gt (tgt := 69) (gc k_Model_laysRest_0 11 rfl) rfl (by omega) (fun c19 => ?_) (fun c19 => ?_)
  · refine gw_iinc_4 (gc k_Model_laysRest_0 39 rfl) rfl rfl ?_
    refine gw_goto (tgt := 8) (gc k_Model_laysRest_1 0 rfl) rfl ?_
    rw [show i + -1 = i - 1 by omega]
    exact K
  · exact absurd c19 (by omega)
theorem rest_row {sh : gS} {g0 : gM} (hx : gFix sh) (hf0 : gFin g0) {r : Int → Int} (ho : rowOK r) (hv : vLaid r g0) (lo hi kp : Int) (hlo : (0 ≤ lo ∧ lo ≤ 24) ∧ -1 ≤ hi ∧ hi ≤ 24) (hk : kp = 0 ∨ kp = 1) (i : Int) (hi2 : 0 ≤ i ∧ i < r 41) {Q : gQ} (K : ∀ (g3 : gM) (y : Int), rUp r lo hi kp g0 (i - 1) lo g3 → gWP f_Model_laysRest 3 0 0 8 [(2, 177), (0, lo), (0, hi), (0, kp), (0, i - 1), (0, y)] [] sh g3 Q) : ∀ (m : Nat) (j : Int) (g : gM), lo ≤ j → j + m = (if lo ≤ hi + 1 then hi + 1 else lo) → rUp r lo hi kp g0 i j g → gWP f_Model_laysRest 3 0 0 16 [(2, 177), (0, lo), (0, hi), (0, kp), (0, i), (0, j)] [] sh g Q
  | 0, j, g, h0, e, hs => by
    have hj : hi < j ∧ j ≤ 25 := by
      by_cases z : lo ≤ hi + 1
      · rw [if_pos z] at e; omega
      · rw [if_neg z] at e; omega
    exact rest_exit hx hf0 ho hv lo hi kp hlo hk i j hi2 hs hj (K g _ ⟨hs.1, fun n q a1 a2 a3 a4 a5 => hs.2 n q a1 a2 a3 a4 (by omega)⟩)
  | m + 1, j, g, h0, e, hs => by
    have hj : j ≤ hi := by
      by_cases z : lo ≤ hi + 1
      · rw [if_pos z] at e; omega
      · rw [if_neg z] at e; omega
    exact rest_step hx hf0 ho hv lo hi kp hlo hk i j hi2 hs ⟨h0, hj⟩ (fun g3 h3 => rest_row hx hf0 ho hv lo hi kp hlo hk i hi2 K m (j + 1) g3 (by omega) (by omega) h3)
set_option maxHeartbeats 2000000 in
theorem rests_step {sh : gS} {g : gM} (hx : gFix sh) (lo hi kp : Int) (hlo : (0 ≤ lo ∧ lo ≤ 24) ∧ -1 ≤ hi ∧ hi ≤ 24) (i : Int) (hi2 : -1 ≤ i ∧ i < 12) (x5 : gV) (h : 0 ≤ i) {Q : gQ} (K : gWP f_Model_laysRest 3 0 0 16 [(2, 177), (0, lo), (0, hi), (0, kp), (0, i), (0, lo)] [] sh g Q) : gWP f_Model_laysRest 3 0 0 8 [(2, 177), (0, lo), (0, hi), (0, kp), (0, i), x5] [] sh g Q := by
  skip
  show gWP f_Model_laysRest _ _ _ 8 [(2, 177), (0, lo), (0, hi), (0, kp), (0, i), x5] [] sh g _
  refine gw_iload (gc k_Model_laysRest_0 5 rfl) rfl ?_
  refine gw_if_lt (tgt := 75) (gc k_Model_laysRest_0 6 rfl) rfl (by omega) (fun c10 => ?_) (fun c10 => ?_)
  · exact absurd c10 (by omega)
  · refine gw_iload_n (gc k_Model_laysRest_0 7 rfl) rfl ?_
    refine gw_istore_5 (gc k_Model_laysRest_0 8 rfl) rfl rfl ?_
    exact K
set_option maxHeartbeats 2000000 in
theorem rests_exit {sh : gS} {g : gM} (hx : gFix sh) (lo hi kp : Int) (hlo : (0 ≤ lo ∧ lo ≤ 24) ∧ -1 ≤ hi ∧ hi ≤ 24) (i : Int) (hi2 : -1 ≤ i ∧ i < 12) (x5 : gV) (h : ¬ 0 ≤ i) : gWP f_Model_laysRest 3 0 0 8 [(2, 177), (0, lo), (0, hi), (0, kp), (0, i), x5] [] sh g (gR none sh g) := by
  skip
  show gWP f_Model_laysRest _ _ _ 8 [(2, 177), (0, lo), (0, hi), (0, kp), (0, i), x5] [] sh g _
  refine gw_iload (gc k_Model_laysRest_0 5 rfl) rfl ?_
  refine gw_if_lt (tgt := 75) (gc k_Model_laysRest_0 6 rfl) rfl (by omega) (fun c10 => ?_) (fun c10 => ?_)
  · refine gw_return (gc k_Model_laysRest_1 1 rfl) rfl ?_
    exact ⟨rfl, rfl, rfl⟩
  · exact absurd c10 (by omega)
theorem rests_loop {sh : gS} {g0 : gM} (hx : gFix sh) (hf0 : gFin g0) {r : Int → Int} (ho : rowOK r) (hv : vLaid r g0) (lo hi kp : Int) (hlo : (0 ≤ lo ∧ lo ≤ 24) ∧ -1 ≤ hi ∧ hi ≤ 24) (hk : kp = 0 ∨ kp = 1) : ∀ (m : Nat) (i : Int) (g : gM) (x5 : gV), i + 1 = m → i < r 41 → rUp r lo hi kp g0 i lo g → gWP f_Model_laysRest 3 0 0 8 [(2, 177), (0, lo), (0, hi), (0, kp), (0, i), x5] [] sh g (fun x s2 g2 => x = none ∧ s2 = sh ∧ rUp r lo hi kp g0 (-1) lo g2)
  | 0, i, g, x5, e, h2, hs => by
    have hm := ro_many ho
    obtain rfl : i = -1 := by omega
    refine gWP.mono (rests_exit hx lo hi kp hlo (-1) (by omega) x5 (by omega)) (fun r s2 g2 z => ⟨z.1, z.2.1, ?_⟩)
    rw [z.2.2]
    exact hs
  | m + 1, i, g, x5, e, h2, hs => by
    have hm := ro_many ho
    refine rests_step hx lo hi kp hlo i (by omega) x5 (by omega) (rest_row hx hf0 ho hv lo hi kp hlo hk i (by omega) (fun g3 y h3 => rests_loop hx hf0 ho hv lo hi kp hlo hk m (i - 1) g3 _ (by omega) (by omega) h3) ((if lo ≤ hi + 1 then hi + 1 else lo) - lo).toNat lo g (Int.le_refl _) ?_ hs)
    split <;> omega
set_option maxHeartbeats 1000000 in
theorem c_Model_laysRest {sh : gS} {g : gM} (hx : gFix sh) (hf : gFin g) {r : Int → Int} (ho : rowOK r) (hv : vLaid r g) (lo hi kp : Int) (hlo : (0 ≤ lo ∧ lo ≤ 24) ∧ -1 ≤ hi ∧ hi ≤ 24) (hk : kp = 0 ∨ kp = 1) : gTri f_Model_laysRest 3 0 0 [(2, 177), (0, lo), (0, hi), (0, kp)] sh g (fun x s2 g2 => x = none ∧ s2 = sh ∧ rUp r lo hi kp g (-1) lo g2) := by
  have hm := ro_many ho
  have em := hv.1
  refine gTri.of (by decide +kernel) rfl ?_
  show gWP f_Model_laysRest _ _ _ 0 [(2, 177), (0, lo), (0, hi), (0, kp), (9, 0), (9, 0)] [] sh g _
  refine gw_aload_n (gc k_Model_laysRest_0 0 rfl) rfl rfl ?_
  refine gw_cV1 (gc k_Model_laysRest_0 1 rfl) y_Model_noteMany ln_Model_112 (c_Model_noteMany hx hf) rfl rfl (gAt hx rfl rfl) rfl rfl ?_
  rw [em]
  refine gw_iconst (gc k_Model_laysRest_0 2 rfl) ?_
  refine gw_isub (gc k_Model_laysRest_0 3 rfl) ?_
  refine gw_istore_4 (gc k_Model_laysRest_0 4 rfl) rfl rfl ?_
  exact rests_loop hx hf ho hv lo hi kp hlo hk (r 41).toNat (r 41 - 1) g _ (by omega) (by omega) ⟨fun _ _ _ => rfl, fun n q a1 a2 a3 a4 a5 => by omega⟩
