/-! ===== the least price from a note on ===== -/
def mnI (a b : Int) : Int := if a < b then a else b
/-- the least of P at the first k pitches from lo on that C lets -/
def mnF (C P : Int → Int) (lo : Int) : Nat → Int
  | 0 => 100000000
  | k + 1 => if C (lo + k) = 1 then mnI (mnF C P lo k) (P (lo + k)) else mnF C P lo k
theorem mnF_bd {C P : Int → Int} {lo b : Int} (hb : 0 ≤ b ∧ b ≤ 100000000) (hP : ∀ q, -b ≤ P q) : ∀ k, -b ≤ mnF C P lo k ∧ mnF C P lo k ≤ 100000000
  | 0 => by unfold mnF; omega
  | k + 1 => by
    have h := mnF_bd (C := C) (lo := lo) hb hP k
    have h2 := hP (lo + k)
    unfold mnF mnI
    split
    · split <;> omega
    · exact h
theorem mnF_ext {C P C2 P2 : Int → Int} {lo : Int} : ∀ k : Nat, (∀ q, lo ≤ q → q < lo + k → C q = C2 q ∧ P q = P2 q) → mnF C P lo k = mnF C2 P2 lo k
  | 0, _ => rfl
  | k + 1, h => by
    have h1 := h (lo + k) (by omega) (by omega)
    unfold mnF
    rw [mnF_ext k (fun q a b => h q a (by omega)), h1.1, h1.2]
def cpP (r : Int → Int) (kp n h p : Int) : Int := if kp = 1 then (if p = r n then 0 else 1) else vPrice r n h p
/-- what the notes after note n cost at least, if it lies at p -/
def rsF (r : Int → Int) (lo hi kp : Int) : Nat → Int → Int → Int
  | 0, _, _ => 0
  | m + 1, n, p => mnF (fun q => 1 - vBar r (n + 1) p q) (fun q => cpP r kp (n + 1) p q + rsF r lo hi kp m (n + 1) q) lo (hi + 1 - lo).toNat
theorem vPrice_bd {r : Int → Int} (n h p : Int) (hh : -500 ≤ h ∧ h ≤ 500) (hp : -500 ≤ p ∧ p ≤ 500) : -1000 ≤ vPrice r n h p ∧ vPrice r n h p ≤ 1000 := by
  unfold vPrice
  split
  · decide
  · refine tlR_bd (by omega) ?_
    unfold vLeap
    split
    · split <;> omega
    · decide
set_option maxHeartbeats 1000000 in
theorem c_Model_priceOf {sh : gS} {g : gM} (hx : gFix sh) (hf : gFin g) (n h p kp : Int) (hn : 0 ≤ n ∧ n < 12) (hh : 0 ≤ h ∧ h ≤ 24) (hp : 0 ≤ p ∧ p ≤ 24) (hk : kp = 0 ∨ kp = 1) (ho : rowOK (g 179)) : gTri f_Model_priceOf 1 0 0 [(2, 177), (0, n), (0, h), (0, p), (0, kp)] sh g (gR (some (0, if kp = 1 then (if p = g 179 n then 0 else 1) else g 192 (625 * n + 25 * h + p))) sh g) := by
  have h1 := ro_pitch ho n (by omega)
  refine gTri.of (by decide +kernel) rfl ?_
  show gWP f_Model_priceOf _ _ _ 0 [(2, 177), (0, n), (0, h), (0, p), (0, kp)] [] sh g _
  refine gw_iload (gc k_Model_priceOf_0 0 rfl) rfl ?_
  refine gw_if_eq (tgt := 23) (gc k_Model_priceOf_0 1 rfl) rfl (by omega) (fun c2 => ?_) (fun c2 => ?_)
  · refine gw_aload_n (gc k_Model_priceOf_0 14 rfl) rfl rfl ?_
    refine gw_getref (gc k_Model_priceOf_0 15 rfl) fl_Model_72 (gAt hx rfl rfl) (gRf hf rfl rfl) ?_
    refine gw_iload_n (gc k_Model_priceOf_0 16 rfl) rfl ?_
    refine gw_iload_n (gc k_Model_priceOf_0 17 rfl) rfl ?_
    refine gw_iload_n (gc k_Model_priceOf_0 18 rfl) rfl ?_
    refine gw_cS1 (gc k_Model_priceOf_0 19 rfl) y_Model_noteAt ln_Model_354 (c_Model_noteAt n h p) rfl rfl rfl rfl ?_
    refine gw_iald (gc k_Model_priceOf_0 20 rfl) (gAt hx rfl rfl) (by omega) ?_
    refine gw_ireturn (gc k_Model_priceOf_0 21 rfl) rfl ?_
    exact ⟨by rw [if_neg (by omega)], rfl, rfl⟩
  · refine gw_iload_n (gc k_Model_priceOf_0 2 rfl) rfl ?_
    refine gw_aload_n (gc k_Model_priceOf_0 3 rfl) rfl rfl ?_
    refine gw_getref (gc k_Model_priceOf_0 4 rfl) fl_Model_28 (gAt hx rfl rfl) (gRf hf rfl rfl) ?_
    refine gw_iconst (gc k_Model_priceOf_0 5 rfl) ?_
    refine gw_iload_n (gc k_Model_priceOf_0 6 rfl) rfl ?_
    refine gw_iadd (gc k_Model_priceOf_0 7 rfl) ?_
    refine gw_iald (gc k_Model_priceOf_0 8 rfl) (gAt hx rfl rfl) (by omega) ?_
    rw [Int.zero_add]
    refine gw_icmp_ne (tgt := 21) (gc k_Model_priceOf_0 9 rfl) rfl (by omega) (fun c14 => ?_) (fun c14 => ?_)
    · refine gw_iconst (gc k_Model_priceOf_0 12 rfl) ?_
      refine gw_ireturn (gc k_Model_priceOf_0 13 rfl) rfl ?_
      exact ⟨by first | rw [if_pos (by omega), if_pos (by omega)] | rw [if_pos (by omega), if_neg (by omega)], rfl, rfl⟩
    · refine gw_iconst (gc k_Model_priceOf_0 10 rfl) ?_
      refine gw_goto (tgt := 22) (gc k_Model_priceOf_0 11 rfl) rfl ?_
      refine gw_ireturn (gc k_Model_priceOf_0 13 rfl) rfl ?_
      exact ⟨by first | rw [if_pos (by omega), if_pos (by omega)] | rw [if_pos (by omega), if_neg (by omega)], rfl, rfl⟩
set_option maxHeartbeats 2000000 in
theorem least_step {sh : gS} {g : gM} (hx : gFix sh) (hf : gFin g) (ho : rowOK (g 179)) (n h lo hi kp acc q : Int) (hn : 0 ≤ n ∧ n < 12) (hh : 0 ≤ h ∧ h ≤ 24) (hlo : (0 ≤ lo ∧ lo ≤ 24) ∧ -1 ≤ hi ∧ hi ≤ 24) (hk : kp = 0 ∨ kp = 1) (hq : lo ≤ q ∧ q ≤ 25) (ha : -200000000 ≤ acc ∧ acc ≤ 200000000) (C P : Int) (hC : g 194 (625 * n + 25 * h + q) = C) (hCb : C = 0 ∨ C = 1) (hP : (if kp = 1 then (if q = g 179 n then 0 else 1) else g 192 (625 * n + 25 * h + q)) + g 195 (25 * n + q) = P) (hPb : -200000000 ≤ P ∧ P ≤ 200000000) (hlt : q ≤ hi) {Q : gQ} (K : gWP f_Model_leastFrom 2 0 0 8 [(2, 177), (0, n), (0, h), (0, lo), (0, hi), (0, kp), (0, if C = 1 then mnI acc P else acc), (0, q + 1)] [] sh g Q) : gWP f_Model_leastFrom 2 0 0 8 [(2, 177), (0, n), (0, h), (0, lo), (0, hi), (0, kp), (0, acc), (0, q)] [] sh g Q := by
  skip
  show gWP f_Model_leastFrom _ _ _ 8 [(2, 177), (0, n), (0, h), (0, lo), (0, hi), (0, kp), (0, acc), (0, q)] [] sh g _
  skip
  refine gw_iload (gc k_Model_leastFrom_0 4 rfl) rfl ?_
  refine gw_iload (gc k_Model_leastFrom_0 5 rfl) rfl ?_
  refine gw_icmp_gt (tgt := 66) (gc k_Model_leastFrom_0 6 rfl) rfl (by omega) (fun c12 => ?_) (fun c12 => ?_)
  · exact absurd c12 (by omega)
  · refine gw_aload_n (gc k_Model_leastFrom_0 7 rfl) rfl rfl ?_
    refine gw_getref (gc k_Model_leastFrom_0 8 rfl) fl_Model_78 (gAt hx rfl rfl) (gRf hf rfl rfl) ?_
    refine gw_iload_n (gc k_Model_leastFrom_0 9 rfl) rfl ?_
    refine gw_iload_n (gc k_Model_leastFrom_0 10 rfl) rfl ?_
    refine gw_iload (gc k_Model_leastFrom_0 11 rfl) rfl ?_
    refine gw_cS1 (gc k_Model_leastFrom_0 12 rfl) y_Model_noteAt ln_Model_354 (c_Model_noteAt n h q) rfl rfl rfl rfl ?_
    refine gw_zald (gc k_Model_leastFrom_0 13 rfl) (gAt hx rfl rfl) (by omega) ?_
    rw [hC]
    refine gw_if_eq (tgt := 60) (gc k_Model_leastFrom_0 14 rfl) rfl (by omega) (fun c27 => ?_) (fun c27 => ?_)
    · rw [if_neg (by omega)] at K
      refine gw_iinc_7 (gc k_Model_leastFrom_0 33 rfl) rfl rfl ?_
      refine gw_goto (tgt := 8) (gc k_Model_leastFrom_0 34 rfl) rfl ?_
      exact K
    · refine gw_iload (gc k_Model_leastFrom_0 15 rfl) rfl ?_
      refine gw_aload_n (gc k_Model_leastFrom_0 16 rfl) rfl rfl ?_
      refine gw_iload_n (gc k_Model_leastFrom_0 17 rfl) rfl ?_
      refine gw_iload_n (gc k_Model_leastFrom_0 18 rfl) rfl ?_
      refine gw_iload (gc k_Model_leastFrom_0 19 rfl) rfl ?_
      refine gw_iload (gc k_Model_leastFrom_0 20 rfl) rfl ?_
      refine gw_cV1 (gc k_Model_leastFrom_0 21 rfl) y_Model_priceOf ln_Model_365 (c_Model_priceOf hx hf n h q kp hn hh (by omega) hk ho) rfl rfl (gAt hx rfl rfl) rfl rfl ?_
      refine gw_aload_n (gc k_Model_leastFrom_0 22 rfl) rfl rfl ?_
      refine gw_getref (gc k_Model_leastFrom_0 23 rfl) fl_Model_81 (gAt hx rfl rfl) (gRf hf rfl rfl) ?_
      refine gw_bipush (gc k_Model_leastFrom_0 24 rfl) (by decide) ?_
      refine gw_iload_n (gc k_Model_leastFrom_0 25 rfl) rfl ?_
      refine gw_imul (gc k_Model_leastFrom_0 26 rfl) ?_
      refine gw_iload (gc k_Model_leastFrom_0 27 rfl) rfl ?_
      refine gw_iadd (gc k_Model_leastFrom_0 28 rfl) ?_
      refine gw_iald (gc k_Model_leastFrom_0 29 rfl) (gAt hx rfl rfl) (by omega) ?_
      refine gw_iadd (gc k_Model_leastFrom_0 30 rfl) ?_
      rw [hP]
      refine gw_cS1 (gc k_Model_leastFrom_0 31 rfl) y_Model_lesser ln_Model_369 (c_Model_lesser _ _ (by omega)) rfl rfl rfl rfl ?_
      refine gw_istore_6 (gc k_Model_leastFrom_0 32 rfl) rfl rfl ?_
      rw [if_pos (by omega)] at K
      refine gw_iinc_7 (gc k_Model_leastFrom_0 33 rfl) rfl rfl ?_
      refine gw_goto (tgt := 8) (gc k_Model_leastFrom_0 34 rfl) rfl ?_
      exact K
set_option maxHeartbeats 2000000 in
theorem least_exit {sh : gS} {g : gM} (hx : gFix sh) (hf : gFin g) (ho : rowOK (g 179)) (n h lo hi kp acc q : Int) (hn : 0 ≤ n ∧ n < 12) (hh : 0 ≤ h ∧ h ≤ 24) (hlo : (0 ≤ lo ∧ lo ≤ 24) ∧ -1 ≤ hi ∧ hi ≤ 24) (hk : kp = 0 ∨ kp = 1) (hq : lo ≤ q ∧ q ≤ 25) (ha : -200000000 ≤ acc ∧ acc ≤ 200000000) (hlt : ¬ q ≤ hi) : gWP f_Model_leastFrom 2 0 0 8 [(2, 177), (0, n), (0, h), (0, lo), (0, hi), (0, kp), (0, acc), (0, q)] [] sh g (gR (some (0, acc)) sh g) := by
  skip
  show gWP f_Model_leastFrom _ _ _ 8 [(2, 177), (0, n), (0, h), (0, lo), (0, hi), (0, kp), (0, acc), (0, q)] [] sh g _
  refine gw_iload (gc k_Model_leastFrom_0 4 rfl) rfl ?_
  refine gw_iload (gc k_Model_leastFrom_0 5 rfl) rfl ?_
  refine gw_icmp_gt (tgt := 66) (gc k_Model_leastFrom_0 6 rfl) rfl (by omega) (fun c12 => ?_) (fun c12 => ?_)
  · refine gw_iload (gc k_Model_leastFrom_0 35 rfl) rfl ?_
    refine gw_ireturn (gc k_Model_leastFrom_0 36 rfl) rfl ?_
    exact ⟨rfl, rfl, rfl⟩
  · exact absurd c12 (by omega)
theorem least_loop {sh : gS} {g : gM} (hx : gFix sh) (hf : gFin g) (ho : rowOK (g 179)) (n h lo hi kp : Int) (hn : 0 ≤ n ∧ n < 12) (hh : 0 ≤ h ∧ h ≤ 24) (hlo : (0 ≤ lo ∧ lo ≤ 24) ∧ -1 ≤ hi ∧ hi ≤ 24) (hk : kp = 0 ∨ kp = 1) (C P : Int → Int) (hC : ∀ q, lo ≤ q → q ≤ hi → g 194 (625 * n + 25 * h + q) = C q ∧ (C q = 0 ∨ C q = 1)) (hP : ∀ q, lo ≤ q → q ≤ hi → (if kp = 1 then (if q = g 179 n then 0 else 1) else g 192 (625 * n + 25 * h + q)) + g 195 (25 * n + q) = P q) (hPb : ∀ q, -100000 ≤ P q ∧ P q ≤ 200000000) : ∀ (m k : Nat), k + m = (hi + 1 - lo).toNat → gWP f_Model_leastFrom 2 0 0 8 [(2, 177), (0, n), (0, h), (0, lo), (0, hi), (0, kp), (0, mnF C P lo k), (0, lo + k)] [] sh g (gR (some (0, mnF C P lo (hi + 1 - lo).toNat)) sh g)
  | 0, k, e => by
    have hb := mnF_bd (C := C) (P := P) (lo := lo) (b := 100000) (by omega) (fun q => (hPb q).1) k
    rw [show (hi + 1 - lo).toNat = k by omega]
    exact least_exit hx hf ho n h lo hi kp _ _ hn hh hlo hk (by omega) (by omega) (by omega)
  | m + 1, k, e => by
    have hb := mnF_bd (C := C) (P := P) (lo := lo) (b := 100000) (by omega) (fun q => (hPb q).1) k
    have h1 := hC (lo + k) (by omega) (by omega)
    have h2 := hP (lo + k) (by omega) (by omega)
    have h3 := hPb (lo + k)
    have kk := least_loop hx hf ho n h lo hi kp hn hh hlo hk C P hC hP hPb m (k + 1) (by omega)
    rw [show lo + ((k + 1 : Nat) : Int) = lo + k + 1 by omega] at kk
    exact least_step hx hf ho n h lo hi kp _ _ hn hh hlo hk (by omega) (by omega) _ _ h1.1 h1.2 h2 (by omega) (by omega) kk
set_option maxHeartbeats 1000000 in
theorem c_Model_leastFrom {sh : gS} {g : gM} (hx : gFix sh) (hf : gFin g) (n h lo hi kp : Int) (hn : 0 ≤ n ∧ n < 12) (hh : 0 ≤ h ∧ h ≤ 24) (hlo : (0 ≤ lo ∧ lo ≤ 24) ∧ -1 ≤ hi ∧ hi ≤ 24) (hk : kp = 0 ∨ kp = 1) (ho : rowOK (g 179)) (C P : Int → Int) (hC : ∀ q, lo ≤ q → q ≤ hi → g 194 (625 * n + 25 * h + q) = C q ∧ (C q = 0 ∨ C q = 1)) (hP : ∀ q, lo ≤ q → q ≤ hi → (if kp = 1 then (if q = g 179 n then 0 else 1) else g 192 (625 * n + 25 * h + q)) + g 195 (25 * n + q) = P q) (hPb : ∀ q, -100000 ≤ P q ∧ P q ≤ 200000000) : gTri f_Model_leastFrom 2 0 0 [(2, 177), (0, n), (0, h), (0, lo), (0, hi), (0, kp)] sh g (gR (some (0, mnF C P lo (hi + 1 - lo).toNat)) sh g) := by
  refine gTri.of (by decide +kernel) rfl ?_
  show gWP f_Model_leastFrom _ _ _ 0 [(2, 177), (0, n), (0, h), (0, lo), (0, hi), (0, kp), (9, 0), (9, 0)] [] sh g _
  refine gw_ldcw (gc k_Model_leastFrom_0 0 rfl) cn_Model_364 ?_
  refine gw_istore_6 (gc k_Model_leastFrom_0 1 rfl) rfl rfl ?_
  refine gw_iload_n (gc k_Model_leastFrom_0 2 rfl) rfl ?_
  refine gw_istore_7 (gc k_Model_leastFrom_0 3 rfl) rfl rfl ?_
  have q := least_loop hx hf ho n h lo hi kp hn hh hlo hk C P hC hP hPb _ 0 (Nat.zero_add _)
  rw [show lo + ((0 : Nat) : Int) = lo from Int.add_zero lo] at q
  exact q
