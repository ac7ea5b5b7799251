/-- memories that differ only where voices are weighed -/
def gVo (g g2 : gM) : Prop := ∀ a k, ¬ (a = 177 ∧ 22 ≤ k ∧ k ≤ 25) → ¬ (a = 189 ∨ (192 ≤ a ∧ a ≤ 196)) → g2 a k = g a k
theorem gVo.rf (g : gM) : gVo g g := fun _ _ _ _ => rfl
theorem gVo.tr {g g2 g3 : gM} (h : gVo g g2) (h2 : gVo g2 g3) : gVo g g3 := fun a k n m => (h2 a k n m).trans (h a k n m)
theorem gSk.vo {g g2 : gM} (h : gSk g g2) : gVo g g2 := fun a k n m => h a k n (fun z => m (Or.inl z))
theorem gVo.fn {g g2 : gM} (h : gVo g g2) {a : Int} (ha : a ≠ 177) (h2 : ¬ (a = 189 ∨ (192 ≤ a ∧ a ≤ 196))) : g2 a = g a := funext fun k => h a k (fun z => ha z.1) h2
theorem vAll.vo {g0 g : gM} {i : Int} (h : vAll g0 i g) : gVo g0 g := fun a k n m => h.1 a k n (fun z => m (Or.inl z)) (fun z => m (Or.inr (by omega)))
theorem rUp.vo {r : Int → Int} {lo hi kp i j : Int} {g0 g : gM} (h : rUp r lo hi kp g0 i j g) : gVo g0 g := fun a k _ m => h.1 a k (fun z => m (Or.inr (by omega)))
theorem gref_vo {a k : Nat} (h : a = 189 ∨ (192 ≤ a ∧ a ≤ 196)) : gref a k = none := by
  rcases (show a = 189 ∨ a = 192 ∨ a = 193 ∨ a = 194 ∨ a = 195 ∨ a = 196 by omega) with rfl | rfl | rfl | rfl | rfl | rfl <;> rfl
theorem gFin.vo {g g2 : gM} (h : gFin g) (hs : gVo g g2) : gFin g2 := h.of fun a k n => hs _ _ (fun z => n (by
  have : a = 177 := by omega
  subst this
  exact gref_sc (by omega) (by omega))) (fun z => n (gref_vo (by omega)))
def loF (r : Int → Int) (kp : Int) : Int := if r 41 = 0 then 0 else if 100000000 ≤ lsV r (r 39) (r 40) kp 0 0 then -1 else lsV r (r 39) (r 40) kp 0 0
/-- the first pitch from q on that C lets at just this much -/
def fsF (C P : Int → Int) (want : Int) : Nat → Int → Int
  | 0, q => q
  | k + 1, q => if C q = 1 ∧ P q = want then q else fsF C P want k (q + 1)
theorem mnF_hit {C P : Int → Int} {lo : Int} : ∀ k, mnF C P lo k < 100000000 → ∃ q, lo ≤ q ∧ q < lo + k ∧ C q = 1 ∧ P q = mnF C P lo k
  | 0, h => by unfold mnF at h; omega
  | k + 1, h => by
    by_cases hc : C (lo + k) = 1
    · have e : mnF C P lo (k + 1) = mnI (mnF C P lo k) (P (lo + k)) := by
        show (if C (lo + k) = 1 then _ else _) = _
        rw [if_pos hc]
      rw [e] at h ⊢
      unfold mnI at h ⊢
      by_cases z : mnF C P lo k < P (lo + k)
      · rw [if_pos z] at h ⊢
        obtain ⟨q, a, b, c, d⟩ := mnF_hit k h
        exact ⟨q, a, by omega, c, d⟩
      · rw [if_neg z] at h ⊢
        exact ⟨lo + k, by omega, by omega, hc, rfl⟩
    · have e : mnF C P lo (k + 1) = mnF C P lo k := by
        show (if C (lo + k) = 1 then _ else _) = _
        rw [if_neg hc]
      rw [e] at h ⊢
      obtain ⟨q, a, b, c, d⟩ := mnF_hit k h
      exact ⟨q, a, by omega, c, d⟩
theorem fsF_hit {C P : Int → Int} {want : Int} : ∀ (k : Nat) (q : Int), (∃ x, q ≤ x ∧ x < q + k ∧ C x = 1 ∧ P x = want) → q ≤ fsF C P want k q ∧ fsF C P want k q < q + k ∧ C (fsF C P want k q) = 1 ∧ P (fsF C P want k q) = want
  | 0, q, ⟨x, a, b, _⟩ => by omega
  | k + 1, q, ⟨x, a, b, c, d⟩ => by
    unfold fsF
    by_cases h : C q = 1 ∧ P q = want
    · rw [if_pos h]; exact ⟨Int.le_refl _, by omega, h.1, h.2⟩
    · rw [if_neg h]
      have hx : x ≠ q := fun z => h (by rw [← z]; exact ⟨c, d⟩)
      have := fsF_hit k (q + 1) ⟨x, by omega, by omega, c, d⟩
      exact ⟨by omega, by omega, this.2.2.1, this.2.2.2⟩
def vcC (r : Int → Int) (n h : Int) : Int → Int := fun q => 1 - vBar r n h q
def vcP (r : Int → Int) (lo hi kp n h : Int) : Int → Int := fun q => cpP r kp n h q + rsR r lo hi kp n q
/-- the least voice: the pitch ahead of note n -/
def vcF (r : Int → Int) (lo hi kp : Int) : Nat → Int
  | 0 => 0
  | n + 1 => fsF (vcC r n (vcF r lo hi kp n)) (vcP r lo hi kp n (vcF r lo hi kp n)) (lsV r lo hi kp n (vcF r lo hi kp n)) (hi + 1 - lo).toNat lo
theorem vcF_ok {r : Int → Int} {lo hi kp : Int} (h : lsV r lo hi kp 0 0 < 100000000) : ∀ n : Nat, (n : Int) < r 41 → lsV r lo hi kp n (vcF r lo hi kp n) < 100000000 ∧ (lo ≤ vcF r lo hi kp (n + 1) ∧ vcF r lo hi kp (n + 1) ≤ hi)
  | 0, h0 => by
    have q := fsF_hit _ _ (mnF_hit (C := vcC r 0 0) (P := vcP r lo hi kp 0 0) _ h)
    refine ⟨h, ?_⟩
    have e : vcF r lo hi kp 1 = fsF (vcC r 0 0) (vcP r lo hi kp 0 0) (mnF (vcC r 0 0) (vcP r lo hi kp 0 0) lo (hi + 1 - lo).toNat) (hi + 1 - lo).toNat lo := rfl
    rw [e]
    omega
  | n + 1, h0 => by
    have h1 := vcF_ok h n (by omega)
    have q := fsF_hit _ _ (mnF_hit (C := vcC r n (vcF r lo hi kp n)) (P := vcP r lo hi kp n (vcF r lo hi kp n)) _ h1.1)
    have e : vcF r lo hi kp (n + 1) = fsF (vcC r n (vcF r lo hi kp n)) (vcP r lo hi kp n (vcF r lo hi kp n)) (mnF (vcC r n (vcF r lo hi kp n)) (vcP r lo hi kp n (vcF r lo hi kp n)) lo (hi + 1 - lo).toNat) (hi + 1 - lo).toNat lo := rfl
    rw [← e] at q
    have h2 : lsV r lo hi kp ((n + 1 : Nat) : Int) (vcF r lo hi kp (n + 1)) < 100000000 := by
      have q4 := q.2.2.2
      unfold vcP at q4
      rw [rsR_step (by omega)] at q4
      have h3 := cpP_nn r kp n (vcF r lo hi kp n) (vcF r lo hi kp (n + 1))
      have h4 : mnF (vcC r n (vcF r lo hi kp n)) (vcP r lo hi kp n (vcF r lo hi kp n)) lo (hi + 1 - lo).toNat < 100000000 := h1.1
      unfold vcP at h4
      rw [← q4] at h4
      show lsV r lo hi kp ((n : Int) + 1) _ < _
      omega
    have q2 := fsF_hit _ _ (mnF_hit (C := vcC r ((n + 1 : Nat) : Int) (vcF r lo hi kp (n + 1))) (P := vcP r lo hi kp ((n + 1 : Nat) : Int) (vcF r lo hi kp (n + 1))) _ h2)
    have e2 : vcF r lo hi kp (n + 1 + 1) = fsF (vcC r ((n + 1 : Nat) : Int) (vcF r lo hi kp (n + 1))) (vcP r lo hi kp ((n + 1 : Nat) : Int) (vcF r lo hi kp (n + 1))) (mnF (vcC r ((n + 1 : Nat) : Int) (vcF r lo hi kp (n + 1))) (vcP r lo hi kp ((n + 1 : Nat) : Int) (vcF r lo hi kp (n + 1))) lo (hi + 1 - lo).toNat) (hi + 1 - lo).toNat lo := rfl
    refine ⟨h2, ?_⟩
    rw [e2]
    omega
set_option maxHeartbeats 1000000 in
theorem c_Model_leastOf {sh : gS} {g : gM} (hx : gFix sh) (hf : gFin g) {r : Int → Int} (ho : rowOK r) (hv : vLaid r g) (kp : Int) (hk : kp = 0 ∨ kp = 1) : gTri f_Model_leastOf 4 0 0 [(2, 177), (0, kp)] sh g (fun x s2 g2 => x = some (0, loF r kp) ∧ s2 = sh ∧ rUp r (r 39) (r 40) kp g (-1) (r 39) g2) := by
  have hm := ro_many ho
  have em := hv.1
  have hlo := ro_low ho
  have hhi := ro_high ho
  have hls := lsV_bd r (r 39) (r 40) kp 0 0
  refine gTri.of (by decide +kernel) rfl ?_
  show gWP f_Model_leastOf _ _ _ 0 [(2, 177), (0, kp), (9, 0)] [] sh g _
  refine gw_aload_n (gc k_Model_leastOf_0 0 rfl) rfl rfl ?_
  refine gw_cV1 (gc k_Model_leastOf_0 1 rfl) y_Model_noteMany ln_Model_112 (c_Model_noteMany hx hf) rfl rfl (gAt hx rfl rfl) rfl rfl ?_
  rw [em]
  refine gw_if_ne (tgt := 9) (gc k_Model_leastOf_0 2 rfl) rfl (by omega) (fun c4 => ?_) (fun c4 => ?_)
  · refine gw_aload_n (gc k_Model_leastOf_0 5 rfl) rfl rfl ?_
    refine gw_aload_n (gc k_Model_leastOf_0 6 rfl) rfl rfl ?_
    refine gw_getref (gc k_Model_leastOf_0 7 rfl) fl_Model_28 (gAt hx rfl rfl) (gRf hf rfl rfl) ?_
    refine gw_bipush (gc k_Model_leastOf_0 8 rfl) (by decide) ?_
    refine gw_iald (gc k_Model_leastOf_0 9 rfl) (gAt hx rfl rfl) (by omega) ?_
    refine gw_aload_n (gc k_Model_leastOf_0 10 rfl) rfl rfl ?_
    refine gw_getref (gc k_Model_leastOf_0 11 rfl) fl_Model_28 (gAt hx rfl rfl) (gRf hf rfl rfl) ?_
    refine gw_bipush (gc k_Model_leastOf_0 12 rfl) (by decide) ?_
    refine gw_iald (gc k_Model_leastOf_0 13 rfl) (gAt hx rfl rfl) (by omega) ?_
    rw [em]
    refine gw_iload_n (gc k_Model_leastOf_0 14 rfl) rfl ?_
    refine gw_xV1 (gc k_Model_leastOf_0 15 rfl) y_Model_laysRest ln_Model_372 (c_Model_laysRest hx hf ho hv (r 39) (r 40) kp (by omega) hk) rfl rfl (gAt hx rfl rfl) rfl rfl (fun r25 sh2 g25 hq25 => ?_)
    obtain ⟨rfl, rfl, hq⟩ := hq25
    have hf := hq.fin hf
    have hv2 := hv.eq hq.1
    have em2 := hv2.1
    refine gw_aload_n (gc k_Model_leastOf_0 16 rfl) rfl rfl ?_
    refine gw_iconst (gc k_Model_leastOf_0 17 rfl) ?_
    refine gw_iconst (gc k_Model_leastOf_0 18 rfl) ?_
    refine gw_aload_n (gc k_Model_leastOf_0 19 rfl) rfl rfl ?_
    refine gw_getref (gc k_Model_leastOf_0 20 rfl) fl_Model_28 (gAt hx rfl rfl) (gRf hf rfl rfl) ?_
    refine gw_bipush (gc k_Model_leastOf_0 21 rfl) (by decide) ?_
    refine gw_iald (gc k_Model_leastOf_0 22 rfl) (gAt hx rfl rfl) (by omega) ?_
    refine gw_aload_n (gc k_Model_leastOf_0 23 rfl) rfl rfl ?_
    refine gw_getref (gc k_Model_leastOf_0 24 rfl) fl_Model_28 (gAt hx rfl rfl) (gRf hf rfl rfl) ?_
    refine gw_bipush (gc k_Model_leastOf_0 25 rfl) (by decide) ?_
    refine gw_iald (gc k_Model_leastOf_0 26 rfl) (gAt hx rfl rfl) (by omega) ?_
    rw [em2]
    refine gw_iload_n (gc k_Model_leastOf_0 27 rfl) rfl ?_
    refine gw_cV1 (gc k_Model_leastOf_0 28 rfl) y_Model_leastFrom ln_Model_360 (c_leastR hx hf ho hv2 0 0 (r 39) (r 40) kp (by omega) (by omega) (fun _ => rfl) (by omega) hk (fun q a c => hq.2 0 q (by omega) (by omega) a c (Or.inl (by omega)))) rfl rfl (gAt hx rfl rfl) rfl rfl ?_
    refine gw_istore_2 (gc k_Model_leastOf_0 29 rfl) rfl rfl ?_
    refine gw_iload_n (gc k_Model_leastOf_0 30 rfl) rfl ?_
    refine gw_ldcw (gc k_Model_leastOf_0 31 rfl) cn_Model_364 ?_
    refine gw_icmp_lt (tgt := 61) (gc k_Model_leastOf_0 32 rfl) rfl (by omega) (fun c54 => ?_) (fun c54 => ?_)
    · refine gw_iload_n (gc k_Model_leastOf_0 35 rfl) rfl ?_
      refine gw_ireturn (gc k_Model_leastOf_0 36 rfl) rfl ?_
      exact ⟨by unfold loF; rw [if_neg (by omega)]; first | rw [if_pos (by omega)] | rw [if_neg (by omega)], rfl, hq⟩
    · refine gw_iconst (gc k_Model_leastOf_0 33 rfl) ?_
      refine gw_goto (tgt := 62) (gc k_Model_leastOf_0 34 rfl) rfl ?_
      refine gw_ireturn (gc k_Model_leastOf_0 36 rfl) rfl ?_
      exact ⟨by unfold loF; rw [if_neg (by omega)]; first | rw [if_pos (by omega)] | rw [if_neg (by omega)], rfl, hq⟩
  · refine gw_iconst (gc k_Model_leastOf_0 3 rfl) ?_
    refine gw_ireturn (gc k_Model_leastOf_0 4 rfl) rfl ?_
    exact ⟨by unfold loF; rw [if_pos (by omega)], rfl, fun _ _ _ => rfl, fun n q a1 a2 a3 a4 a5 => by omega⟩
set_option maxHeartbeats 2000000 in
theorem pit_step {sh : gS} {g : gM} (hx : gFix sh) (hf : gFin g) (ho : rowOK (g 179)) (nt h n want q kp : Int) (hn : 0 ≤ n ∧ n < 12) (hh : 0 ≤ h ∧ h ≤ 24) (hk : kp = 0 ∨ kp = 1) (hq : 0 ≤ q ∧ q ≤ 24) (hw : -200000000 ≤ want ∧ want ≤ 200000000) (C P : Int) (hC : g 194 (625 * n + 25 * h + q) = C) (hCb : C = 0 ∨ C = 1) (hP : (if kp = 1 then (if q = g 179 n then 0 else 1) else g 192 (625 * n + 25 * h + q)) + g 195 (25 * n + q) = P) (hPb : -200000000 ≤ P ∧ P ≤ 200000000) (hno : ¬ (C = 1 ∧ P = want)) {Q : gQ} (K : gWP f_Model_pitchOf 3 0 0 44 [(2, 177), (0, nt), (0, kp), (0, h), (0, n), (0, want), (0, q + 1)] [] sh g Q) : gWP f_Model_pitchOf 3 0 0 44 [(2, 177), (0, nt), (0, kp), (0, h), (0, n), (0, want), (0, q)] [] sh g Q := by
  skip
  show gWP f_Model_pitchOf _ _ _ 44 [(2, 177), (0, nt), (0, kp), (0, h), (0, n), (0, want), (0, q)] [] sh g _
  skip
  refine gw_aload_n (gc k_Model_pitchOf_0 26 rfl) rfl rfl ?_
  refine gw_getref (gc k_Model_pitchOf_0 27 rfl) fl_Model_78 (gAt hx rfl rfl) (gRf hf rfl rfl) ?_
  refine gw_iload (gc k_Model_pitchOf_0 28 rfl) rfl ?_
  refine gw_iload_n (gc k_Model_pitchOf_0 29 rfl) rfl ?_
  refine gw_iload (gc k_Model_pitchOf_0 30 rfl) rfl ?_
  refine gw_cS1 (gc k_Model_pitchOf_0 31 rfl) y_Model_noteAt ln_Model_354 (c_Model_noteAt n h q) rfl rfl rfl rfl ?_
  refine gw_zald (gc k_Model_pitchOf_0 32 rfl) (gAt hx rfl rfl) (by omega) ?_
  rw [hC]
  refine gw_if_eq (tgt := 89) (gc k_Model_pitchOf_0 33 rfl) rfl (by omega) (fun c57 => ?_) (fun c57 => ?_)
  · refine gw_iinc_6 (gc k_Model_pitchOf_1 11 rfl) rfl rfl ?_
    refine gw_goto (tgt := 44) (gc k_Model_pitchOf_1 12 rfl) rfl ?_
    exact K
  · refine gw_aload_n (gc k_Model_pitchOf_0 34 rfl) rfl rfl ?_
    refine gw_iload (gc k_Model_pitchOf_0 35 rfl) rfl ?_
    refine gw_iload_n (gc k_Model_pitchOf_0 36 rfl) rfl ?_
    refine gw_iload (gc k_Model_pitchOf_0 37 rfl) rfl ?_
    refine gw_iload_n (gc k_Model_pitchOf_0 38 rfl) rfl ?_
    refine gw_cV1 (gc k_Model_pitchOf_0 39 rfl) y_Model_priceOf ln_Model_365 (c_Model_priceOf hx hf n h q kp hn hh (by omega) hk ho) rfl rfl (gAt hx rfl rfl) rfl rfl ?_
    refine gw_aload_n (gc k_Model_pitchOf_1 0 rfl) rfl rfl ?_
    refine gw_getref (gc k_Model_pitchOf_1 1 rfl) fl_Model_81 (gAt hx rfl rfl) (gRf hf rfl rfl) ?_
    refine gw_bipush (gc k_Model_pitchOf_1 2 rfl) (by decide) ?_
    refine gw_iload (gc k_Model_pitchOf_1 3 rfl) rfl ?_
    refine gw_imul (gc k_Model_pitchOf_1 4 rfl) ?_
    refine gw_iload (gc k_Model_pitchOf_1 5 rfl) rfl ?_
    refine gw_iadd (gc k_Model_pitchOf_1 6 rfl) ?_
    refine gw_iald (gc k_Model_pitchOf_1 7 rfl) (gAt hx rfl rfl) (by omega) ?_
    refine gw_iadd (gc k_Model_pitchOf_1 8 rfl) ?_
    refine gw_iload (gc k_Model_pitchOf_1 9 rfl) rfl ?_
    rw [hP]
    refine gw_icmp_eq (tgt := 95) (gc k_Model_pitchOf_1 10 rfl) rfl (by omega) (fun c86 => ?_) (fun c86 => ?_)
    · exact absurd (show C = 1 ∧ P = want by omega) hno
    · refine gw_iinc_6 (gc k_Model_pitchOf_1 11 rfl) rfl rfl ?_
      refine gw_goto (tgt := 44) (gc k_Model_pitchOf_1 12 rfl) rfl ?_
      exact K
set_option maxHeartbeats 2000000 in
theorem pit_hit {sh : gS} {g : gM} (hx : gFix sh) (hf : gFin g) (ho : rowOK (g 179)) (nt h n want q kp : Int) (hn : 0 ≤ n ∧ n < 12) (hh : 0 ≤ h ∧ h ≤ 24) (hk : kp = 0 ∨ kp = 1) (hq : 0 ≤ q ∧ q ≤ 24) (hw : -200000000 ≤ want ∧ want ≤ 200000000) (C P : Int) (hC : g 194 (625 * n + 25 * h + q) = C) (hCb : C = 0 ∨ C = 1) (hP : (if kp = 1 then (if q = g 179 n then 0 else 1) else g 192 (625 * n + 25 * h + q)) + g 195 (25 * n + q) = P) (hPb : -200000000 ≤ P ∧ P ≤ 200000000) (hno : C = 1 ∧ P = want) {Q : gQ} (K : gWP f_Model_pitchOf 3 0 0 95 [(2, 177), (0, nt), (0, kp), (0, h), (0, n), (0, want), (0, q)] [] sh g Q) : gWP f_Model_pitchOf 3 0 0 44 [(2, 177), (0, nt), (0, kp), (0, h), (0, n), (0, want), (0, q)] [] sh g Q := by
  skip
  show gWP f_Model_pitchOf _ _ _ 44 [(2, 177), (0, nt), (0, kp), (0, h), (0, n), (0, want), (0, q)] [] sh g _
  refine gw_aload_n (gc k_Model_pitchOf_0 26 rfl) rfl rfl ?_
  refine gw_getref (gc k_Model_pitchOf_0 27 rfl) fl_Model_78 (gAt hx rfl rfl) (gRf hf rfl rfl) ?_
  refine gw_iload (gc k_Model_pitchOf_0 28 rfl) rfl ?_
  refine gw_iload_n (gc k_Model_pitchOf_0 29 rfl) rfl ?_
  refine gw_iload (gc k_Model_pitchOf_0 30 rfl) rfl ?_
  refine gw_cS1 (gc k_Model_pitchOf_0 31 rfl) y_Model_noteAt ln_Model_354 (c_Model_noteAt n h q) rfl rfl rfl rfl ?_
  refine gw_zald (gc k_Model_pitchOf_0 32 rfl) (gAt hx rfl rfl) (by omega) ?_
  rw [hC]
  refine gw_if_eq (tgt := 89) (gc k_Model_pitchOf_0 33 rfl) rfl (by omega) (fun c57 => ?_) (fun c57 => ?_)
  · exact absurd hno.1 (by omega)
  · refine gw_aload_n (gc k_Model_pitchOf_0 34 rfl) rfl rfl ?_
    refine gw_iload (gc k_Model_pitchOf_0 35 rfl) rfl ?_
    refine gw_iload_n (gc k_Model_pitchOf_0 36 rfl) rfl ?_
    refine gw_iload (gc k_Model_pitchOf_0 37 rfl) rfl ?_
    refine gw_iload_n (gc k_Model_pitchOf_0 38 rfl) rfl ?_
    refine gw_cV1 (gc k_Model_pitchOf_0 39 rfl) y_Model_priceOf ln_Model_365 (c_Model_priceOf hx hf n h q kp hn hh (by omega) hk ho) rfl rfl (gAt hx rfl rfl) rfl rfl ?_
    refine gw_aload_n (gc k_Model_pitchOf_1 0 rfl) rfl rfl ?_
    refine gw_getref (gc k_Model_pitchOf_1 1 rfl) fl_Model_81 (gAt hx rfl rfl) (gRf hf rfl rfl) ?_
    refine gw_bipush (gc k_Model_pitchOf_1 2 rfl) (by decide) ?_
    refine gw_iload (gc k_Model_pitchOf_1 3 rfl) rfl ?_
    refine gw_imul (gc k_Model_pitchOf_1 4 rfl) ?_
    refine gw_iload (gc k_Model_pitchOf_1 5 rfl) rfl ?_
    refine gw_iadd (gc k_Model_pitchOf_1 6 rfl) ?_
    refine gw_iald (gc k_Model_pitchOf_1 7 rfl) (gAt hx rfl rfl) (by omega) ?_
    refine gw_iadd (gc k_Model_pitchOf_1 8 rfl) ?_
    refine gw_iload (gc k_Model_pitchOf_1 9 rfl) rfl ?_
    rw [hP]
    refine gw_icmp_eq (tgt := 95) (gc k_Model_pitchOf_1 10 rfl) rfl (by omega) (fun c86 => ?_) (fun c86 => ?_)
    · exact K
    · exact absurd hno.2 (by omega)
theorem pit_loop {sh : gS} {g : gM} (hx : gFix sh) (hf : gFin g) (ho : rowOK (g 179)) (nt h n want kp : Int) (hn : 0 ≤ n ∧ n < 12) (hh : 0 ≤ h ∧ h ≤ 24) (hk : kp = 0 ∨ kp = 1) (hw : -200000000 ≤ want ∧ want ≤ 200000000) (C P : Int → Int) {lo hi : Int} (hlo : 0 ≤ lo ∧ hi ≤ 24) (hC : ∀ q, lo ≤ q → q ≤ hi → g 194 (625 * n + 25 * h + q) = C q ∧ (C q = 0 ∨ C q = 1)) (hP : ∀ q, lo ≤ q → q ≤ hi → ((if kp = 1 then (if q = g 179 n then 0 else 1) else g 192 (625 * n + 25 * h + q)) + g 195 (25 * n + q) = P q ∧ -200000000 ≤ P q ∧ P q ≤ 200000000)) {Q : gQ} : ∀ (m : Nat) (q : Int), lo ≤ q → q + m = hi + 1 → (∃ x, q ≤ x ∧ x < q + m ∧ C x = 1 ∧ P x = want) → gWP f_Model_pitchOf 3 0 0 95 [(2, 177), (0, nt), (0, kp), (0, h), (0, n), (0, want), (0, fsF C P want m q)] [] sh g Q → gWP f_Model_pitchOf 3 0 0 44 [(2, 177), (0, nt), (0, kp), (0, h), (0, n), (0, want), (0, q)] [] sh g Q
  | 0, q, h0, e, ⟨x, a, b, _⟩, K => by omega
  | m + 1, q, h0, e, ⟨x, a, b, c, d⟩, K => by
    have h1 := hC q h0 (by omega)
    have h2 := hP q h0 (by omega)
    unfold fsF at K
    by_cases z : C q = 1 ∧ P q = want
    · rw [if_pos z] at K
      exact pit_hit hx hf ho nt h n want q kp hn hh hk (by omega) hw _ _ h1.1 h1.2 h2.1 h2.2 z K
    · rw [if_neg z] at K
      have hxq : x ≠ q := fun y => z (by rw [← y]; exact ⟨c, d⟩)
      exact pit_step hx hf ho nt h n want q kp hn hh hk (by omega) hw _ _ h1.1 h1.2 h2.1 h2.2 z (pit_loop hx hf ho nt h n want kp hn hh hk hw C P hlo hC hP m (q + 1) (by omega) (by omega) ⟨x, by omega, by omega, c, d⟩ K)
