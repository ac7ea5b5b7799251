/-! ===== sets of pitches as bits ===== -/
theorem gand_nat {a b : Int} (ha : 0 ≤ a ∧ a < 1073741824) (hb : 0 ≤ b ∧ b < 1073741824) : gand a b = ((a.toNat &&& b.toNat : Nat) : Int) := by
  show ((Int32.ofInt a).toBitVec &&& (Int32.ofInt b).toBitVec).toInt = _
  have e : ((Int32.ofInt a).toBitVec &&& (Int32.ofInt b).toBitVec).toNat = a.toNat &&& b.toNat := by
    rw [BitVec.toNat_and, i32_bv, i32_bv, show a % 4294967296 = a by omega, show b % 4294967296 = b by omega]
  have l : a.toNat &&& b.toNat < 2 ^ 30 := Nat.lt_of_le_of_lt Nat.and_le_left (by omega)
  rw [BitVec.toInt_eq_toNat_of_lt (by rw [e]; omega), e]
theorem gshl_tab : ∀ k : Fin 28, gshl 1 (k.val : Int) = ((2 ^ k.val : Nat) : Int) := by decide +kernel
theorem gshl_p {k : Int} (hk : 0 ≤ k ∧ k < 28) : gshl 1 k = ((2 ^ k.toNat : Nat) : Int) := by
  obtain ⟨i, rfl⟩ : ∃ i : Fin 28, k = (i.val : Int) := ⟨⟨k.toNat, by omega⟩, by show k = ((k.toNat : Nat) : Int); omega⟩
  exact gshl_tab i
/-- v's bits are the pitches of S -/
def stB (v : Int) (S : Int → Prop) : Prop := (0 ≤ v ∧ v < 33554432) ∧ ∀ q : Nat, q < 25 → (v.toNat.testBit q = true ↔ S q)
theorem stB.congr {v : Int} {S T : Int → Prop} (h : stB v S) (he : ∀ q : Int, 0 ≤ q → q < 25 → (S q ↔ T q)) : stB v T := ⟨h.1, fun q hq => (h.2 q hq).trans (he q (by omega) (by omega))⟩
theorem stB.none {S : Int → Prop} (h : ∀ q : Int, 0 ≤ q → q < 25 → ¬ S q) : stB 0 S := ⟨by decide, fun q hq => ⟨fun z => (by rw [show (0 : Int).toNat = 0 from rfl, Nat.zero_testBit] at z; cases z), fun z => absurd z (h q (by omega) (by omega))⟩⟩
theorem stB.or {v w : Int} {S T : Int → Prop} (h : stB v S) (k : stB w T) : stB (gor v w) (fun q => S q ∨ T q) := by
  have e := gor_nat (a := v) (b := w) (by have := h.1; omega) (by have := k.1; omega)
  have l : v.toNat ||| w.toNat < 2 ^ 25 := Nat.or_lt_two_pow (by have := h.1; omega) (by have := k.1; omega)
  refine ⟨by rw [e]; omega, fun q hq => ?_⟩
  rw [e, Int.toNat_natCast, Nat.testBit_or, Bool.or_eq_true, h.2 q hq, k.2 q hq]
theorem stB.and {v w : Int} {S T : Int → Prop} (h : stB v S) (k : stB w T) : stB (gand v w) (fun q => S q ∧ T q) := by
  have e := gand_nat (a := v) (b := w) (by have := h.1; omega) (by have := k.1; omega)
  have l : v.toNat &&& w.toNat ≤ v.toNat := Nat.and_le_left
  refine ⟨by rw [e]; have := h.1; omega, fun q hq => ?_⟩
  rw [e, Int.toNat_natCast, Nat.testBit_and, Bool.and_eq_true, h.2 q hq, k.2 q hq]
theorem stB.one {k : Int} (hk : 0 ≤ k ∧ k < 25) : stB (gshl 1 k) (fun q => q = k) := by
  have e := gshl_p (k := k) (by omega)
  have l : 2 ^ k.toNat ≤ 2 ^ 24 := Nat.pow_le_pow_right (by decide) (by omega)
  have p : 0 < 2 ^ k.toNat := Nat.pow_pos (by decide)
  have l2 : (2 ^ 24 : Nat) = 16777216 := rfl
  refine ⟨by rw [e]; omega, fun q hq => ?_⟩
  rw [e, Int.toNat_natCast, Nat.testBit_two_pow, decide_eq_true_eq]
  show _ ↔ (q : Int) = k
  omega
theorem stB.bit {v : Int} {S : Int → Prop} (h : stB v S) {q : Int} (hq : 0 ≤ q ∧ q < 25) : gand (gshr v q) 1 = 1 ↔ S q := by
  have h1 := h.1
  have e := h.2 q.toNat (by omega)
  rw [show ((q.toNat : Nat) : Int) = q by omega] at e
  rw [← e, gand_1, gshr_div (by omega) (by omega), Nat.testBit_eq_decide_div_mod_eq, decide_eq_true_eq]
  obtain ⟨n, rfl⟩ : ∃ n : Nat, v = n := ⟨v.toNat, by omega⟩
  rw [Int.toNat_natCast]
  omega
theorem stB.zero {v : Int} {S : Int → Prop} (h : stB v S) : v = 0 ↔ ∀ q : Int, 0 ≤ q → q < 25 → ¬ S q := by
  constructor
  · intro z q a c w
    have e := (h.2 q.toNat (by omega)).mpr (by rw [show ((q.toNat : Nat) : Int) = q by omega]; exact w)
    rw [z, show (0 : Int).toNat = 0 from rfl, Nat.zero_testBit] at e
    cases e
  · intro z
    have e : v.toNat = 0 := Nat.eq_of_testBit_eq (fun i => by
      rw [Nat.zero_testBit]
      by_cases y : i < 25
      · exact Bool.eq_false_iff.mpr (fun w => z i (by omega) (by omega) ((h.2 i y).mp w))
      · exact Nat.testBit_lt_two_pow (Nat.lt_of_lt_of_le (show v.toNat < 2 ^ 25 by have := h.1; omega) (Nat.pow_le_pow_right (by decide) (by omega))))
    have := h.1
    omega
theorem wi_tab : ∀ l h q : Fin 25, l ≤ h → Nat.testBit (2 ^ (h.val + 1) - 2 ^ l.val) q.val = decide (l ≤ q ∧ q ≤ h) := by decide +kernel
theorem stB.within {l h : Int} (hl : 0 ≤ l ∧ l ≤ h) (hh : h ≤ 24) : stB (gshl 1 (h + 1) - gshl 1 l) (fun q => l ≤ q ∧ q ≤ h) := by
  have e : gshl 1 (h + 1) - gshl 1 l = ((2 ^ (h.toNat + 1) - 2 ^ l.toNat : Nat) : Int) := by
    rw [gshl_p (by omega), gshl_p (by omega), show (h + 1).toNat = h.toNat + 1 by omega]
    have := Nat.pow_le_pow_right (n := 2) (by decide) (show l.toNat ≤ h.toNat + 1 by omega)
    omega
  have p : 2 ^ (h.toNat + 1) ≤ 2 ^ 25 := Nat.pow_le_pow_right (by decide) (by omega)
  have p2 : (2 ^ 25 : Nat) = 33554432 := rfl
  have p3 : 0 < 2 ^ l.toNat := Nat.pow_pos (by decide)
  refine ⟨by rw [e]; omega, fun q hq => ?_⟩
  have t := wi_tab ⟨l.toNat, by omega⟩ ⟨h.toNat, by omega⟩ ⟨q, hq⟩ (by show l.toNat ≤ h.toNat; omega)
  have t : Nat.testBit (2 ^ (h.toNat + 1) - 2 ^ l.toNat) q = decide ((⟨l.toNat, by omega⟩ : Fin 25) ≤ ⟨q, hq⟩ ∧ (⟨q, hq⟩ : Fin 25) ≤ ⟨h.toNat, by omega⟩) := t
  rw [e, Int.toNat_natCast, t, decide_eq_true_eq]
  show (l.toNat ≤ q ∧ q ≤ h.toNat) ↔ l ≤ q ∧ (q : Int) ≤ h
  omega
/-! a voice within two pitches -/
theorem mnF_min {C P : Int → Int} {lo : Int} : ∀ k : Nat, ∀ q, lo ≤ q → q < lo + k → C q = 1 → mnF C P lo k ≤ P q
  | 0, q, a, b, _ => by omega
  | k + 1, q, a, b, c => by
    show (if C (lo + k) = 1 then mnI (mnF C P lo k) (P (lo + k)) else mnF C P lo k) ≤ P q
    unfold mnI
    by_cases z : q = lo + k
    · subst z
      rw [if_pos c]; split <;> omega
    · have := mnF_min (P := P) k q a (by omega) c
      split
      · split <;> omega
      · exact this
theorem ls_iff {Λ : Int → List PC} {sh : gS} {g : gM} {r : Int → Int} {a : Int} (hL : lwP Λ sh g r a) (ho : rowOK r) {lo hi : Int} (hlo : 0 ≤ lo ∧ lo ≤ 24) (hhi : 0 ≤ hi ∧ hi ≤ 24) {n h : Int} (hn : 0 ≤ n ∧ n < r 41) (hh : 0 ≤ h ∧ h ≤ 24) : lsV r lo hi 0 n h < 100000000 ↔ ∃ q, (lo ≤ q ∧ q ≤ hi) ∧ vBar r n h q = 0 ∧ (n + 1 < r 41 → lsV r lo hi 0 (n + 1) q < 100000000) := by
  have hm := ro_many ho
  constructor
  · intro z
    obtain ⟨q, q1, q2, q3, q4⟩ := mnF_hit _ z
    have q3 : 1 - vBar r n h q = 1 := q3
    have q4 : vPrice r n h q + rsR r lo hi 0 n q = lsV r lo hi 0 n h := q4
    have := vPrice_nn r n h q
    refine ⟨q, by omega, by omega, fun y => ?_⟩
    rw [rsR_step (by omega)] at q4
    omega
  · intro ⟨q, q1, q2, q3⟩
    have t := mnF_min (C := fun q => 1 - vBar r n h q) (P := fun q => cpP r 0 n h q + rsR r lo hi 0 n q) (lo := lo) (hi + 1 - lo).toNat q q1.1 (by omega) (by show 1 - vBar r n h q = 1; omega)
    have t : lsV r lo hi 0 n h ≤ vPrice r n h q + rsR r lo hi 0 n q := t
    have hc : vPrice r n h q = caF r 0 n h q := (cp_ca (kp := 0) (Or.inl rfl) n h q q2)
    have hcb := caF_bd hL 0 n h q hh (by omega)
    by_cases y : n + 1 < r 41
    · rw [rsR_step (by omega)] at t
      have w := (ls_la hL ho (Or.inl rfl) hlo hhi (r 41 - 1 - (n + 1)).toNat (n + 1) q (by omega) (by omega) (by omega)).1
      have := q3 y
      rcases w with w | w <;> omega
    · rw [rsR_last (by omega)] at t
      omega
def hV (r : Int → Int) (lo hi : Int) : Prop := r 41 = 0 ∨ lsV r lo hi 0 0 0 < 100000000
theorem ls_mono {Λ : Int → List PC} {sh : gS} {g : gM} {r : Int → Int} {a : Int} (hL : lwP Λ sh g r a) (ho : rowOK r) {lo hi lo2 hi2 : Int} (hlo : 0 ≤ lo2 ∧ lo2 ≤ lo ∧ lo ≤ 24) (hhi : 0 ≤ hi ∧ hi ≤ hi2 ∧ hi2 ≤ 24) : ∀ (m : Nat) (n h : Int), 0 ≤ n → n + m = r 41 - 1 → (0 ≤ h ∧ h ≤ 24) → lsV r lo hi 0 n h < 100000000 → lsV r lo2 hi2 0 n h < 100000000
  | m, n, h, h0, h1, hh, z => by
    obtain ⟨q, q1, q2, q3⟩ := (ls_iff hL ho (by omega) (by omega) (by omega) hh).mp z
    refine (ls_iff hL ho (by omega) (by omega) (by omega) hh).mpr ⟨q, by omega, q2, fun y => ?_⟩
    match m with
    | 0 => omega
    | m + 1 => exact ls_mono hL ho hlo hhi m (n + 1) q (by omega) (by omega) (by omega) (q3 y)
theorem hV.mono {Λ : Int → List PC} {sh : gS} {g : gM} {r : Int → Int} {a : Int} (hL : lwP Λ sh g r a) (ho : rowOK r) {lo hi lo2 hi2 : Int} (hlo : 0 ≤ lo2 ∧ lo2 ≤ lo ∧ lo ≤ 24) (hhi : 0 ≤ hi ∧ hi ≤ hi2 ∧ hi2 ≤ 24) (h : hV r lo hi) : hV r lo2 hi2 := by
  have hm := ro_many ho
  by_cases z : r 41 = 0
  · exact Or.inl z
  · exact Or.inr (ls_mono hL ho hlo hhi (r 41 - 1).toNat 0 0 (by decide) (by omega) (by decide) (h.resolve_left z))
/-- the pitches that note i - 1 can have -/
def rcS (r : Int → Int) (lo hi : Int) : Nat → Int → Prop
  | 0, q => lo ≤ q ∧ q ≤ hi
  | i + 1, q => (lo ≤ q ∧ q ≤ hi) ∧ if i = 0 then vBar r 0 0 q = 0 else ∃ p, (lo ≤ p ∧ p ≤ hi) ∧ rcS r lo hi i p ∧ vBar r i p q = 0
theorem rcS_in {r : Int → Int} {lo hi : Int} : ∀ (i : Nat) (q : Int), rcS r lo hi i q → lo ≤ q ∧ q ≤ hi
  | 0, _, h => h
  | _ + 1, _, h => h.1
theorem hV_rc {Λ : Int → List PC} {sh : gS} {g : gM} {r : Int → Int} {a : Int} (hL : lwP Λ sh g r a) (ho : rowOK r) {lo hi : Int} (hlo : 0 ≤ lo ∧ lo ≤ hi) (hhi : hi ≤ 24) : ∀ i : Nat, (i : Int) ≤ r 41 → (hV r lo hi ↔ ∃ q, rcS r lo hi i q ∧ (0 < i → (i : Int) < r 41 → lsV r lo hi 0 i q < 100000000) ∧ (i = 0 → hV r lo hi))
  | 0, _ => ⟨fun h => ⟨lo, ⟨Int.le_refl _, hlo.2⟩, fun z => absurd z (by decide), fun _ => h⟩, fun ⟨_, _, _, h⟩ => h rfl⟩
  | 1, hi1 => by
    have hm := ro_many ho
    have e := ls_iff hL ho (lo := lo) (hi := hi) (by omega) (by omega) (n := 0) (h := 0) (by omega) (by decide)
    constructor
    · intro h
      obtain ⟨q, q1, q2, q3⟩ := e.mp (h.resolve_left (by omega))
      exact ⟨q, ⟨q1, by rw [if_pos rfl]; exact q2⟩, fun _ y => q3 y, fun z => absurd z (by decide)⟩
    · intro ⟨q, ⟨q1, q2⟩, q3, _⟩
      rw [if_pos rfl] at q2
      exact Or.inr (e.mpr ⟨q, q1, q2, fun y => q3 (by decide) y⟩)
  | i + 2, hi1 => by
    have hm := ro_many ho
    refine (hV_rc hL ho hlo hhi (i + 1) (by omega)).trans ?_
    constructor
    · intro ⟨p, p1, p2, _⟩
      have pb := rcS_in _ _ p1
      obtain ⟨q, q1, q2, q3⟩ := (ls_iff hL ho (by omega) (by omega) (n := ((i + 1 : Nat) : Int)) (by omega) (by omega)).mp (p2 (by omega) (by omega))
      exact ⟨q, ⟨q1, by rw [if_neg (by omega)]; exact ⟨p, pb, p1, q2⟩⟩, fun _ y => by
        have := q3 (by omega)
        rw [show ((i + 1 : Nat) : Int) + 1 = ((i + 2 : Nat) : Int) by omega] at this
        exact this, fun z => absurd z (by omega)⟩
    · intro ⟨q, ⟨q1, q2⟩, q3, _⟩
      rw [if_neg (by omega)] at q2
      obtain ⟨p, p1, p2, p3⟩ := q2
      exact ⟨p, p2, fun _ _ => (ls_iff hL ho (by omega) (by omega) (n := ((i + 1 : Nat) : Int)) (by omega) (by omega)).mpr ⟨q, q1, p3, fun y => by
        have := q3 (by omega) (by omega)
        rw [show ((i + 1 : Nat) : Int) + 1 = ((i + 2 : Nat) : Int) by omega]
        exact this⟩, fun z => absurd z (by omega)⟩
theorem hvB_V (r : Int → Int) (lo hi : Int) : hvB r lo hi = 1 ↔ hV r lo hi := by
  unfold hvB
  by_cases z : r 41 = 0 ∨ lsV r lo hi 0 0 0 < 100000000
  · exact ⟨fun _ => z, fun _ => bi_1 z⟩
  · exact ⟨fun h => absurd h (by rw [bi_0 z]; decide), fun h => absurd h z⟩
theorem hvB_no {r : Int → Int} {lo hi : Int} (h : ¬ hV r lo hi) : hvB r lo hi = 0 := (bi_01 _).resolve_right (fun z => h ((hvB_V r lo hi).mp z))
theorem hvB_01 (r : Int → Int) (lo hi : Int) : hvB r lo hi = 0 ∨ hvB r lo hi = 1 := bi_01 _
/-! the narrowest -/
theorem cmIn_none {r : Int → Int} {w : Int} : ∀ (m : Nat) (lo : Int), (∀ l, lo ≤ l → l < lo + m → ¬ hV r l (l + w)) → cmIn r w m lo = none
  | 0, _, _ => rfl
  | m + 1, lo, h => by
    unfold cmIn
    rw [if_neg (fun z => h lo (Int.le_refl _) (by omega) ((hvB_V _ _ _).mp z))]
    exact cmIn_none m (lo + 1) (fun l a b => h l (by omega) (by omega))
theorem cmIn_some {r : Int → Int} {w t : Int} : ∀ (m : Nat) (lo : Int), lo ≤ t → t < lo + m → hV r t (t + w) → (∀ l, lo ≤ l → l < t → ¬ hV r l (l + w)) → cmIn r w m lo = some t
  | 0, lo, h1, h2, _, _ => by omega
  | m + 1, lo, h1, h2, h3, h4 => by
    unfold cmIn
    by_cases z : lo = t
    · subst z; rw [if_pos ((hvB_V _ _ _).mpr h3)]
    · rw [if_neg (fun y => h4 lo (Int.le_refl _) (by omega) ((hvB_V _ _ _).mp y))]
      exact cmIn_some m (lo + 1) (by omega) (by omega) h3 (fun l a b => h4 l (by omega) b)
theorem cmOut_none {r : Int → Int} : ∀ (m : Nat) (w : Int), 0 ≤ w → (m = 0 ∨ w + m ≤ r 40 + 1 - r 39) → (∀ l v, r 39 ≤ l → w ≤ v → l + v ≤ r 40 → ¬ hV r l (l + v)) → cmOut r m w = none
  | 0, _, _, _, _ => rfl
  | m + 1, w, h0, h1, h => by
    unfold cmOut
    rw [cmIn_none _ _ (fun l a b => h l w a (Int.le_refl _) (by omega))]
    exact cmOut_none m (w + 1) (by omega) (by omega) (fun l v a b => h l v a (by omega))
theorem cmOut_some {r : Int → Int} {t v : Int} : ∀ (m : Nat) (w : Int), 0 ≤ w → w ≤ v → v < w + m → (r 39 ≤ t ∧ t + v ≤ r 40) → hV r t (t + v) → (∀ l, r 39 ≤ l → l < t → ¬ hV r l (l + v)) → (∀ l u, r 39 ≤ l → w ≤ u → u < v → l + u ≤ r 40 → ¬ hV r l (l + u)) → cmOut r m w = some (v, t)
  | 0, w, h0, h1, h2, _, _, _, _ => by omega
  | m + 1, w, h0, h1, h2, h3, h4, h5, h6 => by
    unfold cmOut
    by_cases z : w = v
    · subst z
      rw [cmIn_some _ _ h3.1 (by omega) h4 h5]
    · rw [cmIn_none _ _ (fun l a b => h6 l w a (Int.le_refl _) (by omega) (by omega))]
      exact cmOut_some m (w + 1) (by omega) (by omega) (by omega) h3 h4 h5 (fun l u a b => h6 l u a (by omega))
