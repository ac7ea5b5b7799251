theorem hdR_s {nt : Int} {P T : Int → Int} {sm : Int → Int → PR} {p n b p2 n2 b2 : Int} (hb : b = -1) (h : T p = 1 ∨ T p = 2) (hT : rdT nt P (sm (p + 1) n) (p + 1) n b p2 n2 b2) : rdT nt P (hdR T sm p n) p n b p2 n2 b2 := by
  subst hb
  have e : hdR T sm p n = sm (p + 1) n := if_pos h
  rw [e]; exact hT.mv
theorem hdR_m {nt : Int} {P T : Int → Int} {sm : Int → Int → PR} {p n b p2 n2 b2 : Int} (h : b = -1 → ¬ (T p = 1 ∨ T p = 2)) (hT : rdT nt P (muR T 3 p n) p n b p2 n2 b2) : rdT nt P (hdR T sm p n) p n b p2 n2 b2 := by
  by_cases z : b = -1
  · have e : hdR T sm p n = muR T 3 p n := if_neg (h z)
    rw [e]; exact hT
  · rcases hT with q | q
    · exact Or.inl q
    · exact absurd q.1 z
theorem ohR_s {nt : Int} {P T : Int → Int} {sm : Int → Int → PR} {p n b p2 n2 b2 : Int} (hb : b = -1) (h : T p = 22 ∨ T p = 23) (hT : rdT nt P (seqR sm (seqR (muR T 26) sm) (p + 1) n) (p + 1) n b p2 n2 b2) : rdT nt P (ohR T sm p n) p n b p2 n2 b2 := by
  subst hb
  have e : ohR T sm p n = seqR sm (seqR (muR T 26) sm) (p + 1) n := if_pos h
  rw [e]; exact hT.mv
theorem ohR_w {nt : Int} {P T : Int → Int} {sm : Int → Int → PR} {p n b : Int} (hG : rdG nt (p + 1) n b) (h : b = -1 ∧ T p = 24) : rdT nt P (ohR T sm p n) p n b (p + 1) n b := by
  obtain ⟨rfl, h⟩ := h
  exact rdT.i ((if_neg (by omega)).trans (if_pos h)) (hG.1 rfl)
theorem ohR_m {nt : Int} {P T : Int → Int} {sm : Int → Int → PR} {p n b p2 n2 b2 : Int} (h : b = -1 → ¬ (T p = 22 ∨ T p = 23) ∧ ¬ T p = 24) (hT : rdT nt P (muR T 25 p n) p n b p2 n2 b2) : rdT nt P (ohR T sm p n) p n b p2 n2 b2 := by
  by_cases z : b = -1
  · have e : ohR T sm p n = muR T 25 p n := (if_neg (h z).1).trans (if_neg (h z).2)
    rw [e]; exact hT
  · rcases hT with q | q
    · exact Or.inl q
    · exact absurd q.1 z
theorem optR_s {nt : Int} {P T : Int → Int} {c : Int} {f : Int → Int → PR} {p n b p2 n2 b2 : Int} (h : b = -1 ∧ T p = c) (hT : rdT nt P (f (p + 1) n) (p + 1) n b p2 n2 b2) : rdT nt P (optR T c f p n) p n b p2 n2 b2 := rdT.opt1 h hT
/-- clauses behind one another -/
def pAllL {α : Type} (T : Int → Int) (nt : Int) (cl : Int → Int → Int ⊕ (Int × Int × α)) : Nat → Int → Int → List α → Int ⊕ List α
  | 0, p, _, _ => .inl p
  | f + 1, p, n, L => if T p = 159 then (if L.length = 12 then .inl (p + 1) else match cl (p + 1) n with
      | .inl e => .inl e
      | .inr (p2, n2, c) => pAllL T nt cl f p2 n2 (L ++ [c]))
    else if p < nt then .inl p else .inr L
def pAll {α : Type} (T : Int → Int) (nt : Int) (cl : Int → Int → Int ⊕ (Int × Int × α)) : Int ⊕ List α := match cl 0 0 with
  | .inl e => .inl e
  | .inr (p, n, c) => pAllL T nt cl 401 p n [c]
theorem pLawL_all (T : Int → Int) (nt : Int) (cl : Int → Int → PCR) : ∀ (f : Nat) (p n : Int) (L : List PC), pLawL T nt cl f p n L = pAllL T nt cl f p n L
  | 0, _, _, _ => rfl
  | f + 1, p, n, L => by
    unfold pLawL pAllL
    by_cases z : T p = 159
    · rw [if_pos z, if_pos z]
      by_cases z2 : L.length = 12
      · rw [if_pos z2, if_pos z2]
      · rw [if_neg z2, if_neg z2]
        cases cl (p + 1) n with
        | inl e => rfl
        | inr x => exact pLawL_all T nt cl f _ _ _
    · rw [if_neg z, if_neg z]
theorem pLaw_all (T V : Int → Int) (nt : Int) : pLaw T V nt = pAll T nt (pClause T (pSum T V false 8) (pTest T V false 8)) := by
  unfold pLaw pAll
  cases pClause T (pSum T V false 8) (pTest T V false 8) 0 0 with
  | inl e => rfl
  | inr x => exact pLawL_all _ _ _ _ _ _ _
def pOrd (T V : Int → Int) (nt : Int) : Int ⊕ List OC := pAll T nt (pOrder T V (pSum T V true 8) (pTest T V true 8))
theorem pA_12 {α : Type} {T : Int → Int} {nt : Int} {cl : Int → Int → Int ⊕ (Int × Int × α)} {p n : Int} {L : List α} (h : T p = 159) (h2 : L.length = 12) (f : Nat) : pAllL T nt cl (f + 1) p n L = .inl (p + 1) := (if_pos h).trans (if_pos h2)
theorem pA_e {α : Type} {T : Int → Int} {nt : Int} {cl : Int → Int → Int ⊕ (Int × Int × α)} {p n e : Int} {L : List α} (h : T p = 159) (h2 : ¬ L.length = 12) (hc : cl (p + 1) n = .inl e) (f : Nat) : pAllL T nt cl (f + 1) p n L = .inl e := by
  unfold pAllL; rw [if_pos h, if_neg h2, hc]
theorem pA_i {α : Type} {T : Int → Int} {nt : Int} {cl : Int → Int → Int ⊕ (Int × Int × α)} {p n p2 n2 : Int} {c : α} {L : List α} (h : T p = 159) (h2 : ¬ L.length = 12) (hc : cl (p + 1) n = .inr (p2, n2, c)) (f : Nat) : pAllL T nt cl (f + 1) p n L = pAllL T nt cl f p2 n2 (L ++ [c]) := by
  have e : pAllL T nt cl (f + 1) p n L = (match cl (p + 1) n with
      | .inl e => .inl e
      | .inr (p2, n2, c) => pAllL T nt cl f p2 n2 (L ++ [c])) := (if_pos h).trans (if_neg h2)
  rw [e, hc]
theorem pA_f {α : Type} {T : Int → Int} {nt : Int} {cl : Int → Int → Int ⊕ (Int × Int × α)} {p n : Int} {L : List α} (h : ¬ T p = 159) (h2 : p < nt) (f : Nat) : pAllL T nt cl (f + 1) p n L = .inl p := (if_neg h).trans (if_pos h2)
theorem pA_d {α : Type} {T : Int → Int} {nt : Int} {cl : Int → Int → Int ⊕ (Int × Int × α)} {p n : Int} {L : List α} (h : ¬ T p = 159) (h2 : ¬ p < nt) (f : Nat) : pAllL T nt cl (f + 1) p n L = .inr L := (if_neg h).trans (if_neg h2)
/-- how far all has been read -/
def rdW {α : Type} (T P : Int → Int) (nt : Int) (cl : Int → Int → Int ⊕ (Int × Int × α)) (m p n b : Int) : Prop := (∃ e, pAll T nt cl = .inl e ∧ b = P e ∧ 0 ≤ e ∧ e ≤ nt) ∨ (b = -1 ∧ ∃ (f : Nat) (L : List α), pAllL T nt cl f p n L = pAll T nt cl ∧ 401 ≤ f + p ∧ (L.length : Int) = m)
theorem fgC_e {α : Type} {r : Int ⊕ (Int × Int × α)} {e : Int} (h : fgC r = .inl e) : r = .inl e := by
  cases r with
  | inl x => exact congrArg _ (Sum.inl.inj h)
  | inr x => cases h
theorem fgC_i {α : Type} {r : Int ⊕ (Int × Int × α)} {p n : Int} {c : PK} {s : PS} (h : fgC r = .inr (p, n, c, s)) : ∃ x, r = .inr (p, n, x) := by
  cases r with
  | inl x => cases h
  | inr x =>
    obtain ⟨p2, n2, x⟩ := x
    have q := Sum.inr.inj h
    cases q
    exact ⟨x, rfl⟩
theorem rdW_0 {α : Type} {T P : Int → Int} {nt : Int} {cl : Int → Int → Int ⊕ (Int × Int × α)} {p n b : Int} (hf : ∀ p n p2 n2 c, cl p n = .inr (p2, n2, c) → p < p2) (h : rdT nt P (fgC (cl 0 0)) 0 0 (-1) p n b) : rdW T P nt cl 1 p n b := by
  rcases h with ⟨h, -⟩ | ⟨-, ⟨e, q1, q2, q3⟩ | ⟨c, s, q1, q2, q3, q4⟩⟩
  · exact absurd rfl h
  · have q := fgC_e q1
    exact Or.inl ⟨e, by unfold pAll; rw [q], q2, q3⟩
  · obtain ⟨x, q⟩ := fgC_i q1
    have := hf _ _ _ _ _ q
    exact Or.inr ⟨q2, 401, [x], by unfold pAll; rw [q], by omega, rfl⟩
theorem rdW_s {α : Type} {T P : Int → Int} {nt : Int} {cl : Int → Int → Int ⊕ (Int × Int × α)} {m p n p2 n2 b2 : Int} (hP : ∀ p, 0 ≤ p → p ≤ nt → 0 ≤ P p ∧ P p ≤ 400) (hf : ∀ p n p2 n2 c, cl p n = .inr (p2, n2, c) → p < p2) (hp : p ≤ 400) (hs : T p = 159) (hm : ¬ m = 12) (h : rdW T P nt cl m p n (-1)) (hT : rdT nt P (fgC (cl (p + 1) n)) (p + 1) n (-1) p2 n2 b2) : rdW T P nt cl (m + 1) p2 n2 b2 ∧ (b2 = -1 → p < p2) := by
  rcases h with ⟨e, q1, q2, q3, q4⟩ | ⟨-, f, L, q1, q2, q3⟩
  · have := hP e q3 q4
    omega
  · obtain ⟨f, rfl⟩ : ∃ k, f = k + 1 := ⟨f - 1, by omega⟩
    rcases hT with ⟨h, -⟩ | ⟨-, ⟨e, r1, r2, r3⟩ | ⟨c, s, r1, r2, r3, r4⟩⟩
    · exact absurd rfl h
    · have := hP e r3.1 r3.2
      exact ⟨Or.inl ⟨e, by rw [← q1, pA_e hs (by omega) (fgC_e r1)], r2, r3⟩, fun z => by omega⟩
    · obtain ⟨x, q⟩ := fgC_i r1
      have := hf _ _ _ _ _ q
      exact ⟨Or.inr ⟨r2, f, L ++ [x], by rw [← q1, pA_i hs (by omega) q], by omega, by rw [List.length_append, List.length_singleton]; omega⟩, fun _ => by omega⟩
theorem rdW_12 {α : Type} {T P : Int → Int} {nt : Int} {cl : Int → Int → Int ⊕ (Int × Int × α)} {m p n : Int} (hP : ∀ p, 0 ≤ p → p ≤ nt → 0 ≤ P p ∧ P p ≤ 400) (hp : (0 ≤ p ∧ p < nt) ∧ nt ≤ 400) (hs : T p = 159) (hm : m = 12) (h : rdW T P nt cl m p n (-1)) (m2 p2 n2 : Int) : rdW T P nt cl m2 p2 n2 (P (p + 1)) := by
  rcases h with ⟨e, q1, q2, q3, q4⟩ | ⟨-, f, L, q1, q2, q3⟩
  · have := hP e q3 q4
    omega
  · obtain ⟨f, rfl⟩ : ∃ k, f = k + 1 := ⟨f - 1, by omega⟩
    exact Or.inl ⟨p + 1, by rw [← q1, pA_12 hs (by omega)], rfl, by omega, by omega⟩
/-- what is read at the end -/
def rdX {α : Type} (P : Int → Int) (nt : Int) (R : Int ⊕ List α) (b : Int) : Prop := (∃ e, R = .inl e ∧ b = P e ∧ 0 ≤ e ∧ e ≤ nt) ∨ (∃ L, R = .inr L ∧ b = -1)
theorem rdW_b {α : Type} {T P : Int → Int} {nt : Int} {cl : Int → Int → Int ⊕ (Int × Int × α)} {m p n b : Int} (h : rdW T P nt cl m p n b) (hb : ¬ b = -1) : rdX P nt (pAll T nt cl) b := by
  rcases h with q | ⟨q, -⟩
  · exact Or.inl q
  · exact absurd q hb
theorem rdW_f {α : Type} {T P : Int → Int} {nt : Int} {cl : Int → Int → Int ⊕ (Int × Int × α)} {m p n : Int} (hP : ∀ p, 0 ≤ p → p ≤ nt → 0 ≤ P p ∧ P p ≤ 400) (hp : (0 ≤ p ∧ p < nt) ∧ nt ≤ 400) (hs : ¬ T p = 159) (h : rdW T P nt cl m p n (-1)) : rdX P nt (pAll T nt cl) (P p) := by
  rcases h with ⟨e, q1, q2, q3, q4⟩ | ⟨-, f, L, q1, q2, q3⟩
  · have := hP e q3 q4
    omega
  · obtain ⟨f, rfl⟩ : ∃ k, f = k + 1 := ⟨f - 1, by omega⟩
    exact Or.inl ⟨p, by rw [← q1, pA_f hs hp.1.2], rfl, by omega, by omega⟩
theorem rdW_d {α : Type} {T P : Int → Int} {nt : Int} {cl : Int → Int → Int ⊕ (Int × Int × α)} {m p n : Int} (hP : ∀ p, 0 ≤ p → p ≤ nt → 0 ≤ P p ∧ P p ≤ 400) (hp : nt ≤ p ∧ p ≤ 400) (hs : ¬ T p = 159) (h : rdW T P nt cl m p n (-1)) : rdX P nt (pAll T nt cl) (-1) := by
  rcases h with ⟨e, q1, q2, q3, q4⟩ | ⟨-, f, L, q1, q2, q3⟩
  · have := hP e q3 q4
    omega
  · obtain ⟨f, rfl⟩ : ∃ k, f = k + 1 := ⟨f - 1, by omega⟩
    exact Or.inr ⟨L, by rw [← q1, pA_d hs (by omega)], rfl⟩
/-- the tape as tokens -/
def tPi (B : Int → Int) (len p : Int) : Int := tP B len p.toNat
theorem spQ.rdC {g g1 : gM} {len : Int} (hl : 0 ≤ len ∧ len ≤ 400) (h : spQ g len g1) (o : Bool) (h10 : g 177 10 = (if o = true then 1 else 0)) (h8 : g 177 8 = (if o = true then 15 else 8)) (h9 : g 177 9 = (if o = true then 21 else 17)) : ∃ nt : Int, g1 177 18 = nt ∧ RdC (tT (tB g) len) (tW (tB g) len) (tPi (tB g) len) o nt (gup g1 177 13 0) := by
  obtain ⟨t, h1, h2, h3, h4, h5, h6⟩ := h
  refine ⟨t, h5, by omega, fun p hp => ?_, fun p a b => ?_, fun p => ?_, fun p a b => ?_, fun p a b => ?_, ?_, ?_, ?_⟩
  · unfold tT at hp
    by_cases z : 0 ≤ p ∧ tP (tB g) len p.toNat < len
    · refine Decidable.byContradiction fun q => ?_
      have e := tP_end (tB g) hl.1 (p.toNat - t) t h2
      rw [show t + (p.toNat - t) = p.toNat by omega] at e
      omega
    · rw [if_neg z] at hp; exact absurd rfl hp
  · have q := h6 p.toNat (by omega)
    rw [show ((p.toNat : Nat) : Int) = p by omega] at q
    rw [gup_fn _ _ _ _ (by decide), gup_fn _ _ _ _ (by decide), gup_fn _ _ _ _ (by decide)]
    exact ⟨q.2.1, q.2.2, q.1⟩
  · unfold tT
    split
    · exact tC_bd (tB_bd g) _ _
    · omega
  · unfold tW
    split
    · next z => have := tV_bd (tB g) (len := len) z.2; omega
    · omega
  · have := tP_bd (tB g) hl.1 p.toNat
    unfold tPi
    omega
  · rw [gup_k _ _ _ _ (by decide), h4 _ _ (by decide) (by decide) (by decide) (by omega)]; exact h10
  · rw [gup_k _ _ _ _ (by decide), h4 _ _ (by decide) (by decide) (by decide) (by omega)]; exact h8
  · rw [gup_k _ _ _ _ (by decide), h4 _ _ (by decide) (by decide) (by decide) (by omega)]; exact h9
theorem spQ.fin {g g1 : gM} {len : Int} (h : spQ g len g1) (hf : gFin g) : gFin g1 := by
  obtain ⟨t, h1, h2, h3, h4, h5, h6⟩ := h
  exact hf.of fun a k z => h4 _ _ (fun q => z (gref_sp (by omega))) (fun q => z (gref_sp (by omega))) (fun q => z (gref_sp (by omega))) (fun q => z (gref_sp (by omega)))
/-- memories alike but where reading works -/
def gRd (g g2 : gM) : Prop := ∀ a k, a ≠ 186 → a ≠ 187 → a ≠ 188 → ¬ (a = 177 ∧ ((8 ≤ k ∧ k ≤ 10) ∨ k = 13 ∨ k = 14 ∨ (18 ≤ k ∧ k ≤ 21))) → g2 a k = g a k
/-- how many tokens there are, told by where they begin -/
def ntQ (B : Int → Int) (len nt : Int) : Prop := ∀ p, 0 ≤ p → (tP B len p.toNat < len ↔ p < nt)
/-- behind reading: the fault, the tokens laid -/
def rdE {α : Type} (g : gM) (R : (Int → Int) → (Int → Int) → Int → Int ⊕ List α) (b : Int) (g2 : gM) : Prop := gRd g g2 ∧ g2 177 13 = 0 ∧ g2 177 14 = b ∧ ∃ nt, (0 ≤ nt ∧ nt ≤ 400) ∧ g2 177 18 = nt ∧ (∀ p, 0 ≤ p → p ≤ nt → g2 186 p = tT (tB g) (g 177 13) p ∧ g2 187 p = tW (tB g) (g 177 13) p) ∧ (ntQ (tB g) (g 177 13) nt ∧ ∀ p, nt ≤ p → tT (tB g) (g 177 13) p = 0) ∧ rdX (tPi (tB g) (g 177 13)) nt (R (tT (tB g) (g 177 13)) (tW (tB g) (g 177 13)) nt) b
theorem rdE_of {α : Type} {g g1 : gM} {R : (Int → Int) → (Int → Int) → Int → Int ⊕ List α} {o : Bool} {nt p n b : Int} (hs : spQ g (g 177 13) g1) (hC : RdC (tT (tB g) (g 177 13)) (tW (tB g) (g 177 13)) (tPi (tB g) (g 177 13)) o nt (gup g1 177 13 0)) (h18 : g1 177 18 = nt) (hX : rdX (tPi (tB g) (g 177 13)) nt (R (tT (tB g) (g 177 13)) (tW (tB g) (g 177 13)) nt) b) : rdE g R b (gup (rdM (gup g1 177 13 0) p n b) 177 14 b) := by
  obtain ⟨t, h1, h2, h3, h4, h5, h6⟩ := hs
  refine ⟨fun a k q1 q2 q3 q4 => ?_, ?_, gup_s _ _ _ _, nt, hC.1, ?_, fun q a c => ?_, ⟨fun q hq => ?_, fun q a => ?_⟩, hX⟩
  · by_cases z : a = 177
    · subst z
      rw [gup_k _ _ _ _ (by omega), rdM_k _ _ _ _ (by omega) (by omega) (by omega), gup_k _ _ _ _ (by omega)]
      exact h4 _ _ q1 q2 q3 (by omega)
    · rw [gup_a _ _ _ _ _ z, rdM_fn _ _ _ _ z, gup_a _ _ _ _ _ z]
      exact h4 _ _ q1 q2 q3 (by omega)
  · rw [gup_k _ _ _ _ (by decide), rdM_k _ _ _ _ (by decide) (by decide) (by decide), gup_s]
  · rw [gup_k _ _ _ _ (by decide), rdM_k _ _ _ _ (by decide) (by decide) (by decide), gup_k _ _ _ _ (by decide)]; exact h18
  · have := hC.2.2.1 q a c
    rw [gup_fn _ _ _ _ (by decide), gup_fn _ _ _ _ (by decide), rdM_fn _ _ _ _ (by decide), rdM_fn _ _ _ _ (by decide)]
    exact ⟨this.1, this.2.1⟩
  · have hl : 0 ≤ g 177 13 := by omega
    have ht : nt = (t : Int) := h18.symm.trans h5
    rw [ht]
    constructor
    · intro z
      by_cases y : q < (t : Int)
      · exact y
      · exfalso
        have := tP_end (tB g) hl (q.toNat - t) t h2
        rw [show t + (q.toNat - t) = q.toNat by omega] at this
        omega
    · exact fun z => h3 _ (by omega)
  · exact Decidable.byContradiction fun z => by have := hC.2.1 q z; omega
theorem gref_rd {a k : Nat} (h : (a : Int) = 186 ∨ (a : Int) = 187 ∨ (a : Int) = 188 ∨ ((a : Int) = 177 ∧ ((8 ≤ (k : Int) ∧ (k : Int) ≤ 10) ∨ (k : Int) = 13 ∨ (k : Int) = 14 ∨ (18 ≤ (k : Int) ∧ (k : Int) ≤ 21)))) : gref a k = none := by
  rcases (show a = 186 ∨ a = 187 ∨ a = 188 ∨ (a = 177 ∧ (k = 8 ∨ k = 9 ∨ k = 10 ∨ k = 13 ∨ k = 14 ∨ k = 18 ∨ k = 19 ∨ k = 20 ∨ k = 21)) by omega) with z | z | z | ⟨z, z2⟩
  · subst z; rfl
  · subst z; rfl
  · subst z; rfl
  · subst z
    rcases z2 with z2 | z2 | z2 | z2 | z2 | z2 | z2 | z2 | z2 <;> (subst z2; rfl)
theorem gRd.fin {g g2 : gM} (h : gRd g g2) (hf : gFin g) : gFin g2 := hf.of fun a k z => h _ _ (fun q => z (gref_rd (by omega))) (fun q => z (gref_rd (by omega))) (fun q => z (gref_rd (by omega))) (fun q => z (gref_rd (by omega)))
set_option maxHeartbeats 2000000 in
theorem rd_clause {sh : gS} {g : gM} (hx : gFix sh) (hf : gFin g) {T V P : Int → Int} {nt : Int} (hR : RdC T V P false nt g) : RdL sh g P nt f_Model_readClause 33 [(2, 177)] (fun p n => fgC (pClause T (pSum T V false 8) (pTest T V false 8) p n)) := by
  intro p n b hG
  have hR0 := hR
  have hf0 := hf
  have hf := hf.rd p n b
  obtain ⟨hn0, hpk, hat, hTb, hVb, hPb, h10, h8, h9⟩ := hR
  have hSm := rd_sumK hx hf0 hR0 8 (by omega)
  have hTe := rd_testK hx hf0 hR0 8 (by omega)
  rw [show (8 : Int) - ((8 : Nat) : Int) = 0 from rfl] at hSm hTe
  refine gTri.of (by decide +kernel) rfl ?_
  show gWP f_Model_readClause _ _ _ 0 [(2, 177)] [] sh (rdM g p n b) _
  refine gw_aload_n (gc k_Model_readClause_0 0 rfl) rfl rfl ?_
  refine gw_iconst (gc k_Model_readClause_0 1 rfl) ?_
  refine gw_cV1 (gc k_Model_readClause_0 2 rfl) y_Model_takes0 ln_Model_183 (c_Model_takes0 hx hf0 p n b hR0 hG 1 (by omega)) rfl rfl (gAt hx rfl rfl) rfl (gble (by omega)) ?_
  refine gw_bne (tgt := 16) (gc k_Model_readClause_0 3 rfl) rfl (fun c5 => ?_) (fun c5 => ?_)
  · rw [if_pos c5]
    refine gw_aload_n (gc k_Model_readClause_0 8 rfl) rfl rfl ?_
    refine gw_iconst (gc k_Model_readClause_0 9 rfl) ?_
    refine gw_xV1 (gc k_Model_readClause_0 10 rfl) y_Model_readSum ln_Model_192 (hSm (p + 1) n b (hG.nx hpk (fun _ => by omega))) rfl rfl (gAt hx rfl rfl) rfl (gble (by omega)) (fun r18 sh2 g18 hq18 => ?_)
    obtain ⟨rfl, rfl, p2, n2, b2, rfl, hT⟩ := hq18
    have hG3 := hT.ok hPb (hG.nx hpk (fun _ => by omega))
    have hH := hdR_s (T := T) (c5).1 (by have := (c5).2; omega) hT
    refine gw_goto (tgt := 29) (gc k_Model_readClause_0 11 rfl) rfl ?_
    refine gw_aload_n (gc k_Model_readClause_0 15 rfl) rfl rfl ?_
    refine gw_iconst (gc k_Model_readClause_0 16 rfl) ?_
    refine gw_cV1 (gc k_Model_readClause_0 17 rfl) y_Model_takes0 ln_Model_183 (c_Model_takes0 hx hf0 p2 n2 b2 hR0 hG3 4 (by omega)) rfl rfl (gAt hx rfl rfl) rfl (gble (by omega)) ?_
    refine gw_beq (tgt := 42) (gc k_Model_readClause_0 18 rfl) rfl (fun c34 => ?_) (fun c34 => ?_)
    · rw [if_neg c34]
      refine gw_return (gc k_Model_readClause_0 22 rfl) rfl ?_
      exact rd_end ((hH.seq hPb (rdT.opt0 (f := pTest T V false 8) hG3 c34)).fg (pCl_fg _ _ _ _ _))
    · rw [if_pos c34]
      refine gw_aload_n (gc k_Model_readClause_0 19 rfl) rfl rfl ?_
      refine gw_iconst (gc k_Model_readClause_0 20 rfl) ?_
      refine gw_xV1 (gc k_Model_readClause_0 21 rfl) y_Model_readTest ln_Model_198 (hTe (p2 + 1) n2 b2 (hG3.nx hpk (fun _ => by omega))) rfl rfl (gAt hx rfl rfl) rfl (gble (by omega)) (fun r39 sh2 g39 hq39 => ?_)
      obtain ⟨rfl, rfl, p6, n6, b6, rfl, hT6⟩ := hq39
      refine gw_return (gc k_Model_readClause_0 22 rfl) rfl ?_
      exact rd_end ((hH.seq hPb (rdT.opt1 c34 hT6)).fg (pCl_fg _ _ _ _ _))
  · rw [if_neg c5]
    refine gw_aload_n (gc k_Model_readClause_0 4 rfl) rfl rfl ?_
    refine gw_iconst (gc k_Model_readClause_0 5 rfl) ?_
    refine gw_cV1 (gc k_Model_readClause_0 6 rfl) y_Model_takes0 ln_Model_183 (c_Model_takes0 hx hf0 p n b hR0 hG 2 (by omega)) rfl rfl (gAt hx rfl rfl) rfl (gble (by omega)) ?_
    refine gw_beq (tgt := 24) (gc k_Model_readClause_0 7 rfl) rfl (fun c13 => ?_) (fun c13 => ?_)
    · rw [if_neg c13]
      obtain ⟨p4, b4, hmu, hmT⟩ := c_mustL hx hf0 hR0 3 (by omega) p n b hG
      have hG3 := hmT.ok hPb hG
      have hH := hdR_m (sm := pSum T V false 8) (fun z q => by rcases q with q | q <;> first | exact c5 ⟨z, q⟩ | exact c13 ⟨z, q⟩) hmT
      refine gw_aload_n (gc k_Model_readClause_0 12 rfl) rfl rfl ?_
      refine gw_iconst (gc k_Model_readClause_0 13 rfl) ?_
      refine gw_cV0 (gc k_Model_readClause_0 14 rfl) y_Model_must ln_Model_195 hmu rfl rfl (gAt hx rfl rfl) rfl (gble (by omega)) ?_
      refine gw_aload_n (gc k_Model_readClause_0 15 rfl) rfl rfl ?_
      refine gw_iconst (gc k_Model_readClause_0 16 rfl) ?_
      refine gw_cV1 (gc k_Model_readClause_0 17 rfl) y_Model_takes0 ln_Model_183 (c_Model_takes0 hx hf0 p4 n b4 hR0 hG3 4 (by omega)) rfl rfl (gAt hx rfl rfl) rfl (gble (by omega)) ?_
      refine gw_beq (tgt := 42) (gc k_Model_readClause_0 18 rfl) rfl (fun c34 => ?_) (fun c34 => ?_)
      · rw [if_neg c34]
        refine gw_return (gc k_Model_readClause_0 22 rfl) rfl ?_
        exact rd_end ((hH.seq hPb (rdT.opt0 (f := pTest T V false 8) hG3 c34)).fg (pCl_fg _ _ _ _ _))
      · rw [if_pos c34]
        refine gw_aload_n (gc k_Model_readClause_0 19 rfl) rfl rfl ?_
        refine gw_iconst (gc k_Model_readClause_0 20 rfl) ?_
        refine gw_xV1 (gc k_Model_readClause_0 21 rfl) y_Model_readTest ln_Model_198 (hTe (p4 + 1) n b4 (hG3.nx hpk (fun _ => by omega))) rfl rfl (gAt hx rfl rfl) rfl (gble (by omega)) (fun r39 sh2 g39 hq39 => ?_)
        obtain ⟨rfl, rfl, p6, n6, b6, rfl, hT6⟩ := hq39
        refine gw_return (gc k_Model_readClause_0 22 rfl) rfl ?_
        exact rd_end ((hH.seq hPb (rdT.opt1 c34 hT6)).fg (pCl_fg _ _ _ _ _))
    · rw [if_pos c13]
      refine gw_aload_n (gc k_Model_readClause_0 8 rfl) rfl rfl ?_
      refine gw_iconst (gc k_Model_readClause_0 9 rfl) ?_
      refine gw_xV1 (gc k_Model_readClause_0 10 rfl) y_Model_readSum ln_Model_192 (hSm (p + 1) n b (hG.nx hpk (fun _ => by omega))) rfl rfl (gAt hx rfl rfl) rfl (gble (by omega)) (fun r18 sh2 g18 hq18 => ?_)
      obtain ⟨rfl, rfl, p2, n2, b2, rfl, hT⟩ := hq18
      have hG3 := hT.ok hPb (hG.nx hpk (fun _ => by omega))
      have hH := hdR_s (T := T) (c13).1 (by have := (c13).2; omega) hT
      refine gw_goto (tgt := 29) (gc k_Model_readClause_0 11 rfl) rfl ?_
      refine gw_aload_n (gc k_Model_readClause_0 15 rfl) rfl rfl ?_
      refine gw_iconst (gc k_Model_readClause_0 16 rfl) ?_
      refine gw_cV1 (gc k_Model_readClause_0 17 rfl) y_Model_takes0 ln_Model_183 (c_Model_takes0 hx hf0 p2 n2 b2 hR0 hG3 4 (by omega)) rfl rfl (gAt hx rfl rfl) rfl (gble (by omega)) ?_
      refine gw_beq (tgt := 42) (gc k_Model_readClause_0 18 rfl) rfl (fun c34 => ?_) (fun c34 => ?_)
      · rw [if_neg c34]
        refine gw_return (gc k_Model_readClause_0 22 rfl) rfl ?_
        exact rd_end ((hH.seq hPb (rdT.opt0 (f := pTest T V false 8) hG3 c34)).fg (pCl_fg _ _ _ _ _))
      · rw [if_pos c34]
        refine gw_aload_n (gc k_Model_readClause_0 19 rfl) rfl rfl ?_
        refine gw_iconst (gc k_Model_readClause_0 20 rfl) ?_
        refine gw_xV1 (gc k_Model_readClause_0 21 rfl) y_Model_readTest ln_Model_198 (hTe (p2 + 1) n2 b2 (hG3.nx hpk (fun _ => by omega))) rfl rfl (gAt hx rfl rfl) rfl (gble (by omega)) (fun r39 sh2 g39 hq39 => ?_)
        obtain ⟨rfl, rfl, p6, n6, b6, rfl, hT6⟩ := hq39
        refine gw_return (gc k_Model_readClause_0 22 rfl) rfl ?_
        exact rd_end ((hH.seq hPb (rdT.opt1 c34 hT6)).fg (pCl_fg _ _ _ _ _))
set_option maxHeartbeats 8000000 in
theorem rd_order {sh : gS} {g : gM} (hx : gFix sh) (hf : gFin g) {T V P : Int → Int} {nt : Int} (hR : RdC T V P true nt g) : RdL sh g P nt f_Model_readOrder 33 [(2, 177)] (fun p n => fgC (pOrder T V (pSum T V true 8) (pTest T V true 8) p n)) := by
  intro p n b hG
  have hR0 := hR
  have hf0 := hf
  have hf := hf.rd p n b
  obtain ⟨hn0, hpk, hat, hTb, hVb, hPb, h10, h8, h9⟩ := hR
  have hSm := rd_sumK hx hf0 hR0 8 (by omega)
  have hTe := rd_testK hx hf0 hR0 8 (by omega)
  rw [show (8 : Int) - ((8 : Nat) : Int) = 0 from rfl] at hSm hTe
  refine gTri.of (by decide +kernel) rfl ?_
  show gWP f_Model_readOrder _ _ _ 0 [(2, 177)] [] sh (rdM g p n b) _
  refine gw_aload_n (gc k_Model_readOrder_0 0 rfl) rfl rfl ?_
  refine gw_bipush (gc k_Model_readOrder_0 1 rfl) (by decide) ?_
  refine gw_cV1 (gc k_Model_readOrder_0 2 rfl) y_Model_takes0 ln_Model_183 (c_Model_takes0 hx hf0 p n b hR0 hG 22 (by omega)) rfl rfl (gAt hx rfl rfl) rfl (gble (by omega)) ?_
  refine gw_bne (tgt := 18) (gc k_Model_readOrder_0 3 rfl) rfl (fun c6 => ?_) (fun c6 => ?_)
  · rw [if_pos c6]
    refine gw_aload_n (gc k_Model_readOrder_0 8 rfl) rfl rfl ?_
    refine gw_iconst (gc k_Model_readOrder_0 9 rfl) ?_
    refine gw_xV1 (gc k_Model_readOrder_0 10 rfl) y_Model_readSum ln_Model_192 (hSm (p + 1) n b (hG.nx hpk (fun _ => by omega))) rfl rfl (gAt hx rfl rfl) rfl (gble (by omega)) (fun r20 sh2 g20 hq20 => ?_)
    obtain ⟨rfl, rfl, p2, n2, b2, rfl, hT⟩ := hq20
    have hG3 := hT.ok hPb (hG.nx hpk (fun _ => by omega))
    obtain ⟨p4, b4, hmu, hmT⟩ := c_mustL hx hf0 hR0 26 (by omega) p2 n2 b2 hG3
    have hG4 := hmT.ok hPb hG3
    refine gw_aload_n (gc k_Model_readOrder_0 11 rfl) rfl rfl ?_
    refine gw_bipush (gc k_Model_readOrder_0 12 rfl) (by decide) ?_
    refine gw_cV0 (gc k_Model_readOrder_0 13 rfl) y_Model_must ln_Model_195 hmu rfl rfl (gAt hx rfl rfl) rfl (gble (by omega)) ?_
    refine gw_aload_n (gc k_Model_readOrder_0 14 rfl) rfl rfl ?_
    refine gw_iconst (gc k_Model_readOrder_0 15 rfl) ?_
    refine gw_xV1 (gc k_Model_readOrder_0 16 rfl) y_Model_readSum ln_Model_192 (hSm p4 n2 b4 hG4) rfl rfl (gAt hx rfl rfl) rfl (gble (by omega)) (fun r31 sh2 g31 hq31 => ?_)
    obtain ⟨rfl, rfl, p5, n5, b5, rfl, hT5⟩ := hq31
    have hG5 := hT5.ok hPb hG4
    have hH := ohR_s (T := T) (sm := pSum T V true 8) (c6).1 (by have := (c6).2; omega) (hT.seq hPb (hmT.seq hPb hT5))
    refine gw_goto (tgt := 52) (gc k_Model_readOrder_0 17 rfl) rfl ?_
    refine gw_aload_n (gc k_Model_readOrder_0 25 rfl) rfl rfl ?_
    refine gw_bipush (gc k_Model_readOrder_0 26 rfl) (by decide) ?_
    refine gw_cV1 (gc k_Model_readOrder_0 27 rfl) y_Model_takes0 ln_Model_183 (c_Model_takes0 hx hf0 p5 n5 b5 hR0 hG5 27 (by omega)) rfl rfl (gAt hx rfl rfl) rfl (gble (by omega)) ?_
    refine gw_beq (tgt := 68) (gc k_Model_readOrder_0 28 rfl) rfl (fun c58 => ?_) (fun c58 => ?_)
    · rw [if_neg c58]
      have hO := rdT.opt0 (f := nuR T V 1 20) (P := P) hG5 c58
      refine gw_aload_n (gc k_Model_readOrder_0 33 rfl) rfl rfl ?_
      refine gw_iconst (gc k_Model_readOrder_0 34 rfl) ?_
      refine gw_cV1 (gc k_Model_readOrder_0 35 rfl) y_Model_takes0 ln_Model_183 (c_Model_takes0 hx hf0 p5 n5 b5 hR0 hG5 4 (by omega)) rfl rfl (gAt hx rfl rfl) rfl (gble (by omega)) ?_
      refine gw_beq (tgt := 81) (gc k_Model_readOrder_0 36 rfl) rfl (fun c73 => ?_) (fun c73 => ?_)
      · rw [if_neg c73]
        refine gw_return (gc k_Model_readOrder_1 0 rfl) rfl ?_
        exact rd_end ((hH.seq hPb (hO.seq hPb (rdT.opt0 (f := pTest T V true 8) hG5 c73))).fg (pOr_fg _ _ _ _ _ _))
      · rw [if_pos c73]
        refine gw_aload_n (gc k_Model_readOrder_0 37 rfl) rfl rfl ?_
        refine gw_iconst (gc k_Model_readOrder_0 38 rfl) ?_
        refine gw_xV1 (gc k_Model_readOrder_0 39 rfl) y_Model_readTest ln_Model_198 (hTe (p5 + 1) n5 b5 (hG5.nx hpk (fun _ => by omega))) rfl rfl (gAt hx rfl rfl) rfl (gble (by omega)) (fun r78 sh2 g78 hq78 => ?_)
        obtain ⟨rfl, rfl, p8, n8, b8, rfl, hT8⟩ := hq78
        refine gw_return (gc k_Model_readOrder_1 0 rfl) rfl ?_
        exact rd_end ((hH.seq hPb (hO.seq hPb (rdT.opt1 c73 hT8))).fg (pOr_fg _ _ _ _ _ _))
    · rw [if_pos c58]
      have hG6 := hG5.nx hpk (fun _ => by omega)
      obtain ⟨p7, b7, hnu, hnT⟩ := c_numL hx hf0 hR0 1 20 (by omega) (p5 + 1) n5 b5 hG6
      have hG7 := hnT.ok hPb hG6
      have hO := rdT.opt1 c58 hnT
      refine gw_aload_n (gc k_Model_readOrder_0 29 rfl) rfl rfl ?_
      refine gw_iconst (gc k_Model_readOrder_0 30 rfl) ?_
      refine gw_bipush (gc k_Model_readOrder_0 31 rfl) (by decide) ?_
      refine gw_cV0 (gc k_Model_readOrder_0 32 rfl) y_Model_mustNumber ln_Model_201 hnu rfl rfl (gAt hx rfl rfl) rfl (gble (by omega)) ?_
      refine gw_aload_n (gc k_Model_readOrder_0 33 rfl) rfl rfl ?_
      refine gw_iconst (gc k_Model_readOrder_0 34 rfl) ?_
      refine gw_cV1 (gc k_Model_readOrder_0 35 rfl) y_Model_takes0 ln_Model_183 (c_Model_takes0 hx hf0 p7 n5 b7 hR0 hG7 4 (by omega)) rfl rfl (gAt hx rfl rfl) rfl (gble (by omega)) ?_
      refine gw_beq (tgt := 81) (gc k_Model_readOrder_0 36 rfl) rfl (fun c73 => ?_) (fun c73 => ?_)
      · rw [if_neg c73]
        refine gw_return (gc k_Model_readOrder_1 0 rfl) rfl ?_
        exact rd_end ((hH.seq hPb (hO.seq hPb (rdT.opt0 (f := pTest T V true 8) hG7 c73))).fg (pOr_fg _ _ _ _ _ _))
      · rw [if_pos c73]
        refine gw_aload_n (gc k_Model_readOrder_0 37 rfl) rfl rfl ?_
        refine gw_iconst (gc k_Model_readOrder_0 38 rfl) ?_
        refine gw_xV1 (gc k_Model_readOrder_0 39 rfl) y_Model_readTest ln_Model_198 (hTe (p7 + 1) n5 b7 (hG7.nx hpk (fun _ => by omega))) rfl rfl (gAt hx rfl rfl) rfl (gble (by omega)) (fun r78 sh2 g78 hq78 => ?_)
        obtain ⟨rfl, rfl, p8, n8, b8, rfl, hT8⟩ := hq78
        refine gw_return (gc k_Model_readOrder_1 0 rfl) rfl ?_
        exact rd_end ((hH.seq hPb (hO.seq hPb (rdT.opt1 c73 hT8))).fg (pOr_fg _ _ _ _ _ _))
  · rw [if_neg c6]
    refine gw_aload_n (gc k_Model_readOrder_0 4 rfl) rfl rfl ?_
    refine gw_bipush (gc k_Model_readOrder_0 5 rfl) (by decide) ?_
    refine gw_cV1 (gc k_Model_readOrder_0 6 rfl) y_Model_takes0 ln_Model_183 (c_Model_takes0 hx hf0 p n b hR0 hG 23 (by omega)) rfl rfl (gAt hx rfl rfl) rfl (gble (by omega)) ?_
    refine gw_beq (tgt := 37) (gc k_Model_readOrder_0 7 rfl) rfl (fun c15 => ?_) (fun c15 => ?_)
    · rw [if_neg c15]
      refine gw_aload_n (gc k_Model_readOrder_0 18 rfl) rfl rfl ?_
      refine gw_bipush (gc k_Model_readOrder_0 19 rfl) (by decide) ?_
      refine gw_cV1 (gc k_Model_readOrder_0 20 rfl) y_Model_takes0 ln_Model_183 (c_Model_takes0 hx hf0 p n b hR0 hG 24 (by omega)) rfl rfl (gAt hx rfl rfl) rfl (gble (by omega)) ?_
      refine gw_bne (tgt := 52) (gc k_Model_readOrder_0 21 rfl) rfl (fun c43 => ?_) (fun c43 => ?_)
      · rw [if_pos c43]
        have hG5 := hG.nx hpk (fun _ => by omega)
        have hH := ohR_w (P := P) (sm := pSum T V true 8) hG5 c43
        refine gw_aload_n (gc k_Model_readOrder_0 25 rfl) rfl rfl ?_
        refine gw_bipush (gc k_Model_readOrder_0 26 rfl) (by decide) ?_
        refine gw_cV1 (gc k_Model_readOrder_0 27 rfl) y_Model_takes0 ln_Model_183 (c_Model_takes0 hx hf0 (p + 1) n b hR0 hG5 27 (by omega)) rfl rfl (gAt hx rfl rfl) rfl (gble (by omega)) ?_
        refine gw_beq (tgt := 68) (gc k_Model_readOrder_0 28 rfl) rfl (fun c58 => ?_) (fun c58 => ?_)
        · rw [if_neg c58]
          have hO := rdT.opt0 (f := nuR T V 1 20) (P := P) hG5 c58
          refine gw_aload_n (gc k_Model_readOrder_0 33 rfl) rfl rfl ?_
          refine gw_iconst (gc k_Model_readOrder_0 34 rfl) ?_
          refine gw_cV1 (gc k_Model_readOrder_0 35 rfl) y_Model_takes0 ln_Model_183 (c_Model_takes0 hx hf0 (p + 1) n b hR0 hG5 4 (by omega)) rfl rfl (gAt hx rfl rfl) rfl (gble (by omega)) ?_
          refine gw_beq (tgt := 81) (gc k_Model_readOrder_0 36 rfl) rfl (fun c73 => ?_) (fun c73 => ?_)
          · rw [if_neg c73]
            refine gw_return (gc k_Model_readOrder_1 0 rfl) rfl ?_
            exact rd_end ((hH.seq hPb (hO.seq hPb (rdT.opt0 (f := pTest T V true 8) hG5 c73))).fg (pOr_fg _ _ _ _ _ _))
          · rw [if_pos c73]
            refine gw_aload_n (gc k_Model_readOrder_0 37 rfl) rfl rfl ?_
            refine gw_iconst (gc k_Model_readOrder_0 38 rfl) ?_
            refine gw_xV1 (gc k_Model_readOrder_0 39 rfl) y_Model_readTest ln_Model_198 (hTe ((p + 1) + 1) n b (hG5.nx hpk (fun _ => by omega))) rfl rfl (gAt hx rfl rfl) rfl (gble (by omega)) (fun r78 sh2 g78 hq78 => ?_)
            obtain ⟨rfl, rfl, p8, n8, b8, rfl, hT8⟩ := hq78
            refine gw_return (gc k_Model_readOrder_1 0 rfl) rfl ?_
            exact rd_end ((hH.seq hPb (hO.seq hPb (rdT.opt1 c73 hT8))).fg (pOr_fg _ _ _ _ _ _))
        · rw [if_pos c58]
          have hG6 := hG5.nx hpk (fun _ => by omega)
          obtain ⟨p7, b7, hnu, hnT⟩ := c_numL hx hf0 hR0 1 20 (by omega) ((p + 1) + 1) n b hG6
          have hG7 := hnT.ok hPb hG6
          have hO := rdT.opt1 c58 hnT
          refine gw_aload_n (gc k_Model_readOrder_0 29 rfl) rfl rfl ?_
          refine gw_iconst (gc k_Model_readOrder_0 30 rfl) ?_
          refine gw_bipush (gc k_Model_readOrder_0 31 rfl) (by decide) ?_
          refine gw_cV0 (gc k_Model_readOrder_0 32 rfl) y_Model_mustNumber ln_Model_201 hnu rfl rfl (gAt hx rfl rfl) rfl (gble (by omega)) ?_
          refine gw_aload_n (gc k_Model_readOrder_0 33 rfl) rfl rfl ?_
          refine gw_iconst (gc k_Model_readOrder_0 34 rfl) ?_
          refine gw_cV1 (gc k_Model_readOrder_0 35 rfl) y_Model_takes0 ln_Model_183 (c_Model_takes0 hx hf0 p7 n b7 hR0 hG7 4 (by omega)) rfl rfl (gAt hx rfl rfl) rfl (gble (by omega)) ?_
          refine gw_beq (tgt := 81) (gc k_Model_readOrder_0 36 rfl) rfl (fun c73 => ?_) (fun c73 => ?_)
          · rw [if_neg c73]
            refine gw_return (gc k_Model_readOrder_1 0 rfl) rfl ?_
            exact rd_end ((hH.seq hPb (hO.seq hPb (rdT.opt0 (f := pTest T V true 8) hG7 c73))).fg (pOr_fg _ _ _ _ _ _))
          · rw [if_pos c73]
            refine gw_aload_n (gc k_Model_readOrder_0 37 rfl) rfl rfl ?_
            refine gw_iconst (gc k_Model_readOrder_0 38 rfl) ?_
            refine gw_xV1 (gc k_Model_readOrder_0 39 rfl) y_Model_readTest ln_Model_198 (hTe (p7 + 1) n b7 (hG7.nx hpk (fun _ => by omega))) rfl rfl (gAt hx rfl rfl) rfl (gble (by omega)) (fun r78 sh2 g78 hq78 => ?_)
            obtain ⟨rfl, rfl, p8, n8, b8, rfl, hT8⟩ := hq78
            refine gw_return (gc k_Model_readOrder_1 0 rfl) rfl ?_
            exact rd_end ((hH.seq hPb (hO.seq hPb (rdT.opt1 c73 hT8))).fg (pOr_fg _ _ _ _ _ _))
      · rw [if_neg c43]
        obtain ⟨p4, b4, hmu, hmT⟩ := c_mustL hx hf0 hR0 25 (by omega) p n b hG
        have hG5 := hmT.ok hPb hG
        have hH := ohR_m (sm := pSum T V true 8) (fun z => ⟨fun q => by rcases q with q | q <;> first | exact c6 ⟨z, q⟩ | exact c15 ⟨z, q⟩, fun q => c43 ⟨z, q⟩⟩) hmT
        refine gw_aload_n (gc k_Model_readOrder_0 22 rfl) rfl rfl ?_
        refine gw_bipush (gc k_Model_readOrder_0 23 rfl) (by decide) ?_
        refine gw_cV0 (gc k_Model_readOrder_0 24 rfl) y_Model_must ln_Model_195 hmu rfl rfl (gAt hx rfl rfl) rfl (gble (by omega)) ?_
        refine gw_aload_n (gc k_Model_readOrder_0 25 rfl) rfl rfl ?_
        refine gw_bipush (gc k_Model_readOrder_0 26 rfl) (by decide) ?_
        refine gw_cV1 (gc k_Model_readOrder_0 27 rfl) y_Model_takes0 ln_Model_183 (c_Model_takes0 hx hf0 p4 n b4 hR0 hG5 27 (by omega)) rfl rfl (gAt hx rfl rfl) rfl (gble (by omega)) ?_
        refine gw_beq (tgt := 68) (gc k_Model_readOrder_0 28 rfl) rfl (fun c58 => ?_) (fun c58 => ?_)
        · rw [if_neg c58]
          have hO := rdT.opt0 (f := nuR T V 1 20) (P := P) hG5 c58
          refine gw_aload_n (gc k_Model_readOrder_0 33 rfl) rfl rfl ?_
          refine gw_iconst (gc k_Model_readOrder_0 34 rfl) ?_
          refine gw_cV1 (gc k_Model_readOrder_0 35 rfl) y_Model_takes0 ln_Model_183 (c_Model_takes0 hx hf0 p4 n b4 hR0 hG5 4 (by omega)) rfl rfl (gAt hx rfl rfl) rfl (gble (by omega)) ?_
          refine gw_beq (tgt := 81) (gc k_Model_readOrder_0 36 rfl) rfl (fun c73 => ?_) (fun c73 => ?_)
          · rw [if_neg c73]
            refine gw_return (gc k_Model_readOrder_1 0 rfl) rfl ?_
            exact rd_end ((hH.seq hPb (hO.seq hPb (rdT.opt0 (f := pTest T V true 8) hG5 c73))).fg (pOr_fg _ _ _ _ _ _))
          · rw [if_pos c73]
            refine gw_aload_n (gc k_Model_readOrder_0 37 rfl) rfl rfl ?_
            refine gw_iconst (gc k_Model_readOrder_0 38 rfl) ?_
            refine gw_xV1 (gc k_Model_readOrder_0 39 rfl) y_Model_readTest ln_Model_198 (hTe (p4 + 1) n b4 (hG5.nx hpk (fun _ => by omega))) rfl rfl (gAt hx rfl rfl) rfl (gble (by omega)) (fun r78 sh2 g78 hq78 => ?_)
            obtain ⟨rfl, rfl, p8, n8, b8, rfl, hT8⟩ := hq78
            refine gw_return (gc k_Model_readOrder_1 0 rfl) rfl ?_
            exact rd_end ((hH.seq hPb (hO.seq hPb (rdT.opt1 c73 hT8))).fg (pOr_fg _ _ _ _ _ _))
        · rw [if_pos c58]
          have hG6 := hG5.nx hpk (fun _ => by omega)
          obtain ⟨p7, b7, hnu, hnT⟩ := c_numL hx hf0 hR0 1 20 (by omega) (p4 + 1) n b4 hG6
          have hG7 := hnT.ok hPb hG6
          have hO := rdT.opt1 c58 hnT
          refine gw_aload_n (gc k_Model_readOrder_0 29 rfl) rfl rfl ?_
          refine gw_iconst (gc k_Model_readOrder_0 30 rfl) ?_
          refine gw_bipush (gc k_Model_readOrder_0 31 rfl) (by decide) ?_
          refine gw_cV0 (gc k_Model_readOrder_0 32 rfl) y_Model_mustNumber ln_Model_201 hnu rfl rfl (gAt hx rfl rfl) rfl (gble (by omega)) ?_
          refine gw_aload_n (gc k_Model_readOrder_0 33 rfl) rfl rfl ?_
          refine gw_iconst (gc k_Model_readOrder_0 34 rfl) ?_
          refine gw_cV1 (gc k_Model_readOrder_0 35 rfl) y_Model_takes0 ln_Model_183 (c_Model_takes0 hx hf0 p7 n b7 hR0 hG7 4 (by omega)) rfl rfl (gAt hx rfl rfl) rfl (gble (by omega)) ?_
          refine gw_beq (tgt := 81) (gc k_Model_readOrder_0 36 rfl) rfl (fun c73 => ?_) (fun c73 => ?_)
          · rw [if_neg c73]
            refine gw_return (gc k_Model_readOrder_1 0 rfl) rfl ?_
            exact rd_end ((hH.seq hPb (hO.seq hPb (rdT.opt0 (f := pTest T V true 8) hG7 c73))).fg (pOr_fg _ _ _ _ _ _))
          · rw [if_pos c73]
            refine gw_aload_n (gc k_Model_readOrder_0 37 rfl) rfl rfl ?_
            refine gw_iconst (gc k_Model_readOrder_0 38 rfl) ?_
            refine gw_xV1 (gc k_Model_readOrder_0 39 rfl) y_Model_readTest ln_Model_198 (hTe (p7 + 1) n b7 (hG7.nx hpk (fun _ => by omega))) rfl rfl (gAt hx rfl rfl) rfl (gble (by omega)) (fun r78 sh2 g78 hq78 => ?_)
            obtain ⟨rfl, rfl, p8, n8, b8, rfl, hT8⟩ := hq78
            refine gw_return (gc k_Model_readOrder_1 0 rfl) rfl ?_
            exact rd_end ((hH.seq hPb (hO.seq hPb (rdT.opt1 c73 hT8))).fg (pOr_fg _ _ _ _ _ _))
    · rw [if_pos c15]
      refine gw_aload_n (gc k_Model_readOrder_0 8 rfl) rfl rfl ?_
      refine gw_iconst (gc k_Model_readOrder_0 9 rfl) ?_
      refine gw_xV1 (gc k_Model_readOrder_0 10 rfl) y_Model_readSum ln_Model_192 (hSm (p + 1) n b (hG.nx hpk (fun _ => by omega))) rfl rfl (gAt hx rfl rfl) rfl (gble (by omega)) (fun r20 sh2 g20 hq20 => ?_)
      obtain ⟨rfl, rfl, p2, n2, b2, rfl, hT⟩ := hq20
      have hG3 := hT.ok hPb (hG.nx hpk (fun _ => by omega))
      obtain ⟨p4, b4, hmu, hmT⟩ := c_mustL hx hf0 hR0 26 (by omega) p2 n2 b2 hG3
      have hG4 := hmT.ok hPb hG3
      refine gw_aload_n (gc k_Model_readOrder_0 11 rfl) rfl rfl ?_
      refine gw_bipush (gc k_Model_readOrder_0 12 rfl) (by decide) ?_
      refine gw_cV0 (gc k_Model_readOrder_0 13 rfl) y_Model_must ln_Model_195 hmu rfl rfl (gAt hx rfl rfl) rfl (gble (by omega)) ?_
      refine gw_aload_n (gc k_Model_readOrder_0 14 rfl) rfl rfl ?_
      refine gw_iconst (gc k_Model_readOrder_0 15 rfl) ?_
      refine gw_xV1 (gc k_Model_readOrder_0 16 rfl) y_Model_readSum ln_Model_192 (hSm p4 n2 b4 hG4) rfl rfl (gAt hx rfl rfl) rfl (gble (by omega)) (fun r31 sh2 g31 hq31 => ?_)
      obtain ⟨rfl, rfl, p5, n5, b5, rfl, hT5⟩ := hq31
      have hG5 := hT5.ok hPb hG4
      have hH := ohR_s (T := T) (sm := pSum T V true 8) (c15).1 (by have := (c15).2; omega) (hT.seq hPb (hmT.seq hPb hT5))
      refine gw_goto (tgt := 52) (gc k_Model_readOrder_0 17 rfl) rfl ?_
      refine gw_aload_n (gc k_Model_readOrder_0 25 rfl) rfl rfl ?_
      refine gw_bipush (gc k_Model_readOrder_0 26 rfl) (by decide) ?_
      refine gw_cV1 (gc k_Model_readOrder_0 27 rfl) y_Model_takes0 ln_Model_183 (c_Model_takes0 hx hf0 p5 n5 b5 hR0 hG5 27 (by omega)) rfl rfl (gAt hx rfl rfl) rfl (gble (by omega)) ?_
      refine gw_beq (tgt := 68) (gc k_Model_readOrder_0 28 rfl) rfl (fun c58 => ?_) (fun c58 => ?_)
      · rw [if_neg c58]
        have hO := rdT.opt0 (f := nuR T V 1 20) (P := P) hG5 c58
        refine gw_aload_n (gc k_Model_readOrder_0 33 rfl) rfl rfl ?_
        refine gw_iconst (gc k_Model_readOrder_0 34 rfl) ?_
        refine gw_cV1 (gc k_Model_readOrder_0 35 rfl) y_Model_takes0 ln_Model_183 (c_Model_takes0 hx hf0 p5 n5 b5 hR0 hG5 4 (by omega)) rfl rfl (gAt hx rfl rfl) rfl (gble (by omega)) ?_
        refine gw_beq (tgt := 81) (gc k_Model_readOrder_0 36 rfl) rfl (fun c73 => ?_) (fun c73 => ?_)
        · rw [if_neg c73]
          refine gw_return (gc k_Model_readOrder_1 0 rfl) rfl ?_
          exact rd_end ((hH.seq hPb (hO.seq hPb (rdT.opt0 (f := pTest T V true 8) hG5 c73))).fg (pOr_fg _ _ _ _ _ _))
        · rw [if_pos c73]
          refine gw_aload_n (gc k_Model_readOrder_0 37 rfl) rfl rfl ?_
          refine gw_iconst (gc k_Model_readOrder_0 38 rfl) ?_
          refine gw_xV1 (gc k_Model_readOrder_0 39 rfl) y_Model_readTest ln_Model_198 (hTe (p5 + 1) n5 b5 (hG5.nx hpk (fun _ => by omega))) rfl rfl (gAt hx rfl rfl) rfl (gble (by omega)) (fun r78 sh2 g78 hq78 => ?_)
          obtain ⟨rfl, rfl, p8, n8, b8, rfl, hT8⟩ := hq78
          refine gw_return (gc k_Model_readOrder_1 0 rfl) rfl ?_
          exact rd_end ((hH.seq hPb (hO.seq hPb (rdT.opt1 c73 hT8))).fg (pOr_fg _ _ _ _ _ _))
      · rw [if_pos c58]
        have hG6 := hG5.nx hpk (fun _ => by omega)
        obtain ⟨p7, b7, hnu, hnT⟩ := c_numL hx hf0 hR0 1 20 (by omega) (p5 + 1) n5 b5 hG6
        have hG7 := hnT.ok hPb hG6
        have hO := rdT.opt1 c58 hnT
        refine gw_aload_n (gc k_Model_readOrder_0 29 rfl) rfl rfl ?_
        refine gw_iconst (gc k_Model_readOrder_0 30 rfl) ?_
        refine gw_bipush (gc k_Model_readOrder_0 31 rfl) (by decide) ?_
        refine gw_cV0 (gc k_Model_readOrder_0 32 rfl) y_Model_mustNumber ln_Model_201 hnu rfl rfl (gAt hx rfl rfl) rfl (gble (by omega)) ?_
        refine gw_aload_n (gc k_Model_readOrder_0 33 rfl) rfl rfl ?_
        refine gw_iconst (gc k_Model_readOrder_0 34 rfl) ?_
        refine gw_cV1 (gc k_Model_readOrder_0 35 rfl) y_Model_takes0 ln_Model_183 (c_Model_takes0 hx hf0 p7 n5 b7 hR0 hG7 4 (by omega)) rfl rfl (gAt hx rfl rfl) rfl (gble (by omega)) ?_
        refine gw_beq (tgt := 81) (gc k_Model_readOrder_0 36 rfl) rfl (fun c73 => ?_) (fun c73 => ?_)
        · rw [if_neg c73]
          refine gw_return (gc k_Model_readOrder_1 0 rfl) rfl ?_
          exact rd_end ((hH.seq hPb (hO.seq hPb (rdT.opt0 (f := pTest T V true 8) hG7 c73))).fg (pOr_fg _ _ _ _ _ _))
        · rw [if_pos c73]
          refine gw_aload_n (gc k_Model_readOrder_0 37 rfl) rfl rfl ?_
          refine gw_iconst (gc k_Model_readOrder_0 38 rfl) ?_
          refine gw_xV1 (gc k_Model_readOrder_0 39 rfl) y_Model_readTest ln_Model_198 (hTe (p7 + 1) n5 b7 (hG7.nx hpk (fun _ => by omega))) rfl rfl (gAt hx rfl rfl) rfl (gble (by omega)) (fun r78 sh2 g78 hq78 => ?_)
          obtain ⟨rfl, rfl, p8, n8, b8, rfl, hT8⟩ := hq78
          refine gw_return (gc k_Model_readOrder_1 0 rfl) rfl ?_
          exact rd_end ((hH.seq hPb (hO.seq hPb (rdT.opt1 c73 hT8))).fg (pOr_fg _ _ _ _ _ _))
set_option maxHeartbeats 2000000 in
theorem rd_oneL {sh : gS} {g : gM} (hx : gFix sh) (hf : gFin g) {T V P : Int → Int} {nt : Int} (hR : RdC T V P false nt g) : RdL sh g P nt f_Model_readOne 34 [(2, 177)] (fun p n => fgC (pClause T (pSum T V false 8) (pTest T V false 8) p n)) := by
  intro p n b hG
  have hR0 := hR
  have hf0 := hf
  have hf := hf.rd p n b
  obtain ⟨hn0, hpk, hat, hTb, hVb, hPb, h10, h8, h9⟩ := hR
  refine gTri.of (by decide +kernel) rfl ?_
  show gWP f_Model_readOne _ _ _ 0 [(2, 177)] [] sh (rdM g p n b) _
  refine gw_aload_n (gc k_Model_readOne_0 0 rfl) rfl rfl ?_
  refine gw_getf 10 rfl (gc k_Model_readOne_0 1 rfl) fl_Model_204 (gAt hx rfl rfl) ?_
  rw [rdM_k _ _ _ _ (by decide) (by decide) (by decide), h10, if_neg (by decide)]
  refine gw_if_eq (tgt := 14) (gc k_Model_readOne_0 2 rfl) rfl (by omega) (fun c4 => ?_) (fun c4 => ?_)
  · refine gw_aload_n (gc k_Model_readOne_0 6 rfl) rfl rfl ?_
    refine gw_xV1 (gc k_Model_readOne_0 7 rfl) y_Model_readClause ln_Model_211 (rd_clause hx hf0 hR0 p n b hG) rfl rfl (gAt hx rfl rfl) rfl rfl (fun r15 sh2 g15 hq15 => ?_)
    obtain ⟨rfl, rfl, p2, n2, b2, rfl, hT⟩ := hq15
    refine gw_return (gc k_Model_readOne_0 8 rfl) rfl ?_
    exact rd_end hT
  · exact absurd rfl c4
set_option maxHeartbeats 2000000 in
theorem rd_oneO {sh : gS} {g : gM} (hx : gFix sh) (hf : gFin g) {T V P : Int → Int} {nt : Int} (hR : RdC T V P true nt g) : RdL sh g P nt f_Model_readOne 34 [(2, 177)] (fun p n => fgC (pOrder T V (pSum T V true 8) (pTest T V true 8) p n)) := by
  intro p n b hG
  have hR0 := hR
  have hf0 := hf
  have hf := hf.rd p n b
  obtain ⟨hn0, hpk, hat, hTb, hVb, hPb, h10, h8, h9⟩ := hR
  refine gTri.of (by decide +kernel) rfl ?_
  show gWP f_Model_readOne _ _ _ 0 [(2, 177)] [] sh (rdM g p n b) _
  refine gw_aload_n (gc k_Model_readOne_0 0 rfl) rfl rfl ?_
  refine gw_getf 10 rfl (gc k_Model_readOne_0 1 rfl) fl_Model_204 (gAt hx rfl rfl) ?_
  rw [rdM_k _ _ _ _ (by decide) (by decide) (by decide), h10, if_pos rfl]
  refine gw_if_eq (tgt := 14) (gc k_Model_readOne_0 2 rfl) rfl (by omega) (fun c4 => ?_) (fun c4 => ?_)
  · exact absurd c4 (by decide)
  · refine gw_aload_n (gc k_Model_readOne_0 3 rfl) rfl rfl ?_
    refine gw_xV1 (gc k_Model_readOne_0 4 rfl) y_Model_readOrder ln_Model_208 (rd_order hx hf0 hR0 p n b hG) rfl rfl (gAt hx rfl rfl) rfl rfl (fun r8 sh2 g8 hq8 => ?_)
    obtain ⟨rfl, rfl, p2, n2, b2, rfl, hT⟩ := hq8
    refine gw_goto (tgt := 18) (gc k_Model_readOne_0 5 rfl) rfl ?_
    refine gw_return (gc k_Model_readOne_0 8 rfl) rfl ?_
    exact rd_end hT
