/-! ===== texts of the class: what stands in them ===== -/
/-- the piece of code c has the sense s -/
def pcK (o : Bool) (c : PK) (s : PS) : Prop := ∃ m : Int, m ≤ 50 ∧ cOK o c s m
/-- a clause that was read -/
def clK (o : Bool) (c : OC) : Prop := (if o = true then ((c.1 = 22 ∨ c.1 = 23) ∧ pcK o c.2.1 c.2.2.1 ∧ pcK o c.2.2.2.1 c.2.2.2.2.1) ∨ ((c.1 = 24 ∨ c.1 = 25) ∧ c.2.1 = [] ∧ c.2.2.2.1 = []) else (c.2.2.2.1 = [] ∧ (((c.1 = 1 ∨ c.1 = 2) ∧ pcK o c.2.1 c.2.2.1) ∨ (c.1 = 3 ∧ c.2.1 = [] ∧ c.2.2.1 = fun _ => some 1)))) ∧ (1 ≤ c.2.2.2.2.2.1 ∧ c.2.2.2.2.2.1 ≤ 20) ∧ ((c.2.2.2.2.2.2.1 = none ∧ c.2.2.2.2.2.2.2 = fun _ => some 1) ∨ ∃ k, c.2.2.2.2.2.2.1 = some k ∧ pcK o k c.2.2.2.2.2.2.2 ∧ trS c.2.2.2.2.2.2.2)
theorem pcK.of {o : Bool} {c : PK} {s : PS} {n n2 : Int} (h0 : 0 ≤ n) (h : (n ≤ n2 ∧ n2 ≤ 50) ∧ cOK o c s (n2 - n)) : pcK o c s := ⟨n2 - n, by omega, h.2⟩
theorem pOWhen_k {T : Int → Int} {o : Bool} {test : Int → Int → PR} (ht : gT o test) {h : Int} {c : PK} {s : PS} {c2 : PK} {s2 : PS} {t p n p2 n2 : Int} {x : OC} (e : pOWhen T test h c s c2 s2 t p n = .inr (p2, n2, x)) (hn : 0 ≤ n ∧ n ≤ 50) : (n ≤ n2 ∧ n2 ≤ 50) ∧ x.1 = h ∧ x.2.1 = c ∧ x.2.2.1 = s ∧ x.2.2.2.1 = c2 ∧ x.2.2.2.2.1 = s2 ∧ x.2.2.2.2.2.1 = t ∧ ((x.2.2.2.2.2.2.1 = none ∧ x.2.2.2.2.2.2.2 = fun _ => some 1) ∨ ∃ k, x.2.2.2.2.2.2.1 = some k ∧ pcK o k x.2.2.2.2.2.2.2 ∧ trS x.2.2.2.2.2.2.2) := by
  unfold pOWhen at e
  split at e
  · cases hq : test (p + 1) n with
    | inl y => rw [hq] at e; cases e
    | inr y =>
      obtain ⟨q2, m2, k, q⟩ := y
      rw [hq] at e
      cases e
      have h1 := ht.1 _ _ _ _ _ _ hq hn.2
      exact ⟨h1.1, rfl, rfl, rfl, rfl, rfl, rfl, Or.inr ⟨k, rfl, pcK.of hn.1 h1, ht.2 _ _ _ _ _ _ hq hn.2⟩⟩
  · cases e
    exact ⟨by omega, rfl, rfl, rfl, rfl, rfl, rfl, Or.inl ⟨rfl, rfl⟩⟩
theorem pClause_k {T : Int → Int} {sm test : Int → Int → PR} (hs : gP false sm) (ht : gT false test) {p n p2 n2 : Int} {x : PC} (e : pClause T sm test p n = .inr (p2, n2, x)) (hn : 0 ≤ n ∧ n ≤ 50) : (0 ≤ n2 ∧ n2 ≤ 50) ∧ clK false (pcO x) := by
  have key : ∀ (h : Int) (c : PK) (s : PS) (q m : Int), (0 ≤ m ∧ m ≤ 50) → pWhen T test h c s q m = .inr (p2, n2, x) → (((h = 1 ∨ h = 2) ∧ pcK false c s) ∨ (h = 3 ∧ c = [] ∧ s = fun _ => some 1)) → (0 ≤ n2 ∧ n2 ≤ 50) ∧ clK false (pcO x) := fun h c s q m hm e2 hh => by
    have e3 : pOWhen T test h c s [] (fun _ => some 0) 1 q m = .inr (p2, n2, pcO x) := by rw [pOWhen_pc, e2]; rfl
    obtain ⟨a0, a1, a2, a3, a4, a5, a6, a7⟩ := pOWhen_k ht e3 hm
    refine ⟨by omega, ?_, by rw [a6]; omega, a7⟩
    rw [if_neg (by decide), a1, a2, a3, a4]
    exact ⟨rfl, hh⟩
  unfold pClause at e
  split at e
  · next h1 =>
    cases hq : sm (p + 1) n with
    | inl y => rw [hq] at e; cases e
    | inr y =>
      obtain ⟨q2, m2, c, s⟩ := y
      rw [hq] at e
      have h2 := hs _ _ _ _ _ _ hq hn.2
      exact key _ _ _ _ _ (by omega) e (Or.inl ⟨h1, pcK.of hn.1 h2⟩)
  · split at e
    · exact key _ _ _ _ _ hn e (Or.inr ⟨rfl, rfl, rfl⟩)
    · cases e
theorem pOrder_k {T V : Int → Int} {sm test : Int → Int → PR} (hs : gP true sm) (ht : gT true test) {p n p2 n2 : Int} {x : OC} (e : pOrder T V sm test p n = .inr (p2, n2, x)) (hn : 0 ≤ n ∧ n ≤ 50) : (0 ≤ n2 ∧ n2 ≤ 50) ∧ clK true x := by
  have key : ∀ (h : Int) (c : PK) (s : PS) (c2 : PK) (s2 : PS) (q m : Int), (0 ≤ m ∧ m ≤ 50) → pOTimes T V test h c s c2 s2 q m = .inr (p2, n2, x) → (((h = 22 ∨ h = 23) ∧ pcK true c s ∧ pcK true c2 s2) ∨ ((h = 24 ∨ h = 25) ∧ c = [] ∧ c2 = [])) → (0 ≤ n2 ∧ n2 ≤ 50) ∧ clK true x := fun h c s c2 s2 q m hm e2 hh => by
    have key2 : ∀ t q', (1 ≤ t ∧ t ≤ 20) → pOWhen T test h c s c2 s2 t q' m = .inr (p2, n2, x) → (0 ≤ n2 ∧ n2 ≤ 50) ∧ clK true x := fun t q' ht2 e3 => by
      obtain ⟨a0, a1, a2, a3, a4, a5, a6, a7⟩ := pOWhen_k ht e3 hm
      refine ⟨by omega, ?_, by rw [a6]; omega, a7⟩
      rw [if_pos rfl, a1, a2, a3, a4, a5]
      exact hh
    unfold pOTimes at e2
    split at e2
    · split at e2
      · next h5 => exact key2 _ _ ⟨h5.2.1, h5.2.2⟩ e2
      · cases e2
    · exact key2 1 _ (by omega) e2
  unfold pOrder at e
  split at e
  · next h1 =>
    cases hq : sm (p + 1) n with
    | inl y => rw [hq] at e; cases e
    | inr y =>
      obtain ⟨q2, m2, c, s⟩ := y
      rw [hq] at e
      have h2 := hs _ _ _ _ _ _ hq hn.2
      dsimp only at e
      split at e
      · cases hq2 : sm (q2 + 1) m2 with
        | inl y => rw [hq2] at e; cases e
        | inr y =>
          obtain ⟨q3, m3, c3, s3⟩ := y
          rw [hq2] at e
          have h3 := hs _ _ _ _ _ _ hq2 h2.1.2
          exact key _ _ _ _ _ _ _ (by omega) e (Or.inl ⟨h1, pcK.of hn.1 h2, pcK.of (by omega) h3⟩)
      · cases e
  · split at e
    · next h6 => exact key _ _ _ _ _ _ _ hn e (Or.inr ⟨h6, rfl, rfl⟩)
    · cases e
theorem pAllL_k {α : Type} {T : Int → Int} {nt : Int} {cl : Int → Int → Int ⊕ (Int × Int × α)} {P : α → Prop} (hc : ∀ p n p2 n2 c, cl p n = .inr (p2, n2, c) → (0 ≤ n ∧ n ≤ 50) → (0 ≤ n2 ∧ n2 ≤ 50) ∧ P c) : ∀ (f : Nat) (p n : Int) (L R : List α), pAllL T nt cl f p n L = .inr R → (0 ≤ n ∧ n ≤ 50) → (∀ c ∈ L, P c) → ∀ c ∈ R, P c
  | 0, p, n, L, R, e, _, _ => by cases e
  | f + 1, p, n, L, R, e, hn, hL => by
    unfold pAllL at e
    split at e
    · split at e
      · cases e
      · cases hq : cl (p + 1) n with
        | inl y => rw [hq] at e; cases e
        | inr y =>
          obtain ⟨q2, m2, c⟩ := y
          rw [hq] at e
          have h1 := hc _ _ _ _ _ hq hn
          exact pAllL_k hc f _ _ _ _ e h1.1 (fun d hd => by
            rcases List.mem_append.mp hd with z | z
            · exact hL d z
            · rw [List.mem_singleton] at z; rw [z]; exact h1.2)
    · split at e
      · cases e
      · cases e; exact hL
theorem pAll_k {α : Type} {T : Int → Int} {nt : Int} {cl : Int → Int → Int ⊕ (Int × Int × α)} {P : α → Prop} (hc : ∀ p n p2 n2 c, cl p n = .inr (p2, n2, c) → (0 ≤ n ∧ n ≤ 50) → (0 ≤ n2 ∧ n2 ≤ 50) ∧ P c) {R : List α} (e : pAll T nt cl = .inr R) : ∀ c ∈ R, P c := by
  unfold pAll at e
  cases hq : cl 0 0 with
  | inl y => rw [hq] at e; cases e
  | inr y =>
    obtain ⟨q2, m2, c⟩ := y
    rw [hq] at e
    have h1 := hc _ _ _ _ _ hq (by omega)
    exact pAllL_k hc 401 _ _ _ _ e h1.1 (fun d hd => by rw [List.mem_singleton] at hd; rw [hd]; exact h1.2)
/-- laws that were read -/
theorem lawRd_k {T V : Int → Int} {nt : Int} (hV : ∀ p, 0 ≤ V p) {L : List PC} (e : lawRd T V nt = .inr L) : ∀ c ∈ L, clK false (pcO c) := pAll_k (P := fun c => clK false (pcO c)) (fun _ _ _ _ _ e hn => pClause_k (pSum_g hV 8) (pTest_g hV 8) e hn) e
theorem ordRd_k {T V : Int → Int} {nt : Int} (hV : ∀ p, 0 ≤ V p) {L : List OC} (e : pOrd T V nt = .inr L) : ∀ c ∈ L, clK true c := pAll_k (P := fun c => clK true c) (fun _ _ _ _ _ e hn => pOrder_k (pSum_g hV 8) (pTest_g hV 8) e hn) e
/-! where a text stands -/
/-- clause i in these arrays (kinds, times, starts, ops, args), its code at t -/
def tcC (o : Bool) (K Tm St O A : Int → Int) (i t : Int) (c : OC) : Prop := K i = c.1 - (if o = true then 22 else 1) ∧ Tm i = c.2.2.2.2.2.1 ∧ St (i * 3) = t ∧ St (i * 3 + 1) = t + c.2.1.length ∧ St (i * 3 + 2) = t + (c.2.1 ++ c.2.2.2.1).length ∧ St (i * 3 + 3) = t + (ocK c).length ∧ cdL O A t (ocK c)
def tcL (o : Bool) (K Tm St O A : Int → Int) : Int → Int → List OC → Int → Prop
  | _, t, [], u => u = t
  | i, t, c :: R, u => tcC o K Tm St O A i t c ∧ tcL o K Tm St O A (i + 1) (t + (ocK c).length) R u
theorem dfL_tc {o : Bool} {g : gM} : ∀ (L : List OC) (i t u : Int), dfL o g i t L u → tcL o (g 153) (g 154) (g 155) (g 156) (g 157) i t L u
  | [], _, _, _, h => h
  | _ :: R, _, _, _, h => ⟨h.1, dfL_tc R _ _ _ h.2⟩
theorem tcL_le {o : Bool} {K Tm St O A : Int → Int} : ∀ (L : List OC) (i t u : Int), tcL o K Tm St O A i t L u → t ≤ u
  | [], _, _, _, h => by have h : _ = _ := h; omega
  | _ :: R, _, _, _, h => by have := tcL_le R _ _ _ h.2; omega
theorem tcC_ext {o : Bool} {K Tm St O A K2 Tm2 St2 O2 A2 : Int → Int} {i t u m : Int} {c : OC} (h0 : 0 ≤ i ∧ 0 ≤ t) (h3 : ∀ k, 0 ≤ k → k < m → K2 k = K k) (h4 : ∀ k, 0 ≤ k → k < m → Tm2 k = Tm k) (h5 : ∀ k, 0 ≤ k → k ≤ m * 3 → St2 k = St k) (h6 : ∀ k, 0 ≤ k → k < u → O2 k = O k ∧ A2 k = A k) (hi : i < m) (ht : t + (ocK c).length ≤ u) (h : tcC o K Tm St O A i t c) : tcC o K2 Tm2 St2 O2 A2 i t c := by
  obtain ⟨q1, q2, q3, q4, q5, q6, q7⟩ := h
  exact ⟨by rw [h3 _ h0.1 hi]; exact q1, by rw [h4 _ h0.1 hi]; exact q2, by rw [h5 _ (by omega) (by omega)]; exact q3, by rw [h5 _ (by omega) (by omega)]; exact q4, by rw [h5 _ (by omega) (by omega)]; exact q5, by rw [h5 _ (by omega) (by omega)]; exact q6, cdL_ext _ _ (fun j a b => h6 j (by omega) (by omega)) q7⟩
theorem tcL_ext {o : Bool} {K Tm St O A K2 Tm2 St2 O2 A2 : Int → Int} {m w : Int} (h3 : ∀ k, 0 ≤ k → k < m → K2 k = K k) (h4 : ∀ k, 0 ≤ k → k < m → Tm2 k = Tm k) (h5 : ∀ k, 0 ≤ k → k ≤ m * 3 → St2 k = St k) (h6 : ∀ k, 0 ≤ k → k < w → O2 k = O k ∧ A2 k = A k) : ∀ (L : List OC) (i t u : Int), 0 ≤ i ∧ 0 ≤ t → i + L.length ≤ m → u ≤ w → tcL o K Tm St O A i t L u → tcL o K2 Tm2 St2 O2 A2 i t L u
  | [], _, _, _, _, _, _, h => h
  | c :: R, i, t, u, h0, hi, hu, h => by
    rw [List.length_cons] at hi
    have := tcL_le R _ _ _ h.2
    exact ⟨tcC_ext h0 h3 h4 h5 h6 (by omega) (by omega) h.1, tcL_ext h3 h4 h5 h6 R _ _ _ (by omega) (by omega) hu h.2⟩
/-- clause j of a text -/
theorem tcL_at {o : Bool} {K Tm St O A : Int → Int} : ∀ (L : List OC) (i t u : Int), tcL o K Tm St O A i t L u → ∀ (j : Nat) (c : OC), L[j]? = some c → ∃ t2, t ≤ t2 ∧ t2 + (ocK c).length ≤ u ∧ tcC o K Tm St O A (i + j) t2 c
  | [], _, _, _, _, j, c, e => by rw [List.getElem?_nil] at e; cases e
  | d :: R, i, t, u, h, 0, c, e => by
    rw [List.getElem?_cons_zero] at e
    cases e
    have := tcL_le R _ _ _ h.2
    exact ⟨t, by omega, by omega, by rw [show i + ((0 : Nat) : Int) = i by omega]; exact h.1⟩
  | d :: R, i, t, u, h, j + 1, c, e => by
    rw [List.getElem?_cons_succ] at e
    obtain ⟨t2, h1, h2, h3⟩ := tcL_at R _ _ _ h.2 j c e
    exact ⟨t2, by omega, h2, by rw [show i + ((j + 1 : Nat) : Int) = i + 1 + (j : Int) by omega]; exact h3⟩
/-- the text object a holds the clauses L; it and its arrays stand at lo and above -/
def txL (lo : Int) (o : Bool) (sh : gS) (g : gM) (a : Int) (L : List OC) : Prop := ∃ N3 N5 N6 : Nat, (lo ≤ a ∧ lo ≤ g a 3 ∧ lo ≤ g a 4 ∧ lo ≤ g a 5 ∧ lo ≤ g a 6 ∧ lo ≤ g a 7) ∧ gsz sh a 10 8 ∧ gsz sh (g a 3) 13 N3 ∧ gsz sh (g a 4) 13 N3 ∧ gsz sh (g a 5) 13 N5 ∧ gsz sh (g a 6) 13 N6 ∧ gsz sh (g a 7) 13 N6 ∧ (L.length ≤ N3 ∧ N3 ≤ 12 ∧ L.length * 3 + 1 ≤ N5 ∧ N5 ≤ 37 ∧ N6 ≤ 400) ∧ g a 0 = L.length ∧ g a 2 = lbV o 0 (L.flatMap ocK) ∧ (∃ u, u ≤ (N6 : Int) ∧ tcL o (g (g a 3)) (g (g a 4)) (g (g a 5)) (g (g a 6)) (g (g a 7)) 0 0 L u) ∧ ∀ c ∈ L, clK o c
theorem txL.ext {lo : Int} {o : Bool} {sh : gS} {g g2 : gM} {a : Int} {L : List OC} (h : txL lo o sh g a L) (he : ∀ x k, lo ≤ x → g2 x k = g x k) : txL lo o sh g2 a L := by
  obtain ⟨N3, N5, N6, q1, q2, q3, q4, q5, q6, q7, q8, q9, q10, ⟨u, hu, q11⟩, q12⟩ := h
  have f : ∀ x, lo ≤ x → g2 x = g x := fun x hx => funext fun k => he x k hx
  refine ⟨N3, N5, N6, ?_, q2, ?_, ?_, ?_, ?_, ?_, q8, ?_, ?_, ⟨u, hu, ?_⟩, q12⟩
  · rw [f a q1.1]; exact q1
  · rw [f a q1.1]; exact q3
  · rw [f a q1.1]; exact q4
  · rw [f a q1.1]; exact q5
  · rw [f a q1.1]; exact q6
  · rw [f a q1.1]; exact q7
  · rw [f a q1.1]; exact q9
  · rw [f a q1.1]; exact q10
  · rw [f a q1.1, f _ q1.2.1, f _ q1.2.2.1, f _ q1.2.2.2.1, f _ q1.2.2.2.2.1, f _ q1.2.2.2.2.2]; exact q11
theorem gsz.more {sh t : gS} {a : Int} {q n : Nat} (h : gsz sh a q n) : gsz (sh ++ t) a q n := ⟨h.1, by rw [List.getElem?_append_left (List.getElem?_eq_some_iff.mp h.2).1]; exact h.2⟩
theorem txL.more {lo : Int} {o : Bool} {sh : gS} {g : gM} {a : Int} {L : List OC} (h : txL lo o sh g a L) (t : gS) : txL lo o (sh ++ t) g a L := by
  obtain ⟨N3, N5, N6, q1, q2, q3, q4, q5, q6, q7, q8⟩ := h
  exact ⟨N3, N5, N6, q1, q2.more, q3.more, q4.more, q5.more, q6.more, q7.more, q8⟩
