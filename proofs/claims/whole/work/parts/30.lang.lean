/-! ===== both languages: what a row of tokens says (T: codes, V: numbers, o: orders), with its code and its sense ===== -/
abbrev PS : Type := (Int → Int) → Option Int
abbrev PK : Type := List (Int × Int)
abbrev PR : Type := Int ⊕ (Int × Int × PK × PS)
def plim (v : Int) : Option Int := if v > 1000000000 ∨ v < -1000000000 then none else some v
/-- two numbers by the operation's number -/
def pjn (op a b : Int) : Option Int :=
  if op = 5 then plim (a + b) else if op = 6 then plim (a - b) else if op = 7 then plim (a * b)
  else if op = 8 then (if b = 0 then none else plim (a.tdiv b)) else if op = 9 then (if b = 0 then none else plim (a.tmod b))
  else if op = 10 then some (bi (a < b)) else if op = 11 then some (bi (b < a)) else some (bi (a = b))
def pjs (op : Int) (s1 s2 : PS) : PS := fun w => (s1 w).bind fun a => (s2 w).bind fun b => pjn op a b
def por (s1 s2 : PS) : PS := fun w => (s1 w).bind fun a => if a = 0 then s2 w else some a
def pand (s1 s2 : PS) : PS := fun w => (s1 w).bind fun a => if a = 0 then some a else s2 w
def pnot (s : PS) : PS := fun w => (s w).bind fun a => some (1 - a)
/-- a word of laws by the other numbering -/
def lwI (c : Int) : Int := if c = 8 then 0 else if c = 15 then 1 else if c = 16 then 2 else if c = 9 then 3 else if c = 10 then 4 else if c = 11 then 5 else if c = 12 then 6 else if c = 13 then 7 else if c = 17 then 8 else 9
section PG
variable (T V : Int → Int) (o : Bool)
def pPartW (sub : Option (Int → Int → PR)) (p n : Int) : PR :=
  if T p = 191 then (match sub with
    | none => .inl p
    | some f => match f (p + 1) n with
      | .inl e => .inl e
      | .inr (p2, n2, c, s) => if T p2 = 193 then .inr (p2 + 1, n2, c, s) else .inl p2)
  else if 50 ≤ n then .inl p
  else if T p = 50 ∧ V p ≤ 1000 then .inr (p + 1, n + 1, [(0, V p)], fun _ => some (V p))
  else if o = false ∧ 8 ≤ T p ∧ T p ≤ 17 then .inr (p + 1, n + 1, [(1, lwI (T p))], fun w => some (w (lwI (T p))))
  else if o = true ∧ 17 ≤ T p ∧ T p ≤ 21 then .inr (p + 1, n + 1, [(1, T p - 17)], fun w => some (w (T p - 17)))
  else if o = true ∧ (T p = 15 ∨ T p = 16) then
    (if T (p + 1) = 50 ∧ V (p + 1) ≤ 11 then .inr (p + 2, n + 1, [(1, (if T p = 15 then 5 else 17) + V (p + 1))], fun w => some (w ((if T p = 15 then 5 else 17) + V (p + 1)))) else .inl (p + 1))
  else .inl p
def pTermL (part : Int → Int → PR) : Nat → Int → Int → PK → PS → PR
  | 0, p, n, c, s => .inr (p, n, c, s)
  | f + 1, p, n, c, s =>
    if T p = 142 ∨ T p = 147 ∨ T p = 137 then
      (match part (p + 1) n with
      | .inl e => .inl e
      | .inr (p2, n2, c2, s2) => pTermL part f p2 n2 (c ++ c2 ++ [(if T p = 142 then 7 else if T p = 147 then 8 else 9, 0)]) (pjs (if T p = 142 then 7 else if T p = 147 then 8 else 9) s s2))
    else .inr (p, n, c, s)
def pTermW (part : Int → Int → PR) (p n : Int) : PR := match part p n with
  | .inl e => .inl e
  | .inr (p2, n2, c, s) => pTermL T part 401 p2 n2 c s
def pSumL (term : Int → Int → PR) : Nat → Int → Int → PK → PS → PR
  | 0, p, n, c, s => .inr (p, n, c, s)
  | f + 1, p, n, c, s =>
    if T p = 143 ∨ T p = 145 then
      (match term (p + 1) n with
      | .inl e => .inl e
      | .inr (p2, n2, c2, s2) => pSumL term f p2 n2 (c ++ c2 ++ [(if T p = 143 then 5 else 6, 0)]) (pjs (if T p = 143 then 5 else 6) s s2))
    else .inr (p, n, c, s)
def pSumW (term : Int → Int → PR) (p n : Int) : PR := match term p n with
  | .inl e => .inl e
  | .inr (p2, n2, c, s) => pSumL T term 401 p2 n2 c s
/-- a sum, so many brackets may still open -/
def pSum : Nat → Int → Int → PR
  | 0 => pSumW T (pTermW T (pPartW T V o none))
  | k + 1 => pSumW T (pTermW T (pPartW T V o (some (pSum k))))
def pPart : Nat → Int → Int → PR
  | 0 => pPartW T V o none
  | k + 1 => pPartW T V o (some (pSum T V o k))
def pTerm (k : Nat) : Int → Int → PR := pTermW T (pPart T V o k)
theorem pSum_eq (k : Nat) : pSum T V o k = pSumW T (pTerm T V o k) := by cases k <;> rfl
/-- how many 'not' -/
def pNots : Nat → Int → Bool → Int × Bool
  | 0, p, b => (p, b)
  | f + 1, p, b => if T p = 7 then pNots f (p + 1) (!b) else (p, b)
def pPosW (sub : Option (Int → Int → PR)) (sm : Int → Int → PR) (p n : Int) : PR :=
  if T p = 140 then (match sub with
    | none => .inl p
    | some f => match f (p + 1) n with
      | .inl e => .inl e
      | .inr (p2, n2, c, s) => if T p2 = 141 then .inr (p2 + 1, n2, c, s) else .inl p2)
  else match sm p n with
    | .inl e => .inl e
    | .inr (p2, n2, c, s) => if T p2 = 160 ∨ T p2 = 162 ∨ T p2 = 161 then
        (match sm (p2 + 1) n2 with
        | .inl e => .inl e
        | .inr (p3, n3, c3, s3) => .inr (p3, n3, c ++ c3 ++ [(if T p2 = 160 then 10 else if T p2 = 162 then 11 else 12, 0)], pjs (if T p2 = 160 then 10 else if T p2 = 162 then 11 else 12) s s3))
      else .inl p2
def pPlainW (sub : Option (Int → Int → PR)) (sm : Int → Int → PR) (p n : Int) : PR := match pPosW T sub sm (pNots T 401 p false).1 n with
  | .inl e => .inl e
  | .inr (p2, n2, c, s) => if (pNots T 401 p false).2 then .inr (p2, n2, c ++ [(2, 0)], pnot s) else .inr (p2, n2, c, s)
def pBothL (plain : Int → Int → PR) : Nat → Int → Int → PK → PS → PR
  | 0, p, n, c, s => .inr (p, n, c, s)
  | f + 1, p, n, c, s =>
    if T p = 6 then
      (match plain (p + 1) n with
      | .inl e => .inl e
      | .inr (p2, n2, c2, s2) => pBothL plain f p2 n2 (c ++ (4, (c2.length : Int)) :: c2) (pand s s2))
    else .inr (p, n, c, s)
def pBothW (plain : Int → Int → PR) (p n : Int) : PR := match plain p n with
  | .inl e => .inl e
  | .inr (p2, n2, c, s) => pBothL T plain 401 p2 n2 c s
def pTestL (both : Int → Int → PR) : Nat → Int → Int → PK → PS → PR
  | 0, p, n, c, s => .inr (p, n, c, s)
  | f + 1, p, n, c, s =>
    if T p = 5 then
      (match both (p + 1) n with
      | .inl e => .inl e
      | .inr (p2, n2, c2, s2) => pTestL both f p2 n2 (c ++ (3, (c2.length : Int)) :: c2) (por s s2))
    else .inr (p, n, c, s)
def pTestW (both : Int → Int → PR) (p n : Int) : PR := match both p n with
  | .inl e => .inl e
  | .inr (p2, n2, c, s) => pTestL T both 401 p2 n2 c s
def pTest : Nat → Int → Int → PR
  | 0 => pTestW T (pBothW T (pPlainW T none (pSum T V o 0)))
  | k + 1 => pTestW T (pBothW T (pPlainW T (some (pTest k)) (pSum T V o (k + 1))))
def pPos : Nat → Int → Int → PR
  | 0 => pPosW T none (pSum T V o 0)
  | k + 1 => pPosW T (some (pTest T V o k)) (pSum T V o (k + 1))
def pPlain : Nat → Int → Int → PR
  | 0 => pPlainW T none (pSum T V o 0)
  | k + 1 => pPlainW T (some (pTest T V o k)) (pSum T V o (k + 1))
def pBoth (k : Nat) : Int → Int → PR := pBothW T (pPlain T V o k)
theorem pTest_eq (k : Nat) : pTest T V o k = pTestW T (pBoth T V o k) := by cases k <;> rfl
end PG
/-! how far a sentence goes: only over tokens that are there -/
def pOK (T : Int → Int) (nt : Int) : Prop := ∀ p, T p ≠ 0 → p < nt
def pFar (nt : Int) (f : Int → Int → PR) : Prop := ∀ p n p2 n2 c s, f p n = .inr (p2, n2, c, s) → p < p2 ∧ p2 ≤ nt
theorem pPartW_far {T V : Int → Int} {o : Bool} {nt : Int} (h : pOK T nt) {sub : Option (Int → Int → PR)} (hs : ∀ f, sub = some f → pFar nt f) : pFar nt (pPartW T V o sub) := by
  intro p n p2 n2 c s e
  unfold pPartW at e
  split at e
  · next h1 =>
    cases sub with
    | none => cases e
    | some f =>
      dsimp only at e
      cases hf : f (p + 1) n with
      | inl x => rw [hf] at e; cases e
      | inr x =>
        obtain ⟨q2, m2, c2, s2⟩ := x
        rw [hf] at e
        dsimp only at e
        split at e
        · next h2 =>
          cases e
          have := hs f rfl _ _ _ _ _ _ hf
          have := h q2 (by omega)
          omega
        · cases e
  · split at e
    · cases e
    · split at e
      · next h3 => cases e; have := h p (by omega); omega
      · split at e
        · next h4 => cases e; have := h p (by omega); omega
        · split at e
          · next h5 => cases e; have := h p (by omega); omega
          · split at e
            · next h6 =>
              split at e
              · next h7 => cases e; have := h (p + 1) (by omega); omega
              · cases e
            · cases e
theorem pTermL_far {T : Int → Int} {nt : Int} {part : Int → Int → PR} (hp : pFar nt part) : ∀ (f : Nat) (p n : Int) (c : PK) (s : PS) p2 n2 c2 s2, pTermL T part f p n c s = .inr (p2, n2, c2, s2) → p ≤ nt → p ≤ p2 ∧ p2 ≤ nt
  | 0, p, n, c, s, p2, n2, c2, s2, e, hn => by cases e; omega
  | f + 1, p, n, c, s, p2, n2, c2, s2, e, hn => by
    unfold pTermL at e
    split at e
    · cases hq : part (p + 1) n with
      | inl x => rw [hq] at e; cases e
      | inr x =>
        obtain ⟨q2, m2, d2, t2⟩ := x
        rw [hq] at e
        have h1 := hp _ _ _ _ _ _ hq
        have h2 := pTermL_far hp f _ _ _ _ _ _ _ _ e (by omega)
        omega
    · cases e; omega
theorem pTermW_far {T : Int → Int} {nt : Int} {part : Int → Int → PR} (hp : pFar nt part) : pFar nt (pTermW T part) := by
  intro p n p2 n2 c s e
  unfold pTermW at e
  cases hq : part p n with
  | inl x => rw [hq] at e; cases e
  | inr x =>
    obtain ⟨q2, m2, d2, t2⟩ := x
    rw [hq] at e
    have h1 := hp _ _ _ _ _ _ hq
    have h2 := pTermL_far hp _ _ _ _ _ _ _ _ _ e (by omega)
    omega
theorem pSumL_far {T : Int → Int} {nt : Int} {part : Int → Int → PR} (hp : pFar nt part) : ∀ (f : Nat) (p n : Int) (c : PK) (s : PS) p2 n2 c2 s2, pSumL T part f p n c s = .inr (p2, n2, c2, s2) → p ≤ nt → p ≤ p2 ∧ p2 ≤ nt
  | 0, p, n, c, s, p2, n2, c2, s2, e, hn => by cases e; omega
  | f + 1, p, n, c, s, p2, n2, c2, s2, e, hn => by
    unfold pSumL at e
    split at e
    · cases hq : part (p + 1) n with
      | inl x => rw [hq] at e; cases e
      | inr x =>
        obtain ⟨q2, m2, d2, t2⟩ := x
        rw [hq] at e
        have h1 := hp _ _ _ _ _ _ hq
        have h2 := pSumL_far hp f _ _ _ _ _ _ _ _ e (by omega)
        omega
    · cases e; omega
theorem pSumW_far {T : Int → Int} {nt : Int} {part : Int → Int → PR} (hp : pFar nt part) : pFar nt (pSumW T part) := by
  intro p n p2 n2 c s e
  unfold pSumW at e
  cases hq : part p n with
  | inl x => rw [hq] at e; cases e
  | inr x =>
    obtain ⟨q2, m2, d2, t2⟩ := x
    rw [hq] at e
    have h1 := hp _ _ _ _ _ _ hq
    have h2 := pSumL_far hp _ _ _ _ _ _ _ _ _ e (by omega)
    omega
theorem pSum_far {T V : Int → Int} {o : Bool} {nt : Int} (h : pOK T nt) : ∀ k, pFar nt (pSum T V o k)
  | 0 => pSumW_far (pTermW_far (pPartW_far h (fun f hf => by cases hf)))
  | k + 1 => pSumW_far (pTermW_far (pPartW_far h (fun f hf => by cases hf; exact pSum_far h k)))
theorem pPart_far {T V : Int → Int} {o : Bool} {nt : Int} (h : pOK T nt) (k : Nat) : pFar nt (pPart T V o k) := by
  cases k with
  | zero => exact pPartW_far (V := V) (o := o) (sub := none) h (fun f hf => by cases hf)
  | succ k => exact pPartW_far (V := V) (o := o) (sub := some (pSum T V o k)) h (fun f hf => by cases hf; exact pSum_far h k)
theorem pTerm_far {T V : Int → Int} {o : Bool} {nt : Int} (h : pOK T nt) (k : Nat) : pFar nt (pTerm T V o k) := pTermW_far (pPart_far h k)
theorem pNots_far {T : Int → Int} {nt : Int} (h : pOK T nt) : ∀ (f : Nat) (p : Int) (b : Bool), p ≤ (pNots T f p b).1 ∧ (p ≤ nt → (pNots T f p b).1 ≤ nt)
  | 0, p, b => by simp [pNots]
  | f + 1, p, b => by
    unfold pNots
    split
    · next h1 =>
      have h2 := pNots_far h f (p + 1) (!b)
      have h3 := h p (by omega)
      exact ⟨by omega, fun _ => h2.2 (by omega)⟩
    · exact ⟨Int.le_refl _, fun z => z⟩
theorem pPosW_far {T : Int → Int} {nt : Int} (h : pOK T nt) {sub : Option (Int → Int → PR)} {sm : Int → Int → PR} (hs : ∀ f, sub = some f → pFar nt f) (hm : pFar nt sm) : pFar nt (pPosW T sub sm) := by
  intro p n p2 n2 c s e
  unfold pPosW at e
  split at e
  · cases sub with
    | none => cases e
    | some f =>
      dsimp only at e
      cases hf : f (p + 1) n with
      | inl x => rw [hf] at e; cases e
      | inr x =>
        obtain ⟨q2, m2, c2, s2⟩ := x
        rw [hf] at e
        dsimp only at e
        split at e
        · next h2 =>
          cases e
          have := hs f rfl _ _ _ _ _ _ hf
          have := h q2 (by omega)
          omega
        · cases e
  · cases hq : sm p n with
    | inl x => rw [hq] at e; cases e
    | inr x =>
      obtain ⟨q2, m2, d2, t2⟩ := x
      rw [hq] at e
      dsimp only at e
      have h1 := hm _ _ _ _ _ _ hq
      split at e
      · cases hq2 : sm (q2 + 1) m2 with
        | inl x => rw [hq2] at e; cases e
        | inr x =>
          obtain ⟨q3, m3, d3, t3⟩ := x
          rw [hq2] at e
          cases e
          have h2 := hm _ _ _ _ _ _ hq2
          omega
      · cases e
theorem pPlainW_far {T : Int → Int} {nt : Int} (h : pOK T nt) {sub : Option (Int → Int → PR)} {sm : Int → Int → PR} (hs : ∀ f, sub = some f → pFar nt f) (hm : pFar nt sm) : pFar nt (pPlainW T sub sm) := by
  intro p n p2 n2 c s e
  unfold pPlainW at e
  have h0 := (pNots_far h 401 p false).1
  cases hq : pPosW T sub sm (pNots T 401 p false).1 n with
  | inl x => rw [hq] at e; cases e
  | inr x =>
    obtain ⟨q2, m2, d2, t2⟩ := x
    rw [hq] at e
    dsimp only at e
    have h1 := pPosW_far h hs hm _ _ _ _ _ _ hq
    split at e <;> (cases e; omega)
theorem pBothL_far {T : Int → Int} {nt : Int} {part : Int → Int → PR} (hp : pFar nt part) : ∀ (f : Nat) (p n : Int) (c : PK) (s : PS) p2 n2 c2 s2, pBothL T part f p n c s = .inr (p2, n2, c2, s2) → p ≤ nt → p ≤ p2 ∧ p2 ≤ nt
  | 0, p, n, c, s, p2, n2, c2, s2, e, hn => by cases e; omega
  | f + 1, p, n, c, s, p2, n2, c2, s2, e, hn => by
    unfold pBothL at e
    split at e
    · cases hq : part (p + 1) n with
      | inl x => rw [hq] at e; cases e
      | inr x =>
        obtain ⟨q2, m2, d2, t2⟩ := x
        rw [hq] at e
        have h1 := hp _ _ _ _ _ _ hq
        have h2 := pBothL_far hp f _ _ _ _ _ _ _ _ e (by omega)
        omega
    · cases e; omega
theorem pBothW_far {T : Int → Int} {nt : Int} {part : Int → Int → PR} (hp : pFar nt part) : pFar nt (pBothW T part) := by
  intro p n p2 n2 c s e
  unfold pBothW at e
  cases hq : part p n with
  | inl x => rw [hq] at e; cases e
  | inr x =>
    obtain ⟨q2, m2, d2, t2⟩ := x
    rw [hq] at e
    have h1 := hp _ _ _ _ _ _ hq
    have h2 := pBothL_far hp _ _ _ _ _ _ _ _ _ e (by omega)
    omega
theorem pTestL_far {T : Int → Int} {nt : Int} {part : Int → Int → PR} (hp : pFar nt part) : ∀ (f : Nat) (p n : Int) (c : PK) (s : PS) p2 n2 c2 s2, pTestL T part f p n c s = .inr (p2, n2, c2, s2) → p ≤ nt → p ≤ p2 ∧ p2 ≤ nt
  | 0, p, n, c, s, p2, n2, c2, s2, e, hn => by cases e; omega
  | f + 1, p, n, c, s, p2, n2, c2, s2, e, hn => by
    unfold pTestL at e
    split at e
    · cases hq : part (p + 1) n with
      | inl x => rw [hq] at e; cases e
      | inr x =>
        obtain ⟨q2, m2, d2, t2⟩ := x
        rw [hq] at e
        have h1 := hp _ _ _ _ _ _ hq
        have h2 := pTestL_far hp f _ _ _ _ _ _ _ _ e (by omega)
        omega
    · cases e; omega
theorem pTestW_far {T : Int → Int} {nt : Int} {part : Int → Int → PR} (hp : pFar nt part) : pFar nt (pTestW T part) := by
  intro p n p2 n2 c s e
  unfold pTestW at e
  cases hq : part p n with
  | inl x => rw [hq] at e; cases e
  | inr x =>
    obtain ⟨q2, m2, d2, t2⟩ := x
    rw [hq] at e
    have h1 := hp _ _ _ _ _ _ hq
    have h2 := pTestL_far hp _ _ _ _ _ _ _ _ _ e (by omega)
    omega
theorem pTest_far {T V : Int → Int} {o : Bool} {nt : Int} (h : pOK T nt) : ∀ k, pFar nt (pTest T V o k)
  | 0 => pTestW_far (pBothW_far (pPlainW_far h (fun f hf => by cases hf) (pSum_far h 0)))
  | k + 1 => pTestW_far (pBothW_far (pPlainW_far h (fun f hf => by cases hf; exact pTest_far h k) (pSum_far h (k + 1))))
theorem pPlain_far {T V : Int → Int} {o : Bool} {nt : Int} (h : pOK T nt) : ∀ k, pFar nt (pPlain T V o k)
  | 0 => pPlainW_far h (fun f hf => by cases hf) (pSum_far h 0)
  | k + 1 => pPlainW_far h (fun f hf => by cases hf; exact pTest_far h k) (pSum_far h (k + 1))
theorem pPos_far {T V : Int → Int} {o : Bool} {nt : Int} (h : pOK T nt) (k : Nat) : pFar nt (pPos T V o k) := by
  cases k with
  | zero => exact pPosW_far (sub := none) h (fun f hf => by cases hf) (pSum_far h 0)
  | succ k => exact pPosW_far (sub := some (pTest T V o k)) h (fun f hf => by cases hf; exact pTest_far h k) (pSum_far h (k + 1))
theorem pBoth_far {T V : Int → Int} {o : Bool} {nt : Int} (h : pOK T nt) (k : Nat) : pFar nt (pBoth T V o k) := pBothW_far (pPlain_far h k)
