/-! ===== code worked out on a stack, and what a parse's code comes to ===== -/
/-- none: code that can't be; some none: BROKEN; some (some st): the stack behind it. The number: so many steps are jumped -/
def ex (w : Int → Int) : PK → Nat → List Int → Option (Option (List Int))
  | [], _, st => some (some st)
  | _ :: c, k + 1, st => ex w c k st
  | (op, x) :: c, 0, st =>
    if op = 0 then ex w c 0 (x :: st) else if op = 1 then ex w c 0 (w x :: st)
    else match st with
    | [] => none
    | a :: st1 =>
      if op = 2 then (if a = 0 ∨ a = 1 then ex w c 0 ((1 - a) :: st1) else none)
      else if op = 3 then (if a = 0 then ex w c 0 st1 else ex w c x.toNat (a :: st1))
      else if op = 4 then (if a = 0 then ex w c x.toNat (a :: st1) else ex w c 0 st1)
      else match st1 with
      | [] => none
      | b :: st2 => match pjn op b a with
        | none => some none
        | some v => ex w c 0 (v :: st2)
theorem ex_0 (w : Int → Int) (x : Int) (c : PK) (st : List Int) : ex w ((0, x) :: c) 0 st = ex w c 0 (x :: st) := rfl
theorem ex_1 (w : Int → Int) (x : Int) (c : PK) (st : List Int) : ex w ((1, x) :: c) 0 st = ex w c 0 (w x :: st) := rfl
theorem ex_2 (w : Int → Int) (x : Int) (c : PK) (a : Int) (st : List Int) (h : a = 0 ∨ a = 1) : ex w ((2, x) :: c) 0 (a :: st) = ex w c 0 ((1 - a) :: st) := if_pos h
theorem ex_30 (w : Int → Int) (x : Int) (c : PK) (a : Int) (st : List Int) (h : a = 0) : ex w ((3, x) :: c) 0 (a :: st) = ex w c 0 st := if_pos h
theorem ex_31 (w : Int → Int) (x : Int) (c : PK) (a : Int) (st : List Int) (h : ¬ a = 0) : ex w ((3, x) :: c) 0 (a :: st) = ex w c x.toNat (a :: st) := if_neg h
theorem ex_40 (w : Int → Int) (x : Int) (c : PK) (a : Int) (st : List Int) (h : a = 0) : ex w ((4, x) :: c) 0 (a :: st) = ex w c x.toNat (a :: st) := if_pos h
theorem ex_41 (w : Int → Int) (x : Int) (c : PK) (a : Int) (st : List Int) (h : ¬ a = 0) : ex w ((4, x) :: c) 0 (a :: st) = ex w c 0 st := if_neg h
theorem ex_j (w : Int → Int) {op : Int} (ho : 5 ≤ op) (x : Int) (c : PK) (a b : Int) (st : List Int) : ex w ((op, x) :: c) 0 (a :: b :: st) = (match pjn op b a with
    | none => some none
    | some v => ex w c 0 (v :: st)) := by
  have e : ex w ((op, x) :: c) 0 (a :: b :: st) = (if op = 0 then ex w c 0 (x :: a :: b :: st) else if op = 1 then ex w c 0 (w x :: a :: b :: st) else if op = 2 then (if a = 0 ∨ a = 1 then ex w c 0 ((1 - a) :: b :: st) else none) else if op = 3 then (if a = 0 then ex w c 0 (b :: st) else ex w c x.toNat (a :: b :: st)) else if op = 4 then (if a = 0 then ex w c x.toNat (a :: b :: st) else ex w c 0 (b :: st)) else (match pjn op b a with
    | none => some none
    | some v => ex w c 0 (v :: st))) := rfl
  rw [e, if_neg (by omega), if_neg (by omega), if_neg (by omega), if_neg (by omega), if_neg (by omega)]
theorem ex_nil (w : Int → Int) (k : Nat) (st : List Int) : ex w [] k st = some (some st) := by cases k <;> rfl
theorem ex_drop (w : Int → Int) : ∀ (c : PK) (k : Nat) (st : List Int), ex w c k st = ex w (c.drop k) 0 st
  | [], k, st => by rw [List.drop_nil, ex_nil, ex_nil]
  | _ :: _, 0, _ => rfl
  | _ :: c, k + 1, st => ex_drop w c k st
theorem ex_skip (w : Int → Int) (c r : PK) (st : List Int) : ex w (c ++ r) c.length st = ex w r 0 st := by
  rw [ex_drop, List.drop_left]
/-- behind a value -/
def exB (v : Option Int) (k : Int → Option (Option (List Int))) : Option (Option (List Int)) := match v with
  | none => some none
  | some a => k a
theorem exB_bind (v : Option Int) (f : Int → Option Int) (k : Int → Option (Option (List Int))) : exB (v.bind f) k = exB v (fun a => exB (f a) k) := by cases v <;> rfl
/-- one step of code that can be -/
def opOK (o : Bool) (x : Int × Int) : Prop := (x.1 = 0 ∧ 0 ≤ x.2 ∧ x.2 ≤ 1000) ∨ (x.1 = 1 ∧ 0 ≤ x.2 ∧ x.2 < (if o = true then 29 else 10)) ∨ (2 ≤ x.1 ∧ x.1 ≤ 12 ∧ 0 ≤ x.2)
/-- jumps stay within -/
def jpOK : PK → Prop
  | [] => True
  | x :: c => ((x.1 = 3 ∨ x.1 = 4) → x.2 ≤ c.length) ∧ jpOK c
theorem jpOK.app : ∀ {c d : PK}, jpOK c → jpOK d → jpOK (c ++ d)
  | [], _, _, h => h
  | x :: c, d, h, h2 => ⟨fun z => by
    have := h.1 z
    show x.2 ≤ ((c ++ d).length : Int)
    rw [List.length_append]; omega, h.2.app h2⟩
theorem jpOK.drop : ∀ {c : PK} (k : Nat), jpOK c → jpOK (c.drop k)
  | [], k, h => by rw [List.drop_nil]; exact h
  | _ :: _, 0, h => h
  | _ :: _, k + 1, h => jpOK.drop k h.2
theorem jpOK.one {x : Int × Int} (h : ¬ (x.1 = 3 ∨ x.1 = 4)) : jpOK [x] := ⟨fun z => absurd z h, trivial⟩
def isP (x : Int × Int) : Bool := decide (x.1 = 0 ∨ x.1 = 1)
/-- code c with the sense s, of m parts -/
def cOK (o : Bool) (c : PK) (s : PS) (m : Int) : Prop := (c ≠ [] ∧ jpOK c) ∧ (∀ x ∈ c, opOK o x) ∧ (c.countP isP : Int) = m ∧ ∀ (w : Int → Int) (st : List Int) (r : PK), ex w (c ++ r) 0 st = exB (s w) (fun v => ex w r 0 (v :: st))
def trS (s : PS) : Prop := ∀ w v, s w = some v → v = 0 ∨ v = 1
def gP (o : Bool) (f : Int → Int → PR) : Prop := ∀ p n p2 n2 c s, f p n = .inr (p2, n2, c, s) → n ≤ 50 → (n ≤ n2 ∧ n2 ≤ 50) ∧ cOK o c s (n2 - n)
def gT (o : Bool) (f : Int → Int → PR) : Prop := gP o f ∧ ∀ p n p2 n2 c s, f p n = .inr (p2, n2, c, s) → n ≤ 50 → trS s
theorem cOK.one {o : Bool} {x : Int × Int} {s : PS} (h : opOK o x) (hp : isP x = true) (he : ∀ w st r, ex w (x :: r) 0 st = exB (s w) (fun v => ex w r 0 (v :: st))) {n : Int} : cOK o [x] s (n + 1 - n) := by
  refine ⟨⟨by simp, jpOK.one (by have := of_decide_eq_true hp; omega)⟩, fun y hy => by rw [List.mem_singleton] at hy; rw [hy]; exact h, ?_, fun w st r => he w st r⟩
  rw [List.countP_cons, hp]
  simp
  omega
theorem cOK.join {o : Bool} {c c2 : PK} {s s2 : PS} {m m2 : Int} (h : cOK o c s m) (h2 : cOK o c2 s2 m2) {op : Int} (ho : 5 ≤ op ∧ op ≤ 12) : cOK o (c ++ c2 ++ [(op, 0)]) (pjs op s s2) (m + m2) := by
  obtain ⟨a1, a2, a3, a4⟩ := h
  obtain ⟨b1, b2, b3, b4⟩ := h2
  refine ⟨⟨by simp, (a1.2.app b1.2).app (jpOK.one (by show ¬ (op = 3 ∨ op = 4); omega))⟩, fun x hx => ?_, ?_, fun w st r => ?_⟩
  · rcases List.mem_append.mp hx with q | q
    · rcases List.mem_append.mp q with z | z
      · exact a2 x z
      · exact b2 x z
    · rw [List.mem_singleton] at q; subst q; exact Or.inr (Or.inr ⟨by show 2 ≤ op; omega, ho.2, Int.le_refl _⟩)
  · rw [List.countP_append, List.countP_append]
    have : List.countP isP [(op, (0 : Int))] = 0 := by
      rw [List.countP_cons]
      have : isP (op, 0) = false := by unfold isP; exact decide_eq_false (by show ¬ (op = 0 ∨ op = 1); omega)
      rw [this]; rfl
    rw [this]; omega
  · rw [List.append_assoc, List.append_assoc, a4, show pjs op s s2 w = (s w).bind fun a => (s2 w).bind fun b => pjn op a b from rfl, exB_bind]
    refine congrArg (exB (s w)) (funext fun a => ?_)
    rw [b4, exB_bind]
    refine congrArg (exB (s2 w)) (funext fun b => ?_)
    show ex w ((op, 0) :: r) 0 (b :: a :: st) = _
    rw [ex_j w (by omega)]
    cases pjn op a b <;> rfl
theorem cOK.nt {o : Bool} {c : PK} {s : PS} {m : Int} (h : cOK o c s m) (ht : trS s) : cOK o (c ++ [(2, 0)]) (pnot s) m ∧ trS (pnot s) := by
  obtain ⟨a1, a2, a3, a4⟩ := h
  refine ⟨⟨⟨by simp, a1.2.app (jpOK.one (by decide))⟩, fun x hx => ?_, ?_, fun w st r => ?_⟩, fun w v e => ?_⟩
  · rcases List.mem_append.mp hx with q | q
    · exact a2 x q
    · rw [List.mem_singleton] at q; subst q; exact Or.inr (Or.inr ⟨by decide, by decide, by decide⟩)
  · rw [List.countP_append]
    have : List.countP isP [((2 : Int), (0 : Int))] = 0 := rfl
    rw [this]; omega
  · rw [List.append_assoc, a4, show pnot s w = (s w).bind fun a => some (1 - a) from rfl, exB_bind]
    cases hs : s w with
    | none => rfl
    | some a => exact ex_2 w 0 r a st (ht w a hs)
  · cases hs : s w with
    | none => rw [show pnot s w = (s w).bind fun a => some (1 - a) from rfl, hs] at e; cases e
    | some a =>
      rw [show pnot s w = (s w).bind fun a => some (1 - a) from rfl, hs] at e
      have := ht w a hs
      cases e
      omega
theorem cOK.jp {o : Bool} {c c2 : PK} {s s2 s3 : PS} {m m2 op : Int} (hop : op = 3 ∨ op = 4) (h : cOK o c s m) (h2 : cOK o c2 s2 m2) (he : ∀ w, s3 w = (s w).bind fun a => if (a = 0 ↔ op = 3) then s2 w else some a) : cOK o (c ++ (op, (c2.length : Int)) :: c2) s3 (m + m2) := by
  obtain ⟨a1, a2, a3, a4⟩ := h
  obtain ⟨b1, b2, b3, b4⟩ := h2
  refine ⟨⟨by simp, a1.2.app (d := (op, (c2.length : Int)) :: c2) ⟨fun _ => Int.le_refl _, b1.2⟩⟩, fun x hx => ?_, ?_, fun w st r => ?_⟩
  · rcases List.mem_append.mp hx with q | q
    · exact a2 x q
    · rcases List.mem_cons.mp q with z | z
      · subst z; exact Or.inr (Or.inr ⟨by show 2 ≤ op; omega, by show op ≤ 12; omega, by show 0 ≤ (c2.length : Int); omega⟩)
      · exact b2 x z
  · have : isP (op, (c2.length : Int)) = false := by unfold isP; exact decide_eq_false (by show ¬ (op = 0 ∨ op = 1); omega)
    rw [List.countP_append, List.countP_cons, this]
    simp
    omega
  · rw [List.append_assoc, a4, he, exB_bind]
    refine congrArg (exB (s w)) (funext fun a => ?_)
    show ex w ((op, (c2.length : Int)) :: (c2 ++ r)) 0 (a :: st) = _
    rcases hop with rfl | rfl
    · by_cases z : a = 0
      · rw [ex_30 _ _ _ _ _ z, if_pos ⟨fun _ => rfl, fun _ => z⟩, b4]
      · rw [ex_31 _ _ _ _ _ z, if_neg (fun q => z (q.mpr rfl)), Int.toNat_natCast, ex_skip]; rfl
    · by_cases z : a = 0
      · rw [ex_40 _ _ _ _ _ z, if_neg (fun q => absurd (q.mp z) (by decide)), Int.toNat_natCast, ex_skip]; rfl
      · rw [ex_41 _ _ _ _ _ z, if_pos ⟨fun q => absurd q z, fun q => absurd q (by decide)⟩, b4]
theorem trS.jp {s s2 s3 : PS} {op : Int} (h : trS s) (h2 : trS s2) (he : ∀ w, s3 w = (s w).bind fun a => if (a = 0 ↔ op = 3) then s2 w else some a) : trS s3 := fun w v e => by
  rw [he] at e
  cases hs : s w with
  | none => rw [hs] at e; cases e
  | some a =>
    rw [hs] at e
    dsimp only [Option.bind_some] at e
    split at e
    · exact h2 w v e
    · cases e; exact h w _ hs
theorem pand_e (s s2 : PS) (w : Int → Int) : pand s s2 w = (s w).bind fun a => if (a = 0 ↔ (4 : Int) = 3) then s2 w else some a := by
  show (s w).bind _ = (s w).bind _
  refine congrArg (s w).bind (funext fun a => ?_)
  by_cases z : a = 0
  · rw [if_pos z, if_neg (fun q => absurd (q.mp z) (by decide))]
  · rw [if_neg z, if_pos ⟨fun q => absurd q z, fun q => absurd q (by decide)⟩]
theorem por_e (s s2 : PS) (w : Int → Int) : por s s2 w = (s w).bind fun a => if (a = 0 ↔ (3 : Int) = 3) then s2 w else some a := by
  show (s w).bind _ = (s w).bind _
  refine congrArg (s w).bind (funext fun a => ?_)
  by_cases z : a = 0
  · rw [if_pos z, if_pos ⟨fun _ => rfl, fun _ => z⟩]
  · rw [if_neg z, if_neg (fun q => z (q.mpr rfl))]
/-! the same, by the parser's own steps -/
theorem lwI_in (c : Int) : 0 ≤ lwI c ∧ lwI c < 10 := by unfold lwI; omega
theorem pPartW_g {T V : Int → Int} {o : Bool} (hV : ∀ p, 0 ≤ V p) {sub : Option (Int → Int → PR)} (hs : ∀ f, sub = some f → gP o f) : gP o (pPartW T V o sub) := by
  intro p n p2 n2 c s e hn
  unfold pPartW at e
  split at e
  · next h1 =>
    cases sub with
    | none => cases e
    | some f =>
      dsimp only at e
      cases hf : f (p + 1) n with
      | inl x => rw [hf] at e; cases e
      | inr x =>
        obtain ⟨q2, m2, c2, s2⟩ := x
        rw [hf] at e
        dsimp only at e
        split at e
        · next h2 => cases e; exact hs f rfl _ _ _ _ _ _ hf hn
        · cases e
  · split at e
    · cases e
    · split at e
      · next h3 => cases e; exact ⟨by omega, cOK.one (Or.inl ⟨rfl, hV p, h3.2⟩) rfl (fun w st r => rfl)⟩
      · split at e
        · next h4 => cases e; exact ⟨by omega, cOK.one (Or.inr (Or.inl ⟨rfl, (lwI_in _).1, by rw [h4.1, if_neg (by decide)]; exact (lwI_in _).2⟩)) rfl (fun w st r => rfl)⟩
        · split at e
          · next h5 => cases e; exact ⟨by omega, cOK.one (Or.inr (Or.inl ⟨rfl, by show 0 ≤ T p - 17; omega, by show T p - 17 < _; rw [h5.1, if_pos rfl]; omega⟩)) rfl (fun w st r => rfl)⟩
          · split at e
            · next h6 =>
              split at e
              · next h7 =>
                cases e
                have := hV (p + 1)
                exact ⟨by omega, cOK.one (Or.inr (Or.inl ⟨rfl, by show 0 ≤ (if T p = 15 then 5 else 17) + V (p + 1); split <;> omega, by show (if T p = 15 then 5 else 17) + V (p + 1) < _; rw [h6.1, if_pos rfl]; split <;> omega⟩)) rfl (fun w st r => rfl)⟩
              · cases e
            · cases e
theorem pTermL_g {T : Int → Int} {o : Bool} {part : Int → Int → PR} (hp : gP o part) : ∀ (f : Nat) (p n : Int) (c : PK) (s : PS) p2 n2 c2 s2, pTermL T part f p n c s = .inr (p2, n2, c2, s2) → ∀ n0 : Int, n0 ≤ n → n ≤ 50 → cOK o c s (n - n0) → (n ≤ n2 ∧ n2 ≤ 50) ∧ cOK o c2 s2 (n2 - n0)
  | 0, p, n, c, s, p2, n2, c2, s2, e, n0, h0, hn, hc => by cases e; exact ⟨by omega, hc⟩
  | f + 1, p, n, c, s, p2, n2, c2, s2, e, n0, h0, hn, hc => by
    unfold pTermL at e
    split at e
    · cases hq : part (p + 1) n with
      | inl x => rw [hq] at e; cases e
      | inr x =>
        obtain ⟨q2, m2, d2, t2⟩ := x
        rw [hq] at e
        have h1 := hp _ _ _ _ _ _ hq hn
        have hj := hc.join h1.2 (op := (if T p = 142 then 7 else if T p = 147 then 8 else 9)) (by split <;> (try split) <;> omega)
        rw [show n - n0 + (m2 - n) = m2 - n0 by omega] at hj
        have h2 := pTermL_g hp f _ _ _ _ _ _ _ _ e n0 (by omega) h1.1.2 hj
        exact ⟨by omega, h2.2⟩
    · cases e; exact ⟨by omega, hc⟩
theorem pTermW_g {T : Int → Int} {o : Bool} {part : Int → Int → PR} (hp : gP o part) : gP o (pTermW T part) := by
  intro p n p2 n2 c s e hn
  unfold pTermW at e
  cases hq : part p n with
  | inl x => rw [hq] at e; cases e
  | inr x =>
    obtain ⟨q2, m2, d2, t2⟩ := x
    rw [hq] at e
    have h1 := hp _ _ _ _ _ _ hq hn
    have h2 := pTermL_g hp _ _ _ _ _ _ _ _ _ e n (by omega) h1.1.2 h1.2
    exact ⟨by omega, h2.2⟩
theorem pSumL_g {T : Int → Int} {o : Bool} {part : Int → Int → PR} (hp : gP o part) : ∀ (f : Nat) (p n : Int) (c : PK) (s : PS) p2 n2 c2 s2, pSumL T part f p n c s = .inr (p2, n2, c2, s2) → ∀ n0 : Int, n0 ≤ n → n ≤ 50 → cOK o c s (n - n0) → (n ≤ n2 ∧ n2 ≤ 50) ∧ cOK o c2 s2 (n2 - n0)
  | 0, p, n, c, s, p2, n2, c2, s2, e, n0, h0, hn, hc => by cases e; exact ⟨by omega, hc⟩
  | f + 1, p, n, c, s, p2, n2, c2, s2, e, n0, h0, hn, hc => by
    unfold pSumL at e
    split at e
    · cases hq : part (p + 1) n with
      | inl x => rw [hq] at e; cases e
      | inr x =>
        obtain ⟨q2, m2, d2, t2⟩ := x
        rw [hq] at e
        have h1 := hp _ _ _ _ _ _ hq hn
        have hj := hc.join h1.2 (op := (if T p = 143 then 5 else 6)) (by split <;> (try split) <;> omega)
        rw [show n - n0 + (m2 - n) = m2 - n0 by omega] at hj
        have h2 := pSumL_g hp f _ _ _ _ _ _ _ _ e n0 (by omega) h1.1.2 hj
        exact ⟨by omega, h2.2⟩
    · cases e; exact ⟨by omega, hc⟩
theorem pSumW_g {T : Int → Int} {o : Bool} {part : Int → Int → PR} (hp : gP o part) : gP o (pSumW T part) := by
  intro p n p2 n2 c s e hn
  unfold pSumW at e
  cases hq : part p n with
  | inl x => rw [hq] at e; cases e
  | inr x =>
    obtain ⟨q2, m2, d2, t2⟩ := x
    rw [hq] at e
    have h1 := hp _ _ _ _ _ _ hq hn
    have h2 := pSumL_g hp _ _ _ _ _ _ _ _ _ e n (by omega) h1.1.2 h1.2
    exact ⟨by omega, h2.2⟩
theorem pSum_g {T V : Int → Int} {o : Bool} (hV : ∀ p, 0 ≤ V p) : ∀ k, gP o (pSum T V o k)
  | 0 => pSumW_g (pTermW_g (pPartW_g hV (fun f hf => by cases hf)))
  | k + 1 => pSumW_g (pTermW_g (pPartW_g hV (fun f hf => by cases hf; exact pSum_g hV k)))
theorem pBothL_g {T : Int → Int} {o : Bool} {part : Int → Int → PR} (hp : gT o part) : ∀ (f : Nat) (p n : Int) (c : PK) (s : PS) p2 n2 c2 s2, pBothL T part f p n c s = .inr (p2, n2, c2, s2) → ∀ n0 : Int, n0 ≤ n → n ≤ 50 → cOK o c s (n - n0) → trS s → ((n ≤ n2 ∧ n2 ≤ 50) ∧ cOK o c2 s2 (n2 - n0)) ∧ trS s2
  | 0, p, n, c, s, p2, n2, c2, s2, e, n0, h0, hn, hc, ht => by cases e; exact ⟨⟨by omega, hc⟩, ht⟩
  | f + 1, p, n, c, s, p2, n2, c2, s2, e, n0, h0, hn, hc, ht => by
    unfold pBothL at e
    split at e
    · cases hq : part (p + 1) n with
      | inl x => rw [hq] at e; cases e
      | inr x =>
        obtain ⟨q2, m2, d2, t2⟩ := x
        rw [hq] at e
        have h1 := hp.1 _ _ _ _ _ _ hq hn
        have ht1 := hp.2 _ _ _ _ _ _ hq hn
        have hj := cOK.jp (op := 4) (by decide) hc h1.2 (pand_e s t2)
        have htj := ht.jp ht1 (pand_e s t2)
        rw [show n - n0 + (m2 - n) = m2 - n0 by omega] at hj
        have h2 := pBothL_g hp f _ _ _ _ _ _ _ _ e n0 (by omega) h1.1.2 hj htj
        exact ⟨⟨by omega, h2.1.2⟩, h2.2⟩
    · cases e; exact ⟨⟨by omega, hc⟩, ht⟩
theorem pBothW_g0 {T : Int → Int} {o : Bool} {part : Int → Int → PR} (hp : gT o part) (p n p2 n2 : Int) (c : PK) (s : PS) (e : pBothW T part p n = .inr (p2, n2, c, s)) (hn : n ≤ 50) : ((n ≤ n2 ∧ n2 ≤ 50) ∧ cOK o c s (n2 - n)) ∧ trS s := by
  unfold pBothW at e
  cases hq : part p n with
  | inl x => rw [hq] at e; cases e
  | inr x =>
    obtain ⟨q2, m2, d2, t2⟩ := x
    rw [hq] at e
    have h1 := hp.1 _ _ _ _ _ _ hq hn
    have h2 := pBothL_g hp _ _ _ _ _ _ _ _ _ e n (by omega) h1.1.2 h1.2 (hp.2 _ _ _ _ _ _ hq hn)
    exact ⟨⟨by omega, h2.1.2⟩, h2.2⟩
theorem pBothW_g {T : Int → Int} {o : Bool} {part : Int → Int → PR} (hp : gT o part) : gT o (pBothW T part) := ⟨fun p n p2 n2 c s e hn => (pBothW_g0 hp p n p2 n2 c s e hn).1, fun p n p2 n2 c s e hn => (pBothW_g0 hp p n p2 n2 c s e hn).2⟩
theorem pTestL_g {T : Int → Int} {o : Bool} {part : Int → Int → PR} (hp : gT o part) : ∀ (f : Nat) (p n : Int) (c : PK) (s : PS) p2 n2 c2 s2, pTestL T part f p n c s = .inr (p2, n2, c2, s2) → ∀ n0 : Int, n0 ≤ n → n ≤ 50 → cOK o c s (n - n0) → trS s → ((n ≤ n2 ∧ n2 ≤ 50) ∧ cOK o c2 s2 (n2 - n0)) ∧ trS s2
  | 0, p, n, c, s, p2, n2, c2, s2, e, n0, h0, hn, hc, ht => by cases e; exact ⟨⟨by omega, hc⟩, ht⟩
  | f + 1, p, n, c, s, p2, n2, c2, s2, e, n0, h0, hn, hc, ht => by
    unfold pTestL at e
    split at e
    · cases hq : part (p + 1) n with
      | inl x => rw [hq] at e; cases e
      | inr x =>
        obtain ⟨q2, m2, d2, t2⟩ := x
        rw [hq] at e
        have h1 := hp.1 _ _ _ _ _ _ hq hn
        have ht1 := hp.2 _ _ _ _ _ _ hq hn
        have hj := cOK.jp (op := 3) (by decide) hc h1.2 (por_e s t2)
        have htj := ht.jp ht1 (por_e s t2)
        rw [show n - n0 + (m2 - n) = m2 - n0 by omega] at hj
        have h2 := pTestL_g hp f _ _ _ _ _ _ _ _ e n0 (by omega) h1.1.2 hj htj
        exact ⟨⟨by omega, h2.1.2⟩, h2.2⟩
    · cases e; exact ⟨⟨by omega, hc⟩, ht⟩
theorem pTestW_g0 {T : Int → Int} {o : Bool} {part : Int → Int → PR} (hp : gT o part) (p n p2 n2 : Int) (c : PK) (s : PS) (e : pTestW T part p n = .inr (p2, n2, c, s)) (hn : n ≤ 50) : ((n ≤ n2 ∧ n2 ≤ 50) ∧ cOK o c s (n2 - n)) ∧ trS s := by
  unfold pTestW at e
  cases hq : part p n with
  | inl x => rw [hq] at e; cases e
  | inr x =>
    obtain ⟨q2, m2, d2, t2⟩ := x
    rw [hq] at e
    have h1 := hp.1 _ _ _ _ _ _ hq hn
    have h2 := pTestL_g hp _ _ _ _ _ _ _ _ _ e n (by omega) h1.1.2 h1.2 (hp.2 _ _ _ _ _ _ hq hn)
    exact ⟨⟨by omega, h2.1.2⟩, h2.2⟩
theorem pTestW_g {T : Int → Int} {o : Bool} {part : Int → Int → PR} (hp : gT o part) : gT o (pTestW T part) := ⟨fun p n p2 n2 c s e hn => (pTestW_g0 hp p n p2 n2 c s e hn).1, fun p n p2 n2 c s e hn => (pTestW_g0 hp p n p2 n2 c s e hn).2⟩
theorem bi_tr (p : Prop) [Decidable p] : bi p = 0 ∨ bi p = 1 := bi_01 p
theorem pjs_tr {op : Int} (h : 10 ≤ op) (s s2 : PS) : trS (pjs op s s2) := fun w v e => by
  have e0 : pjs op s s2 w = (s w).bind fun a => (s2 w).bind fun b => pjn op a b := rfl
  rw [e0] at e
  cases h1 : s w with
  | none => rw [h1] at e; cases e
  | some a =>
    rw [h1] at e
    cases h2 : s2 w with
    | none => rw [h2] at e; cases e
    | some b =>
      rw [h2] at e
      have e : pjn op a b = some v := e
      unfold pjn at e
      rw [if_neg (by omega), if_neg (by omega), if_neg (by omega), if_neg (by omega), if_neg (by omega)] at e
      split at e
      · cases e; exact bi_01 _
      · split at e <;> (cases e; exact bi_01 _)
theorem pPosW_g0 {T : Int → Int} {o : Bool} {sub : Option (Int → Int → PR)} (hs : ∀ f, sub = some f → gT o f) {sm : Int → Int → PR} (hm : gP o sm) (p n p2 n2 : Int) (c : PK) (s : PS) (e : pPosW T sub sm p n = .inr (p2, n2, c, s)) (hn : n ≤ 50) : ((n ≤ n2 ∧ n2 ≤ 50) ∧ cOK o c s (n2 - n)) ∧ trS s := by
  unfold pPosW at e
  split at e
  · cases sub with
    | none => cases e
    | some f =>
      dsimp only at e
      cases hf : f (p + 1) n with
      | inl x => rw [hf] at e; cases e
      | inr x =>
        obtain ⟨q2, m2, c2, s2⟩ := x
        rw [hf] at e
        dsimp only at e
        split at e
        · next h2 =>
          cases e
          exact ⟨(hs f rfl).1 _ _ _ _ _ _ hf hn, (hs f rfl).2 _ _ _ _ _ _ hf hn⟩
        · cases e
  · cases hq : sm p n with
    | inl x => rw [hq] at e; cases e
    | inr x =>
      obtain ⟨q2, m2, d2, t2⟩ := x
      rw [hq] at e
      dsimp only at e
      have h1 := hm _ _ _ _ _ _ hq hn
      split at e
      · next h9 =>
        cases hq2 : sm (q2 + 1) m2 with
        | inl x => rw [hq2] at e; cases e
        | inr x =>
          obtain ⟨q3, m3, d3, t3⟩ := x
          rw [hq2] at e
          dsimp only at e
          have h2 := hm _ _ _ _ _ _ hq2 h1.1.2
          cases e
          have hj := h1.2.join h2.2 (op := (if T q2 = 160 then 10 else if T q2 = 162 then 11 else 12)) (by split <;> (try split) <;> omega)
          rw [show m2 - n + (n2 - m2) = n2 - n by omega] at hj
          exact ⟨⟨by omega, hj⟩, pjs_tr (by split <;> (try split) <;> omega) _ _⟩
      · cases e
theorem pPlainW_g0 {T : Int → Int} {o : Bool} {sub : Option (Int → Int → PR)} (hs : ∀ f, sub = some f → gT o f) {sm : Int → Int → PR} (hm : gP o sm) (p n p2 n2 : Int) (c : PK) (s : PS) (e : pPlainW T sub sm p n = .inr (p2, n2, c, s)) (hn : n ≤ 50) : ((n ≤ n2 ∧ n2 ≤ 50) ∧ cOK o c s (n2 - n)) ∧ trS s := by
  unfold pPlainW at e
  cases hq : pPosW T sub sm (pNots T 401 p false).1 n with
  | inl x => rw [hq] at e; cases e
  | inr x =>
    obtain ⟨q2, m2, d2, t2⟩ := x
    rw [hq] at e
    dsimp only at e
    have h1 := pPosW_g0 hs hm _ _ _ _ _ _ hq hn
    split at e
    · cases e
      have h2 := h1.1.2.nt h1.2
      exact ⟨⟨h1.1.1, h2.1⟩, h2.2⟩
    · cases e; exact h1
theorem pPlainW_g {T : Int → Int} {o : Bool} {sub : Option (Int → Int → PR)} (hs : ∀ f, sub = some f → gT o f) {sm : Int → Int → PR} (hm : gP o sm) : gT o (pPlainW T sub sm) := ⟨fun p n p2 n2 c s e hn => (pPlainW_g0 hs hm p n p2 n2 c s e hn).1, fun p n p2 n2 c s e hn => (pPlainW_g0 hs hm p n p2 n2 c s e hn).2⟩
theorem pTest_g {T V : Int → Int} {o : Bool} (hV : ∀ p, 0 ≤ V p) : ∀ k, gT o (pTest T V o k)
  | 0 => pTestW_g (pBothW_g (pPlainW_g (fun f hf => by cases hf) (pSum_g hV 0)))
  | k + 1 => pTestW_g (pBothW_g (pPlainW_g (fun f hf => by cases hf; exact pTest_g hV k) (pSum_g hV (k + 1))))
/-- what a piece comes to -/
def exV (w : Int → Int) (c : PK) : Int := match ex w c 0 [] with
  | some (some [v]) => v
  | _ => -2000000000
theorem cOK.val {o : Bool} {c : PK} {s : PS} {m : Int} (h : cOK o c s m) (w : Int → Int) : exV w c = brK (s w) ∧ ex w c 0 [] ≠ none := by
  have h1 := h.2.2.2 w [] []
  rw [List.append_nil] at h1
  unfold exV
  rw [h1]
  cases s w with
  | none => exact ⟨rfl, fun z => by cases z⟩
  | some v => exact ⟨rfl, fun z => by cases z⟩
