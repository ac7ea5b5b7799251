/-! ===== the class reads: clauses ===== -/
abbrev HC : Type := Int × PK × PS × PK × PS × Int
def tmH (T V : Int → Int) (h : Int) (c : PK) (s : PS) (c2 : PK) (s2 : PS) (p n : Int) : Int ⊕ (Int × Int × HC) :=
  if T p = 27 then (if T (p + 1) = 50 ∧ 1 ≤ V (p + 1) ∧ V (p + 1) ≤ 20 then .inr (p + 2, n, h, c, s, c2, s2, V (p + 1)) else .inl (p + 1)) else .inr (p, n, h, c, s, c2, s2, 1)
def hdO (T V : Int → Int) (sm : Int → Int → PR) (p n : Int) : Int ⊕ (Int × Int × HC) :=
  if T p = 22 ∨ T p = 23 then (match sm (p + 1) n with
    | .inl e => .inl e
    | .inr (p2, n2, c, s) => if T p2 = 26 then (match sm (p2 + 1) n2 with
        | .inl e => .inl e
        | .inr (p3, n3, c2, s2) => tmH T V (T p) c s c2 s2 p3 n3)
      else .inl p2)
  else if T p = 24 ∨ T p = 25 then tmH T V (T p) [] (fun _ => some 0) [] (fun _ => some 0) (p + 1) n
  else .inl p
def hdL (T : Int → Int) (sm : Int → Int → PR) (p n : Int) : Int ⊕ (Int × Int × HC) :=
  if T p = 1 ∨ T p = 2 then (match sm (p + 1) n with
    | .inl e => .inl e
    | .inr (p2, n2, c, s) => .inr (p2, n2, T p, c, s, [], (fun _ => some 0), 1))
  else if T p = 3 then .inr (p + 1, n, 3, [], (fun _ => some 1), [], (fun _ => some 0), 1)
  else .inl p
def whW (T : Int → Int) (test : Int → Int → PR) (r : Int ⊕ (Int × Int × HC)) : OCR := match r with
  | .inl e => .inl e
  | .inr (p, n, h, c, s, c2, s2, t) => pOWhen T test h c s c2 s2 t p n
def pcO (x : PC) : OC := (x.1, x.2.1, x.2.2.1, [], (fun _ => some 0), 1, x.2.2.2.1, x.2.2.2.2)
def pcM (r : PCR) : OCR := match r with
  | .inl e => .inl e
  | .inr (p, n, x) => .inr (p, n, pcO x)
theorem tmH_wh (T V : Int → Int) (test : Int → Int → PR) (h : Int) (c : PK) (s : PS) (c2 : PK) (s2 : PS) (p n : Int) : whW T test (tmH T V h c s c2 s2 p n) = pOTimes T V test h c s c2 s2 p n := by
  unfold tmH pOTimes
  by_cases z : T p = 27
  · rw [if_pos z, if_pos z]
    by_cases z2 : T (p + 1) = 50 ∧ 1 ≤ V (p + 1) ∧ V (p + 1) ≤ 20
    · rw [if_pos z2, if_pos z2]; rfl
    · rw [if_neg z2, if_neg z2]; rfl
  · rw [if_neg z, if_neg z]; rfl
theorem hdO_wh (T V : Int → Int) (sm test : Int → Int → PR) (p n : Int) : whW T test (hdO T V sm p n) = pOrder T V sm test p n := by
  unfold hdO pOrder
  by_cases z : T p = 22 ∨ T p = 23
  · rw [if_pos z, if_pos z]
    cases sm (p + 1) n with
    | inl e => rfl
    | inr x =>
      obtain ⟨p2, n2, c, s⟩ := x
      dsimp only
      by_cases z2 : T p2 = 26
      · rw [if_pos z2, if_pos z2]
        cases sm (p2 + 1) n2 with
        | inl e => rfl
        | inr y => exact tmH_wh _ _ _ _ _ _ _ _ _ _
      · rw [if_neg z2, if_neg z2]; rfl
  · rw [if_neg z, if_neg z]
    by_cases z2 : T p = 24 ∨ T p = 25
    · rw [if_pos z2, if_pos z2]; exact tmH_wh _ _ _ _ _ _ _ _ _ _
    · rw [if_neg z2, if_neg z2]; rfl
theorem pOWhen_pc (T : Int → Int) (test : Int → Int → PR) (h : Int) (c : PK) (s : PS) (p n : Int) : pOWhen T test h c s [] (fun _ => some 0) 1 p n = pcM (pWhen T test h c s p n) := by
  unfold pOWhen pWhen
  by_cases z : T p = 4
  · rw [if_pos z, if_pos z]
    cases test (p + 1) n with
    | inl e => rfl
    | inr x => rfl
  · rw [if_neg z, if_neg z]; rfl
theorem hdL_wh (T : Int → Int) (sm test : Int → Int → PR) (p n : Int) : whW T test (hdL T sm p n) = pcM (pClause T sm test p n) := by
  unfold hdL pClause
  by_cases z : T p = 1 ∨ T p = 2
  · rw [if_pos z, if_pos z]
    cases sm (p + 1) n with
    | inl e => rfl
    | inr x => exact pOWhen_pc _ _ _ _ _ _ _
  · rw [if_neg z, if_neg z]
    by_cases z2 : T p = 3
    · rw [if_pos z2, if_pos z2]; exact pOWhen_pc _ _ _ _ _ _ _
    · rw [if_neg z2, if_neg z2]; rfl
theorem rc_sum8 {sh : gS} (hx : gFix sh) {B : Int → Int} {len nt : Int} {o : Bool} (hk : pOK (tT B len) nt) (hnt : nt ≤ 400) : RcL B len o sh f_Reader_sum 35 [(2, 151), (0, 0)] (pSum (tT B len) (tW B len) o 8) := by
  have h := rc_sumK (o := o) hx hk hnt 8 (by omega)
  rwa [show 8 - ((8 : Nat) : Int) = 0 by decide] at h
theorem rc_test8 {sh : gS} (hx : gFix sh) {B : Int → Int} {len nt : Int} {o : Bool} (hk : pOK (tT B len) nt) (hnt : nt ≤ 400) : RcL B len o sh f_Reader_test 38 [(2, 151), (0, 0)] (pTest (tT B len) (tW B len) o 8) := by
  have h := rc_testK (o := o) hx hk hnt 8 (by omega)
  rwa [show 8 - ((8 : Nat) : Int) = 0 by decide] at h
/-- what reading clause i may change -/
def clG (i : Int) (g g2 : gM) : Prop := ∀ a k, ¬ (a = 151 ∧ 4 ≤ k ∧ k ≤ 8) → ¬ (a = 152 ∧ 1 ≤ k ∧ k ≤ 2) → a ≠ 156 → a ≠ 157 → ¬ (a = 153 ∧ k = i) → ¬ (a = 154 ∧ k = i) → ¬ (a = 155 ∧ 3 * i + 1 ≤ k ∧ k ≤ 3 * i + 3) → g2 a k = g a k
theorem clF.g {g g2 : gM} (h : clF g g2) (i : Int) : clG i g g2 := fun a k n m q r _ _ _ => h a k n m q r
theorem clG.tr {i : Int} {g g2 g3 : gM} (h : clG i g g2) (h2 : clG i g2 g3) : clG i g g3 := fun a k n m q r s t u => (h2 a k n m q r s t u).trans (h a k n m q r s t u)
theorem clG.fin {i : Int} {g g2 : gM} (h : clG i g g2) (hf : gFin g) : gFin g2 := hf.of fun a k z => h _ _ (fun q => z (by
  obtain rfl : a = 151 := by omega
  rcases (show k = 4 ∨ k = 5 ∨ k = 6 ∨ k = 7 ∨ k = 8 by omega) with y | y | y | y | y <;> (subst y; rfl))) (fun q => z (by
  obtain rfl : a = 152 := by omega
  rcases (show k = 1 ∨ k = 2 by omega) with y | y <;> (subst y; rfl))) (fun q => z (by
  obtain rfl : a = 156 := by omega
  rfl)) (fun q => z (by
  obtain rfl : a = 157 := by omega
  rfl)) (fun q => z (by
  obtain rfl : a = 153 := by omega
  rfl)) (fun q => z (by
  obtain rfl : a = 154 := by omega
  rfl)) (fun q => z (by
  obtain rfl : a = 155 := by omega
  rfl))
theorem clG.up (i : Int) (g : gM) {a k : Int} (v : Int) (h : (a = 153 ∧ k = i) ∨ (a = 154 ∧ k = i) ∨ (a = 155 ∧ 3 * i + 1 ≤ k ∧ k ≤ 3 * i + 3)) : clG i g (gup g a k v) := fun a2 k2 _ _ _ _ q r s => by
  by_cases z : a2 = a
  · subst z; exact gup_k _ _ _ _ (by omega)
  · exact gup_a _ _ _ _ _ z
/-- within clause i: its code so far, what was written of it -/
def ckI (B : Int → Int) (len : Int) (o : Bool) (i : Int) (g : gM) (Lc : Int) (c : PK) (p n w1 w2 w3 w4 w5 : Int) (g1 : gM) : Prop := clG i g g1 ∧ cS B len 0 p n (Lc + c.length) g1 ∧ cdL (g1 156) (g1 157) Lc c ∧ (∀ j, j < Lc → g1 156 j = g 156 j ∧ g1 157 j = g 157 j) ∧ g1 152 2 = lbV o (g 152 2) c ∧ (g1 153 i = w1 ∧ g1 154 i = w2 ∧ g1 155 (i * 3 + 0 + 1) = w3 ∧ g1 155 (i * 3 + 1 + 1) = w4 ∧ g1 155 (i * 3 + 2 + 1) = w5)
section CK
variable {B : Int → Int} {len : Int} {o : Bool} {i : Int} {g : gM} {Lc : Int} {c : PK} {p n w1 w2 w3 w4 w5 : Int} {g1 : gM}
theorem ckI.rf (hS : cS B len 0 p n Lc g) (hl : g 152 2 = 0 ∨ g 152 2 = 1) : ckI B len o i g Lc [] p n (g 153 i) (g 154 i) (g 155 (i * 3 + 0 + 1)) (g 155 (i * 3 + 1 + 1)) (g 155 (i * 3 + 2 + 1)) g :=
  ⟨(clF.rf g).g i, by rw [show Lc + (([] : PK).length : Int) = Lc from Int.add_zero _]; exact hS, trivial, fun _ _ => ⟨rfl, rfl⟩, (lbV_no _ hl rfl).symm, rfl, rfl, rfl, rfl, rfl⟩
theorem ckI.rc (h : ckI B len o i g Lc c p n w1 w2 w3 w4 w5 g1) {g2 : gM} (hF : rcF g1 g2) {p2 : Int} (hP : rcP B len p2 g2) (hp : p ≤ p2) : ckI B len o i g Lc c p2 n w1 w2 w3 w4 w5 g2 := by
  obtain ⟨h1, ⟨b1, b2, b3, b4, b5, b6, b7⟩, h3, h4, h5, q1, q2, q3, q4, q5⟩ := h
  have e156 : g2 156 = g1 156 := funext fun k => hF _ _ (by omega)
  have e157 : g2 157 = g1 157 := funext fun k => hF _ _ (by omega)
  exact ⟨h1.tr (hF.cl.g i), ⟨b1.f hF, hP, (hF _ _ (by omega)).trans b3, (hF _ _ (by omega)).trans b4, by omega, b6, by omega⟩, by rw [e156, e157]; exact h3, by rw [e156, e157]; exact h4, (hF _ _ (by omega)).trans h5, (hF _ _ (by omega)).trans q1, (hF _ _ (by omega)).trans q2, (hF _ _ (by omega)).trans q3, (hF _ _ (by omega)).trans q4, (hF _ _ (by omega)).trans q5⟩
theorem ckI.app (h : ckI B len o i g Lc c p n w1 w2 w3 w4 w5 g1) {gb : gM} {p3 n3 : Int} {c3 : PK} (hF : clF g1 gb) (hS : cS B len 0 p3 n3 (Lc + c.length + c3.length) gb) (hc : cdL (gb 156) (gb 157) (Lc + c.length) c3) (hp : ∀ j, j < Lc + c.length → gb 156 j = g1 156 j ∧ gb 157 j = g1 157 j) (hl : gb 152 2 = lbV o (g1 152 2) c3) : ckI B len o i g Lc (c ++ c3) p3 n3 w1 w2 w3 w4 w5 gb := by
  obtain ⟨h1, h2, h3, h4, h5, q1, q2, q3, q4, q5⟩ := h
  refine ⟨h1.tr (hF.g i), by rw [List.length_append, show Lc + ((c.length + c3.length : Nat) : Int) = Lc + c.length + c3.length by omega]; exact hS, (cdL_app c c3 Lc).mpr ⟨cdL_ext c Lc (fun j a b => hp j (by omega)) h3, hc⟩, fun j hj => ?_, by rw [hl, h5, lbV_app], (hF _ _ (by omega) (by omega) (by decide) (by decide)).trans q1, (hF _ _ (by omega) (by omega) (by decide) (by decide)).trans q2, (hF _ _ (by omega) (by omega) (by decide) (by decide)).trans q3, (hF _ _ (by omega) (by omega) (by decide) (by decide)).trans q4, (hF _ _ (by omega) (by omega) (by decide) (by decide)).trans q5⟩
  have q := hp j (by have := h2.2.2.2.2.2; omega)
  rw [q.1, q.2]; exact h4 j hj
theorem cS.up {K : Int} (h : cS B len K p n Lc g1) {a k v : Int} (ha : a = 153 ∨ a = 154 ∨ a = 155) : cS B len K p n Lc (gup g1 a k v) := by
  obtain ⟨b1, b2, b3, b4, b5⟩ := h
  have e151 : gup g1 a k v 151 = g1 151 := gup_fn _ _ _ _ (by omega)
  have e152 : gup g1 a k v 152 = g1 152 := gup_fn _ _ _ _ (by omega)
  have e158 : gup g1 a k v 158 = g1 158 := gup_fn _ _ _ _ (by omega)
  exact ⟨b1.of (by rw [e151]) e158, b2.of (fun k _ _ => by rw [e151]), by rw [e151]; exact b3, by rw [e152]; exact b4, b5⟩
theorem ckI.u3 (h : ckI B len o i g Lc c p n w1 w2 w3 w4 w5 g1) (v : Int) : ckI B len o i g Lc c p n v w2 w3 w4 w5 (gup g1 153 i v) := by
  obtain ⟨h1, h2, h3, h4, h5, q1, q2, q3, q4, q5⟩ := h
  have e152 : gup g1 153 i v 152 = g1 152 := gup_fn _ _ _ _ (by decide)
  have e154 : gup g1 153 i v 154 = g1 154 := gup_fn _ _ _ _ (by decide)
  have e155 : gup g1 153 i v 155 = g1 155 := gup_fn _ _ _ _ (by decide)
  have e156 : gup g1 153 i v 156 = g1 156 := gup_fn _ _ _ _ (by decide)
  have e157 : gup g1 153 i v 157 = g1 157 := gup_fn _ _ _ _ (by decide)
  exact ⟨h1.tr (clG.up i g1 v (Or.inl ⟨rfl, rfl⟩)), h2.up (Or.inl rfl), by rw [e156, e157]; exact h3, by rw [e156, e157]; exact h4, by rw [e152]; exact h5, gup_s _ _ _ _, by rw [e154]; exact q2, by rw [e155]; exact q3, by rw [e155]; exact q4, by rw [e155]; exact q5⟩
theorem ckI.u4 (h : ckI B len o i g Lc c p n w1 w2 w3 w4 w5 g1) (v : Int) : ckI B len o i g Lc c p n w1 v w3 w4 w5 (gup g1 154 i v) := by
  obtain ⟨h1, h2, h3, h4, h5, q1, q2, q3, q4, q5⟩ := h
  have e152 : gup g1 154 i v 152 = g1 152 := gup_fn _ _ _ _ (by decide)
  have e154 : gup g1 154 i v 153 = g1 153 := gup_fn _ _ _ _ (by decide)
  have e155 : gup g1 154 i v 155 = g1 155 := gup_fn _ _ _ _ (by decide)
  have e156 : gup g1 154 i v 156 = g1 156 := gup_fn _ _ _ _ (by decide)
  have e157 : gup g1 154 i v 157 = g1 157 := gup_fn _ _ _ _ (by decide)
  exact ⟨h1.tr (clG.up i g1 v (Or.inr (Or.inl ⟨rfl, rfl⟩))), h2.up (Or.inr (Or.inl rfl)), by rw [e156, e157]; exact h3, by rw [e156, e157]; exact h4, by rw [e152]; exact h5, by rw [e154]; exact q1, gup_s _ _ _ _, by rw [e155]; exact q3, by rw [e155]; exact q4, by rw [e155]; exact q5⟩
theorem ckI.e {k : Int} (h : ckI B len o i g Lc c p n w1 w2 w3 w4 w5 g1) (hk : 0 ≤ k ∧ k ≤ 2) : ckI B len o i g Lc c p n w1 w2 (if k = 0 then Lc + c.length else w3) (if k = 1 then Lc + c.length else w4) (if k = 2 then Lc + c.length else w5) (gup g1 155 (i * 3 + k + 1) (g1 152 1)) := by
  obtain ⟨h1, h2, h3, h4, h5, q1, q2, q3, q4, q5⟩ := h
  have hv := h2.2.2.2.1
  rw [hv]
  have e152 : gup g1 155 (i * 3 + k + 1) (Lc + c.length) 152 = g1 152 := gup_fn _ _ _ _ (by decide)
  have e153 : gup g1 155 (i * 3 + k + 1) (Lc + c.length) 153 = g1 153 := gup_fn _ _ _ _ (by decide)
  have e154 : gup g1 155 (i * 3 + k + 1) (Lc + c.length) 154 = g1 154 := gup_fn _ _ _ _ (by decide)
  have e156 : gup g1 155 (i * 3 + k + 1) (Lc + c.length) 156 = g1 156 := gup_fn _ _ _ _ (by decide)
  have e157 : gup g1 155 (i * 3 + k + 1) (Lc + c.length) 157 = g1 157 := gup_fn _ _ _ _ (by decide)
  refine ⟨h1.tr (clG.up i g1 _ (Or.inr (Or.inr ⟨rfl, by omega, by omega⟩))), h2.up (Or.inr (Or.inr rfl)), by rw [e156, e157]; exact h3, by rw [e156, e157]; exact h4, by rw [e152]; exact h5, by rw [e153]; exact q1, by rw [e154]; exact q2, ?_, ?_, ?_⟩
  · by_cases z : k = 0
    · subst z; rw [if_pos rfl]; exact gup_s _ _ _ _
    · rw [if_neg z, gup_k _ _ _ _ (by omega)]; exact q3
  · by_cases z : k = 1
    · subst z; rw [if_pos rfl]; exact gup_s _ _ _ _
    · rw [if_neg z, gup_k _ _ _ _ (by omega)]; exact q4
  · by_cases z : k = 2
    · subst z; rw [if_pos rfl]; exact gup_s _ _ _ _
    · rw [if_neg z, gup_k _ _ _ _ (by omega)]; exact q5
theorem ckI.e0 (h : ckI B len o i g Lc c p n w1 w2 w3 w4 w5 g1) : ckI B len o i g Lc c p n w1 w2 (Lc + c.length) w4 w5 (gup g1 155 (i * 3 + 0 + 1) (g1 152 1)) := h.e (k := 0) (by decide)
theorem ckI.e1 (h : ckI B len o i g Lc c p n w1 w2 w3 w4 w5 g1) : ckI B len o i g Lc c p n w1 w2 w3 (Lc + c.length) w5 (gup g1 155 (i * 3 + 1 + 1) (g1 152 1)) := h.e (k := 1) (by decide)
theorem ckI.e2 (h : ckI B len o i g Lc c p n w1 w2 w3 w4 w5 g1) : ckI B len o i g Lc c p n w1 w2 w3 w4 (Lc + c.length) (gup g1 155 (i * 3 + 2 + 1) (g1 152 1)) := h.e (k := 2) (by decide)
end CK
/-- a clause's head was read, or where not -/
def hdQ (B : Int → Int) (len : Int) (o : Bool) (i : Int) (g : gM) (Lc : Int) (r : Int ⊕ (Int × Int × HC)) (x : Option gV) (g2 : gM) : Prop := ∃ v, x = some (0, v) ∧ (v = 0 ∨ v = 1) ∧ clG i g g2 ∧ ((v = 0 ∧ ∃ e, r = .inl e ∧ rcP B len e g2 ∧ 0 ≤ e) ∨ (v = 1 ∧ ∃ p2 n2 h c s c2 s2 t w5, r = .inr (p2, n2, h, c, s, c2, s2, t) ∧ ckI B len o i g Lc (c ++ c2) p2 n2 (h - (if o = true then 22 else 1)) t (Lc + c.length) (Lc + (c ++ c2).length) w5 g2))
def tmQ (B : Int → Int) (len : Int) (o : Bool) (i : Int) (g : gM) (Lc : Int) (c : PK) (p n w1 w2 w3 w4 w5 : Int) (x : Option gV) (g2 : gM) : Prop := ∃ v, x = some (0, v) ∧ (v = 0 ∨ v = 1) ∧ clG i g g2 ∧ ((v = 0 ∧ tT B len p = 27 ∧ ¬ (tT B len (p + 1) = 50 ∧ 1 ≤ tW B len (p + 1) ∧ tW B len (p + 1) ≤ 20) ∧ rcP B len (p + 1) g2) ∨ (v = 1 ∧ ∃ p2 t, ((tT B len p = 27 ∧ (tT B len (p + 1) = 50 ∧ 1 ≤ tW B len (p + 1) ∧ tW B len (p + 1) ≤ 20) ∧ p2 = p + 2 ∧ t = tW B len (p + 1)) ∨ (¬ tT B len p = 27 ∧ p2 = p ∧ t = w2)) ∧ ckI B len o i g Lc c p2 n w1 t w3 w4 w5 g2))
def cnQ (B : Int → Int) (len : Int) (o : Bool) (i : Int) (g : gM) (Lc : Int) (c : PK) (r : PR) (p n w1 w2 w3 w4 : Int) (x : Option gV) (g2 : gM) : Prop := ∃ v, x = some (0, v) ∧ (v = 0 ∨ v = 1) ∧ clG i g g2 ∧ ((v = 0 ∧ tT B len p = 4 ∧ ∃ e, r = .inl e ∧ rcP B len e g2 ∧ 0 ≤ e) ∨ (v = 1 ∧ ∃ p2 n2 k s, ((tT B len p = 4 ∧ r = .inr (p2, n2, k, s)) ∨ (¬ tT B len p = 4 ∧ p2 = p ∧ n2 = n ∧ k = [])) ∧ ckI B len o i g Lc (c ++ k) p2 n2 w1 w2 w3 w4 (Lc + (c ++ k).length) g2))
theorem ck_val {B : Int → Int} {len p : Int} {g : gM} (hB : rcB B len g) (hp : 0 ≤ p) (hP : rcP B len p g) : (0 ≤ g 151 4 ∧ g 151 4 ≤ 3) ∧ (-2 ≤ g 151 7 ∧ g 151 7 ≤ 2000) ∧ (g 151 4 = 2 ↔ tT B len p = 50) ∧ (g 151 4 = 0 ↔ ¬ tP B len p.toNat < len) ∧ (tT B len p = 50 → (g 151 7 < 1 ↔ tW B len p < 1) ∧ (g 151 7 ≤ 20 ↔ tW B len p ≤ 20) ∧ (tW B len p ≤ 20 → g 151 7 = tW B len p)) := by
  have hkd := kd_of B len p hp hB.2.2.2 hB.1
  obtain ⟨h5, h6, h4, hv2, hv3, hvb⟩ := hP
  rw [h4]
  rcases hkd with ⟨a, b, d⟩ | ⟨a, b, d, e⟩ | ⟨a, b, d⟩ | ⟨a, b, d, e⟩
  · exact ⟨by omega, hvb, by omega, by omega, fun q => by omega⟩
  · exact ⟨by omega, hvb, by omega, by omega, fun q => by omega⟩
  · have hv := hv2 a
    have hw := tW_at B len p hp b
    refine ⟨by omega, hvb, by omega, by omega, fun q => ?_⟩
    rw [hv, hw]
    unfold mv1
    split <;> omega
  · exact ⟨by omega, hvb, by omega, by omega, fun q => by omega⟩
set_option maxHeartbeats 4000000 in
theorem ck_howOften {sh : gS} (hx : gFix sh) {B : Int → Int} {len : Int} {o : Bool} {i : Int} (hi : 0 ≤ i ∧ i < 12) {g : gM} (hf0 : gFin g) {Lc : Int} {c : PK} {p n w1 w2 w3 w4 w5 : Int} {g1 : gM} (hI : ckI B len o i g Lc c p n w1 w2 w3 w4 w5 g1) {D : Nat} (hD : 9 ≤ D) : gTri f_Reader_howOften D 0 0 [(2, 151), (0, i)] sh g1 (fun x s2 g2 => s2 = sh ∧ tmQ B len o i g Lc c p n w1 w2 w3 w4 w5 x g2) := by
  have hf := hI.1.fin hf0
  have hB1 := hI.2.1.1
  have hP1 := hI.2.1.2.1
  have hp := hI.2.1.2.2.2.2.1.1
  refine gTri.of (by decide +kernel) rfl ?_
  show gWP f_Reader_howOften _ _ _ 0 [(2, 151), (0, i)] [] sh g1 _
  refine gw_aload_n (gc k_Reader_howOften_0 0 rfl) rfl rfl ?_
  refine gw_ldcS (k := 22) (gc k_Reader_howOften_0 1 rfl) rfl rfl ?_
  refine gw_xV1 (gc k_Reader_howOften_0 2 rfl) y_Reader_takeWord ln_Reader_115 (c_Reader_takeWord hx hf hB1 p (by omega) hP1 22 (by decide)) rfl rfl (gAt hx rfl rfl) rfl (gble (by omega)) (fun r3 sh2 g3 hq3 => ?_)
  rw [show wc 22 = 27 from rfl] at hq3
  obtain ⟨rfl, rfl, hF3, hP3⟩ := hq3
  have hf := hF3.fin hf
  refine gw_bne (tgt := 11) (gc k_Reader_howOften_0 3 rfl) rfl (fun c6 => ?_) (fun c6 => ?_)
  · rw [if_pos c6] at hP3
    have hI3 := hI.rc hF3 hP3 (by omega)
    obtain ⟨k1, k2, k3, k4, k5⟩ := ck_val hI3.2.1.1 (by omega) hI3.2.1.2.1
    refine gw_aload_n (gc k_Reader_howOften_0 6 rfl) rfl rfl ?_
    refine gw_getf 4 rfl (gc k_Reader_howOften_0 7 rfl) fl_Reader_75 (gAt hx rfl rfl) ?_
    refine gw_iconst (gc k_Reader_howOften_0 8 rfl) ?_
    refine gw_icmp_ne (tgt := 36) (gc k_Reader_howOften_0 9 rfl) rfl (by omega) (fun c16 => ?_) (fun c16 => ?_)
    · refine gw_iconst (gc k_Reader_howOften_0 18 rfl) ?_
      refine gw_zreturn (gc k_Reader_howOften_0 19 rfl) rfl (by omega) ?_
      exact ⟨rfl, 0, rfl, Or.inl rfl, hI3.1, Or.inl ⟨rfl, c6, fun q => by first | exact c16 (k3.mpr q.1) | omega, hI3.2.1.2.1⟩⟩
    · refine gw_aload_n (gc k_Reader_howOften_0 10 rfl) rfl rfl ?_
      have k5 := k5 (k3.mp (by omega))
      refine gw_getf 7 rfl (gc k_Reader_howOften_0 11 rfl) fl_Reader_82 (gAt hx rfl rfl) ?_
      refine gw_iconst (gc k_Reader_howOften_0 12 rfl) ?_
      refine gw_icmp_lt (tgt := 36) (gc k_Reader_howOften_0 13 rfl) rfl (by omega) (fun c24 => ?_) (fun c24 => ?_)
      · refine gw_iconst (gc k_Reader_howOften_0 18 rfl) ?_
        refine gw_zreturn (gc k_Reader_howOften_0 19 rfl) rfl (by omega) ?_
        exact ⟨rfl, 0, rfl, Or.inl rfl, hI3.1, Or.inl ⟨rfl, c6, fun q => by first | exact c16 (k3.mpr q.1) | omega, hI3.2.1.2.1⟩⟩
      · refine gw_aload_n (gc k_Reader_howOften_0 14 rfl) rfl rfl ?_
        refine gw_getf 7 rfl (gc k_Reader_howOften_0 15 rfl) fl_Reader_82 (gAt hx rfl rfl) ?_
        refine gw_bipush (gc k_Reader_howOften_0 16 rfl) (by decide) ?_
        refine gw_icmp_le (tgt := 38) (gc k_Reader_howOften_0 17 rfl) rfl (by omega) (fun c33 => ?_) (fun c33 => ?_)
        · have k6 := k5.2.2 (by omega)
          have hI5 := hI3.u4 (g3 151 7)
          have hf5 := hI5.1.fin hf0
          refine gw_aload_n (gc k_Reader_howOften_0 20 rfl) rfl rfl ?_
          refine gw_getref (gc k_Reader_howOften_0 21 rfl) fl_Reader_12 (gAt hx rfl rfl) (gRf hf rfl rfl) ?_
          refine gw_getref (gc k_Reader_howOften_0 22 rfl) fl_Reader_59 (gAt hx rfl rfl) (gRf hf rfl rfl) ?_
          refine gw_iload_n (gc k_Reader_howOften_0 23 rfl) rfl ?_
          refine gw_aload_n (gc k_Reader_howOften_0 24 rfl) rfl rfl ?_
          refine gw_getf 7 rfl (gc k_Reader_howOften_0 25 rfl) fl_Reader_82 (gAt hx rfl rfl) ?_
          refine gw_iastF (gc k_Reader_howOften_0 26 rfl) (gAt hx rfl rfl) (by omega) hf rfl (fun hf => ?_)
          refine gw_aload_n (gc k_Reader_howOften_0 27 rfl) rfl rfl ?_
          refine gw_xV1 (gc k_Reader_howOften_0 28 rfl) y_Reader_advance ln_Reader_56 (c_advP hx hf5 hI5.2.1.1 (p + 1) (by omega) hI5.2.1.2.1) rfl rfl (gAt hx rfl rfl) rfl (gble (by omega)) (fun r52 sh2 g52 hq52 => ?_)
          obtain ⟨rfl, rfl, hF6, hP6⟩ := hq52
          have hf := hF6.fin hf5
          refine gw_iconst (gc k_Reader_howOften_0 29 rfl) ?_
          refine gw_zreturn (gc k_Reader_howOften_0 30 rfl) rfl (by omega) ?_
          have hI6 := hI5.rc hF6 hP6 (by omega)
          rw [k6, show p + 1 + 1 = p + 2 by omega] at hI6
          exact ⟨rfl, 1, rfl, Or.inr rfl, hI6.1, Or.inr ⟨rfl, p + 2, _, Or.inl ⟨c6, ⟨k3.mp (by omega), by omega, by omega⟩, rfl, rfl⟩, hI6⟩⟩
        · refine gw_iconst (gc k_Reader_howOften_0 18 rfl) ?_
          refine gw_zreturn (gc k_Reader_howOften_0 19 rfl) rfl (by omega) ?_
          exact ⟨rfl, 0, rfl, Or.inl rfl, hI3.1, Or.inl ⟨rfl, c6, fun q => by first | exact c16 (k3.mpr q.1) | omega, hI3.2.1.2.1⟩⟩
  · refine gw_iconst (gc k_Reader_howOften_0 4 rfl) ?_
    refine gw_zreturn (gc k_Reader_howOften_0 5 rfl) rfl (by omega) ?_
    rw [if_neg c6] at hP3
    have hI3 := hI.rc hF3 hP3 (by omega)
    exact ⟨rfl, 1, rfl, Or.inr rfl, hI3.1, Or.inr ⟨rfl, p, w2, Or.inr ⟨c6, rfl, rfl⟩, hI3⟩⟩
set_option maxHeartbeats 4000000 in
theorem ck_condition {sh : gS} (hx : gFix sh) {B : Int → Int} {len : Int} {o : Bool} {i : Int} (hi : 0 ≤ i ∧ i < 12) {g : gM} (hf0 : gFin g) {Lc : Int} {c : PK} {p n w1 w2 w3 w4 w5 : Int} {g1 : gM} (hI : ckI B len o i g Lc c p n w1 w2 w3 w4 w5 g1) (h3 : g 151 3 = (if o = true then 0 else 1)) {D D2 : Nat} (hD : 9 ≤ D) (hD2 : D2 + 1 ≤ D) {test : Int → Int → PR} (hS : RcL B len o sh f_Reader_test D2 [(2, 151), (0, 0)] test) : gTri f_Reader_condition D 0 0 [(2, 151), (0, i)] sh g1 (fun x s2 g2 => s2 = sh ∧ cnQ B len o i g Lc c (test (p + 1) n) p n w1 w2 w3 w4 x g2) := by
  have hf := hI.1.fin hf0
  have hB1 := hI.2.1.1
  have hP1 := hI.2.1.2.1
  have hp := hI.2.1.2.2.2.2.1.1
  refine gTri.of (by decide +kernel) rfl ?_
  show gWP f_Reader_condition _ _ _ 0 [(2, 151), (0, i)] [] sh g1 _
  refine gw_aload_n (gc k_Reader_condition_0 0 rfl) rfl rfl ?_
  refine gw_ldcS (k := 23) (gc k_Reader_condition_0 1 rfl) rfl rfl ?_
  refine gw_xV1 (gc k_Reader_condition_0 2 rfl) y_Reader_takeWord ln_Reader_115 (c_Reader_takeWord hx hf hB1 p (by omega) hP1 23 (by decide)) rfl rfl (gAt hx rfl rfl) rfl (gble (by omega)) (fun r3 sh2 g3 hq3 => ?_)
  rw [show wc 23 = 4 from rfl] at hq3
  obtain ⟨rfl, rfl, hF3, hP3⟩ := hq3
  have hf := hF3.fin hf
  refine gw_beq (tgt := 19) (gc k_Reader_condition_0 3 rfl) rfl (fun c6 => ?_) (fun c6 => ?_)
  · rw [if_neg c6] at hP3
    have hI4 := (hI.rc hF3 hP3 (by omega)).e2
    have hr : (tT B len p = 4 ∧ test (p + 1) n = .inr (p, n, [], fun _ => none)) ∨ (¬ tT B len p = 4 ∧ p = p ∧ n = n ∧ ([] : PK) = []) := Or.inr ⟨c6, rfl, rfl, rfl⟩
    refine gw_aload_n (gc k_Reader_condition_0 10 rfl) rfl rfl ?_
    refine gw_iload_n (gc k_Reader_condition_0 11 rfl) rfl ?_
    refine gw_iconst (gc k_Reader_condition_0 12 rfl) ?_
    refine gw_cV0 (gc k_Reader_condition_0 13 rfl) y_Reader_endPiece ln_Reader_128 (c_Reader_endPiece hx hf i 2 (by omega) (by omega)) rfl rfl (gAt hx rfl rfl) rfl (gble (by omega)) ?_
    refine gw_iconst (gc k_Reader_condition_0 14 rfl) ?_
    refine gw_zreturn (gc k_Reader_condition_0 15 rfl) rfl (by omega) ?_
    exact ⟨rfl, 1, rfl, Or.inr rfl, hI4.1, Or.inr ⟨rfl, p, n, [], fun _ => none, hr, by rw [List.append_nil]; exact hI4⟩⟩
  · rw [if_pos c6] at hP3
    have hI3 := hI.rc hF3 hP3 (by omega)
    refine gw_aload_n (gc k_Reader_condition_0 4 rfl) rfl rfl ?_
    refine gw_iconst (gc k_Reader_condition_0 5 rfl) ?_
    refine gw_xV1 (gc k_Reader_condition_0 6 rfl) y_Reader_test ln_Reader_148 (hS g3 (p + 1) n (Lc + c.length) 0 hf ((hI3.1 _ _ (by omega) (by omega) (by decide) (by decide) (by omega) (by omega) (by omega)).trans h3) hI3.2.1 (by rw [hI3.2.2.2.2.1]; exact lbV_01 _ _ _)) rfl rfl (gAt hx rfl rfl) rfl (gble (by omega)) (fun r11 sh2 g11 hq11 => ?_)
    obtain ⟨rfl, hQ⟩ := hq11
    obtain ⟨v, rfl, hv01, hcl, hQv⟩ := hQ.v
    clear hQ
    have hf := hcl.fin hf
    refine gw_if_ne (tgt := 19) (gc k_Reader_condition_0 7 rfl) rfl (by omega) (fun c14 => ?_) (fun c14 => ?_)
    · obtain ⟨p2, n2, k, s, hr, hcS2, hcd, hpre, hlbv⟩ := orL hQv c14
      clear hQv
      have hI4 := (hI3.app hcl hcS2 hcd hpre hlbv).e2
      refine gw_aload_n (gc k_Reader_condition_0 10 rfl) rfl rfl ?_
      refine gw_iload_n (gc k_Reader_condition_0 11 rfl) rfl ?_
      refine gw_iconst (gc k_Reader_condition_0 12 rfl) ?_
      refine gw_cV0 (gc k_Reader_condition_0 13 rfl) y_Reader_endPiece ln_Reader_128 (c_Reader_endPiece hx hf i 2 (by omega) (by omega)) rfl rfl (gAt hx rfl rfl) rfl (gble (by omega)) ?_
      refine gw_iconst (gc k_Reader_condition_0 14 rfl) ?_
      refine gw_zreturn (gc k_Reader_condition_0 15 rfl) rfl (by omega) ?_
      exact ⟨rfl, 1, rfl, Or.inr rfl, hI4.1, Or.inr ⟨rfl, p2, n2, k, s, Or.inl ⟨c6, hr⟩, hI4⟩⟩
    · refine gw_iconst (gc k_Reader_condition_0 8 rfl) ?_
      refine gw_zreturn (gc k_Reader_condition_0 9 rfl) rfl (by omega) ?_
      obtain ⟨e, hr, hPe, he0⟩ := orR hQv c14
      exact ⟨rfl, 0, rfl, Or.inl rfl, hI3.1.tr (hcl.g i), Or.inl ⟨rfl, c6, e, hr, hPe, he0⟩⟩
set_option maxHeartbeats 8000000 in
theorem ck_lawClause {sh : gS} (hx : gFix sh) {B : Int → Int} {len nt : Int} (hk : pOK (tT B len) nt) (hnt : nt ≤ 400) {i : Int} (hi : 0 ≤ i ∧ i < 12) {g : gM} (hf0 : gFin g) {Lc p n : Int} (h3 : g 151 3 = 1) (hcS : cS B len 0 p n Lc g) (hlb : g 152 2 = 0 ∨ g 152 2 = 1) (h4 : g 154 i = 1) {D D2 : Nat} (hD : 10 ≤ D) (hD2 : D2 + 1 ≤ D) {sm : Int → Int → PR} (hS : RcL B len false sh f_Reader_sum D2 [(2, 151), (0, 0)] sm) : gTri f_Reader_lawClause D 0 0 [(2, 151), (0, i)] sh g (fun x s2 g2 => s2 = sh ∧ hdQ B len false i g Lc (hdL (tT B len) sm p n) x g2) := by
  have hI0 := ckI.rf (B := B) (len := len) (o := false) (i := i) hcS hlb
  rw [h4] at hI0
  have hf := hf0
  have hp := hcS.2.2.2.2.1.1
  have hB1 := hcS.1
  have hP1 := hcS.2.1
  refine gTri.of (by decide +kernel) rfl ?_
  show gWP f_Reader_lawClause _ _ _ 0 [(2, 151), (0, i)] [] sh g _
  refine gw_aload_n (gc k_Reader_lawClause_0 0 rfl) rfl rfl ?_
  refine gw_ldcS (k := 0) (gc k_Reader_lawClause_0 1 rfl) rfl rfl ?_
  refine gw_xV1 (gc k_Reader_lawClause_0 2 rfl) y_Reader_takeWord ln_Reader_115 (c_Reader_takeWord hx hf hB1 p (by omega) hP1 0 (by decide)) rfl rfl (gAt hx rfl rfl) rfl (gble (by omega)) (fun r3 sh2 g3 hq3 => ?_)
  rw [show wc 0 = 3 from rfl] at hq3
  obtain ⟨rfl, rfl, hF3, hP3⟩ := hq3
  have hf := hF3.fin hf
  refine gw_beq (tgt := 22) (gc k_Reader_lawClause_0 3 rfl) rfl (fun c6 => ?_) (fun c6 => ?_)
  · rw [if_neg c6] at hP3
    have hI1 := hI0.rc hF3 hP3 (by omega)
    refine gw_aload_n (gc k_Reader_lawClause_0 11 rfl) rfl rfl ?_
    refine gw_ldcS (k := 1) (gc k_Reader_lawClause_0 12 rfl) rfl rfl ?_
    refine gw_xV1 (gc k_Reader_lawClause_0 13 rfl) y_Reader_takeWord ln_Reader_115 (c_Reader_takeWord hx hf hI1.2.1.1 p (by omega) hI1.2.1.2.1 1 (by decide)) rfl rfl (gAt hx rfl rfl) rfl (gble (by omega)) (fun r25 sh2 g25 hq25 => ?_)
    rw [show wc 1 = 1 from rfl] at hq25
    obtain ⟨rfl, rfl, hF25, hP25⟩ := hq25
    have hf := hF25.fin hf
    refine gw_beq (tgt := 44) (gc k_Reader_lawClause_0 14 rfl) rfl (fun c28 => ?_) (fun c28 => ?_)
    · rw [if_neg c28] at hP25
      have hI2 := hI1.rc hF25 hP25 (by omega)
      refine gw_aload_n (gc k_Reader_lawClause_0 22 rfl) rfl rfl ?_
      refine gw_ldcS (k := 2) (gc k_Reader_lawClause_0 23 rfl) rfl rfl ?_
      refine gw_xV1 (gc k_Reader_lawClause_0 24 rfl) y_Reader_takeWord ln_Reader_115 (c_Reader_takeWord hx hf hI2.2.1.1 p (by omega) hI2.2.1.2.1 2 (by decide)) rfl rfl (gAt hx rfl rfl) rfl (gble (by omega)) (fun r47 sh2 g47 hq47 => ?_)
      rw [show wc 2 = 2 from rfl] at hq47
      obtain ⟨rfl, rfl, hF47, hP47⟩ := hq47
      have hf := hF47.fin hf
      refine gw_beq (tgt := 66) (gc k_Reader_lawClause_0 25 rfl) rfl (fun c50 => ?_) (fun c50 => ?_)
      · refine gw_iconst (gc k_Reader_lawClause_0 33 rfl) ?_
        refine gw_zreturn (gc k_Reader_lawClause_0 34 rfl) rfl (by omega) ?_
        rw [if_neg c50] at hP47
        have hI3 := hI2.rc hF47 hP47 (by omega)
        exact ⟨rfl, 0, rfl, Or.inl rfl, hI3.1, Or.inl ⟨rfl, p, by unfold hdL; rw [if_neg (by omega), if_neg c6], hP47, hp⟩⟩
      · rw [if_pos c50] at hP47
        have hI5 := (hI2.rc hF47 hP47 (by omega)).u3 1
        refine gw_aload_n (gc k_Reader_lawClause_0 26 rfl) rfl rfl ?_
        refine gw_getref (gc k_Reader_lawClause_0 27 rfl) fl_Reader_12 (gAt hx rfl rfl) (gRf hf rfl rfl) ?_
        refine gw_getref (gc k_Reader_lawClause_0 28 rfl) fl_Reader_118 (gAt hx rfl rfl) (gRf hf rfl rfl) ?_
        refine gw_iload_n (gc k_Reader_lawClause_0 29 rfl) rfl ?_
        refine gw_iconst (gc k_Reader_lawClause_0 30 rfl) ?_
        refine gw_iastF (gc k_Reader_lawClause_0 31 rfl) (gAt hx rfl rfl) (by omega) hf rfl (fun hf => ?_)
        refine gw_goto (tgt := 68) (gc k_Reader_lawClause_0 32 rfl) rfl ?_
        have hf := hI5.1.fin hf0
        refine gw_aload_n (gc k_Reader_lawClause_0 35 rfl) rfl rfl ?_
        refine gw_iconst (gc k_Reader_lawClause_0 36 rfl) ?_
        refine gw_xV1 (gc k_Reader_lawClause_0 37 rfl) y_Reader_sum ln_Reader_125 (hS _ (p + 1) n (Lc + ([] : PK).length) 0 hf (((hI5).1 _ _ (by omega) (by omega) (by decide) (by decide) (by omega) (by omega) (by omega)).trans h3) (hI5).2.1 (by rw [(hI5).2.2.2.2.1]; exact lbV_01 _ _ _)) rfl rfl (gAt hx rfl rfl) rfl (gble (by omega)) (fun r70 sh2 g70 hq70 => ?_)
        obtain ⟨rfl, hQ70⟩ := hq70
        obtain ⟨v70, rfl, hv0170, hcl70, hQv70⟩ := hQ70.v
        clear hQ70
        have hf := hcl70.fin hf
        refine gw_if_ne (tgt := 78) (gc k_Reader_lawClause_0 38 rfl) rfl (by omega) (fun c73 => ?_) (fun c73 => ?_)
        · obtain ⟨p2, n2, c, s, hr, hcS2, hcd, hpre, hlbv⟩ := orL hQv70 c73
          clear hQv70
          have hI6 := hI5.app hcl70 hcS2 hcd hpre hlbv
          refine gw_aload_n (gc k_Reader_lawClause_1 1 rfl) rfl rfl ?_
          refine gw_iload_n (gc k_Reader_lawClause_1 2 rfl) rfl ?_
          refine gw_iconst (gc k_Reader_lawClause_1 3 rfl) ?_
          refine gw_cV0 (gc k_Reader_lawClause_1 4 rfl) y_Reader_endPiece ln_Reader_128 (c_Reader_endPiece hx hf i 0 (by omega) (by omega)) rfl rfl (gAt hx rfl rfl) rfl (gble (by omega)) ?_
          have hI7 := hI6.e0
          have hf := hI7.1.fin hf0
          refine gw_aload_n (gc k_Reader_lawClause_1 5 rfl) rfl rfl ?_
          refine gw_iload_n (gc k_Reader_lawClause_1 6 rfl) rfl ?_
          refine gw_iconst (gc k_Reader_lawClause_1 7 rfl) ?_
          refine gw_cV0 (gc k_Reader_lawClause_1 8 rfl) y_Reader_endPiece ln_Reader_128 (c_Reader_endPiece hx hf i 1 (by omega) (by omega)) rfl rfl (gAt hx rfl rfl) rfl (gble (by omega)) ?_
          have hI8 := hI7.e1
          have hf := hI8.1.fin hf0
          refine gw_iconst (gc k_Reader_lawClause_1 9 rfl) ?_
          refine gw_zreturn (gc k_Reader_lawClause_1 10 rfl) rfl (by omega) ?_
          
          rw [List.nil_append] at hI8
          exact ⟨rfl, 1, rfl, Or.inr rfl, hI8.1, Or.inr ⟨rfl, p2, n2, tT B len p, c, s, [], fun _ => some 0, 1, _, by unfold hdL; rw [if_pos (by omega), hr], by rw [show tT B len p - (if false = true then 22 else 1) = 1 by rw [if_neg (by decide)]; omega, List.append_nil]; exact hI8⟩⟩
        · refine gw_iconst (gc k_Reader_lawClause_0 39 rfl) ?_
          refine gw_zreturn (gc k_Reader_lawClause_1 0 rfl) rfl (by omega) ?_
          obtain ⟨e, hr, hPe, he0⟩ := orR hQv70 c73
          clear hQv70
          exact ⟨rfl, 0, rfl, Or.inl rfl, hI5.1.tr (hcl70.g i), Or.inl ⟨rfl, e, by unfold hdL; rw [if_pos (by omega), hr], hPe, he0⟩⟩
    · rw [if_pos c28] at hP25
      have hI5 := (hI1.rc hF25 hP25 (by omega)).u3 0
      refine gw_aload_n (gc k_Reader_lawClause_0 15 rfl) rfl rfl ?_
      refine gw_getref (gc k_Reader_lawClause_0 16 rfl) fl_Reader_12 (gAt hx rfl rfl) (gRf hf rfl rfl) ?_
      refine gw_getref (gc k_Reader_lawClause_0 17 rfl) fl_Reader_118 (gAt hx rfl rfl) (gRf hf rfl rfl) ?_
      refine gw_iload_n (gc k_Reader_lawClause_0 18 rfl) rfl ?_
      refine gw_iconst (gc k_Reader_lawClause_0 19 rfl) ?_
      refine gw_iastF (gc k_Reader_lawClause_0 20 rfl) (gAt hx rfl rfl) (by omega) hf rfl (fun hf => ?_)
      refine gw_goto (tgt := 68) (gc k_Reader_lawClause_0 21 rfl) rfl ?_
      have hf := hI5.1.fin hf0
      refine gw_aload_n (gc k_Reader_lawClause_0 35 rfl) rfl rfl ?_
      refine gw_iconst (gc k_Reader_lawClause_0 36 rfl) ?_
      refine gw_xV1 (gc k_Reader_lawClause_0 37 rfl) y_Reader_sum ln_Reader_125 (hS _ (p + 1) n (Lc + ([] : PK).length) 0 hf (((hI5).1 _ _ (by omega) (by omega) (by decide) (by decide) (by omega) (by omega) (by omega)).trans h3) (hI5).2.1 (by rw [(hI5).2.2.2.2.1]; exact lbV_01 _ _ _)) rfl rfl (gAt hx rfl rfl) rfl (gble (by omega)) (fun r70 sh2 g70 hq70 => ?_)
      obtain ⟨rfl, hQ70⟩ := hq70
      obtain ⟨v70, rfl, hv0170, hcl70, hQv70⟩ := hQ70.v
      clear hQ70
      have hf := hcl70.fin hf
      refine gw_if_ne (tgt := 78) (gc k_Reader_lawClause_0 38 rfl) rfl (by omega) (fun c73 => ?_) (fun c73 => ?_)
      · obtain ⟨p2, n2, c, s, hr, hcS2, hcd, hpre, hlbv⟩ := orL hQv70 c73
        clear hQv70
        have hI6 := hI5.app hcl70 hcS2 hcd hpre hlbv
        refine gw_aload_n (gc k_Reader_lawClause_1 1 rfl) rfl rfl ?_
        refine gw_iload_n (gc k_Reader_lawClause_1 2 rfl) rfl ?_
        refine gw_iconst (gc k_Reader_lawClause_1 3 rfl) ?_
        refine gw_cV0 (gc k_Reader_lawClause_1 4 rfl) y_Reader_endPiece ln_Reader_128 (c_Reader_endPiece hx hf i 0 (by omega) (by omega)) rfl rfl (gAt hx rfl rfl) rfl (gble (by omega)) ?_
        have hI7 := hI6.e0
        have hf := hI7.1.fin hf0
        refine gw_aload_n (gc k_Reader_lawClause_1 5 rfl) rfl rfl ?_
        refine gw_iload_n (gc k_Reader_lawClause_1 6 rfl) rfl ?_
        refine gw_iconst (gc k_Reader_lawClause_1 7 rfl) ?_
        refine gw_cV0 (gc k_Reader_lawClause_1 8 rfl) y_Reader_endPiece ln_Reader_128 (c_Reader_endPiece hx hf i 1 (by omega) (by omega)) rfl rfl (gAt hx rfl rfl) rfl (gble (by omega)) ?_
        have hI8 := hI7.e1
        have hf := hI8.1.fin hf0
        refine gw_iconst (gc k_Reader_lawClause_1 9 rfl) ?_
        refine gw_zreturn (gc k_Reader_lawClause_1 10 rfl) rfl (by omega) ?_
        
        rw [List.nil_append] at hI8
        exact ⟨rfl, 1, rfl, Or.inr rfl, hI8.1, Or.inr ⟨rfl, p2, n2, tT B len p, c, s, [], fun _ => some 0, 1, _, by unfold hdL; rw [if_pos (by omega), hr], by rw [show tT B len p - (if false = true then 22 else 1) = 0 by rw [if_neg (by decide)]; omega, List.append_nil]; exact hI8⟩⟩
      · refine gw_iconst (gc k_Reader_lawClause_0 39 rfl) ?_
        refine gw_zreturn (gc k_Reader_lawClause_1 0 rfl) rfl (by omega) ?_
        obtain ⟨e, hr, hPe, he0⟩ := orR hQv70 c73
        clear hQv70
        exact ⟨rfl, 0, rfl, Or.inl rfl, hI5.1.tr (hcl70.g i), Or.inl ⟨rfl, e, by unfold hdL; rw [if_pos (by omega), hr], hPe, he0⟩⟩
  · rw [if_pos c6] at hP3
    have hI6 := (hI0.rc hF3 hP3 (by omega)).u3 2
    refine gw_aload_n (gc k_Reader_lawClause_0 4 rfl) rfl rfl ?_
    refine gw_getref (gc k_Reader_lawClause_0 5 rfl) fl_Reader_12 (gAt hx rfl rfl) (gRf hf rfl rfl) ?_
    refine gw_getref (gc k_Reader_lawClause_0 6 rfl) fl_Reader_118 (gAt hx rfl rfl) (gRf hf rfl rfl) ?_
    refine gw_iload_n (gc k_Reader_lawClause_0 7 rfl) rfl ?_
    refine gw_iconst (gc k_Reader_lawClause_0 8 rfl) ?_
    refine gw_iastF (gc k_Reader_lawClause_0 9 rfl) (gAt hx rfl rfl) (by omega) hf rfl (fun hf => ?_)
    refine gw_goto (tgt := 78) (gc k_Reader_lawClause_0 10 rfl) rfl ?_
    have hf := hI6.1.fin hf0
    refine gw_aload_n (gc k_Reader_lawClause_1 1 rfl) rfl rfl ?_
    refine gw_iload_n (gc k_Reader_lawClause_1 2 rfl) rfl ?_
    refine gw_iconst (gc k_Reader_lawClause_1 3 rfl) ?_
    refine gw_cV0 (gc k_Reader_lawClause_1 4 rfl) y_Reader_endPiece ln_Reader_128 (c_Reader_endPiece hx hf i 0 (by omega) (by omega)) rfl rfl (gAt hx rfl rfl) rfl (gble (by omega)) ?_
    have hI7 := hI6.e0
    have hf := hI7.1.fin hf0
    refine gw_aload_n (gc k_Reader_lawClause_1 5 rfl) rfl rfl ?_
    refine gw_iload_n (gc k_Reader_lawClause_1 6 rfl) rfl ?_
    refine gw_iconst (gc k_Reader_lawClause_1 7 rfl) ?_
    refine gw_cV0 (gc k_Reader_lawClause_1 8 rfl) y_Reader_endPiece ln_Reader_128 (c_Reader_endPiece hx hf i 1 (by omega) (by omega)) rfl rfl (gAt hx rfl rfl) rfl (gble (by omega)) ?_
    have hI8 := hI7.e1
    have hf := hI8.1.fin hf0
    refine gw_iconst (gc k_Reader_lawClause_1 9 rfl) ?_
    refine gw_zreturn (gc k_Reader_lawClause_1 10 rfl) rfl (by omega) ?_
    
    exact ⟨rfl, 1, rfl, Or.inr rfl, hI8.1, Or.inr ⟨rfl, _, _, _, _, _, _, _, _, _, by unfold hdL; rw [if_neg (by omega), if_pos c6], hI8⟩⟩
set_option maxHeartbeats 8000000 in
theorem ck_orderClause {sh : gS} (hx : gFix sh) {B : Int → Int} {len nt : Int} (hk : pOK (tT B len) nt) (hnt : nt ≤ 400) {i : Int} (hi : 0 ≤ i ∧ i < 12) {g : gM} (hf0 : gFin g) {Lc p n : Int} (h3 : g 151 3 = 0) (hcS : cS B len 0 p n Lc g) (hlb : g 152 2 = 0 ∨ g 152 2 = 1) (h4 : g 154 i = 1) {D D2 : Nat} (hD : 10 ≤ D) (hD2 : D2 + 1 ≤ D) {sm : Int → Int → PR} (hS : RcL B len true sh f_Reader_sum D2 [(2, 151), (0, 0)] sm) : gTri f_Reader_orderClause D 0 0 [(2, 151), (0, i)] sh g (fun x s2 g2 => s2 = sh ∧ hdQ B len true i g Lc (hdO (tT B len) (tW B len) sm p n) x g2) := by
  have hI0 := ckI.rf (B := B) (len := len) (o := true) (i := i) hcS hlb
  rw [h4] at hI0
  have hf := hf0
  have hp := hcS.2.2.2.2.1.1
  have hB1 := hcS.1
  have hP1 := hcS.2.1
  refine gTri.of (by decide +kernel) rfl ?_
  show gWP f_Reader_orderClause _ _ _ 0 [(2, 151), (0, i)] [] sh g _
  refine gw_aload_n (gc k_Reader_orderClause_0 0 rfl) rfl rfl ?_
  refine gw_ldcS (k := 17) (gc k_Reader_orderClause_0 1 rfl) rfl rfl ?_
  refine gw_xV1 (gc k_Reader_orderClause_0 2 rfl) y_Reader_takeWord ln_Reader_115 (c_Reader_takeWord hx hf hB1 p (by omega) hP1 17 (by decide)) rfl rfl (gAt hx rfl rfl) rfl (gble (by omega)) (fun r3 sh2 g3 hq3 => ?_)
  rw [show wc 17 = 24 from rfl] at hq3
  obtain ⟨rfl, rfl, hF3, hP3⟩ := hq3
  have hf := hF3.fin hf
  refine gw_beq (tgt := 28) (gc k_Reader_orderClause_0 3 rfl) rfl (fun c6 => ?_) (fun c6 => ?_)
  · rw [if_neg c6] at hP3
    have hI1 := hI0.rc hF3 hP3 (by omega)
    refine gw_aload_n (gc k_Reader_orderClause_0 15 rfl) rfl rfl ?_
    refine gw_ldcS (k := 18) (gc k_Reader_orderClause_0 16 rfl) rfl rfl ?_
    refine gw_xV1 (gc k_Reader_orderClause_0 17 rfl) y_Reader_takeWord ln_Reader_115 (c_Reader_takeWord hx hf hI1.2.1.1 p (by omega) hI1.2.1.2.1 18 (by decide)) rfl rfl (gAt hx rfl rfl) rfl (gble (by omega)) (fun r31 sh2 g31 hq31 => ?_)
    rw [show wc 18 = 25 from rfl] at hq31
    obtain ⟨rfl, rfl, hF31, hP31⟩ := hq31
    have hf := hF31.fin hf
    refine gw_beq (tgt := 56) (gc k_Reader_orderClause_0 18 rfl) rfl (fun c34 => ?_) (fun c34 => ?_)
    · rw [if_neg c34] at hP31
      have hI2 := hI1.rc hF31 hP31 (by omega)
      refine gw_aload_n (gc k_Reader_orderClause_0 30 rfl) rfl rfl ?_
      refine gw_ldcS (k := 19) (gc k_Reader_orderClause_0 31 rfl) rfl rfl ?_
      refine gw_xV1 (gc k_Reader_orderClause_0 32 rfl) y_Reader_takeWord ln_Reader_115 (c_Reader_takeWord hx hf hI2.2.1.1 p (by omega) hI2.2.1.2.1 19 (by decide)) rfl rfl (gAt hx rfl rfl) rfl (gble (by omega)) (fun r59 sh2 g59 hq59 => ?_)
      rw [show wc 19 = 22 from rfl] at hq59
      obtain ⟨rfl, rfl, hF59, hP59⟩ := hq59
      have hf := hF59.fin hf
      refine gw_beq (tgt := 78) (gc k_Reader_orderClause_0 33 rfl) rfl (fun c62 => ?_) (fun c62 => ?_)
      · rw [if_neg c62] at hP59
        have hI3 := hI2.rc hF59 hP59 (by omega)
        refine gw_aload_n (gc k_Reader_orderClause_1 1 rfl) rfl rfl ?_
        refine gw_ldcS (k := 20) (gc k_Reader_orderClause_1 2 rfl) rfl rfl ?_
        refine gw_xV1 (gc k_Reader_orderClause_1 3 rfl) y_Reader_takeWord ln_Reader_115 (c_Reader_takeWord hx hf hI3.2.1.1 p (by omega) hI3.2.1.2.1 20 (by decide)) rfl rfl (gAt hx rfl rfl) rfl (gble (by omega)) (fun r81 sh2 g81 hq81 => ?_)
        rw [show wc 20 = 23 from rfl] at hq81
        obtain ⟨rfl, rfl, hF81, hP81⟩ := hq81
        have hf := hF81.fin hf
        refine gw_beq (tgt := 100) (gc k_Reader_orderClause_1 4 rfl) rfl (fun c84 => ?_) (fun c84 => ?_)
        · refine gw_iconst (gc k_Reader_orderClause_1 12 rfl) ?_
          refine gw_zreturn (gc k_Reader_orderClause_1 13 rfl) rfl (by omega) ?_
          rw [if_neg c84] at hP81
          have hI4 := hI3.rc hF81 hP81 (by omega)
          exact ⟨rfl, 0, rfl, Or.inl rfl, hI4.1, Or.inl ⟨rfl, p, by unfold hdO; rw [if_neg (by omega), if_neg (by omega)], hP81, hp⟩⟩
        · rw [if_pos c84] at hP81
          have hI5 := (hI3.rc hF81 hP81 (by omega)).u3 1
          have hcf : tT B len p = 22 ∨ tT B len p = 23 := Or.inr c84
          refine gw_aload_n (gc k_Reader_orderClause_1 5 rfl) rfl rfl ?_
          refine gw_getref (gc k_Reader_orderClause_1 6 rfl) fl_Reader_12 (gAt hx rfl rfl) (gRf hf rfl rfl) ?_
          refine gw_getref (gc k_Reader_orderClause_1 7 rfl) fl_Reader_118 (gAt hx rfl rfl) (gRf hf rfl rfl) ?_
          refine gw_iload_n (gc k_Reader_orderClause_1 8 rfl) rfl ?_
          refine gw_iconst (gc k_Reader_orderClause_1 9 rfl) ?_
          refine gw_iastF (gc k_Reader_orderClause_1 10 rfl) (gAt hx rfl rfl) (by omega) hf rfl (fun hf => ?_)
          refine gw_goto (tgt := 102) (gc k_Reader_orderClause_1 11 rfl) rfl ?_
          have hf := hI5.1.fin hf0
          refine gw_aload_n (gc k_Reader_orderClause_1 14 rfl) rfl rfl ?_
          refine gw_iconst (gc k_Reader_orderClause_1 15 rfl) ?_
          refine gw_xV1 (gc k_Reader_orderClause_1 16 rfl) y_Reader_sum ln_Reader_125 (hS _ (p + 1) n (Lc + ([] : PK).length) 0 hf (((hI5).1 _ _ (by omega) (by omega) (by decide) (by decide) (by omega) (by omega) (by omega)).trans h3) (hI5).2.1 (by rw [(hI5).2.2.2.2.1]; exact lbV_01 _ _ _)) rfl rfl (gAt hx rfl rfl) rfl (gble (by omega)) (fun r104 sh2 g104 hq104 => ?_)
          obtain ⟨rfl, hQ104⟩ := hq104
          obtain ⟨v104, rfl, hv01104, hcl104, hQv104⟩ := hQ104.v
          clear hQ104
          have hf := hcl104.fin hf
          refine gw_if_ne (tgt := 112) (gc k_Reader_orderClause_1 17 rfl) rfl (by omega) (fun c107 => ?_) (fun c107 => ?_)
          · obtain ⟨p2, n2, c, s, hr, hcS2, hcd, hpre, hlbv⟩ := orL hQv104 c107
            clear hQv104
            have hI6 := hI5.app hcl104 hcS2 hcd hpre hlbv
            have hp2 := hcS2.2.2.2.2.1.1
            refine gw_aload_n (gc k_Reader_orderClause_1 20 rfl) rfl rfl ?_
            refine gw_iload_n (gc k_Reader_orderClause_1 21 rfl) rfl ?_
            refine gw_iconst (gc k_Reader_orderClause_1 22 rfl) ?_
            refine gw_cV0 (gc k_Reader_orderClause_1 23 rfl) y_Reader_endPiece ln_Reader_128 (c_Reader_endPiece hx hf i 0 (by omega) (by omega)) rfl rfl (gAt hx rfl rfl) rfl (gble (by omega)) ?_
            have hI7 := hI6.e0
            have hf := hI7.1.fin hf0
            refine gw_aload_n (gc k_Reader_orderClause_1 24 rfl) rfl rfl ?_
            refine gw_ldcS (k := 21) (gc k_Reader_orderClause_1 25 rfl) rfl rfl ?_
            refine gw_xV1 (gc k_Reader_orderClause_1 26 rfl) y_Reader_takeWord ln_Reader_115 (c_Reader_takeWord hx hf hI7.2.1.1 p2 (by omega) hI7.2.1.2.1 21 (by decide)) rfl rfl (gAt hx rfl rfl) rfl (gble (by omega)) (fun r121 sh2 g121 hq121 => ?_)
            rw [show wc 21 = 26 from rfl] at hq121
            obtain ⟨rfl, rfl, hF121, hP121⟩ := hq121
            have hf := hF121.fin hf
            refine gw_beq (tgt := 135) (gc k_Reader_orderClause_1 27 rfl) rfl (fun c124 => ?_) (fun c124 => ?_)
            · refine gw_iconst (gc k_Reader_orderClause_1 32 rfl) ?_
              refine gw_zreturn (gc k_Reader_orderClause_1 33 rfl) rfl (by omega) ?_
              rw [if_neg c124] at hP121
              have hI8 := hI7.rc hF121 hP121 (by omega)
              exact ⟨rfl, 0, rfl, Or.inl rfl, hI8.1, Or.inl ⟨rfl, p2, by unfold hdO; rw [if_pos hcf, hr]; dsimp only; rw [if_neg c124], hP121, hp2⟩⟩
            · rw [if_pos c124] at hP121
              have hI8 := hI7.rc hF121 hP121 (by omega)
              refine gw_aload_n (gc k_Reader_orderClause_1 28 rfl) rfl rfl ?_
              refine gw_iconst (gc k_Reader_orderClause_1 29 rfl) ?_
              refine gw_xV1 (gc k_Reader_orderClause_1 30 rfl) y_Reader_sum ln_Reader_125 (hS _ (p2 + 1) n2 (Lc + ([] ++ c : PK).length) 0 hf (((hI8).1 _ _ (by omega) (by omega) (by decide) (by decide) (by omega) (by omega) (by omega)).trans h3) (hI8).2.1 (by rw [(hI8).2.2.2.2.1]; exact lbV_01 _ _ _)) rfl rfl (gAt hx rfl rfl) rfl (gble (by omega)) (fun r129 sh2 g129 hq129 => ?_)
              obtain ⟨rfl, hQ129⟩ := hq129
              obtain ⟨v129, rfl, hv01129, hcl129, hQv129⟩ := hQ129.v
              clear hQ129
              have hf := hcl129.fin hf
              refine gw_if_ne (tgt := 137) (gc k_Reader_orderClause_1 31 rfl) rfl (by omega) (fun c132 => ?_) (fun c132 => ?_)
              · obtain ⟨p3, n3, c3, s3, hr3, hcS3, hcd3, hpre3, hlbv3⟩ := orL hQv129 c132
                clear hQv129
                have hJ := hI8.app hcl129 hcS3 hcd3 hpre3 hlbv3
                refine gw_aload_n (gc k_Reader_orderClause_1 34 rfl) rfl rfl ?_
                refine gw_iload_n (gc k_Reader_orderClause_1 35 rfl) rfl ?_
                refine gw_iconst (gc k_Reader_orderClause_1 36 rfl) ?_
                refine gw_cV0 (gc k_Reader_orderClause_1 37 rfl) y_Reader_endPiece ln_Reader_128 (c_Reader_endPiece hx hf i 1 (by omega) (by omega)) rfl rfl (gAt hx rfl rfl) rfl (gble (by omega)) ?_
                have hK := hJ.e1
                have hf := hK.1.fin hf0
                rw [List.nil_append] at hK
                refine gw_aload_n (gc k_Reader_orderClause_1 38 rfl) rfl rfl ?_
                refine gw_iload_n (gc k_Reader_orderClause_1 39 rfl) rfl ?_
                refine gw_xV1 (gc k_Reader_orderClause_2 0 rfl) y_Reader_howOften ln_Reader_142 (ck_howOften hx hi hf0 hK (D := 9) (by omega)) rfl rfl (gAt hx rfl rfl) rfl (gble (by omega)) (fun r145 sh2 g145 hq145 => ?_)
                obtain ⟨rfl, v9, rfl, hv901, hcl9, hQ9⟩ := hq145
                refine gw_zreturn (gc k_Reader_orderClause_2 1 rfl) rfl hv901 ?_
                have hEq : hdO (tT B len) (tW B len) sm p n = tmH (tT B len) (tW B len) (tT B len p) c s c3 s3 (p3) n3 := by
                    unfold hdO
                    rw [if_pos hcf, hr]
                    dsimp only
                    rw [if_pos c124, hr3]
                rcases hQ9 with ⟨rfl, u1, u2, u3⟩ | ⟨rfl, p9, t9, u1, u2⟩
                · refine ⟨rfl, 0, rfl, Or.inl rfl, hcl9, Or.inl ⟨rfl, p3 + 1, ?_, u3, by have := hcS3.2.2.2.2.1.1; omega⟩⟩
                  rw [hEq]; unfold tmH; rw [if_pos u1, if_neg u2]
                · refine ⟨rfl, 1, rfl, Or.inr rfl, hcl9, Or.inr ⟨rfl, p9, n3, tT B len p, c, s, c3, s3, t9, g 155 (i * 3 + 2 + 1), ?_, ?_⟩⟩
                  · rw [hEq]; unfold tmH
                    rcases u1 with ⟨a, b, rfl, rfl⟩ | ⟨a, rfl, rfl⟩
                    · rw [if_pos a, if_pos b]
                    · rw [if_neg a]
                  · rw [show tT B len p - (if true = true then 22 else 1) = 1 by rw [if_pos rfl]; omega]; exact u2
              · refine gw_iconst (gc k_Reader_orderClause_1 32 rfl) ?_
                refine gw_zreturn (gc k_Reader_orderClause_1 33 rfl) rfl (by omega) ?_
                obtain ⟨e, hr3, hPe, he0⟩ := orR hQv129 c132
                clear hQv129
                exact ⟨rfl, 0, rfl, Or.inl rfl, hI8.1.tr (hcl129.g i), Or.inl ⟨rfl, e, by unfold hdO; rw [if_pos hcf, hr]; dsimp only; rw [if_pos c124, hr3], hPe, he0⟩⟩
          · refine gw_iconst (gc k_Reader_orderClause_1 18 rfl) ?_
            refine gw_zreturn (gc k_Reader_orderClause_1 19 rfl) rfl (by omega) ?_
            obtain ⟨e, hr, hPe, he0⟩ := orR hQv104 c107
            clear hQv104
            exact ⟨rfl, 0, rfl, Or.inl rfl, hI5.1.tr (hcl104.g i), Or.inl ⟨rfl, e, by unfold hdO; rw [if_pos hcf, hr], hPe, he0⟩⟩
      · rw [if_pos c62] at hP59
        have hI5 := (hI2.rc hF59 hP59 (by omega)).u3 0
        have hcf : tT B len p = 22 ∨ tT B len p = 23 := Or.inl c62
        refine gw_aload_n (gc k_Reader_orderClause_0 34 rfl) rfl rfl ?_
        refine gw_getref (gc k_Reader_orderClause_0 35 rfl) fl_Reader_12 (gAt hx rfl rfl) (gRf hf rfl rfl) ?_
        refine gw_getref (gc k_Reader_orderClause_0 36 rfl) fl_Reader_118 (gAt hx rfl rfl) (gRf hf rfl rfl) ?_
        refine gw_iload_n (gc k_Reader_orderClause_0 37 rfl) rfl ?_
        refine gw_iconst (gc k_Reader_orderClause_0 38 rfl) ?_
        refine gw_iastF (gc k_Reader_orderClause_0 39 rfl) (gAt hx rfl rfl) (by omega) hf rfl (fun hf => ?_)
        refine gw_goto (tgt := 102) (gc k_Reader_orderClause_1 0 rfl) rfl ?_
        have hf := hI5.1.fin hf0
        refine gw_aload_n (gc k_Reader_orderClause_1 14 rfl) rfl rfl ?_
        refine gw_iconst (gc k_Reader_orderClause_1 15 rfl) ?_
        refine gw_xV1 (gc k_Reader_orderClause_1 16 rfl) y_Reader_sum ln_Reader_125 (hS _ (p + 1) n (Lc + ([] : PK).length) 0 hf (((hI5).1 _ _ (by omega) (by omega) (by decide) (by decide) (by omega) (by omega) (by omega)).trans h3) (hI5).2.1 (by rw [(hI5).2.2.2.2.1]; exact lbV_01 _ _ _)) rfl rfl (gAt hx rfl rfl) rfl (gble (by omega)) (fun r104 sh2 g104 hq104 => ?_)
        obtain ⟨rfl, hQ104⟩ := hq104
        obtain ⟨v104, rfl, hv01104, hcl104, hQv104⟩ := hQ104.v
        clear hQ104
        have hf := hcl104.fin hf
        refine gw_if_ne (tgt := 112) (gc k_Reader_orderClause_1 17 rfl) rfl (by omega) (fun c107 => ?_) (fun c107 => ?_)
        · obtain ⟨p2, n2, c, s, hr, hcS2, hcd, hpre, hlbv⟩ := orL hQv104 c107
          clear hQv104
          have hI6 := hI5.app hcl104 hcS2 hcd hpre hlbv
          have hp2 := hcS2.2.2.2.2.1.1
          refine gw_aload_n (gc k_Reader_orderClause_1 20 rfl) rfl rfl ?_
          refine gw_iload_n (gc k_Reader_orderClause_1 21 rfl) rfl ?_
          refine gw_iconst (gc k_Reader_orderClause_1 22 rfl) ?_
          refine gw_cV0 (gc k_Reader_orderClause_1 23 rfl) y_Reader_endPiece ln_Reader_128 (c_Reader_endPiece hx hf i 0 (by omega) (by omega)) rfl rfl (gAt hx rfl rfl) rfl (gble (by omega)) ?_
          have hI7 := hI6.e0
          have hf := hI7.1.fin hf0
          refine gw_aload_n (gc k_Reader_orderClause_1 24 rfl) rfl rfl ?_
          refine gw_ldcS (k := 21) (gc k_Reader_orderClause_1 25 rfl) rfl rfl ?_
          refine gw_xV1 (gc k_Reader_orderClause_1 26 rfl) y_Reader_takeWord ln_Reader_115 (c_Reader_takeWord hx hf hI7.2.1.1 p2 (by omega) hI7.2.1.2.1 21 (by decide)) rfl rfl (gAt hx rfl rfl) rfl (gble (by omega)) (fun r121 sh2 g121 hq121 => ?_)
          rw [show wc 21 = 26 from rfl] at hq121
          obtain ⟨rfl, rfl, hF121, hP121⟩ := hq121
          have hf := hF121.fin hf
          refine gw_beq (tgt := 135) (gc k_Reader_orderClause_1 27 rfl) rfl (fun c124 => ?_) (fun c124 => ?_)
          · refine gw_iconst (gc k_Reader_orderClause_1 32 rfl) ?_
            refine gw_zreturn (gc k_Reader_orderClause_1 33 rfl) rfl (by omega) ?_
            rw [if_neg c124] at hP121
            have hI8 := hI7.rc hF121 hP121 (by omega)
            exact ⟨rfl, 0, rfl, Or.inl rfl, hI8.1, Or.inl ⟨rfl, p2, by unfold hdO; rw [if_pos hcf, hr]; dsimp only; rw [if_neg c124], hP121, hp2⟩⟩
          · rw [if_pos c124] at hP121
            have hI8 := hI7.rc hF121 hP121 (by omega)
            refine gw_aload_n (gc k_Reader_orderClause_1 28 rfl) rfl rfl ?_
            refine gw_iconst (gc k_Reader_orderClause_1 29 rfl) ?_
            refine gw_xV1 (gc k_Reader_orderClause_1 30 rfl) y_Reader_sum ln_Reader_125 (hS _ (p2 + 1) n2 (Lc + ([] ++ c : PK).length) 0 hf (((hI8).1 _ _ (by omega) (by omega) (by decide) (by decide) (by omega) (by omega) (by omega)).trans h3) (hI8).2.1 (by rw [(hI8).2.2.2.2.1]; exact lbV_01 _ _ _)) rfl rfl (gAt hx rfl rfl) rfl (gble (by omega)) (fun r129 sh2 g129 hq129 => ?_)
            obtain ⟨rfl, hQ129⟩ := hq129
            obtain ⟨v129, rfl, hv01129, hcl129, hQv129⟩ := hQ129.v
            clear hQ129
            have hf := hcl129.fin hf
            refine gw_if_ne (tgt := 137) (gc k_Reader_orderClause_1 31 rfl) rfl (by omega) (fun c132 => ?_) (fun c132 => ?_)
            · obtain ⟨p3, n3, c3, s3, hr3, hcS3, hcd3, hpre3, hlbv3⟩ := orL hQv129 c132
              clear hQv129
              have hJ := hI8.app hcl129 hcS3 hcd3 hpre3 hlbv3
              refine gw_aload_n (gc k_Reader_orderClause_1 34 rfl) rfl rfl ?_
              refine gw_iload_n (gc k_Reader_orderClause_1 35 rfl) rfl ?_
              refine gw_iconst (gc k_Reader_orderClause_1 36 rfl) ?_
              refine gw_cV0 (gc k_Reader_orderClause_1 37 rfl) y_Reader_endPiece ln_Reader_128 (c_Reader_endPiece hx hf i 1 (by omega) (by omega)) rfl rfl (gAt hx rfl rfl) rfl (gble (by omega)) ?_
              have hK := hJ.e1
              have hf := hK.1.fin hf0
              rw [List.nil_append] at hK
              refine gw_aload_n (gc k_Reader_orderClause_1 38 rfl) rfl rfl ?_
              refine gw_iload_n (gc k_Reader_orderClause_1 39 rfl) rfl ?_
              refine gw_xV1 (gc k_Reader_orderClause_2 0 rfl) y_Reader_howOften ln_Reader_142 (ck_howOften hx hi hf0 hK (D := 9) (by omega)) rfl rfl (gAt hx rfl rfl) rfl (gble (by omega)) (fun r145 sh2 g145 hq145 => ?_)
              obtain ⟨rfl, v9, rfl, hv901, hcl9, hQ9⟩ := hq145
              refine gw_zreturn (gc k_Reader_orderClause_2 1 rfl) rfl hv901 ?_
              have hEq : hdO (tT B len) (tW B len) sm p n = tmH (tT B len) (tW B len) (tT B len p) c s c3 s3 (p3) n3 := by
                  unfold hdO
                  rw [if_pos hcf, hr]
                  dsimp only
                  rw [if_pos c124, hr3]
              rcases hQ9 with ⟨rfl, u1, u2, u3⟩ | ⟨rfl, p9, t9, u1, u2⟩
              · refine ⟨rfl, 0, rfl, Or.inl rfl, hcl9, Or.inl ⟨rfl, p3 + 1, ?_, u3, by have := hcS3.2.2.2.2.1.1; omega⟩⟩
                rw [hEq]; unfold tmH; rw [if_pos u1, if_neg u2]
              · refine ⟨rfl, 1, rfl, Or.inr rfl, hcl9, Or.inr ⟨rfl, p9, n3, tT B len p, c, s, c3, s3, t9, g 155 (i * 3 + 2 + 1), ?_, ?_⟩⟩
                · rw [hEq]; unfold tmH
                  rcases u1 with ⟨a, b, rfl, rfl⟩ | ⟨a, rfl, rfl⟩
                  · rw [if_pos a, if_pos b]
                  · rw [if_neg a]
                · rw [show tT B len p - (if true = true then 22 else 1) = 0 by rw [if_pos rfl]; omega]; exact u2
            · refine gw_iconst (gc k_Reader_orderClause_1 32 rfl) ?_
              refine gw_zreturn (gc k_Reader_orderClause_1 33 rfl) rfl (by omega) ?_
              obtain ⟨e, hr3, hPe, he0⟩ := orR hQv129 c132
              clear hQv129
              exact ⟨rfl, 0, rfl, Or.inl rfl, hI8.1.tr (hcl129.g i), Or.inl ⟨rfl, e, by unfold hdO; rw [if_pos hcf, hr]; dsimp only; rw [if_pos c124, hr3], hPe, he0⟩⟩
        · refine gw_iconst (gc k_Reader_orderClause_1 18 rfl) ?_
          refine gw_zreturn (gc k_Reader_orderClause_1 19 rfl) rfl (by omega) ?_
          obtain ⟨e, hr, hPe, he0⟩ := orR hQv104 c107
          clear hQv104
          exact ⟨rfl, 0, rfl, Or.inl rfl, hI5.1.tr (hcl104.g i), Or.inl ⟨rfl, e, by unfold hdO; rw [if_pos hcf, hr], hPe, he0⟩⟩
    · rw [if_pos c34] at hP31
      have hI6 := (hI1.rc hF31 hP31 (by omega)).u3 3
      have hcf : tT B len p = 24 ∨ tT B len p = 25 := Or.inr c34
      refine gw_aload_n (gc k_Reader_orderClause_0 19 rfl) rfl rfl ?_
      refine gw_getref (gc k_Reader_orderClause_0 20 rfl) fl_Reader_12 (gAt hx rfl rfl) (gRf hf rfl rfl) ?_
      refine gw_getref (gc k_Reader_orderClause_0 21 rfl) fl_Reader_118 (gAt hx rfl rfl) (gRf hf rfl rfl) ?_
      refine gw_iload_n (gc k_Reader_orderClause_0 22 rfl) rfl ?_
      refine gw_iconst (gc k_Reader_orderClause_0 23 rfl) ?_
      refine gw_iastF (gc k_Reader_orderClause_0 24 rfl) (gAt hx rfl rfl) (by omega) hf rfl (fun hf => ?_)
      have hf := hI6.1.fin hf0
      refine gw_aload_n (gc k_Reader_orderClause_0 25 rfl) rfl rfl ?_
      refine gw_iload_n (gc k_Reader_orderClause_0 26 rfl) rfl ?_
      refine gw_iconst (gc k_Reader_orderClause_0 27 rfl) ?_
      refine gw_cV0 (gc k_Reader_orderClause_0 28 rfl) y_Reader_endPiece ln_Reader_128 (c_Reader_endPiece hx hf i 0 (by omega) (by omega)) rfl rfl (gAt hx rfl rfl) rfl (gble (by omega)) ?_
      have hJ := hI6.e0
      have hf := hJ.1.fin hf0
      refine gw_goto (tgt := 137) (gc k_Reader_orderClause_0 29 rfl) rfl ?_
      refine gw_aload_n (gc k_Reader_orderClause_1 34 rfl) rfl rfl ?_
      refine gw_iload_n (gc k_Reader_orderClause_1 35 rfl) rfl ?_
      refine gw_iconst (gc k_Reader_orderClause_1 36 rfl) ?_
      refine gw_cV0 (gc k_Reader_orderClause_1 37 rfl) y_Reader_endPiece ln_Reader_128 (c_Reader_endPiece hx hf i 1 (by omega) (by omega)) rfl rfl (gAt hx rfl rfl) rfl (gble (by omega)) ?_
      have hK := hJ.e1
      have hf := hK.1.fin hf0
      refine gw_aload_n (gc k_Reader_orderClause_1 38 rfl) rfl rfl ?_
      refine gw_iload_n (gc k_Reader_orderClause_1 39 rfl) rfl ?_
      refine gw_xV1 (gc k_Reader_orderClause_2 0 rfl) y_Reader_howOften ln_Reader_142 (ck_howOften hx hi hf0 hK (D := 9) (by omega)) rfl rfl (gAt hx rfl rfl) rfl (gble (by omega)) (fun r145 sh2 g145 hq145 => ?_)
      obtain ⟨rfl, v9, rfl, hv901, hcl9, hQ9⟩ := hq145
      refine gw_zreturn (gc k_Reader_orderClause_2 1 rfl) rfl hv901 ?_
      have hEq : hdO (tT B len) (tW B len) sm p n = tmH (tT B len) (tW B len) (tT B len p) [] (fun _ => some 0) [] (fun _ => some 0) (p + 1) n := by
          unfold hdO
          rw [if_neg (by omega), if_pos hcf]
      rcases hQ9 with ⟨rfl, u1, u2, u3⟩ | ⟨rfl, p9, t9, u1, u2⟩
      · refine ⟨rfl, 0, rfl, Or.inl rfl, hcl9, Or.inl ⟨rfl, p + 1 + 1, ?_, u3, by omega⟩⟩
        rw [hEq]; unfold tmH; rw [if_pos u1, if_neg u2]
      · refine ⟨rfl, 1, rfl, Or.inr rfl, hcl9, Or.inr ⟨rfl, p9, n, tT B len p, [], (fun _ => some 0), [], (fun _ => some 0), t9, g 155 (i * 3 + 2 + 1), ?_, ?_⟩⟩
        · rw [hEq]; unfold tmH
          rcases u1 with ⟨a, b, rfl, rfl⟩ | ⟨a, rfl, rfl⟩
          · rw [if_pos a, if_pos b]
          · rw [if_neg a]
        · rw [show tT B len p - (if true = true then 22 else 1) = 3 by rw [if_pos rfl]; omega]; exact u2
  · rw [if_pos c6] at hP3
    have hI6 := (hI0.rc hF3 hP3 (by omega)).u3 2
    have hcf : tT B len p = 24 ∨ tT B len p = 25 := Or.inl c6
    refine gw_aload_n (gc k_Reader_orderClause_0 4 rfl) rfl rfl ?_
    refine gw_getref (gc k_Reader_orderClause_0 5 rfl) fl_Reader_12 (gAt hx rfl rfl) (gRf hf rfl rfl) ?_
    refine gw_getref (gc k_Reader_orderClause_0 6 rfl) fl_Reader_118 (gAt hx rfl rfl) (gRf hf rfl rfl) ?_
    refine gw_iload_n (gc k_Reader_orderClause_0 7 rfl) rfl ?_
    refine gw_iconst (gc k_Reader_orderClause_0 8 rfl) ?_
    refine gw_iastF (gc k_Reader_orderClause_0 9 rfl) (gAt hx rfl rfl) (by omega) hf rfl (fun hf => ?_)
    have hf := hI6.1.fin hf0
    refine gw_aload_n (gc k_Reader_orderClause_0 10 rfl) rfl rfl ?_
    refine gw_iload_n (gc k_Reader_orderClause_0 11 rfl) rfl ?_
    refine gw_iconst (gc k_Reader_orderClause_0 12 rfl) ?_
    refine gw_cV0 (gc k_Reader_orderClause_0 13 rfl) y_Reader_endPiece ln_Reader_128 (c_Reader_endPiece hx hf i 0 (by omega) (by omega)) rfl rfl (gAt hx rfl rfl) rfl (gble (by omega)) ?_
    have hJ := hI6.e0
    have hf := hJ.1.fin hf0
    refine gw_goto (tgt := 137) (gc k_Reader_orderClause_0 14 rfl) rfl ?_
    refine gw_aload_n (gc k_Reader_orderClause_1 34 rfl) rfl rfl ?_
    refine gw_iload_n (gc k_Reader_orderClause_1 35 rfl) rfl ?_
    refine gw_iconst (gc k_Reader_orderClause_1 36 rfl) ?_
    refine gw_cV0 (gc k_Reader_orderClause_1 37 rfl) y_Reader_endPiece ln_Reader_128 (c_Reader_endPiece hx hf i 1 (by omega) (by omega)) rfl rfl (gAt hx rfl rfl) rfl (gble (by omega)) ?_
    have hK := hJ.e1
    have hf := hK.1.fin hf0
    refine gw_aload_n (gc k_Reader_orderClause_1 38 rfl) rfl rfl ?_
    refine gw_iload_n (gc k_Reader_orderClause_1 39 rfl) rfl ?_
    refine gw_xV1 (gc k_Reader_orderClause_2 0 rfl) y_Reader_howOften ln_Reader_142 (ck_howOften hx hi hf0 hK (D := 9) (by omega)) rfl rfl (gAt hx rfl rfl) rfl (gble (by omega)) (fun r145 sh2 g145 hq145 => ?_)
    obtain ⟨rfl, v9, rfl, hv901, hcl9, hQ9⟩ := hq145
    refine gw_zreturn (gc k_Reader_orderClause_2 1 rfl) rfl hv901 ?_
    have hEq : hdO (tT B len) (tW B len) sm p n = tmH (tT B len) (tW B len) (tT B len p) [] (fun _ => some 0) [] (fun _ => some 0) (p + 1) n := by
        unfold hdO
        rw [if_neg (by omega), if_pos hcf]
    rcases hQ9 with ⟨rfl, u1, u2, u3⟩ | ⟨rfl, p9, t9, u1, u2⟩
    · refine ⟨rfl, 0, rfl, Or.inl rfl, hcl9, Or.inl ⟨rfl, p + 1 + 1, ?_, u3, by omega⟩⟩
      rw [hEq]; unfold tmH; rw [if_pos u1, if_neg u2]
    · refine ⟨rfl, 1, rfl, Or.inr rfl, hcl9, Or.inr ⟨rfl, p9, n, tT B len p, [], (fun _ => some 0), [], (fun _ => some 0), t9, g 155 (i * 3 + 2 + 1), ?_, ?_⟩⟩
      · rw [hEq]; unfold tmH
        rcases u1 with ⟨a, b, rfl, rfl⟩ | ⟨a, rfl, rfl⟩
        · rw [if_pos a, if_pos b]
        · rw [if_neg a]
      · rw [show tT B len p - (if true = true then 22 else 1) = 2 by rw [if_pos rfl]; omega]; exact u2
