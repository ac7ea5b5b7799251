/-! ===== the desk and the reference in one memory ===== -/
theorem grefs_m178 : (grefs.all fun x => Nat.ble x.1 177) = true := by decide +kernel
theorem gref_m178 {a : Nat} (h : 178 ≤ a) (k : Nat) : gref a k = none := glk_no k grefs (List.all_eq_true.mpr fun x hx => by
  have := Nat.le_of_ble_eq_true (List.all_eq_true.mp grefs_m178 x hx)
  have : x.1 ≠ a := by omega
  simpa using this)
/-- the fields of the reference that hold no address -/
def mNum (k : Int) : Prop := k = 0 ∨ k = 6 ∨ (8 ≤ k ∧ k ≤ 10) ∨ k = 13 ∨ k = 14 ∨ (18 ≤ k ∧ k ≤ 25) ∨ (27 ≤ k ∧ k ≤ 30) ∨ k = 33 ∨ (41 ≤ k ∧ k ≤ 46) ∨ k = 49 ∨ k = 50
theorem gref_mn {k : Nat} (h : mNum k) : gref 177 k = none := by
  unfold mNum at h
  rcases (show k = 0 ∨ k = 6 ∨ k = 8 ∨ k = 9 ∨ k = 10 ∨ k = 13 ∨ k = 14 ∨ k = 18 ∨ k = 19 ∨ k = 20 ∨ k = 21 ∨ k = 22 ∨ k = 23 ∨ k = 24 ∨ k = 25 ∨ k = 27 ∨ k = 28 ∨ k = 29 ∨ k = 30 ∨ k = 33 ∨ k = 41 ∨ k = 42 ∨ k = 43 ∨ k = 44 ∨ k = 45 ∨ k = 46 ∨ k = 49 ∨ k = 50 by omega) with rfl | rfl | rfl | rfl | rfl | rfl | rfl | rfl | rfl | rfl | rfl | rfl | rfl | rfl | rfl | rfl | rfl | rfl | rfl | rfl | rfl | rfl | rfl | rfl | rfl | rfl | rfl | rfl <;> rfl
/-- the reference's own addresses alone have changed, no address in them -/
def mdW (g g2 : gM) : Prop := ∀ a k, (a < 177 ∨ 201 ≤ a ∨ (a = 177 ∧ ¬ mNum k)) → g2 a k = g a k
theorem mdW.fin {g g2 : gM} (h : mdW g g2) (hf : gFin g) : gFin g2 := hf.of fun a k z => by
  by_cases e : a ≤ 177
  · by_cases e2 : a = 177
    · subst e2
      exact h _ _ (Or.inr (Or.inr ⟨rfl, fun q => z (gref_mn q)⟩))
    · exact h _ _ (Or.inl (by omega))
  · exact absurd (gref_m178 (by omega) k) z
theorem gQu.md {g g2 : gM} (h : gQu g g2) : mdW g g2 := fun a k z => h a k (fun e => by unfold mNum at z; omega) (by omega)
/-- a row told otherwise where nobody looks -/
theorem bdX.row {Λ : Int → List PC} {sh : gS} {r r2 : Int → Int} {g : gM} {b : Int} (h : bdX Λ sh r g b) (ho : rowOK r2) (he : ∀ y, ((0 ≤ y ∧ y < 51) ∨ (52 ≤ y ∧ y < 2452) ∨ (2852 ≤ y ∧ y < 5252)) → r2 y = r y) : bdX Λ sh r2 g b := by
  obtain ⟨h1, ⟨b1, b2, b3, b4, b5, b6, b7⟩, h3⟩ := h
  have hm := ro_many h1.1
  have hh := ro_heardN h1.1
  have ht := ro_told h1.1
  refine ⟨⟨ho, h1.2⟩, ⟨?_, ?_, ?_, ?_, fun i c d => ?_, ?_, fun k c d => ?_⟩, fun i c d => ?_⟩
  · rw [he 41 (by omega)]; exact b1
  · rw [he 42 (by omega)]; exact b2
  · rw [he 43 (by omega)]; exact b3
  · rw [he 44 (by omega)]; exact b4
  · rw [he 41 (by omega)] at d
    rw [he (12 + i) (by omega), he i (by omega)]; exact b5 i c d
  · rw [he 24 (by omega), he 37 (by omega), he 38 (by omega), he 39 (by omega), he 40 (by omega)]; exact b6
  · rw [he 42 (by omega)] at d
    rw [he (25 + 2 * k) (by omega), he (25 + 2 * k + 1) (by omega)]; exact b7 k c d
  · rw [he 43 (by omega)] at d
    have hs := ro_size h1.1 (45 + i) (by omega)
    rw [rLaw_slot (r := r) i (he _ (by omega)) (fun p a b => ⟨he _ (by omega), he _ (by omega)⟩)]
    exact h3 i c d
/-- the tape -/
def tpI (g : gM) : Prop := tapeOK g ∧ g 149 1 = g 177 13 ∧ ∀ j, 0 ≤ j → j < 400 → g 150 j = g 184 j % 256
theorem tpI.keep {g g2 : gM} (h : tpI g) (he : ∀ a k, ((a = 149 ∧ k = 1) ∨ a = 150 ∨ a = 184 ∨ (a = 177 ∧ k = 13)) → g2 a k = g a k) : tpI g2 := by
  refine ⟨⟨?_, fun j a b => ?_⟩, ?_, fun j a b => ?_⟩
  · rw [he _ _ (by omega)]; exact h.1.1
  · rw [he _ _ (by omega)]; exact h.1.2 j a b
  · rw [he _ _ (by omega), he _ _ (by omega)]; exact h.2.1
  · rw [he _ _ (by omega), he _ _ (by omega)]; exact h.2.2 j a b
/-- refusals -/
def rfI (g : gM) : Prop := g 0 13 = g 177 0 ∧ ∀ k, 1 ≤ k → k ≤ 6 → k ≠ 4 → g 175 (k - 1) = g 178 k
theorem rfI.keep {g g2 : gM} (h : rfI g) (he : ∀ a k, ((a = 0 ∧ k = 13) ∨ a = 175 ∨ (a = 177 ∧ k = 0) ∨ a = 178) → g2 a k = g a k) : rfI g2 := ⟨by rw [he _ _ (by omega), he _ _ (by omega)]; exact h.1, fun k a b c => by rw [he _ _ (by omega), he _ _ (by omega)]; exact h.2 k a b c⟩
/-- blots, fault, where orders stopped -/
def nbI (g : gM) : Prop := g 0 11 = g 177 6 ∧ g 0 12 = g 177 14 ∧ g 12 1 = g 177 41
theorem nbI.keep {g g2 : gM} (h : nbI g) (he : ∀ a k, ((a = 0 ∧ (k = 11 ∨ k = 12)) ∨ (a = 12 ∧ k = 1) ∨ (a = 177 ∧ (k = 6 ∨ k = 14 ∨ k = 41))) → g2 a k = g a k) : nbI g2 := by
  unfold nbI
  rw [he 0 11 (by omega), he 0 12 (by omega), he 12 1 (by omega), he 177 6 (by omega), he 177 14 (by omega), he 177 41 (by omega)]
  exact h
/-- the latest weeks -/
def dwI (g : gM) : Prop := (-1 ≤ g 177 49 ∧ g 177 49 ≤ 12) ∧ ((g 141 1 = 0 ∧ g 177 49 = -1) ∨ (g 141 1 = 1 ∧ g 142 0 = g 177 49 ∧ 0 ≤ g 177 49 ∧ ∀ i, 0 ≤ i → i < g 177 49 → g 143 i = g 200 (12 + i) ∧ g 144 i = g 200 i))
theorem dwI.keep {g g2 : gM} (h : dwI g) (he : ∀ a k, ((a = 141 ∧ k = 1) ∨ (142 ≤ a ∧ a ≤ 144) ∨ (a = 177 ∧ k = 49) ∨ a = 200) → g2 a k = g a k) : dwI g2 := by
  unfold dwI
  rw [he 177 49 (by omega), he 141 1 (by omega), he 142 0 (by omega)]
  refine ⟨h.1, h.2.elim Or.inl (fun z => Or.inr ⟨z.1, z.2.1, z.2.2.1, fun i a b => ?_⟩)⟩
  rw [he 143 i (by omega), he 144 i (by omega), he 200 _ (by omega), he 200 _ (by omega)]
  exact z.2.2.2 i a b
/-- image k's row -/
def imR (g : gM) (k : Int) : Int → Int := fun y => g 180 (5652 * k + y)
def imI (Λ : Int → List PC) (sh : gS) (g : gM) : Prop := ∀ k, 0 ≤ k → k ≤ 1 → g 174 k = g 181 k ∧ (g 181 k = 0 ∨ (g 181 k = 1 ∧ bdX Λ sh (imR g k) g (160 + 7 * k) ∧ bdT sh g (160 + 7 * k)))
theorem iIm {k : Int} (h : 0 ≤ k ∧ k ≤ 1) : isBd (160 + 7 * k) := by unfold isBd; omega
theorem imI.keep {Λ : Int → List PC} {sh : gS} {g g2 : gM} (h : imI Λ sh g) (he : ∀ a k, (a = 174 ∨ a = 181 ∨ a = 180 ∨ (160 ≤ a ∧ a ≤ 173) ∨ 201 ≤ a) → g2 a k = g a k) : imI Λ sh g2 := fun k a b => by
  rw [he 174 k (by omega), he 181 k (by omega), show imR g2 k = imR g k from funext fun y => he 180 _ (by omega)]
  exact ⟨(h k a b).1, (h k a b).2.elim Or.inl (fun z => Or.inr ⟨z.1, z.2.1.of (fun x y q => he x y (by omega)), z.2.2.keep (fun y => he _ y (by omega))⟩)⟩
def osM (g : gM) : OS := (g 179, g 190, g 177 33)
/-- both are one -/
def relR (Λ : Int → List PC) (sh : gS) (g : gM) : Prop := (gFix sh ∧ gFin g) ∧ (clI Λ sh (osM g) g ∧ bdT sh g 1) ∧ tpI g ∧ rfI g ∧ nbI g ∧ dwI g ∧ imI Λ sh g ∧ ppS Λ sh g ∧ wordsOK g
theorem relR.X {Λ : Int → List PC} {sh : gS} {g : gM} (h : relR Λ sh g) : bdX Λ sh (g 179) g 1 := h.2.1.1.1
theorem relR.ro {Λ : Int → List PC} {sh : gS} {g : gM} (h : relR Λ sh g) : rowOK (g 179) := h.X.1.1
theorem relR.lw {Λ : Int → List PC} {sh : gS} {g : gM} (h : relR Λ sh g) : lawsOK (g 179) := fun i a b => ⟨_, (h.X.2.2 i a b).1⟩
theorem relR.S {Λ : Int → List PC} {sh : gS} {g : gM} (h : relR Λ sh g) : ppS Λ sh g := h.2.2.2.2.2.2.2.1
theorem relR.un {Λ : Int → List PC} {sh : gS} {g : gM} (h : relR Λ sh g) : (0 ≤ g 177 33 ∧ g 177 33 ≤ 16) ∧ g 13 3 = g 177 33 := ⟨h.2.1.1.2.1, h.2.1.1.2.2.1⟩
theorem wordsOK.keep {g g2 : gM} (h : wordsOK g) (he : ∀ k, g2 183 k = g 183 k) : wordsOK g2 := fun j c e => by rw [he]; exact h j c e
/-- where questions work -/
def qS (a k : Int) : Prop := a = 10 ∨ a = 11 ∨ (a = 8 ∧ 2 ≤ k ∧ k ≤ 3) ∨ (31 ≤ a ∧ a ≤ 140) ∨ a = 176 ∨ (a = 177 ∧ 22 ≤ k ∧ k ≤ 25) ∨ a = 189 ∨ (192 ≤ a ∧ a ≤ 198)
theorem relR.q {Λ : Int → List PC} {sh : gS} {g g2 : gM} (h : relR Λ sh g) (he : ∀ a k, ¬ qS a k → g2 a k = g a k) (hf : gFin g2) (hS : ppS Λ sh g2) : relR Λ sh g2 := by
  obtain ⟨h1, ⟨h2, h2b⟩, h3, h4, h5, h6, h7, h8, h9⟩ := h
  have eo : osM g2 = osM g := by
    unfold osM
    rw [show g2 179 = g 179 from funext fun y => he _ _ (by unfold qS; omega), show g2 190 = g 190 from funext fun y => he _ _ (by unfold qS; omega), he 177 33 (by unfold qS; omega)]
  refine ⟨⟨h1.1, hf⟩, ⟨?_, h2b.keep (fun k => he _ _ (by unfold qS; omega))⟩, h3.keep (fun a k z => he a k (by unfold qS; omega)), h4.keep (fun a k z => he a k (by unfold qS; omega)), h5.keep (fun a k z => he a k (by unfold qS; omega)), h6.keep (fun a k z => he a k (by unfold qS; omega)), h7.keep (fun a k z => he a k (by unfold qS; omega)), hS, h9.keep (fun k => he _ _ (by unfold qS; omega))⟩
  rw [eo]
  exact h2.of (fun a k z => he a k (by unfold qS; omega))
theorem relR.qu {Λ : Int → List PC} {sh : gS} {g g2 : gM} (h : relR Λ sh g) (hq : gQu g g2) : relR Λ sh g2 := h.q (fun a k z => hq a k (by unfold qS at z; omega) (by unfold qS at z; omega)) (h.1.2.qu hq) (h.S.keep (fun a k x y => hq a k (by omega) (by omega)))
/-- a question is done -/
def dqQ (Λ : Int → List PC) (sh : gS) (g : gM) (v : gV) (x : Option gV) (s2 : gS) (g2 : gM) : Prop := x = some v ∧ s2 = sh ∧ (∀ a k, ¬ qS a k → g2 a k = g a k) ∧ gFin g2 ∧ ppS Λ sh g2
theorem dqQ.rf {Λ : Int → List PC} {sh : gS} {g : gM} (h : relR Λ sh g) (v : gV) : dqQ Λ sh g v (some v) sh g := ⟨rfl, rfl, fun _ _ _ => rfl, h.1.2, h.S⟩
theorem dqQ.jg {Λ : Int → List PC} {sh : gS} {g g2 : gM} (h : relR Λ sh g) (hj : jgF g g2) (v : gV) : dqQ Λ sh g v (some v) sh g2 := ⟨rfl, rfl, fun a k z => hj a k (by unfold qS at z; omega) (by unfold qS at z; omega) (by unfold qS at z; omega), hj.fin h.1.2, h.S.keep (fun a k x y => hj a k (by omega) (by omega) (by omega))⟩
theorem dqQ.pp {Λ : Int → List PC} {sh : gS} {g g2 : gM} (hq : ppQ Λ sh g g2) (v : gV) : dqQ Λ sh g v (some v) sh g2 := ⟨rfl, rfl, fun a k z => hq.1 a k (by unfold qS at z; omega) (by unfold qS at z; omega) (by unfold qS at z; omega) (by unfold qS at z; omega), hq.2⟩
/-- the tag of an answer -/
def retN (F : gF) : Nat := match F.2.2.2 with
  | some .long => 1
  | _ => 0
/-- what the desk answers the reference answers, and both are one again -/
def prP (Fd Fm : gF) (dd dm mc ms : Nat) (as : List gV) (Λ : Int → List PC) (sh : gS) (g : gM) : Prop := gTri Fd dd mc ms ((2, 0) :: as) sh g (fun x s1 g1 => ∃ v, x = some v ∧ v.1 ≤ retN Fd ∧ gFix s1 ∧ gTri Fm dm 0 0 ((2, 177) :: as) s1 g1 (fun y s2 g2 => y = some v ∧ (∃ t, s2 = sh ++ t) ∧ ∃ Λ2, relR Λ2 s2 g2))
theorem prP.q {Fd Fm : gF} {dd dm : Nat} {as : List gV} {Λ : Int → List PC} {sh : gS} {g : gM} {v : gV} (hv : v.1 ≤ retN Fd) (hR : relR Λ sh g) (hD : gTri Fd dd 0 0 ((2, 0) :: as) sh g (fun x s1 g1 => dqQ Λ sh g v x s1 g1)) (hM : ∀ g1, relR Λ sh g1 → (∀ a k, ¬ qS a k → g1 a k = g a k) → g1 179 = g 179 → gTri Fm dm 0 0 ((2, 177) :: as) sh g1 (fun y s2 g2 => y = some v ∧ s2 = sh ∧ gQu g1 g2)) : prP Fd Fm dd dm 0 0 as Λ sh g := by
  refine hD.mono ?_
  rintro x s1 g1 ⟨h1, rfl, h3, h4, h5⟩
  have hR1 := hR.q h3 h4 h5
  refine ⟨v, h1, hv, hR.1.1, (hM g1 hR1 h3 (funext fun y => h3 _ _ (by unfold qS; omega))).mono ?_⟩
  rintro y s2 g2 ⟨k1, rfl, k3⟩
  exact ⟨k1, ⟨[], (List.append_nil _).symm⟩, Λ, hR1.qu k3⟩
/-- what the desk keeps of an answer -/
def ansM (g : gM) (v : Int) : gM := if v < 0 then gup (gup g 0 13 v) 175 (-1 - v) (g 175 (-1 - v) + 1) else gup g 0 13 0
theorem ansM_k (g : gM) (v : Int) {a k : Int} (h : ¬ (a = 0 ∧ k = 13)) (h2 : a ≠ 175) : ansM g v a k = g a k := by
  unfold ansM
  split
  · rw [gup_a _ _ _ _ _ h2]
    by_cases e : a = 0
    · subst e; exact gup_k _ _ _ _ (by omega)
    · exact gup_a _ _ _ _ _ e
  · by_cases e : a = 0
    · subst e; exact gup_k _ _ _ _ (by omega)
    · exact gup_a _ _ _ _ _ e
theorem ansM_fin {g : gM} (h : gFin g) (v : Int) : gFin (ansM g v) := by
  unfold ansM
  split
  · exact (h.up rfl).up rfl
  · exact h.up rfl
/-- the same refusal on both sides -/
theorem rfI.bad {g g1 g2 : gM} (h : rfI g) {v : Int} (hv : v = -1 ∨ v = -2 ∨ v = -3 ∨ v = -5 ∨ v = -6) (e0 : g1 0 13 = v) (e1 : g1 177 0 = v) (ed : ∀ k, 0 ≤ k → k ≤ 5 → g1 175 k = if k = -1 - v then g 175 (-1 - v) + 1 else g 175 k) (em : ∀ k, 1 ≤ k → k ≤ 6 → g1 178 k = if k = -v then g 178 (-v) + 1 else g 178 k) : rfI g1 := by
  refine ⟨by rw [e0, e1], fun k a b c => ?_⟩
  rw [ed (k - 1) (by omega) (by omega), em k a b]
  by_cases z : k = -v
  · rw [if_pos (by omega), if_pos z, show -1 - v = -v - 1 by omega, h.2 (-v) (by omega) (by omega) (by omega)]
  · rw [if_neg (by omega), if_neg z]; exact h.2 k a b c
theorem ansM_bad (g : gM) {v : Int} (hv : v < 0) : ansM g v 0 13 = v ∧ ∀ k, ansM g v 175 k = if k = -1 - v then g 175 (-1 - v) + 1 else g 175 k := by
  unfold ansM
  rw [if_pos hv]
  refine ⟨by rw [gup_a _ _ _ _ _ (by decide), gup_s], fun k => ?_⟩
  by_cases z : k = -1 - v
  · rw [if_pos z, z, gup_s]
  · rw [if_neg z, gup_k _ _ _ _ z, gup_a _ _ _ _ _ (by decide)]
theorem ansM_good (g : gM) {v : Int} (hv : 0 ≤ v) : ansM g v 0 13 = 0 ∧ ∀ k, ansM g v 175 k = g 175 k := by
  unfold ansM
  rw [if_neg (by omega)]
  exact ⟨gup_s _ _ _ _, fun k => gup_a _ _ _ _ _ (by decide)⟩
theorem refM_at (g : gM) (v : Int) : refM g v 177 0 = v ∧ (∀ k, refM g v 178 k = if k = -v then g 178 (-v) + 1 else g 178 k) ∧ ∀ a k, ¬ (a = 177 ∧ k = 0) → a ≠ 178 → refM g v a k = g a k := by
  unfold refM
  refine ⟨by rw [gup_a _ _ _ _ _ (by decide), gup_s], fun k => ?_, fun a k h h2 => ?_⟩
  · by_cases z : k = -v
    · rw [if_pos z, z, gup_s]
    · rw [if_neg z, gup_k _ _ _ _ z, gup_a _ _ _ _ _ (by decide)]
  · rw [gup_a _ _ _ _ _ h2]
    by_cases e : a = 177
    · subst e; exact gup_k _ _ _ _ (by omega)
    · exact gup_a _ _ _ _ _ e
theorem goodM_at (g : gM) : goodM g 177 0 = 0 ∧ ∀ a k, ¬ (a = 177 ∧ k = 0) → goodM g a k = g a k := by
  unfold goodM
  refine ⟨gup_s _ _ _ _, fun a k h => ?_⟩
  by_cases e : a = 177
  · subst e; exact gup_k _ _ _ _ (by omega)
  · exact gup_a _ _ _ _ _ e
set_option maxHeartbeats 1000000 in
theorem c_Desk_answer {sh : gS} {g : gM} (hx : gFix sh) (hf : gFin g) (v : Int) (hv : -6 ≤ v ∧ v ≤ 2147483647) : gTri f_Desk_answer 0 0 0 [(2, 0), (0, v)] sh g (gR (some (0, v)) sh (ansM g v)) := by
  refine gTri.of (by decide +kernel) rfl ?_
  show gWP f_Desk_answer _ _ _ 0 [(2, 0), (0, v), (9, 0)] [] sh g _
  refine gw_aload_n (gc k_Desk_answer_0 0 rfl) rfl rfl ?_
  refine gw_iload_n (gc k_Desk_answer_0 1 rfl) rfl ?_
  refine gw_if_ge (tgt := 9) (gc k_Desk_answer_0 2 rfl) rfl (by omega) (fun c2 => ?_) (fun c2 => ?_)
  · refine gw_iconst (gc k_Desk_answer_0 5 rfl) ?_
    refine gw_putIK 13 rfl (gc k_Desk_answer_0 6 rfl) fl_Desk_277 (gAt hx rfl rfl) hf (by rfl) (fun hf => ?_)
    refine gw_iconst (gc k_Desk_answer_0 7 rfl) ?_
    refine gw_iload_n (gc k_Desk_answer_0 8 rfl) rfl ?_
    refine gw_isub (gc k_Desk_answer_0 9 rfl) ?_
    refine gw_istore_2 (gc k_Desk_answer_0 10 rfl) rfl rfl ?_
    refine gw_iload_n (gc k_Desk_answer_0 11 rfl) rfl ?_
    refine gw_if_lt (tgt := 40) (gc k_Desk_answer_0 12 rfl) rfl (by omega) (fun c18 => ?_) (fun c18 => ?_)
    · refine gw_iload_n (gc k_Desk_answer_0 26 rfl) rfl ?_
      refine gw_ireturn (gc k_Desk_answer_0 27 rfl) rfl ?_
      refine ⟨rfl, rfl, ?_⟩
      unfold ansM
      rw [if_neg (by omega)]
    · refine gw_iload_n (gc k_Desk_answer_0 13 rfl) rfl ?_
      refine gw_aload_n (gc k_Desk_answer_0 14 rfl) rfl rfl ?_
      refine gw_getref (gc k_Desk_answer_0 15 rfl) fl_Desk_70 (gAt hx rfl rfl) (gRf hf rfl rfl) ?_
      refine gw_alen13 (gc k_Desk_answer_0 16 rfl) (gAt hx rfl rfl) (by decide) ?_
      refine gw_icmp_ge (tgt := 40) (gc k_Desk_answer_0 17 rfl) rfl (by omega) (fun c27 => ?_) (fun c27 => ?_)
      · exfalso; omega
      · refine gw_aload_n (gc k_Desk_answer_0 18 rfl) rfl rfl ?_
        refine gw_getref (gc k_Desk_answer_0 19 rfl) fl_Desk_70 (gAt hx rfl rfl) (gRf hf rfl rfl) ?_
        refine gw_iload_n (gc k_Desk_answer_0 20 rfl) rfl ?_
        refine gw_dup2 (gc k_Desk_answer_0 21 rfl) rfl ?_
        refine gw_iald (gc k_Desk_answer_0 22 rfl) (gAt hx rfl rfl) (by omega) ?_
        rw [gup_a _ _ _ _ _ (by decide)]
        refine gw_iconst (gc k_Desk_answer_0 23 rfl) ?_
        refine gw_iadd (gc k_Desk_answer_0 24 rfl) ?_
        refine gw_iastF (gc k_Desk_answer_0 25 rfl) (gAt hx rfl rfl) (by omega) hf (by rfl) (fun hf => ?_)
        refine gw_iload_n (gc k_Desk_answer_0 26 rfl) rfl ?_
        refine gw_ireturn (gc k_Desk_answer_0 27 rfl) rfl ?_
        exfalso; omega
  · refine gw_iload_n (gc k_Desk_answer_0 3 rfl) rfl ?_
    refine gw_goto (tgt := 10) (gc k_Desk_answer_0 4 rfl) rfl ?_
    refine gw_putIK 13 rfl (gc k_Desk_answer_0 6 rfl) fl_Desk_277 (gAt hx rfl rfl) hf (by rfl) (fun hf => ?_)
    refine gw_iconst (gc k_Desk_answer_0 7 rfl) ?_
    refine gw_iload_n (gc k_Desk_answer_0 8 rfl) rfl ?_
    refine gw_isub (gc k_Desk_answer_0 9 rfl) ?_
    refine gw_istore_2 (gc k_Desk_answer_0 10 rfl) rfl rfl ?_
    refine gw_iload_n (gc k_Desk_answer_0 11 rfl) rfl ?_
    refine gw_if_lt (tgt := 40) (gc k_Desk_answer_0 12 rfl) rfl (by omega) (fun c18 => ?_) (fun c18 => ?_)
    · refine gw_iload_n (gc k_Desk_answer_0 26 rfl) rfl ?_
      refine gw_ireturn (gc k_Desk_answer_0 27 rfl) rfl ?_
      exfalso; omega
    · refine gw_iload_n (gc k_Desk_answer_0 13 rfl) rfl ?_
      refine gw_aload_n (gc k_Desk_answer_0 14 rfl) rfl rfl ?_
      refine gw_getref (gc k_Desk_answer_0 15 rfl) fl_Desk_70 (gAt hx rfl rfl) (gRf hf rfl rfl) ?_
      refine gw_alen13 (gc k_Desk_answer_0 16 rfl) (gAt hx rfl rfl) (by decide) ?_
      refine gw_icmp_ge (tgt := 40) (gc k_Desk_answer_0 17 rfl) rfl (by omega) (fun c27 => ?_) (fun c27 => ?_)
      · exfalso; omega
      · refine gw_aload_n (gc k_Desk_answer_0 18 rfl) rfl rfl ?_
        refine gw_getref (gc k_Desk_answer_0 19 rfl) fl_Desk_70 (gAt hx rfl rfl) (gRf hf rfl rfl) ?_
        refine gw_iload_n (gc k_Desk_answer_0 20 rfl) rfl ?_
        refine gw_dup2 (gc k_Desk_answer_0 21 rfl) rfl ?_
        refine gw_iald (gc k_Desk_answer_0 22 rfl) (gAt hx rfl rfl) (by omega) ?_
        rw [gup_a _ _ _ _ _ (by decide)]
        refine gw_iconst (gc k_Desk_answer_0 23 rfl) ?_
        refine gw_iadd (gc k_Desk_answer_0 24 rfl) ?_
        refine gw_iastF (gc k_Desk_answer_0 25 rfl) (gAt hx rfl rfl) (by omega) hf (by rfl) (fun hf => ?_)
        refine gw_iload_n (gc k_Desk_answer_0 26 rfl) rfl ?_
        refine gw_ireturn (gc k_Desk_answer_0 27 rfl) rfl ?_
        refine ⟨rfl, rfl, ?_⟩
        unfold ansM
        rw [if_pos (by omega)]
set_option maxHeartbeats 1000000 in
theorem c_Desk_refusedBy {sh : gS} {g : gM} (hx : gFix sh) (hf : gFin g) (v : Int) (hv : -6 ≤ v ∧ v ≤ -1) : gTri f_Desk_refusedBy 0 0 0 [(2, 0), (0, v)] sh g (gR (some (0, g 175 (-1 - v))) sh g) := by
  refine gTri.of (by decide +kernel) rfl ?_
  show gWP f_Desk_refusedBy _ _ _ 0 [(2, 0), (0, v), (9, 0)] [] sh g _
  refine gw_iconst (gc k_Desk_refusedBy_0 0 rfl) ?_
  refine gw_iload_n (gc k_Desk_refusedBy_0 1 rfl) rfl ?_
  refine gw_isub (gc k_Desk_refusedBy_0 2 rfl) ?_
  refine gw_istore_2 (gc k_Desk_refusedBy_0 3 rfl) rfl rfl ?_
  refine gw_iload_n (gc k_Desk_refusedBy_0 4 rfl) rfl ?_
  refine gw_if_lt (tgt := 26) (gc k_Desk_refusedBy_0 5 rfl) rfl (by omega) (fun c5 => ?_) (fun c5 => ?_)
  · exfalso; omega
  · refine gw_iload_n (gc k_Desk_refusedBy_0 6 rfl) rfl ?_
    refine gw_aload_n (gc k_Desk_refusedBy_0 7 rfl) rfl rfl ?_
    refine gw_getref (gc k_Desk_refusedBy_0 8 rfl) fl_Desk_70 (gAt hx rfl rfl) (gRf hf rfl rfl) ?_
    refine gw_alen13 (gc k_Desk_refusedBy_0 9 rfl) (gAt hx rfl rfl) (by decide) ?_
    refine gw_icmp_ge (tgt := 26) (gc k_Desk_refusedBy_0 10 rfl) rfl (by omega) (fun c14 => ?_) (fun c14 => ?_)
    · exfalso; omega
    · refine gw_aload_n (gc k_Desk_refusedBy_0 11 rfl) rfl rfl ?_
      refine gw_getref (gc k_Desk_refusedBy_0 12 rfl) fl_Desk_70 (gAt hx rfl rfl) (gRf hf rfl rfl) ?_
      refine gw_iload_n (gc k_Desk_refusedBy_0 13 rfl) rfl ?_
      refine gw_iald (gc k_Desk_refusedBy_0 14 rfl) (gAt hx rfl rfl) (by omega) ?_
      refine gw_goto (tgt := 27) (gc k_Desk_refusedBy_0 15 rfl) rfl ?_
      refine gw_ireturn (gc k_Desk_refusedBy_0 17 rfl) rfl ?_
      exact ⟨rfl, rfl, rfl⟩
