/-! ===== calls that change what stands: the frame of the proof ===== -/
/-- the desk's own places of the board and the clerk -/
def cS1 (a k : Int) : Prop := (1 ≤ a ∧ a ≤ 7) ∨ a = 10 ∨ a = 11 ∨ (a = 8 ∧ 2 ≤ k ∧ k ≤ 3) ∨ (a = 12 ∧ 8 ≤ k ∧ k ≤ 9) ∨ (13 ≤ a ∧ a ≤ 30)
/-- these, the tape, the reader, blots, fault, stopped -/
def cS2 (a k : Int) : Prop := cS1 a k ∨ (a = 12 ∧ k = 1) ∨ (a = 0 ∧ (k = 11 ∨ k = 12)) ∨ (149 ≤ a ∧ a ≤ 158)
theorem relR.fin2 {Λ : Int → List PC} {sh : gS} {g g0 G : gM} {σ : OS} {v : Int} (h : relR Λ sh g) (hC : clI Λ sh σ g0) (hT : bdT sh g0 1) (hf0 : gFin g0) (hF0 : ∀ a k, ¬ cS2 a k → g0 a k = g a k) (hM : mdW (ansM g0 v) G) (eo : osM G = σ) (hrf : rfI G) (htp : tpI G) (hnb : nbI G) (eM : ∀ a k, (a = 180 ∨ a = 181 ∨ a = 183 ∨ a = 200 ∨ (a = 177 ∧ k = 49)) → G a k = g a k) : relR Λ sh G := by
  have eD : ∀ a k, (a < 177 ∨ 201 ≤ a) → a ≠ 175 → ¬ (a = 0 ∧ k = 13) → G a k = g0 a k := fun a k z z2 z3 => (hM a k (by omega)).trans (ansM_k g0 v z3 z2)
  have eX : ∀ a k, (a < 177 ∨ 201 ≤ a) → a ≠ 175 → a ≠ 0 → ¬ cS2 a k → G a k = g a k := fun a k z z2 z3 z4 => (eD a k z z2 (fun e => z3 e.1)).trans (hF0 a k z4)
  obtain ⟨h1, h2, h3, h4, h5, h6, h7, h8, h9⟩ := h
  refine ⟨⟨h1.1, hM.fin (ansM_fin hf0 v)⟩, ⟨?_, hT.keep (fun k => eD _ k (by omega) (by decide) (by omega))⟩, htp, hrf, hnb, h6.keep (fun a k z => ?_), h7.keep (fun a k z => ?_), h8.keep (fun a k x y => eX a k (by omega) (by omega) (by omega) (by unfold cS2 cS1; omega)), h9.keep (fun k => eM _ k (by omega))⟩
  · rw [eo]
    exact hC.of (fun a k z => eD a k (by omega) (by omega) (by omega))
  · by_cases e : a = 200 ∨ (a = 177 ∧ k = 49)
    · exact eM a k (by omega)
    · exact eX a k (by omega) (by omega) (by omega) (by unfold cS2 cS1; omega)
  · by_cases e : a = 180 ∨ a = 181
    · exact eM a k (by omega)
    · exact eX a k (by omega) (by omega) (by omega) (by unfold cS2 cS1; omega)
theorem relR.fin1 {Λ : Int → List PC} {sh : gS} {g g0 G : gM} {σ : OS} {v : Int} (h : relR Λ sh g) (hC : clI Λ sh σ g0) (hT : bdT sh g0 1) (hf0 : gFin g0) (hF0 : ∀ a k, ¬ cS1 a k → g0 a k = g a k) (hM : mdW (ansM g0 v) G) (eo : osM G = σ) (hrf : rfI G) (eM : ∀ a k, (a = 180 ∨ a = 181 ∨ a = 183 ∨ a = 184 ∨ a = 200 ∨ (a = 177 ∧ (k = 6 ∨ k = 13 ∨ k = 14 ∨ k = 41 ∨ k = 49))) → G a k = g a k) : relR Λ sh G := by
  have eD : ∀ a k, a < 177 → a ≠ 175 → ¬ (a = 0 ∧ k = 13) → ¬ cS1 a k → G a k = g a k := fun a k z z2 z3 z4 => ((hM a k (by omega)).trans (ansM_k g0 v z3 z2)).trans (hF0 a k z4)
  refine h.fin2 hC hT hf0 (fun a k z => hF0 a k (fun q => z (Or.inl q))) hM eo hrf (h.2.2.1.keep (fun a k z => ?_)) (h.2.2.2.2.1.keep (fun a k z => ?_)) (fun a k z => eM a k (by omega))
  · by_cases e : a = 184 ∨ (a = 177 ∧ k = 13)
    · exact eM a k (by omega)
    · exact eD a k (by omega) (by omega) (by omega) (by unfold cS1; omega)
  · by_cases e : a = 177
    · exact eM a k (by omega)
    · exact eD a k (by omega) (by omega) (by omega) (by unfold cS1; omega)
theorem rf_good {g g0 G : gM} (h : rfI g) (hF0 : ∀ k, g0 175 k = g 175 k) (hM : mdW (ansM g0 0) G) (e0 : G 177 0 = 0) (e8 : ∀ k, G 178 k = g 178 k) : rfI G := by
  refine ⟨?_, fun k a b c => ?_⟩
  · rw [hM 0 13 (by omega), e0]; exact (ansM_good g0 (Int.le_refl 0)).1
  · rw [hM 175 _ (by omega), (ansM_good g0 (Int.le_refl 0)).2, hF0, e8]; exact h.2 k a b c
theorem rf_bad {g g0 G : gM} (h : rfI g) {v : Int} (hv : v = -1 ∨ v = -2 ∨ v = -3 ∨ v = -5 ∨ v = -6) (hF0 : ∀ k, g0 175 k = g 175 k) (hM : mdW (ansM g0 v) G) (e0 : G 177 0 = v) (e8 : ∀ k, G 178 k = if k = -v then g 178 (-v) + 1 else g 178 k) : rfI G := by
  have q := ansM_bad g0 (v := v) (by omega)
  refine h.bad (g2 := g) hv ?_ e0 (fun k a b => ?_) (fun k a b => e8 k)
  · rw [hM 0 13 (by omega)]; exact q.1
  · rw [hM 175 _ (by omega), q.2, hF0, hF0]
theorem ansM_nn (g : gM) {v : Int} (h : 0 ≤ v) : ansM g v = ansM g 0 := by
  unfold ansM
  rw [if_neg (by omega), if_neg (by omega)]
theorem ans_os (g : gM) (v : Int) : osM (ansM g v) = osM g := by
  unfold osM
  rw [show ansM g v 179 = g 179 from funext fun y => ansM_k _ _ (by omega) (by decide), show ansM g v 190 = g 190 from funext fun y => ansM_k _ _ (by omega) (by decide), ansM_k _ _ (by omega) (by decide)]
theorem good_os (g : gM) : osM (goodM g) = osM g := by
  unfold osM
  rw [show goodM g 179 = g 179 from funext fun y => (goodM_at g).2 _ _ (by omega), show goodM g 190 = g 190 from funext fun y => (goodM_at g).2 _ _ (by omega), (goodM_at g).2 _ _ (by omega)]
theorem ref_os (g : gM) (v : Int) : osM (refM g v) = osM g := by
  unfold osM
  rw [show refM g v 179 = g 179 from funext fun y => (refM_at g v).2.2 _ _ (by omega) (by decide), show refM g v 190 = g 190 from funext fun y => (refM_at g v).2.2 _ _ (by omega) (by decide), (refM_at g v).2.2 _ _ (by omega) (by decide)]
/-- what a change may write in the reference -/
def mvF (g M : gM) : Prop := ∀ a k, ¬ (a = 179 ∨ a = 190 ∨ a = 189) → ¬ (a = 177 ∧ (k = 33 ∨ (22 ≤ k ∧ k ≤ 25))) → M a k = g a k
theorem mvF.rf (g : gM) : mvF g g := fun _ _ _ _ => rfl
theorem mvF.up {g M : gM} (h : mvF g M) (y v : Int) : mvF g (gup M 179 y v) := fun a k z z2 => by rw [gup_a _ _ _ _ _ (fun e => z (Or.inl e))]; exact h a k z z2
theorem mvF.fr {g M : gM} (h : mvF g M) (f : Int → Int) : mvF g (gfr M 179 f) := fun a k z z2 => by rw [gfr_a _ _ _ _ (fun e => z (Or.inl e))]; exact h a k z z2
theorem mvF.un {g M : gM} (h : mvF g M) (v : Int) : mvF g (gup M 177 33 v) := fun a k z z2 => by
  by_cases e : a = 177
  · subst e; rw [gup_k _ _ _ _ (fun q => z2 ⟨rfl, Or.inl q⟩)]; exact h _ k z z2
  · rw [gup_a _ _ _ _ _ e]; exact h a k z z2
theorem mvF.kp {g M : gM} (h : mvF g M) (w : Int) : mvF g (keepM M w) := by
  unfold keepM
  refine mvF.un (fun a k z z2 => ?_) _
  rw [gfr_a _ _ _ _ (fun e => z (Or.inr (Or.inl e)))]; exact h a k z z2
theorem mvF.sk {g M M2 : gM} (h : mvF g M) (j : gSk M M2) : mvF g M2 := fun a k z z2 => (j a k (fun e => z2 ⟨e.1, Or.inr e.2⟩) (fun e => z (Or.inr (Or.inr e)))).trans (h a k z z2)
theorem gup_row (g : gM) (y v : Int) : gup g 179 y v 179 = rPt (g 179) y v := by
  funext x
  unfold gup rPt
  rw [if_pos rfl]
theorem os_up (g : gM) (y v : Int) : osM (gup g 179 y v) = (rPt (g 179) y v, g 190, g 177 33) := by
  unfold osM
  rw [gup_row, gup_fn _ _ _ _ (by decide), gup_a _ _ _ _ _ (by decide)]
theorem os_un (g : gM) (v : Int) : osM (gup g 177 33 v) = (g 179, g 190, v) := by
  unfold osM
  rw [gup_fn _ _ _ _ (by decide), gup_fn _ _ _ _ (by decide), gup_s]
theorem os_fr (g : gM) (f : Int → Int) : osM (gfr g 179 f) = (f, g 190, g 177 33) := by
  unfold osM
  rw [gfr_fs, gfr_fn _ _ _ (by decide), gfr_a _ _ _ _ (by decide)]
theorem os_kp (g : gM) (w : Int) : osM (keepM g w) = (g 179, kpF (g 179) (g 190) (g 177 33) w, kpN (g 177 33) + 1) := by
  rw [keep_eq, os_un, gfr_fn _ _ _ (by decide), gfr_fs]
theorem os_sk {g M : gM} (j : gSk g M) : osM M = osM g := by
  unfold osM
  rw [j.fn (by decide) (by decide), j.fn (by decide) (by decide), j.fl (by decide)]
/-- a change's end at the desk -/
def dsQ (Λ : Int → List PC) (sh : gS) (g : gM) (E : Int) (S : Option (Int × OS)) (x : Option gV) (s1 : gS) (g1 : gM) : Prop := s1 = sh ∧ ((S = none ∧ x = some (0, E) ∧ g1 = ansM g E) ∨ ∃ v σ' g0, S = some (v, σ') ∧ x = some (0, v) ∧ g1 = ansM g0 0 ∧ clI Λ sh σ' g0 ∧ bdT sh g0 1 ∧ gFin g0 ∧ ∀ a k, ¬ cS1 a k → g0 a k = g a k)
/-- and at the reference -/
def msQ (sh : gS) (g1 : gM) (E : Int) (S : Option (Int × OS)) (y : Option gV) (s2 : gS) (g2 : gM) : Prop := s2 = sh ∧ ((S = none ∧ y = some (0, E) ∧ g2 = refM g1 E) ∨ ∃ v M, S = some (v, osM M) ∧ y = some (0, v) ∧ g2 = goodM M ∧ mvF g1 M)
theorem prP.S {Fd Fm : gF} {dd dm : Nat} {as : List gV} {Λ : Int → List PC} {sh : gS} {g : gM} {E : Int} {S : Option (Int × OS)} (hR : relR Λ sh g) (hE : E = -1 ∨ E = -2 ∨ E = -3 ∨ E = -5 ∨ E = -6) (hD : gTri Fd dd 0 0 ((2, 0) :: as) sh g (dsQ Λ sh g E S)) (hM : ∀ g1, gFin g1 → osM g1 = osM g → (∀ a k, 177 ≤ a → a ≤ 200 → g1 a k = g a k) → gTri Fm dm 0 0 ((2, 177) :: as) sh g1 (msQ sh g1 E S)) : prP Fd Fm dd dm 0 0 as Λ sh g := by
  refine hD.mono ?_
  rintro x s1 g1 ⟨rfl, ⟨hn, rfl, rfl⟩ | ⟨v, σ', g0, hs, rfl, rfl, hC, hT, hf0, hF0⟩⟩
  · refine ⟨(0, E), rfl, Nat.zero_le _, hR.1.1, (hM _ (ansM_fin hR.1.2 E) (ans_os g E) (fun a k z z2 => ansM_k _ _ (by omega) (by omega))).mono ?_⟩
    rintro y s2 g2 ⟨rfl, ⟨-, rfl, rfl⟩ | ⟨v, M, hs, -⟩⟩
    · refine ⟨rfl, ⟨[], (List.append_nil _).symm⟩, Λ, ?_⟩
      have q := refM_at (ansM g E) E
      have hW : mdW (ansM g E) (refM (ansM g E) E) := fun a k z => q.2.2 a k (fun e => by unfold mNum at z; omega) (by omega)
      refine hR.fin1 (v := E) hR.2.1.1 hR.2.1.2 hR.1.2 (fun _ _ _ => rfl) hW (by rw [ref_os, ans_os]) (rf_bad hR.2.2.2.1 hE (fun _ => rfl) hW q.1 (fun k => ?_)) (fun a k z => ?_)
      · rw [q.2.1, ansM_k _ _ (by omega) (by decide), ansM_k _ _ (by omega) (by decide)]
      · rw [q.2.2 a k (by omega) (by omega), ansM_k _ _ (by omega) (by omega)]
    · rw [hn] at hs; cases hs
  · have e1 : ∀ a k, 177 ≤ a → a ≤ 200 → ansM g0 0 a k = g a k := fun a k z z2 => (ansM_k _ _ (by omega) (by omega)).trans (hF0 a k (by unfold cS1; omega))
    have eo1 : osM (ansM g0 0) = osM g := by
      unfold osM
      rw [show ansM g0 0 179 = g 179 from funext fun y => e1 _ _ (by decide) (by decide), show ansM g0 0 190 = g 190 from funext fun y => e1 _ _ (by decide) (by decide), e1 _ _ (by decide) (by decide)]
    refine ⟨(0, v), rfl, Nat.zero_le _, hR.1.1, (hM _ (ansM_fin hf0 0) eo1 e1).mono ?_⟩
    rintro y s2 g2 ⟨rfl, ⟨hn, -⟩ | ⟨w, M, hs2, rfl, rfl, hF⟩⟩
    · rw [hn] at hs; cases hs
    · rw [hs] at hs2
      cases hs2
      refine ⟨rfl, ⟨[], (List.append_nil _).symm⟩, Λ, ?_⟩
      have q := goodM_at M
      have hW : mdW (ansM g0 0) (goodM M) := fun a k z => (q.2 a k (fun e => by unfold mNum at z; omega)).trans (hF a k (by omega) (fun e => by unfold mNum at z; omega))
      refine hR.fin1 (v := 0) hC hT hf0 hF0 hW (good_os M) (rf_good hR.2.2.2.1 (fun k => hF0 175 k (by unfold cS1; omega)) hW q.1 (fun k => ?_)) (fun a k z => ?_)
      · rw [q.2 _ _ (by omega), hF _ _ (by omega) (by omega), e1 _ _ (by decide) (by decide)]
      · rw [q.2 a k (by omega), hF a k (by omega) (by omega), e1 a k (by omega) (by omega)]
/-! ===== rows changed at one place ===== -/
theorem rowOK.set {r : Int → Int} (h : rowOK r) {y v : Int} (hy : (y = 24 ∧ 0 ≤ v ∧ v ≤ 999) ∨ (y = 37 ∧ 0 ≤ v ∧ v ≤ 10) ∨ (y = 38 ∧ 0 ≤ v ∧ v ≤ 9) ∨ ((y = 39 ∨ y = 40) ∧ 0 ≤ v ∧ v ≤ 24) ∨ (y = 42 ∧ 0 ≤ v ∧ v ≤ 6) ∨ (y = 44 ∧ -1 ≤ v ∧ v < r 43) ∨ (25 ≤ y ∧ y ≤ 36 ∧ ((y - 25) % 2 = 0 → 0 ≤ v ∧ v ≤ 3) ∧ ((y - 25) % 2 = 1 → -24 ≤ v ∧ v ≤ 999))) : rowOK (rPt r y v) := by
  have k : ∀ x, x ≠ y → rPt r y v x = r x := fun x hx => if_neg hx
  have ks : rPt r y v y = v := if_pos rfl
  obtain ⟨h1, h2, h3, h4, h5, h6, h7, h8, h9, h10, h11, h12, h13, h14⟩ := h
  refine ⟨by rw [k 41 (by omega)]; exact h1, fun i a b => by rw [k i (by omega)]; exact h2 i a b, ?_, ?_, ?_, ?_, ?_, ?_, by rw [k 43 (by omega)]; exact h9, ?_, fun j a b => ⟨?_, ?_⟩, fun i a b => by rw [k i (by omega)]; exact h12 i a b, fun i a b => by rw [k i (by omega)]; exact h13 i a b, fun i a b => by rw [k i (by omega)]; exact h14 i a b⟩
  · by_cases z : y = 24
    · subst z; rw [ks]; omega
    · rw [k 24 (by omega)]; exact h3
  · by_cases z : y = 37
    · subst z; rw [ks]; omega
    · rw [k 37 (by omega)]; exact h4
  · by_cases z : y = 38
    · subst z; rw [ks]; omega
    · rw [k 38 (by omega)]; exact h5
  · by_cases z : y = 39
    · subst z; rw [ks]; omega
    · rw [k 39 (by omega)]; exact h6
  · by_cases z : y = 40
    · subst z; rw [ks]; omega
    · rw [k 40 (by omega)]; exact h7
  · by_cases z : y = 42
    · subst z; rw [ks]; omega
    · rw [k 42 (by omega)]; exact h8
  · rw [k 43 (by omega)]
    by_cases z : y = 44
    · subst z; rw [ks]; omega
    · rw [k 44 (by omega)]; exact h10
  · by_cases z : y = 25 + 2 * j
    · rw [← z, ks]; omega
    · rw [k _ (by omega)]; exact (h11 j a b).1
  · by_cases z : y = 25 + 2 * j + 1
    · rw [← z, ks]; omega
    · rw [k _ (by omega)]; exact (h11 j a b).2
theorem rowOK.eq {r r2 : Int → Int} (h : rowOK r) (he : ∀ y, 0 ≤ y → y < 5652 → r2 y = r y) : rowOK r2 := by
  obtain ⟨h1, h2, h3, h4, h5, h6, h7, h8, h9, h10, h11, h12, h13, h14⟩ := h
  exact ⟨by rw [he _ (by decide) (by decide)]; exact h1, fun i a b => by rw [he i (by omega) (by omega)]; exact h2 i a b, by rw [he _ (by decide) (by decide)]; exact h3, by rw [he _ (by decide) (by decide)]; exact h4, by rw [he _ (by decide) (by decide)]; exact h5, by rw [he _ (by decide) (by decide)]; exact h6, by rw [he _ (by decide) (by decide)]; exact h7, by rw [he _ (by decide) (by decide)]; exact h8, by rw [he _ (by decide) (by decide)]; exact h9, by rw [he 44 (by decide) (by decide), he 43 (by decide) (by decide)]; exact h10, fun j a b => by rw [he _ (by omega) (by omega), he _ (by omega) (by omega)]; exact h11 j a b, fun i a b => by rw [he i (by omega) (by omega)]; exact h12 i a b, fun i a b => by rw [he i (by omega) (by omega)]; exact h13 i a b, fun i a b => by rw [he i (by omega) (by omega)]; exact h14 i a b⟩
theorem bdX.gen {Λ : Int → List PC} {sh : gS} {r r2 : Int → Int} {g g2 : gM} {b : Int} (h : bdX Λ sh r g b) (ho : rowOK r2) (hb : bdR r2 g2 b) (h43 : r2 43 = r 43) (hl : ∀ y, 45 ≤ y → r2 y = r y) (hg : ∀ k, g2 (b + 6) k = g (b + 6) k) (hx : ∀ x k, 201 ≤ x → g2 x k = g x k) : bdX Λ sh r2 g2 b := ⟨⟨ho, h.1.2⟩, hb, fun i a c => by
  rw [h43] at c
  rw [hg, rLaw_eq (fun y hy => hl y (by omega)) i a]
  exact ⟨(h.2.2 i a c).1, (h.2.2 i a c).2.ext hx⟩⟩
theorem bdX.add {Λ : Int → List PC} {sh : gS} {r : Int → Int} {g : gM} {b : Int} (hb : isBd b) (h : bdX Λ sh r g b) (hm : r 41 < 12) {u p : Int} (hu : 0 ≤ u ∧ u ≤ 24) (hp : 0 ≤ p ∧ p ≤ 24) : bdX Λ sh (rAdd r u p) (gup (gup (gup g (b + 1) (g b 0) u) (b + 2) (g b 0) p) b 0 (g b 0 + 1)) b := by
  have hm0 := ro_many h.1.1
  obtain ⟨b1, b2, b3, b4, b5, b6, b7⟩ := h.2.1
  have hh := ro_heardN h.1.1
  unfold isBd at hb
  have k : ∀ y, 24 ≤ y → y ≠ 41 → rAdd r u p y = r y := fun y h1 h2 => by
    unfold rAdd
    rw [if_neg h2, if_neg (by omega), if_neg (by omega)]
  have e0 : ∀ y, y ≠ 0 → gup (gup (gup g (b + 1) (g b 0) u) (b + 2) (g b 0) p) b 0 (g b 0 + 1) b y = g b y := fun y hy => by
    rw [gup_k _ _ _ _ hy, gup_a _ _ _ _ _ (by omega), gup_a _ _ _ _ _ (by omega)]
  have ea : ∀ a y, a ≠ b → a ≠ b + 1 → a ≠ b + 2 → gup (gup (gup g (b + 1) (g b 0) u) (b + 2) (g b 0) p) b 0 (g b 0 + 1) a y = g a y := fun a y q1 q2 q3 => by
    rw [gup_a _ _ _ _ _ q1, gup_a _ _ _ _ _ q3, gup_a _ _ _ _ _ q2]
  have e1 : ∀ y, gup (gup (gup g (b + 1) (g b 0) u) (b + 2) (g b 0) p) b 0 (g b 0 + 1) (b + 1) y = if y = r 41 then u else g (b + 1) y := fun y => by
    rw [gup_a _ _ _ _ _ (show b + 1 ≠ b by omega), gup_a _ _ _ _ _ (show b + 1 ≠ b + 2 by omega), b1]
    by_cases z : y = r 41
    · rw [if_pos z, z, gup_s]
    · rw [if_neg z, gup_k _ _ _ _ z]
  have e2 : ∀ y, gup (gup (gup g (b + 1) (g b 0) u) (b + 2) (g b 0) p) b 0 (g b 0 + 1) (b + 2) y = if y = r 41 then p else g (b + 2) y := fun y => by
    rw [gup_a _ _ _ _ _ (show b + 2 ≠ b by omega), b1]
    by_cases z : y = r 41
    · rw [if_pos z, z, gup_s]
    · rw [if_neg z, gup_k _ _ _ _ z, gup_a _ _ _ _ _ (show b + 2 ≠ b + 1 by omega)]
  refine h.gen (rAdd_ok h.1.1 hm hu hp) ⟨?_, ?_, ?_, ?_, fun i c d => ?_, ?_, fun j c d => ?_⟩ (k 43 (by decide) (by decide)) (fun y hy => k y (by omega) (by omega)) (fun y => ea _ _ (by omega) (by omega) (by omega)) (fun x y hx => ea x y (by omega) (by omega) (by omega))
  · rw [gup_s, b1]; exact (if_pos rfl).symm
  · rw [e0 4 (by decide), k 42 (by decide) (by decide)]; exact b2
  · rw [e0 7 (by decide), k 43 (by decide) (by decide)]; exact b3
  · rw [e0 9 (by decide), k 44 (by decide) (by decide)]; exact b4
  · have d : i < r 41 + 1 := d
    rw [e1, e2]
    by_cases z : i = r 41
    · rw [if_pos z, if_pos z]
      constructor
      · unfold rAdd
        rw [if_neg (by omega), if_neg (by omega), if_pos (by omega)]
      · unfold rAdd
        rw [if_neg (by omega), if_pos z]
    · rw [if_neg z, if_neg z]
      have q := b5 i c (by omega)
      constructor
      · unfold rAdd
        rw [if_neg (by omega), if_neg (by omega), if_neg (by omega)]; exact q.1
      · unfold rAdd
        rw [if_neg (by omega), if_neg z, if_neg (by omega)]; exact q.2
  · rw [ea _ _ (by omega) (by omega) (by omega), ea _ _ (by omega) (by omega) (by omega), ea _ _ (by omega) (by omega) (by omega), ea _ _ (by omega) (by omega) (by omega), ea _ _ (by omega) (by omega) (by omega), k 24 (by decide) (by decide), k 37 (by decide) (by decide), k 38 (by decide) (by decide), k 39 (by decide) (by decide), k 40 (by decide) (by decide)]
    exact b6
  · rw [k 42 (by decide) (by decide)] at d
    rw [ea _ _ (by omega) (by omega) (by omega), ea _ _ (by omega) (by omega) (by omega), k _ (by omega) (by omega), k _ (by omega) (by omega)]
    exact b7 j c d
/-- where a term stands in the row -/
def tmI (w : Int) : Int := if w = 0 then 24 else 36 + w
def tmOK (w v : Int) : Prop := 0 ≤ v ∧ ((w = 0 ∧ v ≤ 999) ∨ (w = 1 ∧ v ≤ 10) ∨ (w = 2 ∧ v ≤ 9) ∨ (w = 3 ∧ v ≤ 24) ∨ (w = 4 ∧ v ≤ 24))
theorem bdX.term {Λ : Int → List PC} {sh : gS} {r : Int → Int} {g : gM} {b : Int} (hb : isBd b) (h : bdX Λ sh r g b) {w v : Int} (hw : tmOK w v) : bdX Λ sh (rPt r (tmI w) v) (gup g (b + 3) w v) b := by
  have hm0 := ro_many h.1.1
  obtain ⟨b1, b2, b3, b4, b5, b6, b7⟩ := h.2.1
  have hh := ro_heardN h.1.1
  unfold isBd at hb
  unfold tmOK at hw
  have ht : tmI w = 24 ∨ (37 ≤ tmI w ∧ tmI w ≤ 40) := by unfold tmI; split <;> omega
  have k : ∀ x, x ≠ tmI w → rPt r (tmI w) v x = r x := fun x hx => if_neg hx
  have ea : ∀ a y, a ≠ b + 3 → gup g (b + 3) w v a y = g a y := fun a y q => gup_a _ _ _ _ _ q
  refine h.gen (h.1.1.set (by unfold tmI at ht ⊢; split <;> omega)) ⟨?_, ?_, ?_, ?_, fun i c d => ?_, ?_, fun j c d => ?_⟩ (k 43 (by omega)) (fun y hy => k y (by omega)) (fun y => ea _ _ (by omega)) (fun x y hx => ea x y (by omega))
  · rw [ea _ _ (by omega), k 41 (by omega)]; exact b1
  · rw [ea _ _ (by omega), k 42 (by omega)]; exact b2
  · rw [ea _ _ (by omega), k 43 (by omega)]; exact b3
  · rw [ea _ _ (by omega), k 44 (by omega)]; exact b4
  · rw [k 41 (by omega)] at d
    rw [ea _ _ (by omega), ea _ _ (by omega), k _ (by omega), k _ (by omega)]; exact b5 i c d
  · obtain ⟨t0, t1, t2, t3, t4⟩ := b6
    have at5 : ∀ q y, q ≠ w → y ≠ tmI w → g (b + 3) q = r y → gup g (b + 3) w v (b + 3) q = rPt r (tmI w) v y := fun q y z z2 e => by rw [gup_k _ _ _ _ z, k y z2]; exact e
    have atw : gup g (b + 3) w v (b + 3) w = rPt r (tmI w) v (tmI w) := by rw [gup_s]; exact (if_pos rfl).symm
    rcases (show w = 0 ∨ w = 1 ∨ w = 2 ∨ w = 3 ∨ w = 4 by omega) with rfl | rfl | rfl | rfl | rfl
    · exact ⟨atw, at5 1 37 (by decide) (by decide) t1, at5 2 38 (by decide) (by decide) t2, at5 3 39 (by decide) (by decide) t3, at5 4 40 (by decide) (by decide) t4⟩
    · exact ⟨at5 0 24 (by decide) (by decide) t0, atw, at5 2 38 (by decide) (by decide) t2, at5 3 39 (by decide) (by decide) t3, at5 4 40 (by decide) (by decide) t4⟩
    · exact ⟨at5 0 24 (by decide) (by decide) t0, at5 1 37 (by decide) (by decide) t1, atw, at5 3 39 (by decide) (by decide) t3, at5 4 40 (by decide) (by decide) t4⟩
    · exact ⟨at5 0 24 (by decide) (by decide) t0, at5 1 37 (by decide) (by decide) t1, at5 2 38 (by decide) (by decide) t2, atw, at5 4 40 (by decide) (by decide) t4⟩
    · exact ⟨at5 0 24 (by decide) (by decide) t0, at5 1 37 (by decide) (by decide) t1, at5 2 38 (by decide) (by decide) t2, at5 3 39 (by decide) (by decide) t3, atw⟩
  · rw [k 42 (by omega)] at d
    rw [ea _ _ (by omega), ea _ _ (by omega), k _ (by omega), k _ (by omega)]; exact b7 j c d
theorem bdX.fo {Λ : Int → List PC} {sh : gS} {r : Int → Int} {g : gM} {b : Int} (hb : isBd b) (h : bdX Λ sh r g b) {v : Int} (hv : -1 ≤ v ∧ v < r 43) : bdX Λ sh (rPt r 44 v) (gup g b 9 v) b := by
  have hm0 := ro_many h.1.1
  obtain ⟨b1, b2, b3, b4, b5, b6, b7⟩ := h.2.1
  have hh := ro_heardN h.1.1
  have k : ∀ x, x ≠ 44 → rPt r 44 v x = r x := fun x hx => if_neg hx
  have ea : ∀ a y, a ≠ b → gup g b 9 v a y = g a y := fun a y q => gup_a _ _ _ _ _ q
  refine ⟨⟨h.1.1.set (by omega), h.1.2⟩, ⟨?_, ?_, ?_, ?_, fun i c d => ?_, ?_, fun j c d => ?_⟩, fun i a c => ?_⟩
  · rw [gup_k _ _ _ _ (by decide), k 41 (by decide)]; exact b1
  · rw [gup_k _ _ _ _ (by decide), k 42 (by decide)]; exact b2
  · rw [gup_k _ _ _ _ (by decide), k 43 (by decide)]; exact b3
  · rw [gup_s]; exact (if_pos rfl).symm
  · rw [k 41 (by decide)] at d
    rw [ea _ _ (by omega), ea _ _ (by omega), k _ (by omega), k _ (by omega)]; exact b5 i c d
  · rw [ea _ _ (by omega), ea _ _ (by omega), ea _ _ (by omega), ea _ _ (by omega), ea _ _ (by omega), k 24 (by decide), k 37 (by decide), k 38 (by decide), k 39 (by decide), k 40 (by decide)]
    exact b6
  · rw [k 42 (by decide)] at d
    rw [ea _ _ (by omega), ea _ _ (by omega), k _ (by omega), k _ (by omega)]; exact b7 j c d
  · rw [k 43 (by decide)] at c
    rw [ea _ _ (by omega), rLaw_eq (r := r) (fun y hy => k y (by omega)) i a]
    unfold isBd at hb
    exact ⟨(h.2.2 i a c).1, (h.2.2 i a c).2.ext (fun x y hx => ea x y (by omega))⟩
theorem bdX.hrd {Λ : Int → List PC} {sh : gS} {r : Int → Int} {g : gM} {b : Int} (hb : isBd b) (h : bdX Λ sh r g b) (hk : r 42 < 6) {f n : Int} (hf : 0 ≤ f ∧ f ≤ 3) (hn : -24 ≤ n ∧ n ≤ 999) : bdX Λ sh (rPt (rPt (rPt r (25 + 2 * r 42) f) (25 + 2 * r 42 + 1) n) 42 (r 42 + 1)) (gup (gup (gup g (b + 4) (r 42) f) (b + 5) (r 42) n) b 4 (r 42 + 1)) b := by
  have hm0 := ro_many h.1.1
  obtain ⟨b1, b2, b3, b4, b5, b6, b7⟩ := h.2.1
  have hh := ro_heardN h.1.1
  unfold isBd at hb
  have k : ∀ x, x ≠ 42 → x ≠ 25 + 2 * r 42 → x ≠ 25 + 2 * r 42 + 1 → rPt (rPt (rPt r (25 + 2 * r 42) f) (25 + 2 * r 42 + 1) n) 42 (r 42 + 1) x = r x := fun x q1 q2 q3 => (if_neg q1).trans ((if_neg q3).trans (if_neg q2))
  have ea : ∀ a y, a ≠ b → a ≠ b + 4 → a ≠ b + 5 → gup (gup (gup g (b + 4) (r 42) f) (b + 5) (r 42) n) b 4 (r 42 + 1) a y = g a y := fun a y q1 q2 q3 => by rw [gup_a _ _ _ _ _ q1, gup_a _ _ _ _ _ q3, gup_a _ _ _ _ _ q2]
  have e0 : ∀ y, y ≠ 4 → gup (gup (gup g (b + 4) (r 42) f) (b + 5) (r 42) n) b 4 (r 42 + 1) b y = g b y := fun y hy => by
    rw [gup_k _ _ _ _ hy, gup_a _ _ _ _ _ (by omega), gup_a _ _ _ _ _ (by omega)]
  have e4 : ∀ y, gup (gup (gup g (b + 4) (r 42) f) (b + 5) (r 42) n) b 4 (r 42 + 1) (b + 4) y = if y = r 42 then f else g (b + 4) y := fun y => by
    rw [gup_a _ _ _ _ _ (show b + 4 ≠ b by omega), gup_a _ _ _ _ _ (show b + 4 ≠ b + 5 by omega)]
    by_cases z : y = r 42
    · rw [if_pos z, z, gup_s]
    · rw [if_neg z, gup_k _ _ _ _ z]
  have e5 : ∀ y, gup (gup (gup g (b + 4) (r 42) f) (b + 5) (r 42) n) b 4 (r 42 + 1) (b + 5) y = if y = r 42 then n else g (b + 5) y := fun y => by
    rw [gup_a _ _ _ _ _ (show b + 5 ≠ b by omega)]
    by_cases z : y = r 42
    · rw [if_pos z, z, gup_s]
    · rw [if_neg z, gup_k _ _ _ _ z, gup_a _ _ _ _ _ (show b + 5 ≠ b + 4 by omega)]
  have o1 := h.1.1.set (y := 25 + 2 * r 42) (v := f) (by omega)
  have o2 := o1.set (y := 25 + 2 * r 42 + 1) (v := n) (by omega)
  have o3 := o2.set (y := 42) (v := r 42 + 1) (by omega)
  refine h.gen o3 ⟨?_, ?_, ?_, ?_, fun i c d => ?_, ?_, fun j c d => ?_⟩ (k 43 (by omega) (by omega) (by omega)) (fun y hy => k y (by omega) (by omega) (by omega)) (fun y => ea _ _ (by omega) (by omega) (by omega)) (fun x y hx => ea x y (by omega) (by omega) (by omega))
  · rw [e0 _ (by decide), k 41 (by omega) (by omega) (by omega)]; exact b1
  · rw [gup_s]; exact (if_pos rfl).symm
  · rw [e0 _ (by decide), k 43 (by omega) (by omega) (by omega)]; exact b3
  · rw [e0 _ (by decide), k 44 (by omega) (by omega) (by omega)]; exact b4
  · rw [k 41 (by omega) (by omega) (by omega)] at d
    rw [ea _ _ (by omega) (by omega) (by omega), ea _ _ (by omega) (by omega) (by omega), k _ (by omega) (by omega) (by omega), k _ (by omega) (by omega) (by omega)]; exact b5 i c d
  · rw [ea _ _ (by omega) (by omega) (by omega), ea _ _ (by omega) (by omega) (by omega), ea _ _ (by omega) (by omega) (by omega), ea _ _ (by omega) (by omega) (by omega), ea _ _ (by omega) (by omega) (by omega), k 24 (by omega) (by omega) (by omega), k 37 (by omega) (by omega) (by omega), k 38 (by omega) (by omega) (by omega), k 39 (by omega) (by omega) (by omega), k 40 (by omega) (by omega) (by omega)]
    exact b6
  · have d : j < r 42 + 1 := d
    rw [e4, e5]
    by_cases z : j = r 42
    · rw [if_pos z, if_pos z, z]
      refine ⟨?_, ?_⟩
      · exact (((if_neg (by omega)).trans (if_neg (by omega))).trans (if_pos rfl)).symm
      · exact ((if_neg (by omega)).trans (if_pos rfl)).symm
    · rw [if_neg z, if_neg z, k _ (by omega) (by omega) (by omega), k _ (by omega) (by omega) (by omega)]
      exact b7 j c (by omega)
