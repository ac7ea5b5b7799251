/-! ===== whole texts: laws by the orders' clauses ===== -/
def eM {α β : Type} (F : α → β) (r : Int ⊕ List α) : Int ⊕ List β := match r with
  | .inl e => .inl e
  | .inr M => .inr (M.map F)
def cM {α β : Type} (F : α → β) (r : Int ⊕ (Int × Int × α)) : Int ⊕ (Int × Int × β) := match r with
  | .inl e => .inl e
  | .inr (p, n, c) => .inr (p, n, F c)
theorem pAllL_map {α β : Type} (F : α → β) (T : Int → Int) (nt : Int) (cl : Int → Int → Int ⊕ (Int × Int × α)) : ∀ (f : Nat) (p n : Int) (L : List α), pAllL T nt (fun p n => cM F (cl p n)) f p n (L.map F) = eM F (pAllL T nt cl f p n L)
  | 0, _, _, _ => rfl
  | f + 1, p, n, L => by
    unfold pAllL
    by_cases z : T p = 159
    · rw [if_pos z, if_pos z, List.length_map]
      by_cases z2 : L.length = 12
      · rw [if_pos z2, if_pos z2]; rfl
      · rw [if_neg z2, if_neg z2]
        cases cl (p + 1) n with
        | inl e => rfl
        | inr x =>
          obtain ⟨p2, n2, c⟩ := x
          show pAllL T nt _ f p2 n2 (L.map F ++ [F c]) = eM F (pAllL T nt cl f p2 n2 (L ++ [c]))
          rw [← pAllL_map F T nt cl f p2 n2 (L ++ [c]), List.map_append]
          rfl
    · rw [if_neg z, if_neg z]
      by_cases z2 : p < nt
      · rw [if_pos z2, if_pos z2]; rfl
      · rw [if_neg z2, if_neg z2]; rfl
theorem pAll_map {α β : Type} (F : α → β) (T : Int → Int) (nt : Int) (cl : Int → Int → Int ⊕ (Int × Int × α)) : pAll T nt (fun p n => cM F (cl p n)) = eM F (pAll T nt cl) := by
  unfold pAll
  dsimp only
  cases cl 0 0 with
  | inl e => rfl
  | inr x =>
    obtain ⟨p2, n2, c⟩ := x
    exact pAllL_map F T nt cl 401 p2 n2 [c]
theorem pcM_cM (r : PCR) : pcM r = cM pcO r := by
  cases r with
  | inl e => rfl
  | inr x => rfl
/-- laws: what the class's clauses come to -/
theorem lawRd_wh (T V : Int → Int) (nt : Int) : pAll T nt (fun p n => whW T (pTest T V false 8) (hdL T (pSum T V false 8) p n)) = eM pcO (lawRd T V nt) := by
  rw [show (fun p n => whW T (pTest T V false 8) (hdL T (pSum T V false 8) p n)) = (fun p n => cM pcO (pClause T (pSum T V false 8) (pTest T V false 8) p n)) from funext fun p => funext fun n => (hdL_wh _ _ _ _ _).trans (pcM_cM _)]
  exact pAll_map _ _ _ _
theorem ordRd_wh (T V : Int → Int) (nt : Int) : pAll T nt (fun p n => whW T (pTest T V true 8) (hdO T V (pSum T V true 8) p n)) = pOrd T V nt := by
  rw [show (fun p n => whW T (pTest T V true 8) (hdO T V (pSum T V true 8) p n)) = pOrder T V (pSum T V true 8) (pTest T V true 8) from funext fun p => funext fun n => hdO_wh _ _ _ _ _ _]
  rfl
theorem hdL_fw {T V : Int → Int} {nt : Int} (h : pOK T nt) : ∀ p n p2 n2 c, whW T (pTest T V false 8) (hdL T (pSum T V false 8) p n) = .inr (p2, n2, c) → p < p2 ∧ p2 ≤ nt := fun p n p2 n2 c e => by
  rw [hdL_wh] at e
  cases hr : pClause T (pSum T V false 8) (pTest T V false 8) p n with
  | inl y => rw [hr] at e; cases e
  | inr y =>
    obtain ⟨q, m, d⟩ := y
    rw [hr] at e
    have := pClause_far h (pSum_far h 8) (pTest_far h 8) _ _ _ _ _ hr
    cases e
    exact this
theorem hdO_fw {T V : Int → Int} {nt : Int} (h : pOK T nt) : ∀ p n p2 n2 c, whW T (pTest T V true 8) (hdO T V (pSum T V true 8) p n) = .inr (p2, n2, c) → p < p2 ∧ p2 ≤ nt := fun p n p2 n2 c e => by
  rw [hdO_wh] at e
  obtain ⟨a1, a2, a3, a4, a5, a6, a7, a8⟩ := c
  exact (pOr_far h (by exact e)).1
