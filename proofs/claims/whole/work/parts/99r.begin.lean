/-! ===== as the constructors leave it, desk and reference are one ===== -/
def oAll : List Cop := oModel_init ++ (cNw 177 12 :: (oDesk_init ++ [cNw 0 0]))
theorem gFin_of {l : List Cop} {g : gM} (h : (grefs.all fun x => (List.range x.2.length).all fun k => match x.2.getD k none with
    | some v => opsV l x.1 k == some v
    | none => true) = true) : gFin (opsR l g) := by
  intro a k v e
  have key : ∀ L : List (Nat × List (Option Int)), glk L a k = some v → ∃ x ∈ L, x.1 = a ∧ x.2.getD k none = some v := by
    intro L
    induction L with
    | nil => intro q; cases q
    | cons x t ih =>
      intro q
      unfold glk at q
      split at q
      · exact ⟨x, List.mem_cons_self, by assumption, q⟩
      · obtain ⟨y, h1, h2⟩ := ih q
        exact ⟨y, List.mem_cons_of_mem _ h1, h2⟩
  obtain ⟨x, h1, rfl, h3⟩ := key grefs e
  have hk : k < x.2.length := by
    by_cases z : k < x.2.length
    · exact z
    · rw [List.getD_eq_getElem?_getD, List.getElem?_eq_none (by omega)] at h3
      cases h3
  have h4 := List.all_eq_true.mp (List.all_eq_true.mp h x h1) k (List.mem_range.mpr hk)
  rw [h3] at h4
  exact opsV_ok (eq_of_beq h4)
def row0 : Int → Int := fun y => if y = 44 then -1 else if y = 40 then 24 else if y = 37 then 1 else 0
theorem row0_ok : rowOK row0 := by
  unfold rowOK row0
  refine ⟨by decide, fun i a b => ?_, by decide, by decide, by decide, by decide, by decide, by decide, by decide, Or.inr (by decide), fun j a b => ⟨?_, ?_⟩, fun i a b => ?_, fun i a b => ?_, fun i a b => ?_⟩
  all_goals (repeat' split)
  all_goals omega
theorem wd_len : (wdF wdL).length = 137 := by decide +kernel
theorem wd_all : ((List.range 137).all fun j => match (wdF wdL)[j]? with
    | some c => opsV oAll 183 j == some c
    | none => true) = true := by decide +kernel
theorem row_0 {g : gM} : opsR oAll g 179 = row0 := by
  funext y
  have h : opsR oAll g 179 y = gup (gup (gup (opsR (cMC ++ ([cUp 177 7 183] ++ (cMB6 ++ (cMB5 ++ (cMB4 ++ (cMB3 ++ (cMB2 ++ (cMB1 ++ (cMB0 ++ cMA)))))))) ++ (cNw 177 12 :: (oDesk_init ++ [cNw 0 0]))) g) 179 37 1) 179 40 24) 179 44 (-1) 179 y := by
    rfl
  rw [h]
  have h0 := opsW_ok (g := g) (a := 179) (v := 0) (l := (cMC ++ ([cUp 177 7 183] ++ (cMB6 ++ (cMB5 ++ (cMB4 ++ (cMB3 ++ (cMB2 ++ (cMB1 ++ (cMB0 ++ cMA)))))))) ++ (cNw 177 12 :: (oDesk_init ++ [cNw 0 0])))) (by decide +kernel) y
  unfold row0
  by_cases e1 : y = 44
  · rw [if_pos e1, e1, gup_s]
  rw [if_neg e1, gup_k _ _ _ _ e1]
  by_cases e2 : y = 40
  · rw [if_pos e2, e2, gup_s]
  rw [if_neg e2, gup_k _ _ _ _ e2]
  by_cases e3 : y = 37
  · rw [if_pos e3, e3, gup_s]
  rw [if_neg e3, gup_k _ _ _ _ e3]
  exact h0
theorem sh_0 {Λ : Int → List PC} {g : gM} {S k : Int} (h1 : opsV oAll S 1 = some k) (h2 : opsW oAll (S + 15) = some (-1)) (h3 : ∀ i, 0 ≤ i → i < 12 → opsV oAll (S + 14) i = some (-1)) (h4 : ∀ i, 0 ≤ i → i < 12 → opsW oAll (S + 2 + i) = some 0) : shI Λ gsh0 (opsR oAll g) S k := by
  refine ⟨opsV_ok h1, fun i a b => ⟨?_, ?_, Or.inl (opsV_ok (h3 i a b)), fun c _ _ => ?_⟩⟩
  · rw [opsW_ok h2 i]; exact ⟨Int.le_refl _, by decide⟩
  · rw [opsV_ok (h3 i a b)]; decide
  · rw [opsW_ok (h4 i a b) c]; decide
theorem i12P {P : Int → Prop} (h : ∀ i : Fin 12, P ((i : Nat) : Int)) : ∀ i, 0 ≤ i → i < 12 → P i := fun i a b => by
  have := h ⟨i.toNat, by omega⟩
  rwa [show (((⟨i.toNat, by omega⟩ : Fin 12) : Nat) : Int) = i from Int.toNat_of_nonneg a] at this
theorem cl_0 {Λ : Int → List PC} {sh : gS} {M : gM} (h1 : bdX Λ sh (M 179) M 1) (h2 : M 177 33 = 0) (h3 : M 13 3 = 0) : clI Λ sh (osM M) M := ⟨h1, by
  show trI (M 179) (M 190) (M 177 33) 13 M
  rw [h2]
  exact trI.zero _ _ h3⟩
theorem rel_0 {g : gM} : relR (fun _ => []) gsh0 (opsR oAll g) := by
  have V : ∀ {a k v : Int}, opsV oAll a k = some v → opsR oAll g a k = v := fun h => opsV_ok h
  have Wr : ∀ {a v : Int}, opsW oAll a = some v → ∀ k, opsR oAll g a k = v := fun h => opsW_ok h
  have e179 : ∀ y, opsR oAll g 179 y = row0 y := fun y => congrFun row_0 y
  refine ⟨⟨fun a s e => e, gFin_of (by decide +kernel)⟩, ⟨cl_0 ?_ ?_ ?_, fun i a b => ?_⟩, ⟨⟨?_, fun j a b => ?_⟩, ?_, fun j a b => ?_⟩, ⟨?_, fun k a b c => ?_⟩, ⟨?_, ?_, ?_⟩, ⟨?_, Or.inl ⟨?_, ?_⟩⟩, fun k a b => ⟨?_, Or.inl ?_⟩, ⟨?_, ?_, ?_⟩, fun j c e => ?_⟩
  · rw [row_0]
    refine ⟨⟨row0_ok, rfl⟩, ⟨?_, ?_, ?_, ?_, fun i a b => ?_, ⟨?_, ?_, ?_, ?_, ?_⟩, fun k a b => ?_⟩, fun i a b => ?_⟩
    · exact V (by decide +kernel)
    · exact V (by decide +kernel)
    · exact V (by decide +kernel)
    · exact V (by decide +kernel)
    · exfalso; have : row0 41 = 0 := by decide
      omega
    · exact V (by decide +kernel)
    · exact V (by decide +kernel)
    · exact V (by decide +kernel)
    · exact V (by decide +kernel)
    · exact V (by decide +kernel)
    · exfalso; have : row0 42 = 0 := by decide
      omega
    · exfalso; have : row0 43 = 0 := by decide
      omega
  · exact V (by decide +kernel)
  · exact V (by decide +kernel)
  · rw [show (1 : Int) + 6 = 7 from rfl, Wr (a := 7) (v := -1) (by decide +kernel) i]
    exact ⟨Int.le_refl _, Or.inl (by decide)⟩
  · rw [V (a := 177) (k := 13) (v := 0) (by decide +kernel)]; decide
  · rw [Wr (a := 184) (v := 0) (by decide +kernel) j]; decide
  · rw [V (a := 177) (k := 13) (v := 0) (by decide +kernel), V (a := 149) (k := 1) (v := 0) (by decide +kernel)]
  · rw [Wr (a := 184) (v := 0) (by decide +kernel) j, Wr (a := 150) (v := 0) (by decide +kernel) j]; rfl
  · rw [V (a := 0) (k := 13) (v := 0) (by decide +kernel), V (a := 177) (k := 0) (v := 0) (by decide +kernel)]
  · rw [Wr (a := 175) (v := 0) (by decide +kernel), Wr (a := 178) (v := 0) (by decide +kernel)]
  · rw [V (a := 0) (k := 11) (v := 0) (by decide +kernel), V (a := 177) (k := 6) (v := 0) (by decide +kernel)]
  · rw [V (a := 0) (k := 12) (v := -1) (by decide +kernel), V (a := 177) (k := 14) (v := -1) (by decide +kernel)]
  · rw [V (a := 12) (k := 1) (v := -1) (by decide +kernel), V (a := 177) (k := 41) (v := -1) (by decide +kernel)]
  · rw [V (a := 177) (k := 49) (v := -1) (by decide +kernel)]; decide
  · exact V (by decide +kernel)
  · exact V (by decide +kernel)
  · rw [Wr (a := 174) (v := 0) (by decide +kernel), Wr (a := 181) (v := 0) (by decide +kernel)]
  · exact Wr (a := 181) (v := 0) (by decide +kernel) k
  · exact sh_0 (by decide +kernel) (by decide +kernel) (i12P (by decide +kernel)) (i12P (by decide +kernel))
  · exact sh_0 (by decide +kernel) (by decide +kernel) (i12P (by decide +kernel)) (i12P (by decide +kernel))
  · exact sh_0 (by decide +kernel) (by decide +kernel) (i12P (by decide +kernel)) (i12P (by decide +kernel))
  · have hj : j < 137 := by
      have := (List.getElem?_eq_some_iff.mp e).1
      rw [wd_len] at this
      exact this
    have h4 := List.all_eq_true.mp wd_all j (List.mem_range.mpr hj)
    rw [e] at h4
    exact V (eq_of_beq h4)
theorem sh_all : ([] ++ [(0, 14)] ++ [(1, 10)] ++ sBoard_init ++ [(4, 4)] ++ sJudge_init ++ [(2, 10)] ++ sClerk_init ++ [(6, 13)] ++ sPaper_init ++ [(3, 3)] ++ sDraws_init ++ [(9, 2)] ++ sTape_init ++ [(7, 9)] ++ sReader_init ++ [(18, 2)] ++ [(1, 10)] ++ sBoard_init ++ [(1, 10)] ++ sBoard_init ++ [(14, 2)] ++ [(13, 6)] ++ [(16, 20)] ++ [(12, 51)] ++ sModel_init : gS) = gsh0 := by decide +kernel
