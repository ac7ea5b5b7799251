/-! ===== the clerk: orders ===== -/
theorem owW_h {r : Int → Int} {dn la bar cost i : Int} (h : 5 ≤ i ∧ i < 17) : owW r dn la bar cost i = if i - 5 ≤ r 41 - 1 then r (i - 5) else -1 := by
  unfold owW; rw [if_neg (by omega), if_neg (by omega), if_neg (by omega), if_neg (by omega), if_neg (by omega), if_pos h]
theorem owW_u {r : Int → Int} {dn la bar cost i : Int} (h : 17 ≤ i ∧ i < 29) : owW r dn la bar cost i = if i - 17 ≤ r 41 - 1 then r (12 + (i - 17)) else -1 := by
  unfold owW; rw [if_neg (by omega), if_neg (by omega), if_neg (by omega), if_neg (by omega), if_neg (by omega), if_neg (by omega), if_pos h]
theorem owW_l (r : Int → Int) (dn la bar cost : Int) : owW r dn la bar cost 0 = r 24 ∧ owW r dn la bar cost 1 = dn ∧ owW r dn la bar cost 2 = la ∧ owW r dn la bar cost 3 = bar ∧ owW r dn la bar cost 4 = cost := ⟨rfl, rfl, rfl, rfl, rfl⟩
def gwF (g g2 : gM) : Prop := ∀ a k, a ≠ 30 → a ≠ 10 → a ≠ 11 → ¬ (a = 8 ∧ 2 ≤ k ∧ k ≤ 3) → g2 a k = g a k
theorem gwF.rf (g : gM) : gwF g g := fun _ _ _ _ _ _ => rfl
theorem gwF.jg {g g2 g3 : gM} (h : gwF g g2) (j : jgF g2 g3) : gwF g g3 := fun a k n m q z => (j a k m q z).trans (h a k n m q z)
theorem gwF.up {g g2 : gM} (h : gwF g g2) (k v : Int) : gwF g (gup g2 30 k v) := fun a j n m q z => by rw [gup_a _ _ _ _ _ n]; exact h a j n m q z
theorem gwF.bd {Λ : Int → List PC} {sh : gS} {r : Int → Int} {g g2 : gM} (h : gwF g g2) (hX : bdX Λ sh r g 1) : bdX Λ sh r g2 1 := hX.of (fun a k z => h a k (by omega) (by omega) (by omega) (by omega))
theorem clI.of {Λ : Int → List PC} {sh : gS} {σ : OS} {g g2 : gM} (h : clI Λ sh σ g) (he : ∀ a k, (1 ≤ a ∧ a ≤ 7) ∨ (13 ≤ a ∧ a ≤ 16) ∨ 201 ≤ a → g2 a k = g a k) : clI Λ sh σ g2 := ⟨h.1.of (fun a k z => he a k (by omega)), h.2.of (fun a k z1 z2 => he a k (by omega))⟩
theorem clI.os {Λ : Int → List PC} {sh : gS} {σ : OS} {g : gM} (h : clI Λ sh σ g) : osOK σ.1 σ := ⟨h.1.1.1, fun _ _ => rfl, h.2.1⟩
/-- a step's end, read by its sign -/
theorem stQ_v {Λ : Int → List PC} {sh : gS} {g : gM} {E : Int} {S : Option (Int × OS)} {x : Option gV} {s2 : gS} {g2 : gM} (h : stQ Λ sh g E S x s2 g2) (hf : gFin g) (hE : -6 ≤ E ∧ E < 0) (hS : ∀ v σ', S = some (v, σ') → 0 ≤ v ∧ v ≤ 24) : s2 = sh ∧ clkF g g2 ∧ gFin g2 ∧ ∃ v, x = some (0, v) ∧ (-6 ≤ v ∧ v ≤ 24) ∧ ((v < 0 ∧ S = none ∧ v = E ∧ g2 = g) ∨ (0 ≤ v ∧ ∃ σ', S = some (v, σ') ∧ clI Λ sh σ' g2)) := by
  obtain ⟨h1, ⟨h2, h3, h4⟩ | ⟨v, σ', h2, h3, h4, h5, h6⟩⟩ := h
  · subst h4
    exact ⟨h1, clkF.rf _, hf, E, h3, by omega, Or.inl ⟨hE.2, h2, rfl, rfl⟩⟩
  · have := hS v σ' h2
    exact ⟨h1, h5, h6, v, h3, by omega, Or.inr ⟨this.1, σ', h2, h4⟩⟩
theorem mvE_bd (r : Int → Int) (n p : Int) : -6 ≤ mvE r n p ∧ mvE r n p < 0 := by unfold mvE; (repeat' split) <;> omega
theorem pcK.w29 {c : PK} {s : PS} (h : pcK true c s) {w w2 : Int → Int} (hw : ∀ i, 0 ≤ i → i < 29 → w i = w2 i) : s w = s w2 := h.congr (fun x hx h1 => by
  have := h.ops x hx
  unfold opOK at this
  rw [if_pos rfl] at this
  exact hw _ (by omega) (by omega))
theorem brK_c {o : Option Int} (h : ∀ v, o = some v → bd9 v) : (-2147483648 ≤ brK o ∧ brK o ≤ 1000000000) ∧ ((brK o = -2000000000 ∧ o = none) ∨ (o = some (brK o) ∧ -1000000000 ≤ brK o)) := by
  cases o with
  | none => exact ⟨by decide, Or.inl ⟨rfl, rfl⟩⟩
  | some v =>
    have := h v rfl
    unfold bd9 at this
    exact ⟨by show _ ≤ v ∧ v ≤ _; omega, Or.inr ⟨rfl, by show _ ≤ v; omega⟩⟩
/-- a text of orders in the clerk's hand: the clause j -/
theorem tx_at {lo o : Int} {sh : gS} {g : gM} {L : List OC} (ht : txL lo true sh g o L) {j : Nat} {c : OC} (hj : L[j]? = some c) : g (g o 3) (j : Int) = c.1 - 22 ∧ g (g o 4) (j : Int) = c.2.2.2.2.2.1 ∧ clK true c ∧ ∃ N : Nat, gsz sh (g o 3) 13 N ∧ gsz sh (g o 4) 13 N ∧ (j : Int) < N ∧ N ≤ 12 := by
  obtain ⟨N3, N5, N6, q1, q2, q3, q4, q5, q6, q7, q8, q9, q10, ⟨u, hu, q11⟩, q12⟩ := ht
  obtain ⟨t2, h1, h2, z1, z2, z3, z4, z5, z6, z7⟩ := tcL_at L 0 0 u q11 j c hj
  have hjl := (List.getElem?_eq_some_iff.mp hj).1
  rw [show (0 : Int) + (j : Int) = j by omega] at z1 z2
  rw [if_pos rfl] at z1
  exact ⟨z1, z2, q12 c (List.mem_of_getElem? hj), N3, q3, q4, by omega, by omega⟩
theorem clK_t {c : OC} (h : clK true c) : (22 ≤ c.1 ∧ c.1 ≤ 25) ∧ ((c.1 = 22 ∨ c.1 = 23) → pcK true c.2.1 c.2.2.1 ∧ pcK true c.2.2.2.1 c.2.2.2.2.1) ∧ (1 ≤ c.2.2.2.2.2.1 ∧ c.2.2.2.2.2.1 ≤ 20) ∧ ((c.2.2.2.2.2.2.1 = none ∧ c.2.2.2.2.2.2.2 = fun _ => some 1) ∨ ∃ k, c.2.2.2.2.2.2.1 = some k ∧ pcK true k c.2.2.2.2.2.2.2) := by
  obtain ⟨h1, h2, h3⟩ := h
  rw [if_pos rfl] at h1
  refine ⟨?_, ?_, h2, h3.elim Or.inl (fun ⟨k, a, b, _⟩ => Or.inr ⟨k, a, b⟩)⟩
  · rcases h1 with ⟨z, -⟩ | ⟨z, -⟩ <;> omega
  · rcases h1 with ⟨z, z2⟩ | ⟨z, -⟩
    · exact fun _ => z2
    · intro y; exfalso; omega
def roF (g g2 : gM) : Prop := ∀ a k, ¬ (2 ≤ a ∧ a ≤ 4) → a ≠ 10 → a ≠ 11 → ¬ (a = 8 ∧ 2 ≤ k ∧ k ≤ 3) → ¬ (13 ≤ a ∧ a ≤ 16) → a ≠ 18 → ¬ (a = 12 ∧ k = 9) → g2 a k = g a k
def orI (Λ : Int → List PC) (sh : gS) (S : XS) (g : gM) : Prop := clI Λ sh S.1 g ∧ g 12 8 = S.2.1 ∧ g 12 9 = S.2.2
def roA (c : OC) (S : XS) : Prop := (c.2.2.1 (wS S)).isSome = true ∧ (c.2.2.2.2.1 (wS S)).isSome = true
def roS (c : OC) (S : XS) : Option (Int × OS) := stepO c.1 ((c.2.2.1 (wS S)).getD 0) ((c.2.2.2.2.1 (wS S)).getD 0) S.1
def roQ (Λ : Int → List PC) (sh : gS) (c : OC) (S : XS) (v : Int) (g2 : gM) : Prop := (v = 0 ∧ ¬ (roA c S ∧ (roS c S).isSome = true)) ∨ (v = 1 ∧ roA c S ∧ ∃ w σ', roS c S = some (w, σ') ∧ orI Λ sh (σ', S.2.1, if c.1 = 25 then w else S.2.2) g2)
theorem exC_z {c : OC} {m : Nat} {S : XS} (h : c.2.2.2.2.2.2.2 (wS S) = some 1) (h2 : ¬ (roA c S ∧ (roS c S).isSome = true)) : exC c.1 c.2.2.1 c.2.2.2.2.1 c.2.2.2.2.2.2.2 (m + 1) S = none := by
  by_cases z : roA c S
  · refine exC_f h z ?_
    cases e : stepO c.1 ((c.2.2.1 (wS S)).getD 0) ((c.2.2.2.2.1 (wS S)).getD 0) S.1 with
    | none => rfl
    | some v => exact absurd ⟨z, by show (stepO c.1 ((c.2.2.1 (wS S)).getD 0) ((c.2.2.2.2.1 (wS S)).getD 0) S.1).isSome = true; rw [e]; rfl⟩ h2
  · exact exC_b h z
set_option maxHeartbeats 4000000 in
theorem c_Clerk_gatherWords {sh : gS} {g : gM} (hx : gFix sh) (hf : gFin g) {Λ : Int → List PC} {σ : OS} (hC : clI Λ sh σ g) {dn la : Int} (h8 : g 12 8 = dn) (h9 : g 12 9 = la) : gTri f_Clerk_gatherWords 5 0 0 [(2, 12)] sh g (fun x s2 g2 => x = none ∧ s2 = sh ∧ gwF g g2 ∧ gFin g2 ∧ ∀ i, 0 ≤ i → i < 29 → g2 30 i = owW σ.1 dn la (allN σ.1 2) (allN σ.1 0) i) := by
  have hd0 : g 4 0 = σ.1 24 := hC.1.2.1.2.2.2.2.2.1.1
  have hol := owW_l σ.1 dn la (allN σ.1 2) (allN σ.1 0)
  refine gTri.of (by decide +kernel) rfl ?_
  show gWP f_Clerk_gatherWords _ _ _ 0 [(2, 12), (9, 0)] [] sh g _
  refine gw_aload_n (gc k_Clerk_gatherWords_0 0 rfl) rfl rfl ?_
  refine gw_getref (gc k_Clerk_gatherWords_0 1 rfl) fl_Clerk_39 (by first | exact gAt hx rfl rfl | exact (bs hx i1).1 | exact (bs hx i1).2.1 | exact (bs hx i1).2.2.1 | exact (bs hx i1).2.2.2.1) (by first | exact gRf hf rfl rfl | exact (br hf i1).1 | exact (br hf i1).2.1 | exact (br hf i1).2.2.1) ?_
  refine gw_iconst (gc k_Clerk_gatherWords_0 2 rfl) ?_
  refine gw_aload_n (gc k_Clerk_gatherWords_0 3 rfl) rfl rfl ?_
  refine gw_getref (gc k_Clerk_gatherWords_0 4 rfl) fl_Clerk_43 (by first | exact gAt hx rfl rfl | exact (bs hx i1).1 | exact (bs hx i1).2.1 | exact (bs hx i1).2.2.1 | exact (bs hx i1).2.2.2.1) (by first | exact gRf hf rfl rfl | exact (br hf i1).1 | exact (br hf i1).2.1 | exact (br hf i1).2.2.1) ?_
  refine gw_getref (gc k_Clerk_gatherWords_0 5 rfl) fl_Clerk_77 (by first | exact gAt hx rfl rfl | exact (bs hx i1).1 | exact (bs hx i1).2.1 | exact (bs hx i1).2.2.1 | exact (bs hx i1).2.2.2.1) (by first | exact gRf hf rfl rfl | exact (br hf i1).1 | exact (br hf i1).2.1 | exact (br hf i1).2.2.1) ?_
  refine gw_iconst (gc k_Clerk_gatherWords_0 6 rfl) ?_
  refine gw_iald (gc k_Clerk_gatherWords_0 7 rfl) (by first | exact gAt hx rfl rfl | exact (bs hx i1).1 | exact (bs hx i1).2.1 | exact (bs hx i1).2.2.1 | exact (bs hx i1).2.2.2.1) (by omega) ?_
  rw [hd0]
  refine gw_iastF (gc k_Clerk_gatherWords_0 8 rfl) (by first | exact gAt hx rfl rfl | exact (bs hx i1).1 | exact (bs hx i1).2.1 | exact (bs hx i1).2.2.1 | exact (bs hx i1).2.2.2.1) (by omega) hf (by rfl) (fun hf => ?_)
  refine gw_aload_n (gc k_Clerk_gatherWords_0 9 rfl) rfl rfl ?_
  refine gw_getref (gc k_Clerk_gatherWords_0 10 rfl) fl_Clerk_39 (by first | exact gAt hx rfl rfl | exact (bs hx i1).1 | exact (bs hx i1).2.1 | exact (bs hx i1).2.2.1 | exact (bs hx i1).2.2.2.1) (by first | exact gRf hf rfl rfl | exact (br hf i1).1 | exact (br hf i1).2.1 | exact (br hf i1).2.2.1) ?_
  refine gw_iconst (gc k_Clerk_gatherWords_0 11 rfl) ?_
  refine gw_aload_n (gc k_Clerk_gatherWords_0 12 rfl) rfl rfl ?_
  refine gw_getf 8 rfl (gc k_Clerk_gatherWords_0 13 rfl) fl_Clerk_104 (by first | exact gAt hx rfl rfl | exact (bs hx i1).1 | exact (bs hx i1).2.1 | exact (bs hx i1).2.2.1 | exact (bs hx i1).2.2.2.1) ?_
  rw [gup_a _ _ _ _ _ (by decide), h8]
  refine gw_iastF (gc k_Clerk_gatherWords_0 14 rfl) (by first | exact gAt hx rfl rfl | exact (bs hx i1).1 | exact (bs hx i1).2.1 | exact (bs hx i1).2.2.1 | exact (bs hx i1).2.2.2.1) (by omega) hf (by rfl) (fun hf => ?_)
  refine gw_aload_n (gc k_Clerk_gatherWords_0 15 rfl) rfl rfl ?_
  refine gw_getref (gc k_Clerk_gatherWords_0 16 rfl) fl_Clerk_39 (by first | exact gAt hx rfl rfl | exact (bs hx i1).1 | exact (bs hx i1).2.1 | exact (bs hx i1).2.2.1 | exact (bs hx i1).2.2.2.1) (by first | exact gRf hf rfl rfl | exact (br hf i1).1 | exact (br hf i1).2.1 | exact (br hf i1).2.2.1) ?_
  refine gw_iconst (gc k_Clerk_gatherWords_0 17 rfl) ?_
  refine gw_aload_n (gc k_Clerk_gatherWords_0 18 rfl) rfl rfl ?_
  refine gw_getf 9 rfl (gc k_Clerk_gatherWords_0 19 rfl) fl_Clerk_107 (by first | exact gAt hx rfl rfl | exact (bs hx i1).1 | exact (bs hx i1).2.1 | exact (bs hx i1).2.2.1 | exact (bs hx i1).2.2.2.1) ?_
  rw [gup_a _ _ _ _ _ (by decide), gup_a _ _ _ _ _ (by decide), h9]
  refine gw_iastF (gc k_Clerk_gatherWords_0 20 rfl) (by first | exact gAt hx rfl rfl | exact (bs hx i1).1 | exact (bs hx i1).2.1 | exact (bs hx i1).2.2.1 | exact (bs hx i1).2.2.2.1) (by omega) hf (by rfl) (fun hf => ?_)
  obtain ⟨m1, hm1⟩ : ∃ M, M = gup (gup (gup g 30 0 (σ.1 24)) 30 1 dn) 30 2 la := ⟨_, rfl⟩
  rw [← hm1]
  have hf : gFin m1 := by rw [hm1]; exact hf
  have hF1 : gwF g m1 := by rw [hm1]; exact (((gwF.rf g).up _ _).up _ _).up _ _
  have hX1 := hF1.bd hC.1
  refine gw_aload_n (gc k_Clerk_gatherWords_0 21 rfl) rfl rfl ?_
  refine gw_getref (gc k_Clerk_gatherWords_0 22 rfl) fl_Clerk_39 (by first | exact gAt hx rfl rfl | exact (bs hx i1).1 | exact (bs hx i1).2.1 | exact (bs hx i1).2.2.1 | exact (bs hx i1).2.2.2.1) (by first | exact gRf hf rfl rfl | exact (br hf i1).1 | exact (br hf i1).2.1 | exact (br hf i1).2.2.1) ?_
  refine gw_iconst (gc k_Clerk_gatherWords_0 23 rfl) ?_
  refine gw_aload_n (gc k_Clerk_gatherWords_0 24 rfl) rfl rfl ?_
  refine gw_getref (gc k_Clerk_gatherWords_0 25 rfl) fl_Clerk_46 (by first | exact gAt hx rfl rfl | exact (bs hx i1).1 | exact (bs hx i1).2.1 | exact (bs hx i1).2.2.1 | exact (bs hx i1).2.2.2.1) (by first | exact gRf hf rfl rfl | exact (br hf i1).1 | exact (br hf i1).2.1 | exact (br hf i1).2.2.1) ?_
  refine gw_aload_n (gc k_Clerk_gatherWords_0 26 rfl) rfl rfl ?_
  refine gw_getref (gc k_Clerk_gatherWords_0 27 rfl) fl_Clerk_43 (by first | exact gAt hx rfl rfl | exact (bs hx i1).1 | exact (bs hx i1).2.1 | exact (bs hx i1).2.2.1 | exact (bs hx i1).2.2.2.1) (by first | exact gRf hf rfl rfl | exact (br hf i1).1 | exact (br hf i1).2.1 | exact (br hf i1).2.2.1) ?_
  refine gw_iconst (gc k_Clerk_gatherWords_0 28 rfl) ?_
  refine gw_xV1 (gc k_Clerk_gatherWords_0 29 rfl) y_Judge_total ln_Clerk_80 (c_Judge_total hx hf i1 hX1 2 (by decide)) rfl rfl (by first | exact gAt hx rfl rfl | exact (bs hx i1).1 | exact (bs hx i1).2.1 | exact (bs hx i1).2.2.1 | exact (bs hx i1).2.2.2.1) rfl rfl (fun r49 sh2 g49 hq49 => ?_)
  obtain ⟨rfl, hsh, hj⟩ := hq49
  subst sh2
  have hf := hj.fin hf
  refine gw_iastF (gc k_Clerk_gatherWords_0 30 rfl) (by first | exact gAt hx rfl rfl | exact (bs hx i1).1 | exact (bs hx i1).2.1 | exact (bs hx i1).2.2.1 | exact (bs hx i1).2.2.2.1) (by omega) hf (by rfl) (fun hf => ?_)
  obtain ⟨m2, hm2⟩ : ∃ M, M = gup g49 30 3 (allN σ.1 2) := ⟨_, rfl⟩
  rw [← hm2]
  have hf : gFin m2 := by rw [hm2]; exact hf
  have hF2 : gwF g m2 := by rw [hm2]; exact (hF1.jg hj).up _ _
  have hX2 := hF2.bd hC.1
  refine gw_aload_n (gc k_Clerk_gatherWords_0 31 rfl) rfl rfl ?_
  refine gw_getref (gc k_Clerk_gatherWords_0 32 rfl) fl_Clerk_39 (by first | exact gAt hx rfl rfl | exact (bs hx i1).1 | exact (bs hx i1).2.1 | exact (bs hx i1).2.2.1 | exact (bs hx i1).2.2.2.1) (by first | exact gRf hf rfl rfl | exact (br hf i1).1 | exact (br hf i1).2.1 | exact (br hf i1).2.2.1) ?_
  refine gw_iconst (gc k_Clerk_gatherWords_0 33 rfl) ?_
  refine gw_aload_n (gc k_Clerk_gatherWords_0 34 rfl) rfl rfl ?_
  refine gw_getref (gc k_Clerk_gatherWords_0 35 rfl) fl_Clerk_46 (by first | exact gAt hx rfl rfl | exact (bs hx i1).1 | exact (bs hx i1).2.1 | exact (bs hx i1).2.2.1 | exact (bs hx i1).2.2.2.1) (by first | exact gRf hf rfl rfl | exact (br hf i1).1 | exact (br hf i1).2.1 | exact (br hf i1).2.2.1) ?_
  refine gw_aload_n (gc k_Clerk_gatherWords_0 36 rfl) rfl rfl ?_
  refine gw_getref (gc k_Clerk_gatherWords_0 37 rfl) fl_Clerk_43 (by first | exact gAt hx rfl rfl | exact (bs hx i1).1 | exact (bs hx i1).2.1 | exact (bs hx i1).2.2.1 | exact (bs hx i1).2.2.2.1) (by first | exact gRf hf rfl rfl | exact (br hf i1).1 | exact (br hf i1).2.1 | exact (br hf i1).2.2.1) ?_
  refine gw_iconst (gc k_Clerk_gatherWords_0 38 rfl) ?_
  refine gw_xV1 (gc k_Clerk_gatherWords_0 39 rfl) y_Judge_total ln_Clerk_80 (c_Judge_total hx hf i1 hX2 0 (by decide)) rfl rfl (by first | exact gAt hx rfl rfl | exact (bs hx i1).1 | exact (bs hx i1).2.1 | exact (bs hx i1).2.2.1 | exact (bs hx i1).2.2.2.1) rfl rfl (fun r67 sh2 g67 hq67 => ?_)
  obtain ⟨rfl, hsh, hj2⟩ := hq67
  subst sh2
  have hf := hj2.fin hf
  refine gw_iastF (gc k_Clerk_gatherWords_1 0 rfl) (by first | exact gAt hx rfl rfl | exact (bs hx i1).1 | exact (bs hx i1).2.1 | exact (bs hx i1).2.2.1 | exact (bs hx i1).2.2.2.1) (by omega) hf (by rfl) (fun hf => ?_)
  obtain ⟨m4, hm4⟩ : ∃ M, M = gup g67 30 4 (allN σ.1 0) := ⟨_, rfl⟩
  rw [← hm4]
  have hf4 : gFin m4 := by rw [hm4]; exact hf
  have hF4 : gwF g m4 := by rw [hm4]; exact (hF2.jg hj2).up _ _
  have hV4 : ∀ i, ((0 ≤ i ∧ i < 5) ∨ (5 ≤ i ∧ i < 5 + (0 : Int)) ∨ (17 ≤ i ∧ i < 17 + (0 : Int))) → m4 30 i = owW σ.1 dn la (allN σ.1 2) (allN σ.1 0) i := fun i hi => by
    have e67 : ∀ y, g67 30 y = m2 30 y := fun y => hj2 30 y (by decide) (by decide) (by omega)
    have e49 : ∀ y, g49 30 y = m1 30 y := fun y => hj 30 y (by decide) (by decide) (by omega)
    rcases (show i = 0 ∨ i = 1 ∨ i = 2 ∨ i = 3 ∨ i = 4 by omega) with rfl | rfl | rfl | rfl | rfl
    · rw [hm4, gup_k _ _ _ _ (by decide), e67, hm2, gup_k _ _ _ _ (by decide), e49, hm1, gup_k _ _ _ _ (by decide), gup_k _ _ _ _ (by decide), gup_s, hol.1]
    · rw [hm4, gup_k _ _ _ _ (by decide), e67, hm2, gup_k _ _ _ _ (by decide), e49, hm1, gup_k _ _ _ _ (by decide), gup_s, hol.2.1]
    · rw [hm4, gup_k _ _ _ _ (by decide), e67, hm2, gup_k _ _ _ _ (by decide), e49, hm1, gup_s, hol.2.2.1]
    · rw [hm4, gup_k _ _ _ _ (by decide), e67, hm2, gup_s, hol.2.2.2.1]
    · rw [hm4, gup_s, hol.2.2.2.2]
  refine gw_iconst (gc k_Clerk_gatherWords_1 1 rfl) ?_
  refine gw_istore_1 (gc k_Clerk_gatherWords_1 2 rfl) rfl rfl ?_
  refine gwloop (σ := Int × gM) (fun zs => (0 ≤ (zs.1) ∧ (zs.1) ≤ 12) ∧ gwF g (zs.2) ∧ gFin (zs.2) ∧ ∀ i, ((0 ≤ i ∧ i < 5) ∨ (5 ≤ i ∧ i < 5 + (zs.1)) ∨ (17 ≤ i ∧ i < 17 + (zs.1))) → (zs.2) 30 i = owW σ.1 dn la (allN σ.1 2) (allN σ.1 0) i) (fun zs => (12 - (zs.1)).toNat) (fun zs => [(2, 12), (0, (zs.1))]) (fun zs => (zs.2)) (0, m4) (show (0 ≤ (0 : Int) ∧ (0 : Int) ≤ 12) ∧ gwF g m4 ∧ gFin m4 ∧ ∀ i, ((0 ≤ i ∧ i < 5) ∨ (5 ≤ i ∧ i < 5 + (0 : Int)) ∨ (17 ≤ i ∧ i < 17 + (0 : Int))) → m4 30 i = owW σ.1 dn la (allN σ.1 2) (allN σ.1 0) i from ⟨⟨by decide, by decide⟩, hF4, hf4, hV4⟩) rfl rfl (fun zs hI ih => ?_)
  obtain ⟨k, g1⟩ := zs
  replace hI : (0 ≤ k ∧ k ≤ 12) ∧ gwF g g1 ∧ gFin g1 ∧ ∀ i, ((0 ≤ i ∧ i < 5) ∨ (5 ≤ i ∧ i < 5 + k) ∨ (17 ≤ i ∧ i < 17 + k)) → g1 30 i = owW σ.1 dn la (allN σ.1 2) (allN σ.1 0) i := hI
  obtain ⟨hk, hF, hf, hV⟩ := hI
  show gWP _ _ _ _ _ [(2, 12), (0, k)] [] _ (g1) _
  have hX1 := hF.bd hC.1
  have hn1 := hX1.nums.1.1
  refine gw_iload_n (gc k_Clerk_gatherWords_1 3 rfl) rfl ?_
  refine gw_bipush (gc k_Clerk_gatherWords_1 4 rfl) (by decide) ?_
  refine gw_icmp_ge (tgt := 150) (gc k_Clerk_gatherWords_1 5 rfl) rfl (by omega) (fun c76 => ?_) (fun c76 => ?_)
  · refine gw_return (gc k_Clerk_gatherWords_2 4 rfl) rfl ?_
    refine ⟨rfl, rfl, hF, hf, fun i a b => hV i ?_⟩
    omega
  · refine gw_aload_n (gc k_Clerk_gatherWords_1 6 rfl) rfl rfl ?_
    refine gw_getref (gc k_Clerk_gatherWords_1 7 rfl) fl_Clerk_39 (by first | exact gAt hx rfl rfl | exact (bs hx i1).1 | exact (bs hx i1).2.1 | exact (bs hx i1).2.2.1 | exact (bs hx i1).2.2.2.1) (by first | exact gRf hf rfl rfl | exact (br hf i1).1 | exact (br hf i1).2.1 | exact (br hf i1).2.2.1) ?_
    refine gw_iconst (gc k_Clerk_gatherWords_1 8 rfl) ?_
    refine gw_iload_n (gc k_Clerk_gatherWords_1 9 rfl) rfl ?_
    refine gw_iadd (gc k_Clerk_gatherWords_1 10 rfl) ?_
    refine gw_join0 110 (fun v => v = if k ≤ σ.1 41 - 1 then σ.1 k else -1) (fun v86 hv86 => ?_) (fun kj86 => ?_)
    · refine gw_iastF (gc k_Clerk_gatherWords_1 23 rfl) (by first | exact gAt hx rfl rfl | exact (bs hx i1).1 | exact (bs hx i1).2.1 | exact (bs hx i1).2.2.1 | exact (bs hx i1).2.2.2.1) (by omega) hf (by rfl) (fun hf => ?_)
      obtain ⟨m5, hm5⟩ : ∃ M, M = gup g1 30 (5 + k) v86 := ⟨_, rfl⟩
      rw [← hm5]
      have hf : gFin m5 := by rw [hm5]; exact hf
      have hF5 : gwF g m5 := by rw [hm5]; exact hF.up _ _
      have hX5 := hF5.bd hC.1
      have hn5 := hX5.nums.1.1
      refine gw_aload_n (gc k_Clerk_gatherWords_1 24 rfl) rfl rfl ?_
      refine gw_getref (gc k_Clerk_gatherWords_1 25 rfl) fl_Clerk_39 (by first | exact gAt hx rfl rfl | exact (bs hx i1).1 | exact (bs hx i1).2.1 | exact (bs hx i1).2.2.1 | exact (bs hx i1).2.2.2.1) (by first | exact gRf hf rfl rfl | exact (br hf i1).1 | exact (br hf i1).2.1 | exact (br hf i1).2.2.1) ?_
      refine gw_bipush (gc k_Clerk_gatherWords_1 26 rfl) (by decide) ?_
      refine gw_iload_n (gc k_Clerk_gatherWords_1 27 rfl) rfl ?_
      refine gw_iadd (gc k_Clerk_gatherWords_1 28 rfl) ?_
      refine gw_join0 143 (fun v => v = if k ≤ σ.1 41 - 1 then σ.1 (12 + k) else -1) (fun v119 hv119 => ?_) (fun kj119 => ?_)
      · refine gw_iastF (gc k_Clerk_gatherWords_2 1 rfl) (by first | exact gAt hx rfl rfl | exact (bs hx i1).1 | exact (bs hx i1).2.1 | exact (bs hx i1).2.2.1 | exact (bs hx i1).2.2.2.1) (by omega) hf (by rfl) (fun hf => ?_)
        refine gw_iinc_1 (gc k_Clerk_gatherWords_2 2 rfl) rfl rfl ?_
        refine gw_goto (tgt := 73) (gc k_Clerk_gatherWords_2 3 rfl) rfl ?_
        obtain ⟨mn, hmn⟩ : ∃ M, M = gup m5 30 (17 + k) v119 := ⟨_, rfl⟩
        rw [← hmn]
        have hnew : (0 ≤ (k + 1) ∧ (k + 1) ≤ 12) ∧ gwF g mn ∧ gFin mn ∧ ∀ i, ((0 ≤ i ∧ i < 5) ∨ (5 ≤ i ∧ i < 5 + (k + 1)) ∨ (17 ≤ i ∧ i < 17 + (k + 1))) → mn 30 i = owW σ.1 dn la (allN σ.1 2) (allN σ.1 0) i := by
          refine ⟨⟨by omega, by omega⟩, ?_, ?_, fun i hi => ?_⟩
          · rw [hmn]; exact hF5.up _ _
          · rw [hmn]; exact hf
          · rw [hmn]
            by_cases e1 : i = 17 + k
            · subst e1
              rw [gup_s, hv119, owW_u (by omega), show 17 + k - 17 = k by omega]
            · rw [gup_k _ _ _ _ e1, hm5]
              by_cases e2 : i = 5 + k
              · subst e2
                rw [gup_s, hv86, owW_h (by omega), show 5 + k - 5 = k by omega]
              · rw [gup_k _ _ _ _ e2]
                exact hV i (by omega)
        exact ih (k + 1, mn) hnew (by show (12 - (k + 1)).toNat < (12 - k).toNat; omega)
      · refine gw_aload_n (gc k_Clerk_gatherWords_1 29 rfl) rfl rfl ?_
        refine gw_getref (gc k_Clerk_gatherWords_1 30 rfl) fl_Clerk_43 (by first | exact gAt hx rfl rfl | exact (bs hx i1).1 | exact (bs hx i1).2.1 | exact (bs hx i1).2.2.1 | exact (bs hx i1).2.2.2.1) (by first | exact gRf hf rfl rfl | exact (br hf i1).1 | exact (br hf i1).2.1 | exact (br hf i1).2.2.1) ?_
        refine gw_iload_n (gc k_Clerk_gatherWords_1 31 rfl) rfl ?_
        refine gw_cV1 (gc k_Clerk_gatherWords_1 32 rfl) y_Board_has ln_Clerk_64 (c_Board_has hx hf i1 k (by omega) (by have := hX5.nums.1; omega)) rfl rfl (by first | exact gAt hx rfl rfl | exact (bs hx i1).1 | exact (bs hx i1).2.1 | exact (bs hx i1).2.2.1 | exact (bs hx i1).2.2.2.1) rfl rfl ?_
        rw [hn5]
        refine gw_beq (tgt := 142) (gc k_Clerk_gatherWords_1 33 rfl) rfl (fun c127 => ?_) (fun c127 => ?_)
        · refine gw_iconst (gc k_Clerk_gatherWords_2 0 rfl) ?_
          exact kj119 _ ((by first | (rw [if_pos (by omega)]; exact (hX5.note (i := k) (by omega)).1.1) | rw [if_neg (by omega)]))
        · refine gw_aload_n (gc k_Clerk_gatherWords_1 34 rfl) rfl rfl ?_
          refine gw_getref (gc k_Clerk_gatherWords_1 35 rfl) fl_Clerk_43 (by first | exact gAt hx rfl rfl | exact (bs hx i1).1 | exact (bs hx i1).2.1 | exact (bs hx i1).2.2.1 | exact (bs hx i1).2.2.2.1) (by first | exact gRf hf rfl rfl | exact (br hf i1).1 | exact (br hf i1).2.1 | exact (br hf i1).2.2.1) ?_
          refine gw_getref (gc k_Clerk_gatherWords_1 36 rfl) fl_Clerk_57 (by first | exact gAt hx rfl rfl | exact (bs hx i1).1 | exact (bs hx i1).2.1 | exact (bs hx i1).2.2.1 | exact (bs hx i1).2.2.2.1) (by first | exact gRf hf rfl rfl | exact (br hf i1).1 | exact (br hf i1).2.1 | exact (br hf i1).2.2.1) ?_
          refine gw_iload_n (gc k_Clerk_gatherWords_1 37 rfl) rfl ?_
          refine gw_iald (gc k_Clerk_gatherWords_1 38 rfl) (by first | exact gAt hx rfl rfl | exact (bs hx i1).1 | exact (bs hx i1).2.1 | exact (bs hx i1).2.2.1 | exact (bs hx i1).2.2.2.1) (by omega) ?_
          refine gw_goto (tgt := 143) (gc k_Clerk_gatherWords_1 39 rfl) rfl ?_
          exact kj119 _ ((by first | (rw [if_pos (by omega)]; exact (hX5.note (i := k) (by omega)).1.1) | rw [if_neg (by omega)]))
    · refine gw_aload_n (gc k_Clerk_gatherWords_1 11 rfl) rfl rfl ?_
      refine gw_getref (gc k_Clerk_gatherWords_1 12 rfl) fl_Clerk_43 (by first | exact gAt hx rfl rfl | exact (bs hx i1).1 | exact (bs hx i1).2.1 | exact (bs hx i1).2.2.1 | exact (bs hx i1).2.2.2.1) (by first | exact gRf hf rfl rfl | exact (br hf i1).1 | exact (br hf i1).2.1 | exact (br hf i1).2.2.1) ?_
      refine gw_iload_n (gc k_Clerk_gatherWords_1 13 rfl) rfl ?_
      refine gw_cV1 (gc k_Clerk_gatherWords_1 14 rfl) y_Board_has ln_Clerk_64 (c_Board_has hx hf i1 k (by omega) (by have := hX1.nums.1; omega)) rfl rfl (by first | exact gAt hx rfl rfl | exact (bs hx i1).1 | exact (bs hx i1).2.1 | exact (bs hx i1).2.2.1 | exact (bs hx i1).2.2.2.1) rfl rfl ?_
      rw [hn1]
      refine gw_beq (tgt := 109) (gc k_Clerk_gatherWords_1 15 rfl) rfl (fun c94 => ?_) (fun c94 => ?_)
      · refine gw_iconst (gc k_Clerk_gatherWords_1 22 rfl) ?_
        exact kj86 _ ((by first | (rw [if_pos (by omega)]; exact (hX1.note (i := k) (by omega)).2.1) | rw [if_neg (by omega)]))
      · refine gw_aload_n (gc k_Clerk_gatherWords_1 16 rfl) rfl rfl ?_
        refine gw_getref (gc k_Clerk_gatherWords_1 17 rfl) fl_Clerk_43 (by first | exact gAt hx rfl rfl | exact (bs hx i1).1 | exact (bs hx i1).2.1 | exact (bs hx i1).2.2.1 | exact (bs hx i1).2.2.2.1) (by first | exact gRf hf rfl rfl | exact (br hf i1).1 | exact (br hf i1).2.1 | exact (br hf i1).2.2.1) ?_
        refine gw_getref (gc k_Clerk_gatherWords_1 18 rfl) fl_Clerk_50 (by first | exact gAt hx rfl rfl | exact (bs hx i1).1 | exact (bs hx i1).2.1 | exact (bs hx i1).2.2.1 | exact (bs hx i1).2.2.2.1) (by first | exact gRf hf rfl rfl | exact (br hf i1).1 | exact (br hf i1).2.1 | exact (br hf i1).2.2.1) ?_
        refine gw_iload_n (gc k_Clerk_gatherWords_1 19 rfl) rfl ?_
        refine gw_iald (gc k_Clerk_gatherWords_1 20 rfl) (by first | exact gAt hx rfl rfl | exact (bs hx i1).1 | exact (bs hx i1).2.1 | exact (bs hx i1).2.2.1 | exact (bs hx i1).2.2.2.1) (by omega) ?_
        refine gw_goto (tgt := 110) (gc k_Clerk_gatherWords_1 21 rfl) rfl ?_
        exact kj86 _ ((by first | (rw [if_pos (by omega)]; exact (hX1.note (i := k) (by omega)).2.1) | rw [if_neg (by omega)]))
set_option maxHeartbeats 8000000 in
theorem c_Clerk_runOnce {sh : gS} {g : gM} (hx : gFix sh) (hf : gFin g) {Λ : Int → List PC} {S : XS} (hO : orI Λ sh S g) {lo o : Int} {L : List OC} (ht : txL lo true sh g o L) (hlo : 152 ≤ lo) (j : Nat) {c : OC} (hj : L[j]? = some c) (hkc : okC c) (hw : ∀ i, 0 ≤ i → i < 29 → g 30 i = wS S i) (hwb : ∀ i, bd9 (wS S i)) : gTri f_Clerk_runOnce 7 0 0 [(2, 12), (2, o), (0, (j : Int))] sh g (fun x s2 g2 => ∃ v, x = some (0, v) ∧ s2 = sh ∧ roF g g2 ∧ gFin g2 ∧ roQ Λ sh c S v g2) := by
  obtain ⟨hcl, h8, h9⟩ := hO
  obtain ⟨z1, -, hck0, N, q3, -, hjN, hN12⟩ := tx_at ht hj
  obtain ⟨hkd, hck, -, -⟩ := clK_t hck0
  have hos := hcl.os
  refine gTri.of (by decide +kernel) rfl ?_
  show gWP f_Clerk_runOnce _ _ _ 0 [(2, 12), (2, o), (0, (j : Int)), (9, 0), (9, 0), (9, 0)] [] sh g _
  refine gw_aload_n (gc k_Clerk_runOnce_0 0 rfl) rfl rfl ?_
  refine gw_getf 3 rfl (gc k_Clerk_runOnce_0 1 rfl) fl_Clerk_132 ht.choose_spec.choose_spec.choose_spec.2.1 ?_
  refine gw_iload_n (gc k_Clerk_runOnce_0 2 rfl) rfl ?_
  refine gw_iald (gc k_Clerk_runOnce_0 3 rfl) q3 (by omega) ?_
  rw [z1]
  refine gw_istore_3 (gc k_Clerk_runOnce_0 4 rfl) rfl rfl ?_
  refine gw_iload_n (gc k_Clerk_runOnce_0 5 rfl) rfl ?_
  refine gw_iconst (gc k_Clerk_runOnce_0 6 rfl) ?_
  refine gw_icmp_ne (tgt := 25) (gc k_Clerk_runOnce_0 7 rfl) rfl (by omega) (fun c9 => ?_) (fun c9 => ?_)
  · refine gw_iload_n (gc k_Clerk_runOnce_0 15 rfl) rfl ?_
    refine gw_iconst (gc k_Clerk_runOnce_0 16 rfl) ?_
    refine gw_icmp_ne (tgt := 51) (gc k_Clerk_runOnce_0 17 rfl) rfl (by omega) (fun c27 => ?_) (fun c27 => ?_)
    · obtain ⟨hp1, hp2⟩ := hck (by omega)
      refine gw_aload_n (gc k_Clerk_runOnce_0 29 rfl) rfl rfl ?_
      refine gw_getref (gc k_Clerk_runOnce_0 30 rfl) fl_Clerk_25 (by first | exact gAt hx rfl rfl | exact (bs hx i1).1 | exact (bs hx i1).2.1 | exact (bs hx i1).2.2.1 | exact (bs hx i1).2.2.2.1) (by first | exact gRf hf rfl rfl | exact (br hf i1).1 | exact (br hf i1).2.1 | exact (br hf i1).2.2.1) ?_
      refine gw_aload_n (gc k_Clerk_runOnce_0 31 rfl) rfl rfl ?_
      refine gw_iload_n (gc k_Clerk_runOnce_0 32 rfl) rfl ?_
      refine gw_iconst (gc k_Clerk_runOnce_0 33 rfl) ?_
      refine gw_aload_n (gc k_Clerk_runOnce_0 34 rfl) rfl rfl ?_
      refine gw_getref (gc k_Clerk_runOnce_0 35 rfl) fl_Clerk_39 (by first | exact gAt hx rfl rfl | exact (bs hx i1).1 | exact (bs hx i1).2.1 | exact (bs hx i1).2.2.1 | exact (bs hx i1).2.2.2.1) (by first | exact gRf hf rfl rfl | exact (br hf i1).1 | exact (br hf i1).2.1 | exact (br hf i1).2.2.1) ?_
      refine gw_xV1 (gc k_Clerk_runOnce_0 36 rfl) y_Machine_workOut ln_Clerk_124 (c_wo hx hf (Or.inr rfl) ht hlo (gAt hx rfl rfl) (by decide) (by decide) (by decide) (fun y ya yb => by rw [hw y ya yb]; exact hwb y) j hj 0 hp1 (Or.inl ⟨rfl, rfl⟩)) rfl rfl (by first | exact gAt hx rfl rfl | exact (bs hx i1).1 | exact (bs hx i1).2.1 | exact (bs hx i1).2.2.1 | exact (bs hx i1).2.2.2.1) rfl rfl (fun r62 sh2 g62 hq62 => ?_)
      obtain ⟨rfl, hsh, hF1, hbd1⟩ := hq62
      subst sh2
      have hf := hF1.fin (Or.inr rfl) hf
      rw [hp1.w29 hw] at hbd1 ⊢
      have hy1 := brK_c hbd1
      obtain ⟨y1, hye1⟩ : ∃ y, y = brK (c.2.2.1 (wS S)) := ⟨_, rfl⟩
      rw [← hye1] at hy1 ⊢
      have ht1 : txL lo true sh g62 o L := ht.ext (fun x y hx => hF1 x y (by omega))
      have hw1 : ∀ i, 0 ≤ i → i < 29 → g62 30 i = wS S i := fun i a b => (hF1 30 i (by decide)).trans (hw i a b)
      refine gw_istore_4 (gc k_Clerk_runOnce_0 37 rfl) rfl rfl ?_
      refine gw_aload_n (gc k_Clerk_runOnce_0 38 rfl) rfl rfl ?_
      refine gw_getref (gc k_Clerk_runOnce_0 39 rfl) fl_Clerk_25 (by first | exact gAt hx rfl rfl | exact (bs hx i1).1 | exact (bs hx i1).2.1 | exact (bs hx i1).2.2.1 | exact (bs hx i1).2.2.2.1) (by first | exact gRf hf rfl rfl | exact (br hf i1).1 | exact (br hf i1).2.1 | exact (br hf i1).2.2.1) ?_
      refine gw_aload_n (gc k_Clerk_runOnce_1 0 rfl) rfl rfl ?_
      refine gw_iload_n (gc k_Clerk_runOnce_1 1 rfl) rfl ?_
      refine gw_iconst (gc k_Clerk_runOnce_1 2 rfl) ?_
      refine gw_aload_n (gc k_Clerk_runOnce_1 3 rfl) rfl rfl ?_
      refine gw_getref (gc k_Clerk_runOnce_1 4 rfl) fl_Clerk_39 (by first | exact gAt hx rfl rfl | exact (bs hx i1).1 | exact (bs hx i1).2.1 | exact (bs hx i1).2.2.1 | exact (bs hx i1).2.2.2.1) (by first | exact gRf hf rfl rfl | exact (br hf i1).1 | exact (br hf i1).2.1 | exact (br hf i1).2.2.1) ?_
      refine gw_xV1 (gc k_Clerk_runOnce_1 5 rfl) y_Machine_workOut ln_Clerk_124 (c_wo hx hf (Or.inr rfl) ht1 hlo (gAt hx rfl rfl) (by decide) (by decide) (by decide) (fun y ya yb => by rw [hw1 y ya yb]; exact hwb y) j hj 1 hp2 (Or.inr (Or.inl ⟨rfl, rfl⟩))) rfl rfl (by first | exact gAt hx rfl rfl | exact (bs hx i1).1 | exact (bs hx i1).2.1 | exact (bs hx i1).2.2.1 | exact (bs hx i1).2.2.2.1) rfl rfl (fun r78 sh2 g78 hq78 => ?_)
      obtain ⟨rfl, hsh, hF2, hbd2⟩ := hq78
      subst sh2
      have hf := hF2.fin (Or.inr rfl) hf
      rw [hp2.w29 hw1] at hbd2 ⊢
      have hy2 := brK_c hbd2
      obtain ⟨y2, hye2⟩ : ∃ y, y = brK (c.2.2.2.2.1 (wS S)) := ⟨_, rfl⟩
      rw [← hye2] at hy2 ⊢
      have hFw : ∀ a k, a ≠ 18 → g78 a k = g a k := fun a k q => (hF2 a k q).trans (hF1 a k q)
      have hcl2 : clI Λ sh S.1 g78 := hcl.of (fun a k q => hFw a k (by omega))
      refine gw_istore_5 (gc k_Clerk_runOnce_1 6 rfl) rfl rfl ?_
      refine gw_iload (gc k_Clerk_runOnce_1 7 rfl) rfl ?_
      refine gw_ldc (gc k_Clerk_runOnce_1 8 rfl) cn_Clerk_140 ?_
      refine gw_icmp_eq (tgt := 97) (gc k_Clerk_runOnce_1 9 rfl) rfl (by omega) (fun c87 => ?_) (fun c87 => ?_)
      · refine gw_iconst (gc k_Clerk_runOnce_1 13 rfl) ?_
        refine gw_zreturn (gc k_Clerk_runOnce_1 14 rfl) rfl (by omega) ?_
        refine ⟨0, rfl, rfl, fun a k y1 y2 y3 y4 y5 y6 y7 => hFw a k y6, hf, Or.inl ⟨rfl, fun z => ?_⟩⟩
        have y := z.1.1
        rcases hy1.2 with u | u
        · rw [u.2] at y; cases y
        · exfalso; omega
      · refine gw_iload (gc k_Clerk_runOnce_1 10 rfl) rfl ?_
        refine gw_ldc (gc k_Clerk_runOnce_1 11 rfl) cn_Clerk_140 ?_
        refine gw_icmp_ne (tgt := 99) (gc k_Clerk_runOnce_1 12 rfl) rfl (by omega) (fun c94 => ?_) (fun c94 => ?_)
        · have e1 : c.2.2.1 (wS S) = some y1 := by
            rcases hy1.2 with u | u
            · exact absurd u.1 c87
            · exact u.1
          have e2 : c.2.2.2.2.1 (wS S) = some y2 := by
            rcases hy2.2 with u | u
            · exact absurd u.1 c94
            · exact u.1
          have hA : roA c S := by unfold roA; rw [e1, e2]; exact ⟨rfl, rfl⟩
          refine gw_iload_n (gc k_Clerk_runOnce_1 15 rfl) rfl ?_
          refine gw_if_ne (tgt := 114) (gc k_Clerk_runOnce_1 16 rfl) rfl (by omega) (fun c100 => ?_) (fun c100 => ?_)
          · refine gw_aload_n (gc k_Clerk_runOnce_1 22 rfl) rfl rfl ?_
            refine gw_iload (gc k_Clerk_runOnce_1 23 rfl) rfl ?_
            refine gw_iload (gc k_Clerk_runOnce_1 24 rfl) rfl ?_
            refine gw_xV1 (gc k_Clerk_runOnce_1 25 rfl) y_Clerk_moveUnder ln_Clerk_145 (c_Clerk_moveUnder hx hf hcl2 y1 y2 (by omega)) rfl rfl (by first | exact gAt hx rfl rfl | exact (bs hx i1).1 | exact (bs hx i1).2.1 | exact (bs hx i1).2.2.1 | exact (bs hx i1).2.2.2.1) rfl rfl (fun r119 sh2 g119 hq119 => ?_)
            obtain ⟨hsh, hF, hf, v, rfl, hvb, hQ⟩ := stQ_v hq119 hf (mvE_bd _ _ _) (fun v σ' e => (sMv_ok (Or.inr rfl) hos e).2)
            subst sh2
            refine gw_if_lt (tgt := 129) (gc k_Clerk_runOnce_1 26 rfl) rfl (by omega) (fun c122 => ?_) (fun c122 => ?_)
            · refine gw_iconst (gc k_Clerk_runOnce_1 29 rfl) ?_
              refine gw_zreturn (gc k_Clerk_runOnce_1 30 rfl) rfl (by omega) ?_
              have hS : roS c S = sMv 1 12 y1 y2 S.1 := by unfold roS stepO; rw [e1, e2, if_neg (by omega), if_pos (by omega)]; rfl
              rcases hQ with ⟨z, z2, -⟩ | ⟨z, -⟩
              · refine ⟨0, rfl, rfl, fun a k x1 x2 x3 x4 x5 x6 x7 => (hF a k x1 x2 x3 x4 x5).trans (hFw a k x6), hf, Or.inl ⟨rfl, fun y => ?_⟩⟩
                have := y.2
                rw [hS, z2] at this
                cases this
              · exfalso; omega
            · refine gw_iconst (gc k_Clerk_runOnce_1 27 rfl) ?_
              refine gw_goto (tgt := 130) (gc k_Clerk_runOnce_1 28 rfl) rfl ?_
              refine gw_zreturn (gc k_Clerk_runOnce_1 30 rfl) rfl (by omega) ?_
              have hS : roS c S = sMv 1 12 y1 y2 S.1 := by unfold roS stepO; rw [e1, e2, if_neg (by omega), if_pos (by omega)]; rfl
              rcases hQ with ⟨z, -⟩ | ⟨-, σ', z, hI⟩
              · exfalso; omega
              · refine ⟨1, rfl, rfl, fun a k x1 x2 x3 x4 x5 x6 x7 => (hF a k x1 x2 x3 x4 x5).trans (hFw a k x6), hf, Or.inr ⟨rfl, hA, v, σ', hS.trans z, hI, (hF 12 8 (by decide) (by decide) (by decide) (by decide) (by decide)).trans ((hFw 12 8 (by decide)).trans h8), ?_⟩⟩
                show g119 12 9 = if c.1 = 25 then v else S.2.2
                rw [if_neg (by omega)]
                exact (hF 12 9 (by decide) (by decide) (by decide) (by decide) (by decide)).trans ((hFw 12 9 (by decide)).trans h9)
          · refine gw_aload_n (gc k_Clerk_runOnce_1 17 rfl) rfl rfl ?_
            refine gw_iload (gc k_Clerk_runOnce_1 18 rfl) rfl ?_
            refine gw_iload (gc k_Clerk_runOnce_1 19 rfl) rfl ?_
            refine gw_xV1 (gc k_Clerk_runOnce_1 20 rfl) y_Clerk_moveHere ln_Clerk_141 (c_Clerk_moveHere hx hf hcl2 y1 y2 (by omega)) rfl rfl (by first | exact gAt hx rfl rfl | exact (bs hx i1).1 | exact (bs hx i1).2.1 | exact (bs hx i1).2.2.1 | exact (bs hx i1).2.2.2.1) rfl rfl (fun r108 sh2 g108 hq108 => ?_)
            obtain ⟨hsh, hF, hf, v, rfl, hvb, hQ⟩ := stQ_v hq108 hf (mvE_bd _ _ _) (fun v σ' e => (sMv_ok (Or.inl rfl) hos e).2)
            subst sh2
            refine gw_goto (tgt := 122) (gc k_Clerk_runOnce_1 21 rfl) rfl ?_
            refine gw_if_lt (tgt := 129) (gc k_Clerk_runOnce_1 26 rfl) rfl (by omega) (fun c122 => ?_) (fun c122 => ?_)
            · refine gw_iconst (gc k_Clerk_runOnce_1 29 rfl) ?_
              refine gw_zreturn (gc k_Clerk_runOnce_1 30 rfl) rfl (by omega) ?_
              have hS : roS c S = sMv 0 0 y1 y2 S.1 := by unfold roS stepO; rw [e1, e2, if_pos (by omega)]; rfl
              rcases hQ with ⟨z, z2, -⟩ | ⟨z, -⟩
              · refine ⟨0, rfl, rfl, fun a k x1 x2 x3 x4 x5 x6 x7 => (hF a k x1 x2 x3 x4 x5).trans (hFw a k x6), hf, Or.inl ⟨rfl, fun y => ?_⟩⟩
                have := y.2
                rw [hS, z2] at this
                cases this
              · exfalso; omega
            · refine gw_iconst (gc k_Clerk_runOnce_1 27 rfl) ?_
              refine gw_goto (tgt := 130) (gc k_Clerk_runOnce_1 28 rfl) rfl ?_
              refine gw_zreturn (gc k_Clerk_runOnce_1 30 rfl) rfl (by omega) ?_
              have hS : roS c S = sMv 0 0 y1 y2 S.1 := by unfold roS stepO; rw [e1, e2, if_pos (by omega)]; rfl
              rcases hQ with ⟨z, -⟩ | ⟨-, σ', z, hI⟩
              · exfalso; omega
              · refine ⟨1, rfl, rfl, fun a k x1 x2 x3 x4 x5 x6 x7 => (hF a k x1 x2 x3 x4 x5).trans (hFw a k x6), hf, Or.inr ⟨rfl, hA, v, σ', hS.trans z, hI, (hF 12 8 (by decide) (by decide) (by decide) (by decide) (by decide)).trans ((hFw 12 8 (by decide)).trans h8), ?_⟩⟩
                show g108 12 9 = if c.1 = 25 then v else S.2.2
                rw [if_neg (by omega)]
                exact (hF 12 9 (by decide) (by decide) (by decide) (by decide) (by decide)).trans ((hFw 12 9 (by decide)).trans h9)
        · refine gw_iconst (gc k_Clerk_runOnce_1 13 rfl) ?_
          refine gw_zreturn (gc k_Clerk_runOnce_1 14 rfl) rfl (by omega) ?_
          refine ⟨0, rfl, rfl, fun a k y1 y2 y3 y4 y5 y6 y7 => hFw a k y6, hf, Or.inl ⟨rfl, fun z => ?_⟩⟩
          have y := z.1.2
          rcases hy2.2 with u | u
          · rw [u.2] at y; cases y
          · exfalso; omega
    · refine gw_aload_n (gc k_Clerk_runOnce_0 18 rfl) rfl rfl ?_
      refine gw_aload_n (gc k_Clerk_runOnce_0 19 rfl) rfl rfl ?_
      refine gw_xV1 (gc k_Clerk_runOnce_0 20 rfl) y_Clerk_nextDay ln_Clerk_137 (c_Clerk_nextDay hx hf hcl) rfl rfl (by first | exact gAt hx rfl rfl | exact (bs hx i1).1 | exact (bs hx i1).2.1 | exact (bs hx i1).2.2.1 | exact (bs hx i1).2.2.2.1) rfl rfl (fun r32 sh2 g32 hq32 => ?_)
      obtain ⟨hsh, hF, hf, v, rfl, hvb, hQ⟩ := stQ_v hq32 hf (by decide) (fun v σ' e => (by have := (sPs_ok hos e).2; omega))
      subst sh2
      refine gw_putIK 9 rfl (gc k_Clerk_runOnce_0 21 rfl) fl_Clerk_107 (by first | exact gAt hx rfl rfl | exact (bs hx i1).1 | exact (bs hx i1).2.1 | exact (bs hx i1).2.2.1 | exact (bs hx i1).2.2.2.1) hf (by rfl) (fun hf => ?_)
      refine gw_aload_n (gc k_Clerk_runOnce_0 22 rfl) rfl rfl ?_
      refine gw_getf 9 rfl (gc k_Clerk_runOnce_0 23 rfl) fl_Clerk_107 (by first | exact gAt hx rfl rfl | exact (bs hx i1).1 | exact (bs hx i1).2.1 | exact (bs hx i1).2.2.1 | exact (bs hx i1).2.2.2.1) ?_
      rw [gup_s]
      refine gw_if_lt (tgt := 49) (gc k_Clerk_runOnce_0 24 rfl) rfl (by omega) (fun c42 => ?_) (fun c42 => ?_)
      · refine gw_iconst (gc k_Clerk_runOnce_0 27 rfl) ?_
        refine gw_zreturn (gc k_Clerk_runOnce_0 28 rfl) rfl (by omega) ?_
        have hc25 : c.1 = 25 := by omega
        obtain ⟨hs1, hs2⟩ := hkc (Or.inr hc25)
        have hA : roA c S := by unfold roA; rw [hs1, hs2]; exact ⟨rfl, rfl⟩
        have hS : roS c S = sPs S.1 := by unfold roS stepO; rw [if_neg (by omega), if_neg (by omega), if_neg (by omega)]
        have hFm : roF g (gup g32 12 9 v) := fun a k y1 y2 y3 y4 y5 y6 y7 => by
          by_cases e : a = 12
          · subst e; rw [gup_k _ _ _ _ (fun q => y7 ⟨rfl, q⟩)]; exact hF _ k y1 y2 y3 y4 y5
          · rw [gup_a _ _ _ _ _ e]; exact hF a k y1 y2 y3 y4 y5
        rcases hQ with ⟨z, z2, -⟩ | ⟨z, -⟩
        · refine ⟨0, rfl, rfl, hFm, hf, Or.inl ⟨rfl, fun y => ?_⟩⟩
          have := y.2
          rw [hS, z2] at this
          cases this
        · exfalso; omega
      · refine gw_iconst (gc k_Clerk_runOnce_0 25 rfl) ?_
        refine gw_goto (tgt := 50) (gc k_Clerk_runOnce_0 26 rfl) rfl ?_
        refine gw_zreturn (gc k_Clerk_runOnce_0 28 rfl) rfl (by omega) ?_
        have hc25 : c.1 = 25 := by omega
        obtain ⟨hs1, hs2⟩ := hkc (Or.inr hc25)
        have hA : roA c S := by unfold roA; rw [hs1, hs2]; exact ⟨rfl, rfl⟩
        have hS : roS c S = sPs S.1 := by unfold roS stepO; rw [if_neg (by omega), if_neg (by omega), if_neg (by omega)]
        have hFm : roF g (gup g32 12 9 v) := fun a k y1 y2 y3 y4 y5 y6 y7 => by
          by_cases e : a = 12
          · subst e; rw [gup_k _ _ _ _ (fun q => y7 ⟨rfl, q⟩)]; exact hF _ k y1 y2 y3 y4 y5
          · rw [gup_a _ _ _ _ _ e]; exact hF a k y1 y2 y3 y4 y5
        rcases hQ with ⟨z, -⟩ | ⟨-, σ', z, hI⟩
        · exfalso; omega
        · refine ⟨1, rfl, rfl, hFm, hf, Or.inr ⟨rfl, hA, v, σ', hS.trans z, hI.of (fun a k y => gup_a _ _ _ _ _ (by omega)), ?_, ?_⟩⟩
          · rw [gup_k _ _ _ _ (by decide)]; exact (hF 12 8 (by decide) (by decide) (by decide) (by decide) (by decide)).trans h8
          · show gup g32 12 9 v 12 9 = if c.1 = 25 then v else S.2.2
            rw [if_pos hc25, gup_s]
  · refine gw_aload_n (gc k_Clerk_runOnce_0 8 rfl) rfl rfl ?_
    refine gw_xV1 (gc k_Clerk_runOnce_0 9 rfl) y_Clerk_exchange ln_Clerk_133 (c_Clerk_exchange hx hf hcl) rfl rfl (by first | exact gAt hx rfl rfl | exact (bs hx i1).1 | exact (bs hx i1).2.1 | exact (bs hx i1).2.2.1 | exact (bs hx i1).2.2.2.1) rfl rfl (fun r13 sh2 g13 hq13 => ?_)
    obtain ⟨hsh, hF, hf, v, rfl, hvb, hQ⟩ := stQ_v hq13 hf (by decide) (fun v σ' e => (sSw_ok hos e).2)
    subst sh2
    refine gw_if_lt (tgt := 23) (gc k_Clerk_runOnce_0 10 rfl) rfl (by omega) (fun c16 => ?_) (fun c16 => ?_)
    · refine gw_iconst (gc k_Clerk_runOnce_0 13 rfl) ?_
      refine gw_zreturn (gc k_Clerk_runOnce_0 14 rfl) rfl (by omega) ?_
      have hc24 : c.1 = 24 := by omega
      obtain ⟨hs1, hs2⟩ := hkc (Or.inl hc24)
      have hA : roA c S := by unfold roA; rw [hs1, hs2]; exact ⟨rfl, rfl⟩
      have hS : roS c S = sSw S.1 := by unfold roS stepO; rw [if_neg (by omega), if_neg (by omega), if_pos hc24]
      rcases hQ with ⟨z, z2, -⟩ | ⟨z, -⟩
      · refine ⟨0, rfl, rfl, fun a k y1 y2 y3 y4 y5 y6 y7 => hF a k y1 y2 y3 y4 y5, hf, Or.inl ⟨rfl, fun y => ?_⟩⟩
        have := y.2
        rw [hS, z2] at this
        cases this
      · exfalso; omega
    · refine gw_iconst (gc k_Clerk_runOnce_0 11 rfl) ?_
      refine gw_goto (tgt := 24) (gc k_Clerk_runOnce_0 12 rfl) rfl ?_
      refine gw_zreturn (gc k_Clerk_runOnce_0 14 rfl) rfl (by omega) ?_
      have hc24 : c.1 = 24 := by omega
      obtain ⟨hs1, hs2⟩ := hkc (Or.inl hc24)
      have hA : roA c S := by unfold roA; rw [hs1, hs2]; exact ⟨rfl, rfl⟩
      have hS : roS c S = sSw S.1 := by unfold roS stepO; rw [if_neg (by omega), if_neg (by omega), if_pos hc24]
      rcases hQ with ⟨z, -⟩ | ⟨-, σ', z, hI⟩
      · exfalso; omega
      · refine ⟨1, rfl, rfl, fun a k y1 y2 y3 y4 y5 y6 y7 => hF a k y1 y2 y3 y4 y5, hf, Or.inr ⟨rfl, hA, v, σ', hS.trans z, hI, (hF 12 8 (by decide) (by decide) (by decide) (by decide) (by decide)).trans h8, ?_⟩⟩
        show g13 12 9 = if c.1 = 25 then v else S.2.2
        rw [if_neg (by omega)]
        exact (hF 12 9 (by decide) (by decide) (by decide) (by decide) (by decide)).trans h9
def coF (g g2 : gM) : Prop := ∀ a k, ¬ (1 ≤ a ∧ a ≤ 7) → a ≠ 10 → a ≠ 11 → ¬ (a = 8 ∧ 2 ≤ k ∧ k ≤ 3) → ¬ (13 ≤ a ∧ a ≤ 16) → a ≠ 18 → ¬ (a = 12 ∧ (k = 1 ∨ k = 8 ∨ k = 9)) → ¬ (19 ≤ a ∧ a ≤ 30) → g2 a k = g a k
/-- as the orders are run, behind the copies -/
def oxF (g g2 : gM) : Prop := ∀ a k, ¬ (2 ≤ a ∧ a ≤ 4) → a ≠ 10 → a ≠ 11 → ¬ (a = 8 ∧ 2 ≤ k ∧ k ≤ 3) → ¬ (13 ≤ a ∧ a ≤ 16) → a ≠ 18 → ¬ (a = 12 ∧ (k = 8 ∨ k = 9)) → a ≠ 30 → g2 a k = g a k
theorem oxF.rf (g : gM) : oxF g g := fun _ _ _ _ _ _ _ _ _ _ => rfl
theorem oxF.gw {g g2 g3 : gM} (h : oxF g g2) (h2 : gwF g2 g3) : oxF g g3 := fun a k n m q x y z u w => (h2 a k w m q x).trans (h a k n m q x y z u w)
theorem oxF.mc {g g2 g3 : gM} (h : oxF g g2) (h2 : mcF 17 g2 g3) : oxF g g3 := fun a k n m q x y z u w => (h2 a k z).trans (h a k n m q x y z u w)
theorem oxF.ro {g g2 g3 : gM} (h : oxF g g2) (h2 : roF g2 g3) : oxF g g3 := fun a k n m q x y z u w => (h2 a k n m q x y z (fun e => u ⟨e.1, Or.inr e.2⟩)).trans (h a k n m q x y z u w)
theorem iA : isBd 19 := by unfold isBd; omega
theorem iU : isTr 26 := Or.inr rfl
theorem exL_n1 {L : List OC} {j : Nat} {c : OC} (hj : L[j]? = some c) (i : Int) {S : XS} (h : exC c.1 c.2.2.1 c.2.2.2.2.1 c.2.2.2.2.2.2.2 c.2.2.2.2.2.1.toNat S = none) : exL (L.drop j) i S = .inl i := by
  obtain ⟨hl, e⟩ := List.getElem?_eq_some_iff.mp hj
  rw [List.drop_eq_getElem_cons hl, e]
  exact exL_n h
theorem exL_s1 {L : List OC} {j : Nat} {c : OC} (hj : L[j]? = some c) (i : Int) {S S' : XS} (h : exC c.1 c.2.2.1 c.2.2.2.2.1 c.2.2.2.2.2.2.2 c.2.2.2.2.2.1.toNat S = some S') : exL (L.drop j) i S = exL (L.drop (j + 1)) (i + 1) S' := by
  obtain ⟨hl, e⟩ := List.getElem?_eq_some_iff.mp hj
  rw [List.drop_eq_getElem_cons hl, e]
  exact exL_s h
theorem xs0 (σ : OS) : xsB (σ, 0, -1) (20 * 0) := ⟨⟨Int.le_refl 0, Int.le_refl 0⟩, Int.le_refl (-1), (by decide : (-1 : Int) ≤ 12)⟩
theorem wS_bd {r : Int → Int} {S : XS} {d : Int} (ho : osOK r S.1) (hb : xsB S d) (hd : d ≤ 1000) (i : Int) : bd9 (wS S i) := by
  have h1 := allN_bd2 ho.1
  have h2 := allN_bd ho.1 0
  unfold xsB at hb
  exact owW_bd ho.1 ⟨by omega, by omega, h1, h2⟩ i
set_option maxHeartbeats 16000000 in
theorem c_Clerk_carryOut {sh : gS} {g : gM} (hx : gFix sh) (hf : gFin g) {Λ : Int → List PC} {σ : OS} (hC : clI Λ sh σ g) (hT : bdT sh g 1) {lo o : Int} {L : List OC} (ht : txL lo true sh g o L) (hlo : 152 ≤ lo) (hko : ∀ c ∈ L, okC c) : gTri f_Clerk_carryOut 8 0 0 [(2, 12), (2, o)] sh g (fun x s2 g2 => s2 = sh ∧ coF g g2 ∧ gFin g2 ∧ bdT sh g2 1 ∧ ((∃ i, exL L 0 (σ, 0, -1) = .inl i ∧ x = some (0, -3) ∧ g2 12 1 = i ∧ clI Λ sh σ g2) ∨ ∃ S, exL L 0 (σ, 0, -1) = .inr S ∧ x = some (0, S.2.1) ∧ g2 12 1 = -1 ∧ clI Λ sh S.1 g2)) := by
  have hos := hC.os
  have hLn : (L.length : Int) ≤ 12 := by
    obtain ⟨N3, N5, N6, q1, q2, q3, q4, q5, q6, q7, ⟨q8, q8b, -⟩, -⟩ := ht
    omega
  refine gTri.of (by decide +kernel) rfl ?_
  show gWP f_Clerk_carryOut _ _ _ 0 [(2, 12), (2, o), (9, 0), (9, 0)] [] sh g _
  refine gw_aload_n (gc k_Clerk_carryOut_0 0 rfl) rfl rfl ?_
  refine gw_getref (gc k_Clerk_carryOut_0 1 rfl) fl_Clerk_32 (by first | exact gAt hx rfl rfl | exact (bs hx i1).1 | exact (bs hx i1).2.1 | exact (bs hx i1).2.2.1 | exact (bs hx i1).2.2.2.1) (by first | exact gRf hf rfl rfl | exact (br hf i1).1 | exact (br hf i1).2.1 | exact (br hf i1).2.2.1) ?_
  refine gw_aload_n (gc k_Clerk_carryOut_0 2 rfl) rfl rfl ?_
  refine gw_getref (gc k_Clerk_carryOut_0 3 rfl) fl_Clerk_43 (by first | exact gAt hx rfl rfl | exact (bs hx i1).1 | exact (bs hx i1).2.1 | exact (bs hx i1).2.2.1 | exact (bs hx i1).2.2.2.1) (by first | exact gRf hf rfl rfl | exact (br hf i1).1 | exact (br hf i1).2.1 | exact (br hf i1).2.2.1) ?_
  refine gw_xV1 (gc k_Clerk_carryOut_0 4 rfl) y_Board_copyFrom ln_Clerk_97 (c_Board_copyFrom hx hf iA i1 (by decide) hT) rfl rfl (by first | exact gAt hx rfl rfl | exact (bs hx i1).1 | exact (bs hx i1).2.1 | exact (bs hx i1).2.2.1 | exact (bs hx i1).2.2.2.1) rfl rfl (fun r8 sh2 g8 hq8 => ?_)
  obtain ⟨rfl, hsh, hcp⟩ := hq8
  subst sh2
  have hf := cpS.fin iA (by decide) hcp hf
  refine gw_aload_n (gc k_Clerk_carryOut_0 5 rfl) rfl rfl ?_
  refine gw_getref (gc k_Clerk_carryOut_0 6 rfl) fl_Clerk_36 (by first | exact gAt hx rfl rfl | exact (bs hx i1).1 | exact (bs hx i1).2.1 | exact (bs hx i1).2.2.1 | exact (bs hx i1).2.2.2.1) (by first | exact gRf hf rfl rfl | exact (br hf i1).1 | exact (br hf i1).2.1 | exact (br hf i1).2.2.1) ?_
  refine gw_aload_n (gc k_Clerk_carryOut_0 7 rfl) rfl rfl ?_
  refine gw_getref (gc k_Clerk_carryOut_0 8 rfl) fl_Clerk_12 (by first | exact gAt hx rfl rfl | exact (bs hx i1).1 | exact (bs hx i1).2.1 | exact (bs hx i1).2.2.1 | exact (bs hx i1).2.2.2.1) (by first | exact gRf hf rfl rfl | exact (br hf i1).1 | exact (br hf i1).2.1 | exact (br hf i1).2.2.1) ?_
  refine gw_xV1 (gc k_Clerk_carryOut_0 9 rfl) y_Trail_copyFrom ln_Clerk_101 (c_Trail_copyFrom hx hf iU iT (by decide)) rfl rfl (by first | exact gAt hx rfl rfl | exact (bs hx i1).1 | exact (bs hx i1).2.1 | exact (bs hx i1).2.2.1 | exact (bs hx i1).2.2.2.1) rfl rfl (fun r19 sh2 g19 hq19 => ?_)
  obtain ⟨rfl, hsh, htc⟩ := hq19
  subst sh2
  have hf := htc.1.fin iU hf
  refine gw_aload_n (gc k_Clerk_carryOut_0 10 rfl) rfl rfl ?_
  refine gw_iconst (gc k_Clerk_carryOut_0 11 rfl) ?_
  refine gw_putIK 1 rfl (gc k_Clerk_carryOut_0 12 rfl) fl_Clerk_18 (by first | exact gAt hx rfl rfl | exact (bs hx i1).1 | exact (bs hx i1).2.1 | exact (bs hx i1).2.2.1 | exact (bs hx i1).2.2.2.1) hf (by rfl) (fun hf => ?_)
  refine gw_aload_n (gc k_Clerk_carryOut_0 13 rfl) rfl rfl ?_
  refine gw_iconst (gc k_Clerk_carryOut_0 14 rfl) ?_
  refine gw_putIK 8 rfl (gc k_Clerk_carryOut_0 15 rfl) fl_Clerk_104 (by first | exact gAt hx rfl rfl | exact (bs hx i1).1 | exact (bs hx i1).2.1 | exact (bs hx i1).2.2.1 | exact (bs hx i1).2.2.2.1) hf (by rfl) (fun hf => ?_)
  refine gw_aload_n (gc k_Clerk_carryOut_0 16 rfl) rfl rfl ?_
  refine gw_iconst (gc k_Clerk_carryOut_0 17 rfl) ?_
  refine gw_putIK 9 rfl (gc k_Clerk_carryOut_0 18 rfl) fl_Clerk_107 (by first | exact gAt hx rfl rfl | exact (bs hx i1).1 | exact (bs hx i1).2.1 | exact (bs hx i1).2.2.1 | exact (bs hx i1).2.2.2.1) hf (by rfl) (fun hf => ?_)
  obtain ⟨g3, hg3⟩ : ∃ M, M = gup (gup (gup g19 12 1 (-1)) 12 8 0) 12 9 (-1) := ⟨_, rfl⟩
  rw [← hg3]
  have hf3 : gFin g3 := by rw [hg3]; exact hf
  have h3 : ∀ a k, ¬ (19 ≤ a ∧ a ≤ 29) → ¬ (a = 12 ∧ (k = 1 ∨ k = 8 ∨ k = 9)) → g3 a k = g a k := fun a k z z2 => by
    have e : g3 a k = g19 a k := by
      rw [hg3]
      by_cases e : a = 12
      · subst e; rw [gup_k _ _ _ _ (by omega), gup_k _ _ _ _ (by omega), gup_k _ _ _ _ (by omega)]
      · rw [gup_a _ _ _ _ _ e, gup_a _ _ _ _ _ e, gup_a _ _ _ _ _ e]
    rw [e, htc.1 a k (by omega) (by omega), hcp.1 a k (by omega)]
  have h31 : g3 12 1 = -1 := by rw [hg3, gup_k _ _ _ _ (by decide), gup_k _ _ _ _ (by decide), gup_s]
  have hC3 : clI Λ sh σ g3 := hC.of (fun a k q => h3 a k (by omega) (by omega))
  have hO3 : orI Λ sh (σ, 0, -1) g3 := ⟨hC3, by rw [hg3, gup_k _ _ _ _ (by decide), gup_s], by rw [hg3, gup_s]⟩
  have ht3 : txL lo true sh g3 o L := ht.ext (fun x y hx => h3 x y (by omega) (by omega))
  have h3c : ∀ a k, 19 ≤ a → a ≤ 29 → g3 a k = g19 a k := fun a k z z2 => by
    rw [hg3, gup_a _ _ _ _ _ (by omega), gup_a _ _ _ _ _ (by omega), gup_a _ _ _ _ _ (by omega)]
  have hXA : bdX Λ sh σ.1 g3 19 := (hcp.bdX iA hC.1).of (fun a k q => by
    by_cases z : a ≤ 29
    · rw [h3c a k (by omega) z, htc.1 a k (by omega) (by omega)]
    · rw [h3 a k (by omega) (by omega), hcp.1 a k (by omega)])
  have hTA : bdT sh g3 19 := (cpS.tx hcp hT).keep (fun k => by rw [h3c _ _ (by decide) (by decide), htc.1 _ _ (by omega) (by decide)])
  have hRA : trI σ.1 σ.2.1 σ.2.2 26 g3 := ((hC.2.of (g2 := g8) (fun a k q1 q2 => hcp.1 a k (by omega))).copy htc).of (fun a k q1 q2 => h3c a k (by omega) (by omega))
  refine gw_iconst (gc k_Clerk_carryOut_0 19 rfl) ?_
  refine gw_istore_2 (gc k_Clerk_carryOut_0 20 rfl) rfl rfl ?_
  refine gwloop (σ := Int × XS × gV × gM) (fun zs => (0 ≤ (zs.1) ∧ (zs.1) ≤ (L.length : Int)) ∧ exL (L.drop (zs.1).toNat) (zs.1) (zs.2.1) = exL L 0 (σ, 0, -1) ∧ orI Λ sh (zs.2.1) (zs.2.2.2) ∧ osOK σ.1 (zs.2.1).1 ∧ xsB (zs.2.1) (20 * (zs.1)) ∧ oxF g3 (zs.2.2.2) ∧ gFin (zs.2.2.2)) (fun zs => ((L.length : Int) - (zs.1)).toNat) (fun zs => [(2, 12), (2, o), (0, (zs.1)), (zs.2.2.1)]) (fun zs => (zs.2.2.2)) (0, (σ, 0, -1), (9, 0), g3) (show (0 ≤ (0 : Int) ∧ (0 : Int) ≤ (L.length : Int)) ∧ exL (L.drop (0 : Int).toNat) (0 : Int) ((σ, 0, -1)) = exL L 0 (σ, 0, -1) ∧ orI Λ sh ((σ, 0, -1)) g3 ∧ osOK σ.1 ((σ, 0, -1)).1 ∧ xsB ((σ, 0, -1)) (20 * (0 : Int)) ∧ oxF g3 g3 ∧ gFin g3 from ⟨⟨by decide, by omega⟩, rfl, hO3, hos, xs0 σ, oxF.rf _, hf3⟩) rfl rfl (fun zs hI ih => ?_)
  obtain ⟨i, S, x3, g1⟩ := zs
  replace hI : (0 ≤ i ∧ i ≤ (L.length : Int)) ∧ exL (L.drop i.toNat) i S = exL L 0 (σ, 0, -1) ∧ orI Λ sh S g1 ∧ osOK σ.1 S.1 ∧ xsB S (20 * i) ∧ oxF g3 g1 ∧ gFin g1 := hI
  obtain ⟨hi, he, hO, hoS, hxB, hxF, hf⟩ := hI
  show gWP _ _ _ _ _ [(2, 12), (2, o), (0, i), x3] [] _ (g1) _
  have ihO := ih
  have ht1 : txL lo true sh g1 o L := ht3.ext (fun x y hx => hxF x y (by omega) (by omega) (by omega) (by omega) (by omega) (by omega) (by omega) (by omega))
  obtain ⟨hoz, hoc⟩ : gsz sh o 10 8 ∧ g1 o 0 = L.length := by
    obtain ⟨N3, N5, N6, q1, q2, q3, q4, q5, q6, q7, q8, q9, -⟩ := ht1
    exact ⟨q2, q9⟩
  refine gw_iload_n (gc k_Clerk_carryOut_0 21 rfl) rfl ?_
  refine gw_aload_n (gc k_Clerk_carryOut_0 22 rfl) rfl rfl ?_
  refine gw_getf 0 rfl (gc k_Clerk_carryOut_0 23 rfl) fl_Clerk_110 hoz ?_
  rw [hoc]
  refine gw_icmp_ge (tgt := 153) (gc k_Clerk_carryOut_0 24 rfl) rfl (by omega) (fun c44 => ?_) (fun c44 => ?_)
  · refine gw_aload_n (gc k_Clerk_carryOut_2 0 rfl) rfl rfl ?_
    refine gw_getf 8 rfl (gc k_Clerk_carryOut_2 1 rfl) fl_Clerk_104 (by first | exact gAt hx rfl rfl | exact (bs hx i1).1 | exact (bs hx i1).2.1 | exact (bs hx i1).2.2.1 | exact (bs hx i1).2.2.2.1) ?_
    refine gw_ireturn (gc k_Clerk_carryOut_2 2 rfl) rfl ?_
    have hEx : exL L 0 (σ, 0, -1) = .inr S := by
      rw [← he, show i.toNat = L.length by omega, List.drop_length]
      rfl
    refine ⟨rfl, fun a k z1 z2 z3 z4 z5 z6 z7 z8 => ?_, hf, ?_, Or.inr ⟨S, hEx, ?_, ?_, hO.1⟩⟩
    · rw [hxF a k (by omega) z2 z3 z4 z5 z6 (by omega) (by omega), h3 a k (by omega) (by omega)]
    · exact hT.keep (fun k => by rw [hxF _ _ (by decide) (by decide) (by decide) (by omega) (by decide) (by decide) (by omega) (by decide), h3 _ _ (by decide) (by omega)])
    · rw [hO.2.1]
    · rw [hxF _ _ (by decide) (by decide) (by decide) (by decide) (by decide) (by decide) (by decide) (by decide), h31]
  · obtain ⟨j, rfl⟩ : ∃ j : Nat, i = (j : Int) := ⟨i.toNat, by omega⟩
    have hjl : j < L.length := by omega
    obtain ⟨c, hj⟩ : ∃ c, L[j]? = some c := ⟨_, List.getElem?_eq_getElem hjl⟩
    have hko2 := hko c (List.mem_of_getElem? hj)
    obtain ⟨-, -, hck0, -⟩ := tx_at ht1 hj
    obtain ⟨hkd, hck, htm, hct⟩ := clK_t hck0
    refine gw_iconst (gc k_Clerk_carryOut_0 25 rfl) ?_
    refine gw_istore_3 (gc k_Clerk_carryOut_0 26 rfl) rfl rfl ?_
    refine gwloop (σ := Int × XS × gM) (fun zs => (0 ≤ (zs.1) ∧ (zs.1) ≤ c.2.2.2.2.2.1) ∧ exC c.1 c.2.2.1 c.2.2.2.2.1 c.2.2.2.2.2.2.2 (c.2.2.2.2.2.1 - (zs.1)).toNat (zs.2.1) = exC c.1 c.2.2.1 c.2.2.2.2.1 c.2.2.2.2.2.2.2 c.2.2.2.2.2.1.toNat S ∧ orI Λ sh (zs.2.1) (zs.2.2) ∧ osOK σ.1 (zs.2.1).1 ∧ xsB (zs.2.1) (20 * (j : Int) + (zs.1)) ∧ oxF g3 (zs.2.2) ∧ gFin (zs.2.2)) (fun zs => (c.2.2.2.2.2.1 - (zs.1)).toNat) (fun zs => [(2, 12), (2, o), (0, (j : Int)), (0, (zs.1))]) (fun zs => (zs.2.2)) (0, S, g1) (show (0 ≤ (0 : Int) ∧ (0 : Int) ≤ c.2.2.2.2.2.1) ∧ exC c.1 c.2.2.1 c.2.2.2.2.1 c.2.2.2.2.2.2.2 (c.2.2.2.2.2.1 - (0 : Int)).toNat S = exC c.1 c.2.2.1 c.2.2.2.2.1 c.2.2.2.2.2.2.2 c.2.2.2.2.2.1.toNat S ∧ orI Λ sh S g1 ∧ osOK σ.1 S.1 ∧ xsB S (20 * (j : Int) + (0 : Int)) ∧ oxF g3 g1 ∧ gFin g1 from ⟨⟨by decide, by omega⟩, by rw [Int.sub_zero], hO, hoS, by unfold xsB at hxB ⊢; omega, hxF, hf⟩) rfl rfl (fun zs hI ih => ?_)
    obtain ⟨t, T, G⟩ := zs
    replace hI : (0 ≤ t ∧ t ≤ c.2.2.2.2.2.1) ∧ exC c.1 c.2.2.1 c.2.2.2.2.1 c.2.2.2.2.2.2.2 (c.2.2.2.2.2.1 - t).toNat T = exC c.1 c.2.2.1 c.2.2.2.2.1 c.2.2.2.2.2.2.2 c.2.2.2.2.2.1.toNat S ∧ orI Λ sh T G ∧ osOK σ.1 T.1 ∧ xsB T (20 * (j : Int) + t) ∧ oxF g3 G ∧ gFin G := hI
    obtain ⟨ht2, hee, hOT, hoT, hxT, hFT, hf⟩ := hI
    show gWP _ _ _ _ _ [(2, 12), (2, o), (0, (j : Int)), (0, t)] [] _ (G) _
    have hf0G := hf
    have htG : txL lo true sh G o L := ht3.ext (fun x y hx => hFT x y (by omega) (by omega) (by omega) (by omega) (by omega) (by omega) (by omega) (by omega))
    obtain ⟨-, z2G, -, NG, -, q4G, hjG, hNG⟩ := tx_at htG hj
    have hozG : gsz sh o 10 8 := hoz
    refine gw_iload_n (gc k_Clerk_carryOut_0 27 rfl) rfl ?_
    refine gw_aload_n (gc k_Clerk_carryOut_0 28 rfl) rfl rfl ?_
    refine gw_getf 4 rfl (gc k_Clerk_carryOut_0 29 rfl) fl_Clerk_115 hozG ?_
    refine gw_iload_n (gc k_Clerk_carryOut_0 30 rfl) rfl ?_
    refine gw_iald (gc k_Clerk_carryOut_0 31 rfl) q4G (by omega) ?_
    rw [z2G]
    refine gw_icmp_ge (tgt := 147) (gc k_Clerk_carryOut_0 32 rfl) rfl (by omega) (fun c56 => ?_) (fun c56 => ?_)
    · refine gw_iinc_2 (gc k_Clerk_carryOut_1 38 rfl) rfl rfl ?_
      refine gw_goto (tgt := 39) (gc k_Clerk_carryOut_1 39 rfl) rfl ?_
      have hnew : (0 ≤ ((j : Int) + 1) ∧ ((j : Int) + 1) ≤ (L.length : Int)) ∧ exL (L.drop ((j : Int) + 1).toNat) ((j : Int) + 1) T = exL L 0 (σ, 0, -1) ∧ orI Λ sh T G ∧ osOK σ.1 T.1 ∧ xsB T (20 * ((j : Int) + 1)) ∧ oxF g3 G ∧ gFin G := by
        have hTS : exC c.1 c.2.2.1 c.2.2.2.2.1 c.2.2.2.2.2.2.2 c.2.2.2.2.2.1.toNat S = some T := by
          rw [← hee, show (c.2.2.2.2.2.1 - t).toNat = 0 by omega]
          rfl
        refine ⟨⟨by omega, by omega⟩, ?_, hOT, hoT, by unfold xsB at hxT ⊢; omega, hFT, hf⟩
        rw [← he, Int.toNat_natCast, exL_s1 hj _ hTS, show ((j : Int) + 1).toNat = j + 1 by omega]
      exact ihO ((j : Int) + 1, T, _, G) hnew (by show ((L.length : Int) - ((j : Int) + 1)).toNat < ((L.length : Int) - (j : Int)).toNat; omega)
    · refine gw_aload_n (gc k_Clerk_carryOut_0 33 rfl) rfl rfl ?_
      refine gw_xV1 (gc k_Clerk_carryOut_0 34 rfl) y_Clerk_gatherWords ln_Clerk_118 (c_Clerk_gatherWords hx hf hOT.1 hOT.2.1 hOT.2.2) rfl rfl (by first | exact gAt hx rfl rfl | exact (bs hx i1).1 | exact (bs hx i1).2.1 | exact (bs hx i1).2.2.1 | exact (bs hx i1).2.2.2.1) rfl rfl (fun r60 sh2 g60 hq60 => ?_)
      obtain ⟨rfl, hsh, hGw, hf6, hwv⟩ := hq60
      subst sh2
      have hf := hf6
      have hwv : ∀ i, 0 ≤ i → i < 29 → g60 30 i = wS T i := hwv
      have hO6 : orI Λ sh T g60 := ⟨hOT.1.of (fun a k q => hGw a k (by omega) (by omega) (by omega) (by omega)), (hGw _ _ (by decide) (by decide) (by decide) (by omega)).trans hOT.2.1, (hGw _ _ (by decide) (by decide) (by decide) (by omega)).trans hOT.2.2⟩
      have ht6 : txL lo true sh g60 o L := htG.ext (fun x y hx => hGw x y (by omega) (by omega) (by omega) (by omega))
      have hwb : ∀ i, bd9 (wS T i) := fun i => wS_bd hoT hxT (by omega) i
      refine gw_aload_n (gc k_Clerk_carryOut_0 35 rfl) rfl rfl ?_
      refine gw_iload_n (gc k_Clerk_carryOut_0 36 rfl) rfl ?_
      refine gw_cV1 (gc k_Clerk_carryOut_0 37 rfl) y_Text_hasTest ln_Clerk_121 (c_ht hx hf ht6 j hj) rfl rfl hozG rfl rfl ?_
      refine gw_beq (tgt := 92) (gc k_Clerk_carryOut_0 38 rfl) rfl (fun c68 => ?_) (fun c68 => ?_)
      · have htru : c.2.2.2.2.2.2.2 (wS T) = some 1 := by
          rcases hct with z | ⟨kk, z, -⟩
          · rw [z.2]
          · exact absurd (by rw [z]; rfl) c68
        have hO8 := hO6
        have ht8 := ht6
        have hw8 := hwv
        have hF6 := hFT.gw hGw
        have hf := hf6
        refine gw_aload_n (gc k_Clerk_carryOut_1 10 rfl) rfl rfl ?_
        refine gw_aload_n (gc k_Clerk_carryOut_1 11 rfl) rfl rfl ?_
        refine gw_iload_n (gc k_Clerk_carryOut_1 12 rfl) rfl ?_
        refine gw_xV1 (gc k_Clerk_carryOut_1 13 rfl) y_Clerk_runOnce ln_Clerk_128 (c_Clerk_runOnce hx hf hO8 ht8 hlo j hj (hko c (List.mem_of_getElem? hj)) hw8 hwb) rfl rfl (by first | exact gAt hx rfl rfl | exact (bs hx i1).1 | exact (bs hx i1).2.1 | exact (bs hx i1).2.2.1 | exact (bs hx i1).2.2.2.1) rfl rfl (fun r95 sh2 g95 hq95 => ?_)
        obtain ⟨v, rfl, hsh, hFr, hf, hR⟩ := hq95
        subst sh2
        have hF8 := hF6.ro hFr
        have hv01 : v = 0 ∨ v = 1 := hR.elim (fun z => Or.inl z.1) (fun z => Or.inr z.1)
        refine gw_if_ne (tgt := 131) (gc k_Clerk_carryOut_1 14 rfl) rfl (by omega) (fun c98 => ?_) (fun c98 => ?_)
        · refine gw_aload_n (gc k_Clerk_carryOut_1 30 rfl) rfl rfl ?_
          refine gw_dup (gc k_Clerk_carryOut_1 31 rfl) rfl ?_
          refine gw_getf 8 rfl (gc k_Clerk_carryOut_1 32 rfl) fl_Clerk_104 (by first | exact gAt hx rfl rfl | exact (bs hx i1).1 | exact (bs hx i1).2.1 | exact (bs hx i1).2.2.1 | exact (bs hx i1).2.2.2.1) ?_
          refine gw_iconst (gc k_Clerk_carryOut_1 33 rfl) ?_
          refine gw_iadd (gc k_Clerk_carryOut_1 34 rfl) ?_
          refine gw_putIK 8 rfl (gc k_Clerk_carryOut_1 35 rfl) fl_Clerk_104 (by first | exact gAt hx rfl rfl | exact (bs hx i1).1 | exact (bs hx i1).2.1 | exact (bs hx i1).2.2.1 | exact (bs hx i1).2.2.2.1) hf (by rfl) (fun hf => ?_)
          refine gw_iinc_3 (gc k_Clerk_carryOut_1 36 rfl) rfl rfl ?_
          refine gw_goto (tgt := 49) (gc k_Clerk_carryOut_1 37 rfl) rfl ?_
          rcases hR with ⟨z, -⟩ | ⟨-, hA, w, σ', hS, hI⟩
          · exact absurd z c98
          obtain ⟨hk1, hk2, hk3⟩ := stepO_ok hoT hS
          have hd8 : g95 12 8 = T.2.1 := hI.2.1
          rw [hd8] at hf ⊢
          have hnew : (0 ≤ (t + 1) ∧ (t + 1) ≤ c.2.2.2.2.2.1) ∧ exC c.1 c.2.2.1 c.2.2.2.2.1 c.2.2.2.2.2.2.2 (c.2.2.2.2.2.1 - (t + 1)).toNat ((σ', T.2.1 + 1, if c.1 = 25 then w else T.2.2)) = exC c.1 c.2.2.1 c.2.2.2.2.1 c.2.2.2.2.2.2.2 c.2.2.2.2.2.1.toNat S ∧ orI Λ sh ((σ', T.2.1 + 1, if c.1 = 25 then w else T.2.2)) (gup g95 12 8 (T.2.1 + 1)) ∧ osOK σ.1 ((σ', T.2.1 + 1, if c.1 = 25 then w else T.2.2)).1 ∧ xsB ((σ', T.2.1 + 1, if c.1 = 25 then w else T.2.2)) (20 * (j : Int) + (t + 1)) ∧ oxF g3 (gup g95 12 8 (T.2.1 + 1)) ∧ gFin (gup g95 12 8 (T.2.1 + 1)) := by
            refine ⟨⟨by omega, by omega⟩, ?_, ?_, hk1, ?_, ?_, hf⟩
            · rw [← hee, show (c.2.2.2.2.2.1 - t).toNat = (c.2.2.2.2.2.1 - (t + 1)).toNat + 1 by omega, exC_s htru hA hS]
            · exact ⟨hI.1.of (fun a k q => gup_a _ _ _ _ _ (by omega)), gup_s _ _ _ _, (gup_k _ _ _ _ (by decide)).trans hI.2.2⟩
            · unfold xsB at hxT ⊢
              refine ⟨⟨by show 0 ≤ T.2.1 + 1; omega, by show T.2.1 + 1 ≤ _; omega⟩, ?_⟩
              show -1 ≤ (if c.1 = 25 then w else T.2.2) ∧ (if c.1 = 25 then w else T.2.2) ≤ 12
              by_cases z : c.1 = 25
              · rw [if_pos z]; have := hk3 (by omega); omega
              · rw [if_neg z]; exact hxT.2
            · intro a k n m q x y z u v
              by_cases e : a = 12
              · subst e; rw [gup_k _ _ _ _ (by omega)]; exact hF8 _ k n m q x y z u v
              · rw [gup_a _ _ _ _ _ e]; exact hF8 a k n m q x y z u v
          exact ih (t + 1, (σ', T.2.1 + 1, if c.1 = 25 then w else T.2.2), gup g95 12 8 (T.2.1 + 1)) hnew (by show (c.2.2.2.2.2.1 - (t + 1)).toNat < (c.2.2.2.2.2.1 - t).toNat; omega)
        · have hv0 : v = 0 := c98
          subst hv0
          have hRn : ¬ (roA c T ∧ (roS c T).isSome = true) := hR.elim (fun z => z.2) (fun z => absurd z.1 (by decide))
          have hTS : exC c.1 c.2.2.1 c.2.2.2.2.1 c.2.2.2.2.2.2.2 c.2.2.2.2.2.1.toNat S = none := by
            rw [← hee, show (c.2.2.2.2.2.1 - t).toNat = (c.2.2.2.2.2.1 - (t + 1)).toNat + 1 by omega, exC_z htru hRn]
          have hEx : exL L 0 (σ, 0, -1) = .inl (j : Int) := by rw [← he, Int.toNat_natCast, exL_n1 hj _ hTS]
          refine gw_aload_n (gc k_Clerk_carryOut_1 15 rfl) rfl rfl ?_
          refine gw_iload_n (gc k_Clerk_carryOut_1 16 rfl) rfl ?_
          refine gw_putIK 1 rfl (gc k_Clerk_carryOut_1 17 rfl) fl_Clerk_18 (by first | exact gAt hx rfl rfl | exact (bs hx i1).1 | exact (bs hx i1).2.1 | exact (bs hx i1).2.2.1 | exact (bs hx i1).2.2.2.1) hf (by rfl) (fun hf => ?_)
          obtain ⟨g9, hg9⟩ : ∃ M, M = gup g95 12 1 (j : Int) := ⟨_, rfl⟩
          rw [← hg9]
          have hf : gFin g9 := by rw [hg9]; exact hf
          have h9 : ∀ a k, ¬ (a = 12 ∧ k = 1) → g9 a k = g95 a k := fun a k z => by
            rw [hg9]
            by_cases e : a = 12
            · subst e; rw [gup_k _ _ _ _ (by omega)]
            · rw [gup_a _ _ _ _ _ e]
          have h9A : ∀ a k, 19 ≤ a → a ≤ 29 → g9 a k = g3 a k := fun a k z z2 => by rw [h9 a k (by omega)]; exact hF8 a k (by omega) (by omega) (by omega) (by omega) (by omega) (by omega) (by omega) (by omega)
          have h9L : ∀ a k, 201 ≤ a → g9 a k = g3 a k := fun a k z => by rw [h9 a k (by omega)]; exact hF8 a k (by omega) (by omega) (by omega) (by omega) (by omega) (by omega) (by omega) (by omega)
          have hT9 : bdT sh g9 19 := hTA.keep (fun k => h9A _ _ (by decide) (by decide))
          have hX9 : bdX Λ sh σ.1 g9 19 := hXA.of (fun a k q => by
            by_cases z : a ≤ 29
            · exact h9A a k (by omega) z
            · exact h9L a k (by omega))
          have hR9 : trI σ.1 σ.2.1 σ.2.2 26 g9 := hRA.of (fun a k q1 q2 => h9A a k (by omega) (by omega))
          refine gw_aload_n (gc k_Clerk_carryOut_1 18 rfl) rfl rfl ?_
          refine gw_getref (gc k_Clerk_carryOut_1 19 rfl) fl_Clerk_43 (by first | exact gAt hx rfl rfl | exact (bs hx i1).1 | exact (bs hx i1).2.1 | exact (bs hx i1).2.2.1 | exact (bs hx i1).2.2.2.1) (by first | exact gRf hf rfl rfl | exact (br hf i1).1 | exact (br hf i1).2.1 | exact (br hf i1).2.2.1) ?_
          refine gw_aload_n (gc k_Clerk_carryOut_1 20 rfl) rfl rfl ?_
          refine gw_getref (gc k_Clerk_carryOut_1 21 rfl) fl_Clerk_32 (by first | exact gAt hx rfl rfl | exact (bs hx i1).1 | exact (bs hx i1).2.1 | exact (bs hx i1).2.2.1 | exact (bs hx i1).2.2.2.1) (by first | exact gRf hf rfl rfl | exact (br hf i1).1 | exact (br hf i1).2.1 | exact (br hf i1).2.2.1) ?_
          refine gw_xV1 (gc k_Clerk_carryOut_1 22 rfl) y_Board_copyFrom ln_Clerk_97 (c_Board_copyFrom hx hf i1 iA (by decide) hT9) rfl rfl (by first | exact gAt hx rfl rfl | exact (bs hx i1).1 | exact (bs hx i1).2.1 | exact (bs hx i1).2.2.1 | exact (bs hx i1).2.2.2.1) rfl rfl (fun r114 sh2 g114 hq114 => ?_)
          obtain ⟨rfl, hsh, hcp2⟩ := hq114
          subst sh2
          have hf := cpS.fin i1 (by decide) hcp2 hf
          refine gw_aload_n (gc k_Clerk_carryOut_1 23 rfl) rfl rfl ?_
          refine gw_getref (gc k_Clerk_carryOut_1 24 rfl) fl_Clerk_12 (by first | exact gAt hx rfl rfl | exact (bs hx i1).1 | exact (bs hx i1).2.1 | exact (bs hx i1).2.2.1 | exact (bs hx i1).2.2.2.1) (by first | exact gRf hf rfl rfl | exact (br hf i1).1 | exact (br hf i1).2.1 | exact (br hf i1).2.2.1) ?_
          refine gw_aload_n (gc k_Clerk_carryOut_1 25 rfl) rfl rfl ?_
          refine gw_getref (gc k_Clerk_carryOut_1 26 rfl) fl_Clerk_36 (by first | exact gAt hx rfl rfl | exact (bs hx i1).1 | exact (bs hx i1).2.1 | exact (bs hx i1).2.2.1 | exact (bs hx i1).2.2.2.1) (by first | exact gRf hf rfl rfl | exact (br hf i1).1 | exact (br hf i1).2.1 | exact (br hf i1).2.2.1) ?_
          refine gw_xV1 (gc k_Clerk_carryOut_1 27 rfl) y_Trail_copyFrom ln_Clerk_101 (c_Trail_copyFrom hx hf iT iU (by decide)) rfl rfl (by first | exact gAt hx rfl rfl | exact (bs hx i1).1 | exact (bs hx i1).2.1 | exact (bs hx i1).2.2.1 | exact (bs hx i1).2.2.2.1) rfl rfl (fun r125 sh2 g125 hq125 => ?_)
          obtain ⟨rfl, hsh, htc2⟩ := hq125
          subst sh2
          have hf := htc2.1.fin iT hf
          refine gw_bipush (gc k_Clerk_carryOut_1 28 rfl) (by decide) ?_
          refine gw_ireturn (gc k_Clerk_carryOut_1 29 rfl) rfl ?_
          have hXe : bdX Λ sh σ.1 g125 1 := (hcp2.bdX i1 hX9).of (fun a k q => htc2.1 a k (by omega) (by omega))
          have hRe : trI σ.1 σ.2.1 σ.2.2 13 g125 := (hR9.of (g2 := g114) (fun a k q1 q2 => hcp2.1 a k (by omega))).copy htc2
          refine ⟨rfl, fun a k z1 z2 z3 z4 z5 z6 z7 z8 => ?_, hf, (cpS.tx hcp2 hT9).keep (fun k => htc2.1 _ _ (by omega) (by decide)), Or.inl ⟨(j : Int), hEx, rfl, ?_, hXe, hRe⟩⟩
          · rw [htc2.1 a k (by omega) (by omega), hcp2.1 a k (by omega), h9 a k (by omega), hF8 a k (by omega) z2 z3 z4 z5 z6 (by omega) (by omega), h3 a k (by omega) (by omega)]
          · rw [htc2.1 _ _ (by decide) (by decide), hcp2.1 _ _ (by decide), hg9, gup_s]
      · obtain ⟨kk, hks, hpk⟩ : ∃ kk, c.2.2.2.2.2.2.1 = some kk ∧ pcK true kk c.2.2.2.2.2.2.2 := by
          rcases hct with z | z
          · exfalso; rw [z.1] at c68; cases c68
          · exact z
        refine gw_aload_n (gc k_Clerk_carryOut_0 39 rfl) rfl rfl ?_
        refine gw_getref (gc k_Clerk_carryOut_1 0 rfl) fl_Clerk_25 (by first | exact gAt hx rfl rfl | exact (bs hx i1).1 | exact (bs hx i1).2.1 | exact (bs hx i1).2.2.1 | exact (bs hx i1).2.2.2.1) (by first | exact gRf hf rfl rfl | exact (br hf i1).1 | exact (br hf i1).2.1 | exact (br hf i1).2.2.1) ?_
        refine gw_aload_n (gc k_Clerk_carryOut_1 1 rfl) rfl rfl ?_
        refine gw_iload_n (gc k_Clerk_carryOut_1 2 rfl) rfl ?_
        refine gw_iconst (gc k_Clerk_carryOut_1 3 rfl) ?_
        refine gw_aload_n (gc k_Clerk_carryOut_1 4 rfl) rfl rfl ?_
        refine gw_getref (gc k_Clerk_carryOut_1 5 rfl) fl_Clerk_39 (by first | exact gAt hx rfl rfl | exact (bs hx i1).1 | exact (bs hx i1).2.1 | exact (bs hx i1).2.2.1 | exact (bs hx i1).2.2.2.1) (by first | exact gRf hf rfl rfl | exact (br hf i1).1 | exact (br hf i1).2.1 | exact (br hf i1).2.2.1) ?_
        refine gw_xV1 (gc k_Clerk_carryOut_1 6 rfl) y_Machine_workOut ln_Clerk_124 (c_wo hx hf (Or.inr rfl) ht6 hlo (gAt hx rfl rfl) (by decide) (by decide) (by decide) (fun y ya yb => by rw [hwv y ya yb]; exact hwb y) j hj 2 hpk (Or.inr (Or.inr ⟨rfl, hks⟩))) rfl rfl (by first | exact gAt hx rfl rfl | exact (bs hx i1).1 | exact (bs hx i1).2.1 | exact (bs hx i1).2.2.1 | exact (bs hx i1).2.2.2.1) rfl rfl (fun r82 sh2 g82 hq82 => ?_)
        obtain ⟨rfl, hsh, hF2, hbd2⟩ := hq82
        subst sh2
        have hf := hF2.fin (Or.inr rfl) hf
        rw [hpk.w29 hwv] at hbd2 ⊢
        have hy1 := brK_c hbd2
        refine gw_iconst (gc k_Clerk_carryOut_1 7 rfl) ?_
        refine gw_icmp_eq (tgt := 92) (gc k_Clerk_carryOut_1 8 rfl) rfl (by omega) (fun c86 => ?_) (fun c86 => ?_)
        · have htru : c.2.2.2.2.2.2.2 (wS T) = some 1 := by
            cases hz : c.2.2.2.2.2.2.2 (wS T) with
            | none => rw [hz] at c86; exact absurd c86 (by decide)
            | some v => rw [hz] at c86; exact congrArg some c86
          have hO8 : orI Λ sh T g82 := ⟨hO6.1.of (fun a k q => hF2 a k (by omega)), (hF2 _ _ (by decide)).trans hO6.2.1, (hF2 _ _ (by decide)).trans hO6.2.2⟩
          have ht8 : txL lo true sh g82 o L := ht6.ext (fun x y hx => hF2 x y (by omega))
          have hw8 : ∀ i, 0 ≤ i → i < 29 → g82 30 i = wS T i := fun i a b => (hF2 30 i (by decide)).trans (hwv i a b)
          have hF6 := (hFT.gw hGw).mc hF2
          refine gw_aload_n (gc k_Clerk_carryOut_1 10 rfl) rfl rfl ?_
          refine gw_aload_n (gc k_Clerk_carryOut_1 11 rfl) rfl rfl ?_
          refine gw_iload_n (gc k_Clerk_carryOut_1 12 rfl) rfl ?_
          refine gw_xV1 (gc k_Clerk_carryOut_1 13 rfl) y_Clerk_runOnce ln_Clerk_128 (c_Clerk_runOnce hx hf hO8 ht8 hlo j hj (hko c (List.mem_of_getElem? hj)) hw8 hwb) rfl rfl (by first | exact gAt hx rfl rfl | exact (bs hx i1).1 | exact (bs hx i1).2.1 | exact (bs hx i1).2.2.1 | exact (bs hx i1).2.2.2.1) rfl rfl (fun r95 sh2 g95 hq95 => ?_)
          obtain ⟨v, rfl, hsh, hFr, hf, hR⟩ := hq95
          subst sh2
          have hF8 := hF6.ro hFr
          have hv01 : v = 0 ∨ v = 1 := hR.elim (fun z => Or.inl z.1) (fun z => Or.inr z.1)
          refine gw_if_ne (tgt := 131) (gc k_Clerk_carryOut_1 14 rfl) rfl (by omega) (fun c98 => ?_) (fun c98 => ?_)
          · refine gw_aload_n (gc k_Clerk_carryOut_1 30 rfl) rfl rfl ?_
            refine gw_dup (gc k_Clerk_carryOut_1 31 rfl) rfl ?_
            refine gw_getf 8 rfl (gc k_Clerk_carryOut_1 32 rfl) fl_Clerk_104 (by first | exact gAt hx rfl rfl | exact (bs hx i1).1 | exact (bs hx i1).2.1 | exact (bs hx i1).2.2.1 | exact (bs hx i1).2.2.2.1) ?_
            refine gw_iconst (gc k_Clerk_carryOut_1 33 rfl) ?_
            refine gw_iadd (gc k_Clerk_carryOut_1 34 rfl) ?_
            refine gw_putIK 8 rfl (gc k_Clerk_carryOut_1 35 rfl) fl_Clerk_104 (by first | exact gAt hx rfl rfl | exact (bs hx i1).1 | exact (bs hx i1).2.1 | exact (bs hx i1).2.2.1 | exact (bs hx i1).2.2.2.1) hf (by rfl) (fun hf => ?_)
            refine gw_iinc_3 (gc k_Clerk_carryOut_1 36 rfl) rfl rfl ?_
            refine gw_goto (tgt := 49) (gc k_Clerk_carryOut_1 37 rfl) rfl ?_
            rcases hR with ⟨z, -⟩ | ⟨-, hA, w, σ', hS, hI⟩
            · exact absurd z c98
            obtain ⟨hk1, hk2, hk3⟩ := stepO_ok hoT hS
            have hd8 : g95 12 8 = T.2.1 := hI.2.1
            rw [hd8] at hf ⊢
            have hnew : (0 ≤ (t + 1) ∧ (t + 1) ≤ c.2.2.2.2.2.1) ∧ exC c.1 c.2.2.1 c.2.2.2.2.1 c.2.2.2.2.2.2.2 (c.2.2.2.2.2.1 - (t + 1)).toNat ((σ', T.2.1 + 1, if c.1 = 25 then w else T.2.2)) = exC c.1 c.2.2.1 c.2.2.2.2.1 c.2.2.2.2.2.2.2 c.2.2.2.2.2.1.toNat S ∧ orI Λ sh ((σ', T.2.1 + 1, if c.1 = 25 then w else T.2.2)) (gup g95 12 8 (T.2.1 + 1)) ∧ osOK σ.1 ((σ', T.2.1 + 1, if c.1 = 25 then w else T.2.2)).1 ∧ xsB ((σ', T.2.1 + 1, if c.1 = 25 then w else T.2.2)) (20 * (j : Int) + (t + 1)) ∧ oxF g3 (gup g95 12 8 (T.2.1 + 1)) ∧ gFin (gup g95 12 8 (T.2.1 + 1)) := by
              refine ⟨⟨by omega, by omega⟩, ?_, ?_, hk1, ?_, ?_, hf⟩
              · rw [← hee, show (c.2.2.2.2.2.1 - t).toNat = (c.2.2.2.2.2.1 - (t + 1)).toNat + 1 by omega, exC_s htru hA hS]
              · exact ⟨hI.1.of (fun a k q => gup_a _ _ _ _ _ (by omega)), gup_s _ _ _ _, (gup_k _ _ _ _ (by decide)).trans hI.2.2⟩
              · unfold xsB at hxT ⊢
                refine ⟨⟨by show 0 ≤ T.2.1 + 1; omega, by show T.2.1 + 1 ≤ _; omega⟩, ?_⟩
                show -1 ≤ (if c.1 = 25 then w else T.2.2) ∧ (if c.1 = 25 then w else T.2.2) ≤ 12
                by_cases z : c.1 = 25
                · rw [if_pos z]; have := hk3 (by omega); omega
                · rw [if_neg z]; exact hxT.2
              · intro a k n m q x y z u v
                by_cases e : a = 12
                · subst e; rw [gup_k _ _ _ _ (by omega)]; exact hF8 _ k n m q x y z u v
                · rw [gup_a _ _ _ _ _ e]; exact hF8 a k n m q x y z u v
            exact ih (t + 1, (σ', T.2.1 + 1, if c.1 = 25 then w else T.2.2), gup g95 12 8 (T.2.1 + 1)) hnew (by show (c.2.2.2.2.2.1 - (t + 1)).toNat < (c.2.2.2.2.2.1 - t).toNat; omega)
          · have hv0 : v = 0 := c98
            subst hv0
            have hRn : ¬ (roA c T ∧ (roS c T).isSome = true) := hR.elim (fun z => z.2) (fun z => absurd z.1 (by decide))
            have hTS : exC c.1 c.2.2.1 c.2.2.2.2.1 c.2.2.2.2.2.2.2 c.2.2.2.2.2.1.toNat S = none := by
              rw [← hee, show (c.2.2.2.2.2.1 - t).toNat = (c.2.2.2.2.2.1 - (t + 1)).toNat + 1 by omega, exC_z htru hRn]
            have hEx : exL L 0 (σ, 0, -1) = .inl (j : Int) := by rw [← he, Int.toNat_natCast, exL_n1 hj _ hTS]
            refine gw_aload_n (gc k_Clerk_carryOut_1 15 rfl) rfl rfl ?_
            refine gw_iload_n (gc k_Clerk_carryOut_1 16 rfl) rfl ?_
            refine gw_putIK 1 rfl (gc k_Clerk_carryOut_1 17 rfl) fl_Clerk_18 (by first | exact gAt hx rfl rfl | exact (bs hx i1).1 | exact (bs hx i1).2.1 | exact (bs hx i1).2.2.1 | exact (bs hx i1).2.2.2.1) hf (by rfl) (fun hf => ?_)
            obtain ⟨g9, hg9⟩ : ∃ M, M = gup g95 12 1 (j : Int) := ⟨_, rfl⟩
            rw [← hg9]
            have hf : gFin g9 := by rw [hg9]; exact hf
            have h9 : ∀ a k, ¬ (a = 12 ∧ k = 1) → g9 a k = g95 a k := fun a k z => by
              rw [hg9]
              by_cases e : a = 12
              · subst e; rw [gup_k _ _ _ _ (by omega)]
              · rw [gup_a _ _ _ _ _ e]
            have h9A : ∀ a k, 19 ≤ a → a ≤ 29 → g9 a k = g3 a k := fun a k z z2 => by rw [h9 a k (by omega)]; exact hF8 a k (by omega) (by omega) (by omega) (by omega) (by omega) (by omega) (by omega) (by omega)
            have h9L : ∀ a k, 201 ≤ a → g9 a k = g3 a k := fun a k z => by rw [h9 a k (by omega)]; exact hF8 a k (by omega) (by omega) (by omega) (by omega) (by omega) (by omega) (by omega) (by omega)
            have hT9 : bdT sh g9 19 := hTA.keep (fun k => h9A _ _ (by decide) (by decide))
            have hX9 : bdX Λ sh σ.1 g9 19 := hXA.of (fun a k q => by
              by_cases z : a ≤ 29
              · exact h9A a k (by omega) z
              · exact h9L a k (by omega))
            have hR9 : trI σ.1 σ.2.1 σ.2.2 26 g9 := hRA.of (fun a k q1 q2 => h9A a k (by omega) (by omega))
            refine gw_aload_n (gc k_Clerk_carryOut_1 18 rfl) rfl rfl ?_
            refine gw_getref (gc k_Clerk_carryOut_1 19 rfl) fl_Clerk_43 (by first | exact gAt hx rfl rfl | exact (bs hx i1).1 | exact (bs hx i1).2.1 | exact (bs hx i1).2.2.1 | exact (bs hx i1).2.2.2.1) (by first | exact gRf hf rfl rfl | exact (br hf i1).1 | exact (br hf i1).2.1 | exact (br hf i1).2.2.1) ?_
            refine gw_aload_n (gc k_Clerk_carryOut_1 20 rfl) rfl rfl ?_
            refine gw_getref (gc k_Clerk_carryOut_1 21 rfl) fl_Clerk_32 (by first | exact gAt hx rfl rfl | exact (bs hx i1).1 | exact (bs hx i1).2.1 | exact (bs hx i1).2.2.1 | exact (bs hx i1).2.2.2.1) (by first | exact gRf hf rfl rfl | exact (br hf i1).1 | exact (br hf i1).2.1 | exact (br hf i1).2.2.1) ?_
            refine gw_xV1 (gc k_Clerk_carryOut_1 22 rfl) y_Board_copyFrom ln_Clerk_97 (c_Board_copyFrom hx hf i1 iA (by decide) hT9) rfl rfl (by first | exact gAt hx rfl rfl | exact (bs hx i1).1 | exact (bs hx i1).2.1 | exact (bs hx i1).2.2.1 | exact (bs hx i1).2.2.2.1) rfl rfl (fun r114 sh2 g114 hq114 => ?_)
            obtain ⟨rfl, hsh, hcp2⟩ := hq114
            subst sh2
            have hf := cpS.fin i1 (by decide) hcp2 hf
            refine gw_aload_n (gc k_Clerk_carryOut_1 23 rfl) rfl rfl ?_
            refine gw_getref (gc k_Clerk_carryOut_1 24 rfl) fl_Clerk_12 (by first | exact gAt hx rfl rfl | exact (bs hx i1).1 | exact (bs hx i1).2.1 | exact (bs hx i1).2.2.1 | exact (bs hx i1).2.2.2.1) (by first | exact gRf hf rfl rfl | exact (br hf i1).1 | exact (br hf i1).2.1 | exact (br hf i1).2.2.1) ?_
            refine gw_aload_n (gc k_Clerk_carryOut_1 25 rfl) rfl rfl ?_
            refine gw_getref (gc k_Clerk_carryOut_1 26 rfl) fl_Clerk_36 (by first | exact gAt hx rfl rfl | exact (bs hx i1).1 | exact (bs hx i1).2.1 | exact (bs hx i1).2.2.1 | exact (bs hx i1).2.2.2.1) (by first | exact gRf hf rfl rfl | exact (br hf i1).1 | exact (br hf i1).2.1 | exact (br hf i1).2.2.1) ?_
            refine gw_xV1 (gc k_Clerk_carryOut_1 27 rfl) y_Trail_copyFrom ln_Clerk_101 (c_Trail_copyFrom hx hf iT iU (by decide)) rfl rfl (by first | exact gAt hx rfl rfl | exact (bs hx i1).1 | exact (bs hx i1).2.1 | exact (bs hx i1).2.2.1 | exact (bs hx i1).2.2.2.1) rfl rfl (fun r125 sh2 g125 hq125 => ?_)
            obtain ⟨rfl, hsh, htc2⟩ := hq125
            subst sh2
            have hf := htc2.1.fin iT hf
            refine gw_bipush (gc k_Clerk_carryOut_1 28 rfl) (by decide) ?_
            refine gw_ireturn (gc k_Clerk_carryOut_1 29 rfl) rfl ?_
            have hXe : bdX Λ sh σ.1 g125 1 := (hcp2.bdX i1 hX9).of (fun a k q => htc2.1 a k (by omega) (by omega))
            have hRe : trI σ.1 σ.2.1 σ.2.2 13 g125 := (hR9.of (g2 := g114) (fun a k q1 q2 => hcp2.1 a k (by omega))).copy htc2
            refine ⟨rfl, fun a k z1 z2 z3 z4 z5 z6 z7 z8 => ?_, hf, (cpS.tx hcp2 hT9).keep (fun k => htc2.1 _ _ (by omega) (by decide)), Or.inl ⟨(j : Int), hEx, rfl, ?_, hXe, hRe⟩⟩
            · rw [htc2.1 a k (by omega) (by omega), hcp2.1 a k (by omega), h9 a k (by omega), hF8 a k (by omega) z2 z3 z4 z5 z6 (by omega) (by omega), h3 a k (by omega) (by omega)]
            · rw [htc2.1 _ _ (by decide) (by decide), hcp2.1 _ _ (by decide), hg9, gup_s]
        · refine gw_goto (tgt := 141) (gc k_Clerk_carryOut_1 9 rfl) rfl ?_
          refine gw_iinc_3 (gc k_Clerk_carryOut_1 36 rfl) rfl rfl ?_
          refine gw_goto (tgt := 49) (gc k_Clerk_carryOut_1 37 rfl) rfl ?_
          have hno : ¬ c.2.2.2.2.2.2.2 (wS T) = some 1 := fun z => c86 (by rw [z]; rfl)
          have hnew : (0 ≤ (t + 1) ∧ (t + 1) ≤ c.2.2.2.2.2.1) ∧ exC c.1 c.2.2.1 c.2.2.2.2.1 c.2.2.2.2.2.2.2 (c.2.2.2.2.2.1 - (t + 1)).toNat T = exC c.1 c.2.2.1 c.2.2.2.2.1 c.2.2.2.2.2.2.2 c.2.2.2.2.2.1.toNat S ∧ orI Λ sh T g82 ∧ osOK σ.1 T.1 ∧ xsB T (20 * (j : Int) + (t + 1)) ∧ oxF g3 g82 ∧ gFin g82 := by
            refine ⟨⟨by omega, by omega⟩, ?_, ?_, hoT, by unfold xsB at hxT ⊢; omega, (hFT.gw hGw).mc hF2, hf⟩
            · rw [← hee, show (c.2.2.2.2.2.1 - t).toNat = (c.2.2.2.2.2.1 - (t + 1)).toNat + 1 by omega, exC_n hno]
            · exact ⟨hO6.1.of (fun a k q => hF2 a k (by omega)), (hF2 _ _ (by decide)).trans hO6.2.1, (hF2 _ _ (by decide)).trans hO6.2.2⟩
          exact ih (t + 1, T, g82) hnew (by show (c.2.2.2.2.2.1 - (t + 1)).toNat < (c.2.2.2.2.2.1 - t).toNat; omega)
