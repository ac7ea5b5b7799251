def bI (x : Bool) : Int := if x = true then 1 else 0
theorem bI_01 (x : Bool) : bI x = 0 ∨ bI x = 1 := by cases x <;> decide
theorem bI_not (x : Bool) : bI (!x) = 1 - bI x := by cases x <;> decide
theorem pjs_01 {op : Int} {s t : PS} {w : Int → Int} (h : 10 ≤ op) : ∀ v, pjs op s t w = some v → v = 0 ∨ v = 1 := by
  intro v e
  unfold pjs at e
  cases h1 : s w with
  | none => rw [h1] at e; cases e
  | some a =>
    cases h2 : t w with
    | none => rw [h1, h2] at e; cases e
    | some c =>
      rw [h1, h2, Option.bind_some, Option.bind_some] at e
      unfold pjn at e
      rw [if_neg (by omega), if_neg (by omega), if_neg (by omega), if_neg (by omega), if_neg (by omega)] at e
      split at e
      · cases e; exact bi_01 _
      split at e
      · cases e; exact bi_01 _
      · cases e; exact bi_01 _
theorem evV_01 {live br : Int} {v : Option Int} (h : ∀ x, v = some x → x = 0 ∨ x = 1) : evV live br v = 0 ∨ evV live br v = 1 := by
  unfold evV
  split
  · cases v with
    | none => exact Or.inl rfl
    | some x => exact h x rfl
  · exact Or.inl rfl
theorem evV_some {live br : Int} {v : Option Int} (hb : br = 0 ∨ br = 1) (h1 : live = 1) (h2 : evB live br v = 0) : v = some (evV live br v) := by
  subst h1
  rcases hb with rfl | rfl
  · cases v with
    | none => rw [evB_n] at h2; cases h2
    | some x => rw [evV_s]
  · rw [evB_b] at h2; cases h2
theorem pNots_401 {T : Int → Int} (h : ∀ q, 400 ≤ q → T q = 0) : ∀ (f : Nat) (p : Int) (b : Bool), p ≤ 401 → (pNots T f p b).1 ≤ 401
  | 0, p, b, hp => hp
  | f + 1, p, b, hp => by
    unfold pNots
    split
    · next h1 =>
      refine pNots_401 h f _ _ ?_
      by_cases q : 400 ≤ p
      · rw [h p q] at h1; cases h1
      · omega
    · exact hp
theorem ev_pos {sh : gS} {g : gM} (hx : gFix sh) (hf : gFin g) {T V : Int → Int} {b : Int} {o : Bool} {w : Int → Int} (E : EvC T V b o w g) {D d : Nat} (hD : 3 ≤ D) (hd : d + 1 ≤ D) {sub : Option (Int → Int → PR)} {sm : Int → Int → PR} (hs : ∀ f, sub = some f → ∃ d, d + 1 ≤ D ∧ EvT sh g b w f_Model_testOf d f) (hm : EvL sh g b w 1 f_Model_sumOf d sm) (hF : pFar (g 177 23 - b) sm) : EvT sh g b w f_Model_positiveOf D (pPosW T sub sm) := by
  intro p n p2 n2 c s e hp
  have h1 := E.1
  unfold pPosW at e
  split at e
  · next hT =>
    cases sub with
    | none => cases e
    | some f =>
      dsimp only at e
      obtain ⟨d2, hd2, hE⟩ := hs f rfl
      cases hr : f (p + 1) n with
      | inl x => rw [hr] at e; cases e
      | inr x =>
        obtain ⟨q, m, k2, t⟩ := x
        rw [hr] at e
        dsimp only at e
        split at e
        · next hTq =>
          cases e
          have hlt := E.lt p hp.1 (by omega)
          have hS := hE _ _ _ _ _ _ hr (by omega)
          have hq0 : 0 ≤ q ∧ q ≤ 401 := by
            by_cases z : 0 ≤ q
            · have := E.lt q z (by omega); omega
            · rw [E.2.1 q, if_neg (by omega)] at hTq; cases hTq
          refine ⟨hS.1, fun live br hl hb => ?_⟩
          obtain ⟨y, hy, hys, hSS⟩ := hS.2 live br hl hb
          exact ⟨y, hy, hys, ev_posA hx hf E hD p hp live br hl hb hT q _ y hq0 hy hd2 hSS⟩
        · cases e
  · next hT =>
    cases hr : sm p n with
    | inl x => rw [hr] at e; cases e
    | inr x =>
      obtain ⟨q, m, k2, t⟩ := x
      rw [hr] at e
      dsimp only at e
      split at e
      · next hop =>
        cases hr2 : sm (q + 1) m with
        | inl x => rw [hr2] at e; cases e
        | inr x =>
          obtain ⟨q3, m3, k3, t3⟩ := x
          rw [hr2] at e
          cases e
          have hq := hF _ _ _ _ _ _ hr
          have hS := hm _ _ _ _ _ _ hr hp
          have hlt := E.lt q (by omega) (by omega)
          have hS2 := hm _ _ _ _ _ _ hr2 (by omega)
          have key : ∀ op : Int, 10 ≤ op → (∀ live br : Int, (live = 0 ∨ live = 1) → (br = 0 ∨ br = 1) → gTri f_Model_positiveOf D 0 0 [(2, 177), (0, live)] sh (evM g (b + p) br) (gR (some (0, evV live br (pjs op t t3 w))) sh (evM g (b + p2) (evB live br (pjs op t t3 w))))) → (∀ v, pjs op t t3 w = some v → v = 0 ∨ v = 1) ∧ ∀ live br : Int, (live = 0 ∨ live = 1) → (br = 0 ∨ br = 1) → ∃ y : Int, (y = 0 ∨ y = 1) ∧ (live = 1 → evB live br (pjs op t t3 w) = 0 → pjs op t t3 w = some y) ∧ gTri f_Model_positiveOf D 0 0 [(2, 177), (0, live)] sh (evM g (b + p) br) (gR (some (0, y)) sh (evM g (b + p2) (evB live br (pjs op t t3 w)))) := fun op ho hK => ⟨pjs_01 ho, fun live br hl hb => ⟨_, evV_01 (pjs_01 ho), fun z1 z2 => evV_some hb z1 z2, hK live br hl hb⟩⟩
          by_cases ha : T q = 160
          · rw [if_pos ha]
            exact key 10 (by decide) fun live br hl hb => ev_posB10 hx hf E hD p hp live br hl hb hT t t3 q p2 (by omega) ha hd hS.1 hS2.1 (hS.2.2 live br hl hb) (hS2.2.2 live _ hl (evB_01 hb))
          · rw [if_neg ha]
            by_cases hc : T q = 162
            · rw [if_pos hc]
              exact key 11 (by decide) fun live br hl hb => ev_posB11 hx hf E hD p hp live br hl hb hT t t3 q p2 (by omega) hc hd hS.1 hS2.1 (hS.2.2 live br hl hb) (hS2.2.2 live _ hl (evB_01 hb))
            · rw [if_neg hc]
              exact key 12 (by decide) fun live br hl hb => ev_posB12 hx hf E hD p hp live br hl hb hT t t3 q p2 (by omega) (by omega) hd hS.1 hS2.1 (hS.2.2 live br hl hb) (hS2.2.2 live _ hl (evB_01 hb))
      · cases e
theorem ev_nots {sh : gS} {g : gM} (hx : gFix sh) (hf : gFin g) {T V : Int → Int} {b : Int} {o : Bool} {w : Int → Int} (E : EvC T V b o w g) {D : Nat} (hD : 3 ≤ D) (live br : Int) (hl : live = 0 ∨ live = 1) (hb : br = 0 ∨ br = 1) {Q : gQ} : ∀ (f : Nat) (p : Int) (neg : Bool), (0 ≤ p ∧ p ≤ 401) → 401 ≤ p + f → gWP f_Model_plainOf D 0 0 24 [(2, 177), (0, live), (0, bI (pNots T f p neg).2)] [] sh (evM g (b + (pNots T f p neg).1) br) Q → gWP f_Model_plainOf D 0 0 2 [(2, 177), (0, live), (0, bI neg)] [] sh (evM g (b + p) br) Q
  | 0, p, neg, hp, hq, k => by
    have h1 := E.1
    have hT : T p = 0 := by
      rw [E.at p hp.1, if_neg (by omega)]
    exact ev_not_exit hx hf E hD p hp live br hl hb (by omega) _ k
  | f + 1, p, neg, hp, hq, k => by
    have h1 := E.1
    unfold pNots at k
    split at k
    · next hT =>
      have hlt := E.lt p hp.1 (by omega)
      have k2 := ev_nots hx hf E hD live br hl hb f (p + 1) (!neg) (by omega) (by omega) k
      rw [bI_not] at k2
      exact ev_not_step hx hf E hD p hp live br hl hb hT _ (bI_01 neg) k2
    · next hT => exact ev_not_exit hx hf E hD p hp live br hl hb hT _ k
theorem ev_plain {sh : gS} {g : gM} (hx : gFix sh) (hf : gFin g) {T V : Int → Int} {b : Int} {o : Bool} {w : Int → Int} (E : EvC T V b o w g) {D d : Nat} (hD : 3 ≤ D) (hd : d + 1 ≤ D) {sub : Option (Int → Int → PR)} {sm : Int → Int → PR} (hE : EvT sh g b w f_Model_positiveOf d (pPosW T sub sm)) : EvT sh g b w f_Model_plainOf D (pPlainW T sub sm) := by
  intro p n p2 n2 c s e hp
  have h1 := E.1
  unfold pPlainW at e
  have hp1 : 0 ≤ (pNots T 401 p false).1 ∧ (pNots T 401 p false).1 ≤ 401 := by
    have h2 := (pNots_far E.ok 401 p false).1
    have h3 := pNots_401 (T := T) (fun q hq => by rw [E.at q (by omega), if_neg (by omega)]) 401 p false hp.2
    omega
  cases hr : pPosW T sub sm (pNots T 401 p false).1 n with
  | inl x => rw [hr] at e; cases e
  | inr x =>
    obtain ⟨q, m, d2, t⟩ := x
    rw [hr] at e
    dsimp only at e
    have hS := hE _ _ _ _ _ _ hr hp1
    have hw : ∀ (live br y : Int), (live = 0 ∨ live = 1) → (br = 0 ∨ br = 1) → (y = 0 ∨ y = 1) → gTri f_Model_positiveOf d 0 0 [(2, 177), (0, live)] sh (evM g (b + (pNots T 401 p false).1) br) (gR (some (0, y)) sh (evM g (b + q) (evB live br (t w)))) → gTri f_Model_plainOf D 0 0 [(2, 177), (0, live)] sh (evM g (b + p) br) (gR (some (0, if y = bI (pNots T 401 p false).2 then 0 else 1)) sh (evM g (b + q) (evB live br (t w)))) := by
      intro live br y hl hb hy hSS
      refine gTri.of (by decide +kernel) rfl ?_
      show gWP f_Model_plainOf _ _ _ 0 [(2, 177), (0, live), (9, 0)] [] sh (evM g (b + p) br) _
      refine gw_iconst (gc k_Model_plainOf_0 0 rfl) ?_
      refine gw_istore_2 (gc k_Model_plainOf_0 1 rfl) rfl rfl ?_
      exact ev_nots hx hf E hD live br hl hb 401 p false hp (by omega) (ev_plain_end hx hf E hD _ hp1 live br hl hb _ (bI_01 _) q _ y _ hy rfl hd hSS)
    split at e
    · next hn =>
      cases e
      refine ⟨pnot_01 hS.1, fun live br hl hb => ?_⟩
      obtain ⟨y, hy, hys, hSS⟩ := hS.2 live br hl hb
      have hk := hw live br y hl hb hy hSS
      rw [hn] at hk
      refine ⟨_, ?_, ?_, by rw [evB_not]; exact hk⟩
      · split <;> omega
      · intro z1 z2
        rw [evB_not] at z2
        unfold pnot
        rw [hys z1 z2, Option.bind_some]
        rcases hy with rfl | rfl <;> rfl
    · next hn =>
      cases e
      refine ⟨hS.1, fun live br hl hb => ?_⟩
      obtain ⟨y, hy, hys, hSS⟩ := hS.2 live br hl hb
      have hk := hw live br y hl hb hy hSS
      rw [show (pNots T 401 p false).2 = false from Bool.eq_false_iff.mpr hn] at hk
      rcases hy with rfl | rfl
      · exact ⟨_, Or.inl rfl, hys, hk⟩
      · exact ⟨_, Or.inr rfl, hys, hk⟩
theorem ev_bothL {sh : gS} {g : gM} (hx : gFix sh) (hf : gFin g) {T V : Int → Int} {b : Int} {o : Bool} {w : Int → Int} (E : EvC T V b o w g) {D d : Nat} (hD : 3 ≤ D) (hd : d + 1 ≤ D) {part : Int → Int → PR} (hE : EvT sh g b w f_Model_plainOf d part) (hF : pFar (g 177 23 - b) part) : ∀ (f : Nat) (p n : Int) (c : PK) (s : PS) p2 n2 c2 s2, pBothL T part f p n c s = .inr (p2, n2, c2, s2) → (0 ≤ p ∧ p ≤ 401) → 401 ≤ p + f → (∀ v, s w = some v → v = 0 ∨ v = 1) → (∀ v, s2 w = some v → v = 0 ∨ v = 1) ∧ ∀ live br : Int, (live = 0 ∨ live = 1) → (br = 0 ∨ br = 1) → ∀ v : Int, (v = 0 ∨ v = 1) → (live = 1 → evB live br (s w) = 0 → s w = some v) → ∀ x3 : gV, ∃ y : Int, (y = 0 ∨ y = 1) ∧ (live = 1 → evB live br (s2 w) = 0 → s2 w = some y) ∧ gWP f_Model_bothOf D 0 0 6 [(2, 177), (0, live), (0, v), x3] [] sh (evM g (b + p) (evB live br (s w))) (gR (some (0, y)) sh (evM g (b + p2) (evB live br (s2 w))))
  | 0, p, n, c, s, p2, n2, c2, s2, e, hp, hq, hs => by
    cases e
    have h1 := E.1
    have hT : T p = 0 := by
      rw [E.at p hp.1, if_neg (by omega)]
    refine ⟨hs, fun live br hl hb v hv hvs x3 => ⟨v, hv, hvs, ?_⟩⟩
    exact ev_both_exit hx hf E hD p hp live br hl hb (by omega) v hv x3 _
  | f + 1, p, n, c, s, p2, n2, c2, s2, e, hp, hq, hs => by
    have h1 := E.1
    unfold pBothL at e
    split at e
    · next hT =>
      cases hr : part (p + 1) n with
      | inl x => rw [hr] at e; cases e
      | inr x =>
        obtain ⟨q, m, d2, t⟩ := x
        rw [hr] at e
        dsimp only at e
        have hlt := E.lt p hp.1 (by omega)
        have hq2 := hF _ _ _ _ _ _ hr
        have hS := hE _ _ _ _ _ _ hr (by omega)
        have hK := ev_bothL hx hf E hD hd hE hF f q m _ _ p2 n2 c2 s2 e (by omega) (by omega) (pand_01 hs hS.1)
        refine ⟨hK.1, fun live br hl hb v hv hvs x3 => ?_⟩
        have ⟨l2, hl2⟩ : ∃ l2 : Int, (l2 = 0 ∧ (live = 0 ∨ v = 0)) ∨ (l2 = 1 ∧ live = 1 ∧ v = 1) := by
          by_cases h : live = 1 ∧ v = 1
          · exact ⟨1, Or.inr ⟨rfl, h⟩⟩
          · exact ⟨0, Or.inl ⟨rfl, by omega⟩⟩
        obtain ⟨y, hy, hys, hSS⟩ := hS.2 l2 (evB live br (s w)) (by omega) (evB_01 hb)
        have ⟨z, hz⟩ : ∃ z : Int, (z = 1 ∧ v = 1 ∧ y = 1) ∨ (z = 0 ∧ (v = 0 ∨ y = 0)) := by
          rcases hv with rfl | rfl <;> rcases hy with rfl | rfl
          · exact ⟨0, by omega⟩
          · exact ⟨0, by omega⟩
          · exact ⟨0, by omega⟩
          · exact ⟨1, by omega⟩
        have hA := ev_and hl hb hv hvs hl2 hys hz hy
        obtain ⟨Y, hY, hYs, hW⟩ := hK.2 live br hl hb z (by omega) hA.2 (0, y)
        refine ⟨Y, hY, hYs, ev_both_step hx hf E hD p hp live br hl hb hT v hv x3 q _ _ y z l2 hy hl2 hz hd hSS ?_⟩
        rw [hA.1]
        exact hW
    · next hT =>
      cases e
      refine ⟨hs, fun live br hl hb v hv hvs x3 => ⟨v, hv, hvs, ?_⟩⟩
      exact ev_both_exit hx hf E hD p hp live br hl hb hT v hv x3 _
theorem ev_both {sh : gS} {g : gM} (hx : gFix sh) (hf : gFin g) {T V : Int → Int} {b : Int} {o : Bool} {w : Int → Int} (E : EvC T V b o w g) {D d : Nat} (hD : 3 ≤ D) (hd : d + 1 ≤ D) {part : Int → Int → PR} (hE : EvT sh g b w f_Model_plainOf d part) (hF : pFar (g 177 23 - b) part) : EvT sh g b w f_Model_bothOf D (pBothW T part) := by
  intro p n p2 n2 c s e hp
  have h1 := E.1
  unfold pBothW at e
  cases hr : part p n with
  | inl x => rw [hr] at e; cases e
  | inr x =>
    obtain ⟨q, m, d2, t⟩ := x
    rw [hr] at e
    dsimp only at e
    have hq2 := hF _ _ _ _ _ _ hr
    have hS := hE _ _ _ _ _ _ hr hp
    have hK := ev_bothL hx hf E hD hd hE hF 401 q m d2 t p2 n2 c s e (by omega) (by omega) hS.1
    refine ⟨hK.1, fun live br hl hb => ?_⟩
    obtain ⟨v, hv, hvs, hSS⟩ := hS.2 live br hl hb
    obtain ⟨y, hy, hys, hW⟩ := hK.2 live br hl hb v hv hvs (9, 0)
    refine ⟨y, hy, hys, ?_⟩
    refine gTri.of (by decide +kernel) rfl ?_
    show gWP f_Model_bothOf _ _ _ 0 [(2, 177), (0, live), (9, 0), (9, 0)] [] sh (evM g (b + p) br) _
    refine gw_aload_n (gc k_Model_bothOf_0 0 rfl) rfl rfl ?_
    refine gw_iload_n (gc k_Model_bothOf_0 1 rfl) rfl ?_
    refine gw_cV1 (gc k_Model_bothOf_0 2 rfl) y_Model_plainOf ln_Model_312 hSS rfl rfl (gAt hx rfl rfl) rfl (gble hd) ?_
    refine gw_istore_2 (gc k_Model_bothOf_0 3 rfl) rfl rfl ?_
    exact hW
theorem ev_testL {sh : gS} {g : gM} (hx : gFix sh) (hf : gFin g) {T V : Int → Int} {b : Int} {o : Bool} {w : Int → Int} (E : EvC T V b o w g) {D d : Nat} (hD : 3 ≤ D) (hd : d + 1 ≤ D) {part : Int → Int → PR} (hE : EvT sh g b w f_Model_bothOf d part) (hF : pFar (g 177 23 - b) part) : ∀ (f : Nat) (p n : Int) (c : PK) (s : PS) p2 n2 c2 s2, pTestL T part f p n c s = .inr (p2, n2, c2, s2) → (0 ≤ p ∧ p ≤ 401) → 401 ≤ p + f → (∀ v, s w = some v → v = 0 ∨ v = 1) → (∀ v, s2 w = some v → v = 0 ∨ v = 1) ∧ ∀ live br : Int, (live = 0 ∨ live = 1) → (br = 0 ∨ br = 1) → ∀ v : Int, (v = 0 ∨ v = 1) → (live = 1 → evB live br (s w) = 0 → s w = some v) → ∀ x3 : gV, ∃ y : Int, (y = 0 ∨ y = 1) ∧ (live = 1 → evB live br (s2 w) = 0 → s2 w = some y) ∧ gWP f_Model_testOf D 0 0 6 [(2, 177), (0, live), (0, v), x3] [] sh (evM g (b + p) (evB live br (s w))) (gR (some (0, y)) sh (evM g (b + p2) (evB live br (s2 w))))
  | 0, p, n, c, s, p2, n2, c2, s2, e, hp, hq, hs => by
    cases e
    have h1 := E.1
    have hT : T p = 0 := by
      rw [E.at p hp.1, if_neg (by omega)]
    refine ⟨hs, fun live br hl hb v hv hvs x3 => ⟨v, hv, hvs, ?_⟩⟩
    exact ev_test_exit hx hf E hD p hp live br hl hb (by omega) v hv x3 _
  | f + 1, p, n, c, s, p2, n2, c2, s2, e, hp, hq, hs => by
    have h1 := E.1
    unfold pTestL at e
    split at e
    · next hT =>
      cases hr : part (p + 1) n with
      | inl x => rw [hr] at e; cases e
      | inr x =>
        obtain ⟨q, m, d2, t⟩ := x
        rw [hr] at e
        dsimp only at e
        have hlt := E.lt p hp.1 (by omega)
        have hq2 := hF _ _ _ _ _ _ hr
        have hS := hE _ _ _ _ _ _ hr (by omega)
        have hK := ev_testL hx hf E hD hd hE hF f q m _ _ p2 n2 c2 s2 e (by omega) (by omega) (por_01 hs hS.1)
        refine ⟨hK.1, fun live br hl hb v hv hvs x3 => ?_⟩
        have ⟨l2, hl2⟩ : ∃ l2 : Int, (l2 = 0 ∧ (live = 0 ∨ v = 1)) ∨ (l2 = 1 ∧ live = 1 ∧ v = 0) := by
          by_cases h : live = 1 ∧ v = 0
          · exact ⟨1, Or.inr ⟨rfl, h⟩⟩
          · exact ⟨0, Or.inl ⟨rfl, by omega⟩⟩
        obtain ⟨y, hy, hys, hSS⟩ := hS.2 l2 (evB live br (s w)) (by omega) (evB_01 hb)
        have ⟨z, hz⟩ : ∃ z : Int, (z = 1 ∧ (v = 1 ∨ y = 1)) ∨ (z = 0 ∧ v = 0 ∧ y = 0) := by
          rcases hv with rfl | rfl <;> rcases hy with rfl | rfl
          · exact ⟨0, by omega⟩
          · exact ⟨1, by omega⟩
          · exact ⟨1, by omega⟩
          · exact ⟨1, by omega⟩
        have hA := ev_or hl hb hv hvs hl2 hys hz hy
        obtain ⟨Y, hY, hYs, hW⟩ := hK.2 live br hl hb z (by omega) hA.2 (0, y)
        refine ⟨Y, hY, hYs, ev_test_step hx hf E hD p hp live br hl hb hT v hv x3 q _ _ y z l2 hy hl2 hz hd hSS ?_⟩
        rw [hA.1]
        exact hW
    · next hT =>
      cases e
      refine ⟨hs, fun live br hl hb v hv hvs x3 => ⟨v, hv, hvs, ?_⟩⟩
      exact ev_test_exit hx hf E hD p hp live br hl hb hT v hv x3 _
theorem ev_test {sh : gS} {g : gM} (hx : gFix sh) (hf : gFin g) {T V : Int → Int} {b : Int} {o : Bool} {w : Int → Int} (E : EvC T V b o w g) {D d : Nat} (hD : 3 ≤ D) (hd : d + 1 ≤ D) {part : Int → Int → PR} (hE : EvT sh g b w f_Model_bothOf d part) (hF : pFar (g 177 23 - b) part) : EvT sh g b w f_Model_testOf D (pTestW T part) := by
  intro p n p2 n2 c s e hp
  have h1 := E.1
  unfold pTestW at e
  cases hr : part p n with
  | inl x => rw [hr] at e; cases e
  | inr x =>
    obtain ⟨q, m, d2, t⟩ := x
    rw [hr] at e
    dsimp only at e
    have hq2 := hF _ _ _ _ _ _ hr
    have hS := hE _ _ _ _ _ _ hr hp
    have hK := ev_testL hx hf E hD hd hE hF 401 q m d2 t p2 n2 c s e (by omega) (by omega) hS.1
    refine ⟨hK.1, fun live br hl hb => ?_⟩
    obtain ⟨v, hv, hvs, hSS⟩ := hS.2 live br hl hb
    obtain ⟨y, hy, hys, hW⟩ := hK.2 live br hl hb v hv hvs (9, 0)
    refine ⟨y, hy, hys, ?_⟩
    refine gTri.of (by decide +kernel) rfl ?_
    show gWP f_Model_testOf _ _ _ 0 [(2, 177), (0, live), (9, 0), (9, 0)] [] sh (evM g (b + p) br) _
    refine gw_aload_n (gc k_Model_testOf_0 0 rfl) rfl rfl ?_
    refine gw_iload_n (gc k_Model_testOf_0 1 rfl) rfl ?_
    refine gw_cV1 (gc k_Model_testOf_0 2 rfl) y_Model_bothOf ln_Model_309 hSS rfl rfl (gAt hx rfl rfl) rfl (gble hd) ?_
    refine gw_istore_2 (gc k_Model_testOf_0 3 rfl) rfl rfl ?_
    exact hW
theorem ev_testK {sh : gS} {g : gM} (hx : gFix sh) (hf : gFin g) {T V : Int → Int} {b : Int} {o : Bool} {w : Int → Int} (E : EvC T V b o w g) : ∀ k : Nat, EvT sh g b w f_Model_testOf (9 + 4 * k) (pTest T V o k)
  | 0 => ev_test hx hf E (by omega) (d := 8) (by omega) (ev_both hx hf E (by omega) (d := 7) (by omega) (ev_plain hx hf E (by omega) (d := 6) (by omega) (ev_pos hx hf E (by omega) (d := 5) (by omega) (fun f hf => by cases hf) (ev_sumK hx hf E 0) (pSum_far E.ok 0))) (pPlainW_far E.ok (fun f hf => by cases hf) (pSum_far E.ok 0))) (pBothW_far (pPlainW_far E.ok (fun f hf => by cases hf) (pSum_far E.ok 0)))
  | k + 1 => ev_test hx hf E (by omega) (d := 9 + 4 * k + 3) (by omega) (ev_both hx hf E (by omega) (d := 9 + 4 * k + 2) (by omega) (ev_plain hx hf E (by omega) (d := 9 + 4 * k + 1) (by omega) (ev_pos hx hf E (by omega) (d := 5 + 3 * (k + 1)) (by omega) (fun f hf => by cases hf; exact ⟨9 + 4 * k, by omega, ev_testK hx hf E k⟩) (ev_sumK hx hf E (k + 1)) (pSum_far E.ok (k + 1)))) (pPlainW_far E.ok (fun f hf => by cases hf; exact pTest_far E.ok k) (pSum_far E.ok (k + 1)))) (pBothW_far (pPlainW_far E.ok (fun f hf => by cases hf; exact pTest_far E.ok k) (pSum_far E.ok (k + 1))))
