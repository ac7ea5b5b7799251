theorem tlC_ok {hd h top v : Int} {k2 : PK} {s t : PS} {ok : Option PK} {w : Int → Int} {x B1 y B2 : Int} (hx : x = evV 1 0 (s w)) (hB1 : B1 = evB 1 0 (s w)) (hy : y = 0 ∨ y = 1) (hB2 : B2 = evB 1 0 (t w)) (hys : B2 = 0 → t w = some y) :
    (hd = h ∧ y = 1 ∧ B2 = 0 ∧ B1 = 0 ∧ ((x < 0 ∧ tlC w h top v (hd, k2, s, ok, t) = 0) ∨ (0 ≤ x ∧ top < x ∧ tlC w h top v (hd, k2, s, ok, t) = top) ∨ (0 ≤ x ∧ x ≤ top ∧ tlC w h top v (hd, k2, s, ok, t) = x))) ∨ ((¬ hd = h ∨ y = 0 ∨ B2 = 1 ∨ B1 = 1) ∧ tlC w h top v (hd, k2, s, ok, t) = v) := by
  have hn : ¬ (hd = h ∧ t w = some 1) → tlC w h top v (hd, k2, s, ok, t) = v := fun z => if_neg z
  have hn2 : hd = h → t w = some 1 → s w = none → tlC w h top v (hd, k2, s, ok, t) = v := fun z1 z2 z3 => by
    unfold tlC
    dsimp only
    rw [if_pos ⟨z1, z2⟩, z3]
  have hn3 : ∀ a, hd = h → t w = some 1 → s w = some a → tlC w h top v (hd, k2, s, ok, t) = (if a < 0 then 0 else if top < a then top else a) := fun a z1 z2 z3 => by
    unfold tlC
    dsimp only
    rw [if_pos ⟨z1, z2⟩, z3]
  by_cases h1 : hd = h
  · cases h2 : t w with
    | none =>
      rw [h2, evB_n] at hB2
      exact Or.inr ⟨Or.inr (Or.inr (Or.inl hB2)), hn (fun z => by rw [h2] at z; cases z.2)⟩
    | some z =>
      rw [h2, evB_s] at hB2
      have h4 := hys hB2
      rw [h2] at h4
      cases h4
      rcases hy with rfl | rfl
      · exact Or.inr ⟨Or.inr (Or.inl rfl), hn (fun z => by rw [h2] at z; cases z.2)⟩
      · cases h3 : s w with
        | none =>
          rw [h3, evB_n] at hB1
          exact Or.inr ⟨Or.inr (Or.inr (Or.inr hB1)), hn2 h1 h2 h3⟩
        | some a =>
          rw [h3, evB_s] at hB1
          rw [h3, evV_s] at hx
          subst hx
          refine Or.inl ⟨h1, rfl, hB2, hB1, ?_⟩
          rw [hn3 x h1 h2 h3]
          by_cases c1 : x < 0
          · exact Or.inl ⟨c1, if_pos c1⟩
          · rw [if_neg c1]
            by_cases c2 : top < x
            · exact Or.inr (Or.inl ⟨by omega, c2, if_pos c2⟩)
            · exact Or.inr (Or.inr ⟨by omega, by omega, if_neg c2⟩)
  · exact Or.inr ⟨Or.inl h1, hn (fun z => h1 z.1)⟩
theorem tlC_bd {w : Int → Int} {h top v : Int} {c : PC} (ht : 0 ≤ top ∧ top ≤ 1000) (hv : -1000 ≤ v ∧ v ≤ 1000) : -1000 ≤ tlC w h top v c ∧ tlC w h top v c ≤ 1000 := by
  unfold tlC
  split
  · split
    · exact hv
    · split
      · omega
      · split <;> omega
  · exact hv
theorem tl_clause {sh : gS} {g : gM} (hx : gFix sh) (hf : gFin g) {T V : Int → Int} {b : Int}  {w : Int → Int} (E : EvC T V b false w g) {D : Nat} (hD : 42 ≤ D) (h top df : Int) (hh : 0 ≤ h ∧ h ≤ 3) (htop : 0 ≤ top ∧ top ≤ 1000) {p0 n0 p n : Int} {c : PC} (e : pClause T (pSum T V false 8) (pTest T V false 8) p0 n0 = .inr (p, n, c)) (hp : 0 ≤ p0 ∧ p0 ≤ 401) (v br : Int) (hv : -1000 ≤ v ∧ v ≤ 1000) (x6 x7 x8 x9 x10 : gV) :
    ∃ B2 : Int, ∀ Q : gQ, (∀ y6 y7 y8 y9 y10 : gV, gWP f_Model_tells D 0 0 61 [(2, 177), (0, h), (0, top), (0, df), (1, tlC w h top v c), (9, 0), y6, y7, y8, y9, y10] [] sh (evM g (b + (p + 1)) B2) Q) → gWP f_Model_tells D 0 0 61 [(2, 177), (0, h), (0, top), (0, df), (1, v), (9, 0), x6, x7, x8, x9, x10] [] sh (evM g (b + p0) br) Q := by
  have h1 := E.1
  have hD3 : 3 ≤ D := by omega
  have ho : (0 : Int) = 0 ∨ (0 : Int) = 1 := Or.inl rfl
  have ho1 : (1 : Int) = 0 ∨ (1 : Int) = 1 := Or.inr rfl
  have one : ∀ v, (fun _ => some 1 : PS) w = some v → bd9 v := fun v hv => by cases hv; exact ⟨by decide, by decide⟩
  unfold pClause at e
  split at e
  · next hT =>
    have hlt := E.lt p0 hp.1 (by omega)
    cases hr : pSum T V false 8 (p0 + 1) n0 with
    | inl y => rw [hr] at e; cases e
    | inr y =>
      obtain ⟨q, m, k2, s⟩ := y
      rw [hr] at e
      dsimp only at e
      have hq := pSum_far E.ok 8 _ _ _ _ _ _ hr
      have hS := ev_sumK hx hf E 8 _ _ _ _ _ _ hr (by omega)
      have hbx := evV_bd (live := 1) (br := 0) hS.1
      unfold pWhen at e
      split at e
      · next hTq =>
        have hltq := E.lt q (by omega) (by omega)
        cases hr2 : pTest T V false 8 (q + 1) m with
        | inl y => rw [hr2] at e; cases e
        | inr y =>
          obtain ⟨q2, m2, k3, t⟩ := y
          rw [hr2] at e
          cases e
          have hS2 := ev_testK hx hf E 8 _ _ _ _ _ _ hr2 (by omega)
          obtain ⟨y, hy, hys, hSS⟩ := hS2.2 1 0 ho1 ho
          refine ⟨evB 1 0 (t w), fun Q k => ?_⟩
          exact tl_sy hx hf E hD3 p0 hp h top df v br hh htop hv x6 x7 x8 x9 x10 hT q (by omega) _ _ (evB_01 ho) hbx (by omega) (hS.2.2 1 0 ho1 ho) hTq _ y _ hy (evB_01 ho) (by omega) hSS _ (tlC_ok rfl rfl hy rfl (fun z => hys rfl z)) k
      · next hTq =>
        cases e
        refine ⟨0, fun Q k => ?_⟩
        exact tl_sn hx hf E hD3 p0 hp h top df v br hh htop hv x6 x7 x8 x9 x10 hT _ (by omega) _ _ (evB_01 ho) hbx (by omega) (hS.2.2 1 0 ho1 ho) hTq _ 1 0 rfl rfl rfl _ (tlC_ok (B2 := 0) (y := 1) rfl rfl (Or.inr rfl) evB_s.symm (fun z => rfl)) k
  split at e
  · next hT =>
    have hlt := E.lt p0 hp.1 (by omega)
    unfold pWhen at e
    split at e
    · next hTq =>
      have hltq := E.lt (p0 + 1) (by omega) (by omega)
      cases hr2 : pTest T V false 8 (p0 + 1 + 1) n0 with
      | inl y => rw [hr2] at e; cases e
      | inr y =>
        obtain ⟨q2, m2, k3, t⟩ := y
        rw [hr2] at e
        cases e
        have hS2 := ev_testK hx hf E 8 _ _ _ _ _ _ hr2 (by omega)
        obtain ⟨y, hy, hys, hSS⟩ := hS2.2 1 0 ho1 ho
        refine ⟨evB 1 0 (t w), fun Q k => ?_⟩
        refine tl_by hx hf E hD3 p0 hp h top df v br hh htop hv x6 x7 x8 x9 x10 hT _ rfl (by omega) 1 0 rfl rfl hTq _ y _ hy (evB_01 ho) (by omega) hSS _ ?_ k
        rw [hT]
        exact tlC_ok (B1 := 0) (x := 1) evV_s.symm evB_s.symm hy rfl (fun z => hys rfl z)
    · next hTq =>
      cases e
      refine ⟨0, fun Q k => ?_⟩
      refine tl_bn hx hf E hD3 p0 hp h top df v br hh htop hv x6 x7 x8 x9 x10 hT _ rfl (by omega) 1 0 rfl rfl hTq _ 1 0 rfl rfl rfl _ ?_ k
      rw [hT]
      exact tlC_ok (B1 := 0) (B2 := 0) (y := 1) (x := 1) evV_s.symm evB_s.symm (Or.inr rfl) evB_s.symm (fun z => rfl)
  · cases e
theorem tl_loop {sh : gS} {g : gM} (hx : gFix sh) (hf : gFin g) {T V : Int → Int} {b : Int}  {w : Int → Int} (E : EvC T V b false w g) {D : Nat} (hD : 42 ≤ D) (h top df : Int) (hh : 0 ≤ h ∧ h ≤ 3) (htop : 0 ≤ top ∧ top ≤ 1000) : ∀ (f : Nat) (p0 n0 p n : Int) (c : PC) (A R : List PC), pClause T (pSum T V false 8) (pTest T V false 8) p0 n0 = .inr (p, n, c) → pLawL T (g 177 23 - b) (pClause T (pSum T V false 8) (pTest T V false 8)) f p n (A ++ [c]) = .inr R → (0 ≤ p0 ∧ p0 ≤ 401) →
    ∃ R2, R = A ++ c :: R2 ∧ ∀ (v br : Int) (x6 x7 x8 x9 x10 : gV), (-1000 ≤ v ∧ v ≤ 1000) → gWP f_Model_tells D 0 0 61 [(2, 177), (0, h), (0, top), (0, df), (1, v), (9, 0), x6, x7, x8, x9, x10] [] sh (evM g (b + p0) br) (fun r s2 g2 => r = some (0, tl w h top v (c :: R2)) ∧ s2 = sh ∧ ∃ x y : Int, g2 = evM g x y)
  | 0, p0, n0, p, n, c, A, R, e, e2, hp => by cases e2
  | f + 1, p0, n0, p, n, c, A, R, e, e2, hp => by
    have h1 := E.1
    have hfar := pClause_far E.ok (pSum_far E.ok 8) (pTest_far E.ok 8) _ _ _ _ _ e
    unfold pLawL at e2
    split at e2
    · next hT =>
      split at e2
      · cases e2
      · cases hr : pClause T (pSum T V false 8) (pTest T V false 8) (p + 1) n with
        | inl y => rw [hr] at e2; cases e2
        | inr y =>
          obtain ⟨q, m, c2⟩ := y
          rw [hr] at e2
          have hlt := E.lt p (by omega) (by omega)
          obtain ⟨R2, hR, hW⟩ := tl_loop hx hf E hD h top df hh htop f (p + 1) n q m c2 (A ++ [c]) R hr e2 (by omega)
          refine ⟨c2 :: R2, by rw [hR, List.append_assoc]; rfl, fun v br x6 x7 x8 x9 x10 hv => ?_⟩
          obtain ⟨B2, hc⟩ := tl_clause hx hf E hD h top df hh htop e hp v br hv x6 x7 x8 x9 x10
          exact hc _ (fun y6 y7 y8 y9 y10 => hW (tlC w h top v c) B2 y6 y7 y8 y9 y10 (tlC_bd htop hv))
    · split at e2
      · cases e2
      · cases e2
        refine ⟨[], rfl, fun v br x6 x7 x8 x9 x10 hv => ?_⟩
        obtain ⟨B2, hc⟩ := tl_clause hx hf E hD h top df hh htop e hp v br hv x6 x7 x8 x9 x10
        exact hc _ (fun y6 y7 y8 y9 y10 => gWP.mono (tl_exit hx hf E (by omega) (p + 1) (by omega) h top df _ B2 hh htop (tlC_bd htop hv) y6 y7 y8 y9 y10 (by omega)) (fun r s2 g2 z => ⟨z.1, z.2.1, _, _, z.2.2⟩))
/-! ===== what the law in force tells ===== -/
def askW (a : Int → Int) (i : Int) : Int := a (if i = 0 then 0 else if i = 1 then 7 else if i = 2 then 8 else if i = 3 then 1 else if i = 4 then 2 else if i = 5 then 3 else if i = 6 then 4 else if i = 7 then 5 else if i = 8 then 9 else 6)
theorem askW_lwI (a : Int → Int) (c : Int) (h1 : 8 ≤ c) (h2 : c ≤ 17) : a (c - 8) = askW a (lwI c) := by
  rcases (show c = 8 ∨ c = 9 ∨ c = 10 ∨ c = 11 ∨ c = 12 ∨ c = 13 ∨ c = 14 ∨ c = 15 ∨ c = 16 ∨ c = 17 by omega) with rfl | rfl | rfl | rfl | rfl | rfl | rfl | rfl | rfl | rfl <;> rfl
theorem askW_bd {a : Int → Int} (h : ∀ j, 0 ≤ j → j < 10 → -1000000000 ≤ a j ∧ a j ≤ 1000000000) (i : Int) : -1000000000 ≤ askW a i ∧ askW a i ≤ 1000000000 := by
  unfold askW
  refine h _ ?_ ?_ <;> repeat' split
  all_goals decide
def rT (r : Int → Int) (i p : Int) : Int := if 0 ≤ p ∧ 400 * i + p < 400 * i + r (45 + i) then r (52 + (400 * i + p)) else 0
def rV (r : Int → Int) (i p : Int) : Int := r (2852 + (400 * i + p))
/-- what the row's law i says -/
def rLaw (r : Int → Int) (i : Int) : Int ⊕ List PC := pLaw (rT r i) (rV r i) (r (45 + i))
/-- memories that differ only where a reading works -/
def gSc (g g2 : gM) : Prop := ∀ a k, ¬ (a = 177 ∧ 22 ≤ k ∧ k ≤ 25) → g2 a k = g a k
/-- what the law in force tells -/
def tlR (r : Int → Int) (w : Int → Int) (h top df : Int) : Int := if r 44 = -1 then df else match rLaw r (r 44) with
  | .inl _ => df
  | .inr L => tl w h top df L
def lawsOK (r : Int → Int) : Prop := ∀ i, 0 ≤ i → i < r 43 → ∃ L, rLaw r i = .inr L
def tlG (g : gM) (i : Int) : gM := gup (gup g 177 25 0) 177 23 (400 * i + g 179 (45 + i))
theorem tlG_sc (g : gM) (i x y : Int) : gSc g (evM (tlG g i) x y) := by
  intro a k h
  unfold evM tlG
  by_cases ha : a = 177
  · subst ha
    rw [gup_k _ _ _ _ (by omega), gup_k _ _ _ _ (by omega), gup_k _ _ _ _ (by omega), gup_k _ _ _ _ (by omega)]
  · rw [gup_fn _ _ _ _ ha, gup_fn _ _ _ _ ha, gup_fn _ _ _ _ ha, gup_fn _ _ _ _ ha]
theorem tlG_ev (g : gM) (x e : Int) : evM (gup (gup g 177 25 0) 177 23 e) x (g 177 24) = gup (gup (gup g 177 25 0) 177 22 x) 177 23 e := by
  funext a k
  unfold evM
  by_cases ha : a = 177
  · subst ha
    by_cases h1 : k = 24
    · subst h1
      rw [gup_s, gup_k _ _ _ _ (by decide), gup_k _ _ _ _ (by decide), gup_k _ _ _ _ (by decide)]
    · rw [gup_k _ _ _ _ h1]
      by_cases h2 : k = 22
      · subst h2
        rw [gup_s, gup_k _ _ _ _ (by decide), gup_s]
      · rw [gup_k _ _ _ _ h2]
        by_cases h3 : k = 23
        · subst h3
          rw [gup_s, gup_s]
        · rw [gup_k _ _ _ _ h3, gup_k _ _ _ _ h3, gup_k _ _ _ _ h2]
  · rw [gup_fn _ _ _ _ ha, gup_fn _ _ _ _ ha, gup_fn _ _ _ _ ha, gup_fn _ _ _ _ ha, gup_fn _ _ _ _ ha, gup_fn _ _ _ _ ha, gup_fn _ _ _ _ ha]
theorem EvC.told {g : gM} (ho : rowOK (g 179)) (hask : ∀ j, 0 ≤ j → j < 10 → -1000000000 ≤ g 189 j ∧ g 189 j ≤ 1000000000) (i : Int) (hi : 0 ≤ i ∧ i < 6) : EvC (rT (g 179) i) (rV (g 179) i) (400 * i) false (askW (g 189)) (tlG g i) := by
  have hs := ro_size ho (45 + i) (by omega)
  have e23 : tlG g i 177 23 = 400 * i + g 179 (45 + i) := gup_s _ _ _ _
  have e179 : tlG g i 179 = g 179 := by unfold tlG; rw [gup_fn _ _ _ _ (by decide), gup_fn _ _ _ _ (by decide)]
  have e189 : tlG g i 189 = g 189 := by unfold tlG; rw [gup_fn _ _ _ _ (by decide), gup_fn _ _ _ _ (by decide)]
  refine ⟨?_, ?_, ?_, ?_, ?_, ?_, ?_, ?_⟩
  · rw [e23]; omega
  · intro p; rw [e23, e179]; rfl
  · intro p _ _; rw [e179]; rfl
  · unfold tlG; rw [gup_k _ _ _ _ (by decide), gup_s]; rfl
  · rw [e179]; exact ho
  · exact askW_bd hask
  · intro _ c h1 h2; rw [e189]; exact askW_lwI _ _ h1 h2
  · intro h; cases h
set_option maxHeartbeats 2000000 in
theorem c_Model_tells {sh : gS} {g : gM} (hx : gFix sh) (hf : gFin g) (h top df : Int) (hh : 0 ≤ h ∧ h ≤ 3) (htop : 0 ≤ top ∧ top ≤ 1000) (hdf : -1000 ≤ df ∧ df ≤ 1000) (ho : rowOK (g 179)) (hask : ∀ j, 0 ≤ j → j < 10 → -1000000000 ≤ g 189 j ∧ g 189 j ≤ 1000000000) (hl : lawsOK (g 179)) : gTri f_Model_tells 42 0 0 [(2, 177), (0, h), (0, top), (0, df)] sh g (fun r s2 g2 => r = some (0, tlR (g 179) (askW (g 189)) h top df) ∧ s2 = sh ∧ gSc g g2) := by
  have hfo := ro_force ho
  have hf0 := hf
  have e179 : ∀ (m : gM) (k v f : Int), gup m 177 k v 179 f = m 179 f := fun m k v f => congrFun (gup_fn _ _ _ _ (by decide)) f
  refine gTri.of (by decide +kernel) rfl ?_
  show gWP f_Model_tells _ _ _ 0 [(2, 177), (0, h), (0, top), (0, df), (9, 0), (9, 0), (9, 0), (9, 0), (9, 0), (9, 0), (9, 0)] [] sh g _
  refine gw_aload_n (gc k_Model_tells_0 0 rfl) rfl rfl ?_
  refine gw_getref (gc k_Model_tells_0 1 rfl) fl_Model_28 (gAt hx rfl rfl) (gRf hf rfl rfl) ?_
  refine gw_bipush (gc k_Model_tells_0 2 rfl) (by decide) ?_
  refine gw_iald (gc k_Model_tells_0 3 rfl) (gAt hx rfl rfl) (by omega) ?_
  refine gw_iconst (gc k_Model_tells_0 4 rfl) ?_
  refine gw_icmp_ne (tgt := 13) (gc k_Model_tells_0 5 rfl) rfl (by omega) (fun c8 => ?_) (fun c8 => ?_)
  · refine gw_aload_n (gc k_Model_tells_0 8 rfl) rfl rfl ?_
    refine gw_iconst (gc k_Model_tells_0 9 rfl) ?_
    refine gw_putZK 25 rfl (gc k_Model_tells_0 10 rfl) fl_Model_291 (gAt hx rfl rfl) (by omega) hf rfl (fun hf => ?_)
    refine gw_iload_n (gc k_Model_tells_0 11 rfl) rfl ?_
    refine gw_i2l (gc k_Model_tells_0 12 rfl) (by omega) ?_
    refine gw_lstore_4 (gc k_Model_tells_0 13 rfl) rfl rfl ?_
    refine gw_aload_n (gc k_Model_tells_0 14 rfl) rfl rfl ?_
    refine gw_sipush (gc k_Model_tells_0 15 rfl) (by decide) ?_
    refine gw_aload_n (gc k_Model_tells_0 16 rfl) rfl rfl ?_
    refine gw_getref (gc k_Model_tells_0 17 rfl) fl_Model_28 (gAt hx rfl rfl) (gRf hf rfl rfl) ?_
    refine gw_bipush (gc k_Model_tells_0 18 rfl) (by decide) ?_
    refine gw_iald (gc k_Model_tells_0 19 rfl) (gAt hx rfl rfl) (by omega) ?_
    refine gw_imul (gc k_Model_tells_0 20 rfl) ?_
    refine gw_putIK 22 rfl (gc k_Model_tells_0 21 rfl) fl_Model_261 (gAt hx rfl rfl) hf rfl (fun hf => ?_)
    refine gw_aload_n (gc k_Model_tells_0 22 rfl) rfl rfl ?_
    refine gw_aload_n (gc k_Model_tells_0 23 rfl) rfl rfl ?_
    refine gw_getf 22 rfl (gc k_Model_tells_0 24 rfl) fl_Model_261 (gAt hx rfl rfl) ?_
    refine gw_aload_n (gc k_Model_tells_0 25 rfl) rfl rfl ?_
    refine gw_getref (gc k_Model_tells_0 26 rfl) fl_Model_28 (gAt hx rfl rfl) (gRf hf rfl rfl) ?_
    refine gw_bipush (gc k_Model_tells_0 27 rfl) (by decide) ?_
    refine gw_aload_n (gc k_Model_tells_0 28 rfl) rfl rfl ?_
    refine gw_getref (gc k_Model_tells_0 29 rfl) fl_Model_28 (gAt hx rfl rfl) (gRf hf rfl rfl) ?_
    refine gw_bipush (gc k_Model_tells_0 30 rfl) (by decide) ?_
    refine gw_iald (gc k_Model_tells_0 31 rfl) (gAt hx rfl rfl) (by omega) ?_
    refine gw_iadd (gc k_Model_tells_0 32 rfl) ?_
    simp only [e179]
    refine gw_iald (gc k_Model_tells_0 33 rfl) (gAt hx rfl rfl) (by omega) ?_
    refine gw_iadd (gc k_Model_tells_0 34 rfl) ?_
    refine gw_putIK 23 rfl (gc k_Model_tells_0 35 rfl) fl_Model_258 (gAt hx rfl rfl) hf rfl (fun hf => ?_)
    have hlt : g 179 44 < g 179 43 := by
      have := ho.2.2.2.2.2.2.2.2.2.1
      omega
    obtain ⟨L, hL⟩ := hl (g 179 44) (by omega) hlt
    have E := EvC.told ho hask (g 179 44) (by omega)
    have hR : tlR (g 179) (askW (g 189)) h top df = tl (askW (g 189)) h top df L := by unfold tlR; rw [if_neg c8, hL]
    rw [hR]
    unfold rLaw pLaw at hL
    cases hr : pClause (rT (g 179) (g 179 44)) (pSum (rT (g 179) (g 179 44)) (rV (g 179) (g 179 44)) false 8) (pTest (rT (g 179) (g 179 44)) (rV (g 179) (g 179 44)) false 8) 0 0 with
    | inl y => rw [hr] at hL; cases hL
    | inr y =>
      obtain ⟨q, m, c⟩ := y
      rw [hr] at hL
      dsimp only at hL
      have e23 : tlG g (g 179 44) 177 23 - 400 * g 179 44 = g 179 (45 + g 179 44) := by
        have : tlG g (g 179 44) 177 23 = 400 * g 179 44 + g 179 (45 + g 179 44) := gup_s _ _ _ _
        omega
      rw [← e23] at hL
      have hfT : gFin (tlG g (g 179 44)) := (hf0.up rfl).up rfl
      obtain ⟨R2, hR2, hW⟩ := tl_loop hx hfT E (by decide : 42 ≤ 42) h top df hh htop 401 0 0 q m c [] L hr hL (by omega)
      rw [hR2]
      refine gWP.mono (gWP.eqm ?_ (hW df (g 177 24) _ _ _ _ _ hdf)) (fun r s2 g2 z => ⟨z.1, z.2.1, ?_⟩)
      · show evM (gup (gup g 177 25 0) 177 23 _) _ _ = _
        rw [tlG_ev, Int.add_zero]
        simp only [e179, gup_s, gup_k _ _ _ _ (show (22 : Int) ≠ 23 by decide)]
      · obtain ⟨x, y, e⟩ := z.2.2
        rw [e]
        exact tlG_sc g _ x y
  · refine gw_iload_n (gc k_Model_tells_0 6 rfl) rfl ?_
    refine gw_ireturn (gc k_Model_tells_0 7 rfl) rfl ?_
    exact ⟨by unfold tlR; rw [if_pos (by omega)], rfl, fun _ _ _ => rfl⟩
