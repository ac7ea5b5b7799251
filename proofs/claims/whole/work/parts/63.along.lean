/-! ===== the reference: a clause of orders is gone along ===== -/
theorem evM_of (g : gM) (x : Int) : gup g 177 22 x = evM g x (g 177 24) := by
  funext a k
  unfold evM gup
  by_cases h : a = 177
  · subst h
    by_cases q1 : k = 22
    · subst q1; simp
    · by_cases q2 : k = 24
      · subst q2; simp
      · simp [q1, q2]
  · simp [h]
theorem evM_up (g : gM) (x y : Int) {k : Int} (v : Int) (h1 : k ≠ 22) (h2 : k ≠ 24) : gup (evM g x y) 177 k v = evM (gup g 177 k v) x y := by
  funext a j
  unfold evM gup
  by_cases h : a = 177
  · subst h
    by_cases z : j = k
    · subst z; simp [h1, h2]
    · simp [z]
  · simp [h]
theorem evM_ua (g : gM) (x y : Int) {a0 : Int} (i v : Int) (h : a0 ≠ 177) : gup (evM g x y) a0 i v = evM (gup g a0 i v) x y := by
  funext a j
  unfold evM gup
  have h' : ¬ (177 : Int) = a0 := fun q => h q.symm
  by_cases z : a = a0
  · subst z; simp [h]
  · by_cases z2 : a = 177 <;> simp [z, z2, h']
def gaF (g g2 : gM) : Prop := ∀ a k, a ≠ 199 → a ≠ 189 → ¬ (a = 177 ∧ ((22 ≤ k ∧ k ≤ 25) ∨ (29 ≤ k ∧ k ≤ 30) ∨ (43 ≤ k ∧ k ≤ 46))) → g2 a k = g a k
def gaI (g0 : gM) (e bar cost : Int) (G : gM) : Prop := gaF g0 G ∧ G 177 25 = 1 ∧ G 177 23 = e ∧ G 177 29 = bar ∧ G 177 30 = cost
theorem gaI.up {g0 G : gM} {e bar cost : Int} (h : gaI g0 e bar cost G) {k : Int} (v : Int) (hk : 43 ≤ k ∧ k ≤ 46) : gaI g0 e bar cost (gup G 177 k v) := by
  refine ⟨fun a y h1 h2 h3 => ?_, ?_, ?_, ?_, ?_⟩
  · by_cases z : a = 177
    · subst z; rw [gup_k _ _ _ _ (by omega)]; exact h.1 _ y h1 h2 h3
    · rw [gup_a _ _ _ _ _ z]; exact h.1 a y h1 h2 h3
  · rw [gup_k _ _ _ _ (by omega)]; exact h.2.1
  · rw [gup_k _ _ _ _ (by omega)]; exact h.2.2.1
  · rw [gup_k _ _ _ _ (by omega)]; exact h.2.2.2.1
  · rw [gup_k _ _ _ _ (by omega)]; exact h.2.2.2.2
theorem gaI.sm {g0 G : gM} {e bar cost : Int} (h : gaI g0 e bar cost G) (i v : Int) : gaI g0 e bar cost (gup G 199 i v) := ⟨fun a y h1 h2 h3 => (gup_a _ _ _ _ _ h1).trans (h.1 a y h1 h2 h3), (gup_a _ _ _ _ _ (by decide)).trans h.2.1, (gup_a _ _ _ _ _ (by decide)).trans h.2.2.1, (gup_a _ _ _ _ _ (by decide)).trans h.2.2.2.1, (gup_a _ _ _ _ _ (by decide)).trans h.2.2.2.2⟩
theorem gref_ga {a k : Nat} (h : (a : Int) = 199 ∨ (a : Int) = 189 ∨ ((a : Int) = 177 ∧ ((22 ≤ (k : Int) ∧ (k : Int) ≤ 25) ∨ (29 ≤ (k : Int) ∧ (k : Int) ≤ 30) ∨ (43 ≤ (k : Int) ∧ (k : Int) ≤ 46)))) : gref a k = none := by
  rcases (show a = 199 ∨ a = 189 ∨ (a = 177 ∧ (k = 22 ∨ k = 23 ∨ k = 24 ∨ k = 25 ∨ k = 29 ∨ k = 30 ∨ k = 43 ∨ k = 44 ∨ k = 45 ∨ k = 46)) by omega) with z | z | ⟨z, z2⟩
  · subst z; rfl
  · subst z; rfl
  · subst z
    rcases z2 with z2 | z2 | z2 | z2 | z2 | z2 | z2 | z2 | z2 | z2 <;> (subst z2; rfl)
theorem gaF.fin {g g2 : gM} (h : gaF g g2) (hf : gFin g) : gFin g2 := hf.of fun a k z => h _ _ (fun q => z (gref_ga (by omega))) (fun q => z (gref_ga (by omega))) (fun q => z (gref_ga (by omega)))
def owW (r : Int → Int) (dn la bar cost : Int) : Int → Int := fun i => if i = 0 then r 24 else if i = 1 then dn else if i = 2 then la else if i = 3 then bar else if i = 4 then cost else if 5 ≤ i ∧ i < 17 then (if i - 5 ≤ r 41 - 1 then r (i - 5) else -1) else if 17 ≤ i ∧ i < 29 then (if i - 17 ≤ r 41 - 1 then r (12 + (i - 17)) else -1) else 0
theorem owW_bd {r : Int → Int} (ho : rowOK r) {dn la bar cost : Int} (h : (0 ≤ dn ∧ dn ≤ 1000) ∧ (-1 ≤ la ∧ la ≤ 12) ∧ (0 ≤ bar ∧ bar ≤ 12) ∧ -12000 ≤ cost ∧ cost ≤ 12000) (i : Int) : -1000000000 ≤ owW r dn la bar cost i ∧ owW r dn la bar cost i ≤ 1000000000 := by
  have h1 := ro_day ho
  unfold owW
  by_cases z5 : 5 ≤ i ∧ i < 17
  · have h2 := ro_pitch ho (i - 5) (by omega)
    repeat' split
    all_goals omega
  · by_cases z6 : 17 ≤ i ∧ i < 29
    · have h2 := ro_pitch ho (12 + (i - 17)) (by omega)
      repeat' split
      all_goals omega
    · rw [if_neg z5, if_neg z6]
      repeat' split
      all_goals omega
theorem gaI.E {g0 G : gM} {r : Int → Int} {dn la bar cost : Int} (h : gaI g0 (2400 + r 51) bar cost G) (er : g0 179 = r) (ho : rowOK r) (h27 : g0 177 27 = dn) (h28 : g0 177 28 = la) (hb : (0 ≤ dn ∧ dn ≤ 1000) ∧ (-1 ≤ la ∧ la ≤ 12) ∧ (0 ≤ bar ∧ bar ≤ 12) ∧ -12000 ≤ cost ∧ cost ≤ 12000) : EvC (rT r 6) (rV r 6) 2400 true (owW r dn la bar cost) G := by
  obtain ⟨h1, h2, h3, h4, h5⟩ := h
  have e179 : G 179 = r := by rw [← er]; exact funext fun k => h1 179 k (by decide) (by decide) (by omega)
  have hs := ro_size ho 51 (by omega)
  refine ⟨by omega, fun p => ?_, fun p a b => ?_, by rw [h2]; rfl, by rw [e179]; exact ho, owW_bd ho hb, (fun z => by cases z), fun _ => ⟨?_, ?_, ?_, ?_, ?_, fun i a b => ⟨?_, ?_⟩⟩⟩
  · unfold rT
    rw [h3, e179]
    by_cases z : 0 ≤ p ∧ 2400 + p < 2400 + r 51
    · rw [if_pos z, if_pos (by exact z)]
      exact congrArg r (by omega)
    · rw [if_neg z, if_neg (by exact z)]
  · unfold rV
    rw [e179]
    exact congrArg r (by omega)
  · rw [e179]; rfl
  · rw [h1 177 27 (by decide) (by decide) (by omega), h27]; rfl
  · rw [h1 177 28 (by decide) (by decide) (by omega), h28]; rfl
  · rw [h4]; rfl
  · rw [h5]; rfl
  · rw [e179]
    unfold owW
    rw [if_neg (by omega), if_neg (by omega), if_neg (by omega), if_neg (by omega), if_neg (by omega), if_pos (by omega), show 5 + i - 5 = i by omega]
  · rw [e179]
    unfold owW
    rw [if_neg (by omega), if_neg (by omega), if_neg (by omega), if_neg (by omega), if_neg (by omega), if_neg (by omega), if_pos (by omega), show 17 + i - 17 = i by omega]
/-! what a clause of orders says -/
def owT (T : Int → Int) (test : Int → Int → PR) (P2 N2 : Int) (ok : Option PK) (t : PS) (p n : Int) : Prop := (T p = 4 ∧ ∃ k, test (p + 1) n = .inr (P2, N2, k, t) ∧ ok = some k) ∨ (¬ T p = 4 ∧ P2 = p ∧ N2 = n ∧ ok = none ∧ t = fun _ => some 1)
theorem pOW_inv {T : Int → Int} {test : Int → Int → PR} {h : Int} {c : PK} {s : PS} {c2 : PK} {s2 : PS} {tm p n P2 N2 h' : Int} {c' : PK} {s' : PS} {c2' : PK} {s2' : PS} {tm' : Int} {ok : Option PK} {t : PS} (e : pOWhen T test h c s c2 s2 tm p n = .inr (P2, N2, h', c', s', c2', s2', tm', ok, t)) : (h' = h ∧ c' = c ∧ s' = s ∧ c2' = c2 ∧ s2' = s2 ∧ tm' = tm) ∧ owT T test P2 N2 ok t p n := by
  unfold pOWhen at e
  split at e
  · next z =>
    cases hq : test (p + 1) n with
    | inl q => rw [hq] at e; cases e
    | inr q =>
      obtain ⟨q2, m2, c3, s3⟩ := q
      rw [hq] at e
      cases e
      exact ⟨⟨rfl, rfl, rfl, rfl, rfl, rfl⟩, Or.inl ⟨z, c3, hq, rfl⟩⟩
  · next z => cases e; exact ⟨⟨rfl, rfl, rfl, rfl, rfl, rfl⟩, Or.inr ⟨z, rfl, rfl, rfl, rfl⟩⟩
def otT (T V : Int → Int) (test : Int → Int → PR) (P2 N2 tm : Int) (ok : Option PK) (t : PS) (p n : Int) : Prop := (T p = 27 ∧ T (p + 1) = 50 ∧ (1 ≤ tm ∧ tm ≤ 20) ∧ tm = V (p + 1) ∧ owT T test P2 N2 ok t (p + 2) n) ∨ (¬ T p = 27 ∧ tm = 1 ∧ owT T test P2 N2 ok t p n)
theorem pOT_inv {T V : Int → Int} {test : Int → Int → PR} {h : Int} {c : PK} {s : PS} {c2 : PK} {s2 : PS} {p n P2 N2 h' : Int} {c' : PK} {s' : PS} {c2' : PK} {s2' : PS} {tm' : Int} {ok : Option PK} {t : PS} (e : pOTimes T V test h c s c2 s2 p n = .inr (P2, N2, h', c', s', c2', s2', tm', ok, t)) : (h' = h ∧ c' = c ∧ s' = s ∧ c2' = c2 ∧ s2' = s2) ∧ otT T V test P2 N2 tm' ok t p n := by
  unfold pOTimes at e
  split at e
  · next z =>
    split at e
    · next z2 =>
      obtain ⟨⟨a1, a2, a3, a4, a5, a6⟩, a7⟩ := pOW_inv e
      exact ⟨⟨a1, a2, a3, a4, a5⟩, Or.inl ⟨z, z2.1, by omega, a6, a7⟩⟩
    · cases e
  · next z =>
    obtain ⟨⟨a1, a2, a3, a4, a5, a6⟩, a7⟩ := pOW_inv e
    exact ⟨⟨a1, a2, a3, a4, a5⟩, Or.inr ⟨z, a6, a7⟩⟩
theorem pOr_inv {T V : Int → Int} {sm test : Int → Int → PR} {p n P2 N2 kd : Int} {c : PK} {s : PS} {c2 : PK} {s2 : PS} {tm : Int} {ok : Option PK} {t : PS} (e : pOrder T V sm test p n = .inr (P2, N2, kd, c, s, c2, s2, tm, ok, t)) : T p = kd ∧ (((kd = 22 ∨ kd = 23) ∧ ∃ pa na pb nb, sm (p + 1) n = .inr (pa, na, c, s) ∧ T pa = 26 ∧ sm (pa + 1) na = .inr (pb, nb, c2, s2) ∧ otT T V test P2 N2 tm ok t pb nb) ∨ ((kd = 24 ∨ kd = 25) ∧ (c = [] ∧ s = fun _ => some 0) ∧ (c2 = [] ∧ s2 = fun _ => some 0) ∧ otT T V test P2 N2 tm ok t (p + 1) n)) := by
  unfold pOrder at e
  split at e
  · next z =>
    cases hq : sm (p + 1) n with
    | inl q => rw [hq] at e; cases e
    | inr q =>
      obtain ⟨q2, m2, c3, s3⟩ := q
      rw [hq] at e
      dsimp only at e
      split at e
      · next z2 =>
        cases hq2 : sm (q2 + 1) m2 with
        | inl q => rw [hq2] at e; cases e
        | inr q =>
          obtain ⟨q3, m3, c4, s4⟩ := q
          rw [hq2] at e
          obtain ⟨⟨a1, a2, a3, a4, a5⟩, a6⟩ := pOT_inv e
          subst a1 a2 a3 a4 a5
          exact ⟨rfl, Or.inl ⟨z, q2, m2, q3, m3, rfl, z2, hq2, a6⟩⟩
      · cases e
  · next z =>
    split at e
    · next z2 =>
      obtain ⟨⟨a1, a2, a3, a4, a5⟩, a6⟩ := pOT_inv e
      subst a1 a2 a3 a4 a5
      exact ⟨rfl, Or.inr ⟨z2, ⟨rfl, rfl⟩, ⟨rfl, rfl⟩, a6⟩⟩
    · cases e
theorem bd9_getD {o : Option Int} (h : ∀ v, o = some v → bd9 v) : bd9 (o.getD 0) := by
  cases o with
  | none => exact ⟨by decide, by decide⟩
  | some x => exact h x rfl
theorem evB10 (v : Option Int) : evB 1 0 v = if v.isSome = true then 0 else 1 := by
  cases v with
  | none => exact evB_n
  | some x => exact evB_s
theorem evV10 (v : Option Int) : evV 1 0 v = v.getD 0 := by
  cases v with
  | none => exact evV_n
  | some x => exact evV_s
theorem ga_ts {live y : Int} {v : Option Int} (hl : live = 1) (hy : y = 0 ∨ y = 1) (h : live = 1 → evB live 0 v = 0 → v = some y) : (if y = 1 ∧ evB live 0 v = 0 then (1 : Int) else 0) = bi (v = some 1) := by
  subst hl
  cases v with
  | none =>
    rw [evB_n, if_neg (fun z => by have := z.2; omega), bi_0 (fun z => by cases z)]
  | some x =>
    have q := h rfl evB_s
    rw [evB_s]
    cases q
    by_cases z : y = 1
    · rw [if_pos ⟨z, rfl⟩, z, bi_1 rfl]
    · rw [if_neg (fun q => z q.1), bi_0 (fun q => z (Option.some.inj q))]
theorem ga_ss (v1 v2 : Option Int) : (if (if (1 : Int) = 1 ∧ evB 1 0 v1 = 0 then (1 : Int) else 0) = 1 ∧ evB 1 0 v2 = 0 then (1 : Int) else 0) = bi (v1.isSome = true ∧ v2.isSome = true) := by
  cases v1 with
  | none =>
    rw [evB_n, if_neg (show ¬ ((if (1 : Int) = 1 ∧ (1 : Int) = 0 then (1 : Int) else 0) = 1 ∧ evB 1 0 v2 = 0) from fun z => absurd z.1 (by decide)), bi_0 (fun z => by cases z.1)]
  | some x =>
    cases v2 with
    | none => rw [evB_n, evB_s, if_neg (fun z => by have := z.2; omega), bi_0 (fun z => by cases z.2)]
    | some y => rw [evB_s, evB_s]; rfl
def gaQ (g : gM) (b live kd tm : Int) (s s2 t : PS) (w : Int → Int) (P2 : Int) (g2 : gM) : Prop := gaF g g2 ∧ g2 177 22 = b + P2 + 1 ∧ g2 177 43 = tm ∧ g2 177 44 = kd ∧ (g2 177 45 = 0 ∨ g2 177 45 = 1) ∧ (g2 177 46 = 0 ∨ g2 177 46 = 1) ∧ (live = 1 → g2 177 46 = bi (t w = some 1) ∧ g2 177 45 = bi ((s w).isSome = true ∧ (s2 w).isSome = true) ∧ ((kd = 22 ∨ kd = 23) → g2 199 0 = (s w).getD 0 ∧ g2 199 1 = (s2 w).getD 0) ∧ bd9 ((s w).getD 0) ∧ bd9 ((s2 w).getD 0))
theorem rT_ok (r : Int → Int) (h : 0 ≤ r 51 ∧ r 51 ≤ 400) : pOK (rT r 6) (r 51) := fun p hp => by
  unfold rT at hp
  by_cases z : 0 ≤ p ∧ 400 * 6 + p < 400 * 6 + r (45 + 6)
  · have := z.2
    have e : r (45 + 6) = r 51 := rfl
    omega
  · rw [if_neg z] at hp; exact absurd rfl hp
set_option maxHeartbeats 8000000 in
theorem c_along01 {sh : gS} {g : gM} (hx : gFix sh) (hf : gFin g) {r : Int → Int} (er : g 179 = r) (ho : rowOK r) (hl : lawsOK r) {dn la : Int} (h27 : g 177 27 = dn) (h28 : g 177 28 = la) (hdn : 0 ≤ dn ∧ dn ≤ 1000) (hla : -1 ≤ la ∧ la ≤ 12) {p n : Int} (hp : 0 ≤ p ∧ p ≤ 400) (h42 : g 177 42 = 2400 + p) {P2 N2 kd : Int} {c : PK} {s : PS} {c2 : PK} {s2 : PS} {tm : Int} {ok : Option PK} {t : PS} (e : pOrder (rT r 6) (rV r 6) (pSum (rT r 6) (rV r 6) true 8) (pTest (rT r 6) (rV r 6) true 8) p n = .inr (P2, N2, kd, c, s, c2, s2, tm, ok, t)) (hkd : kd = 22 ∨ kd = 23) : gTri f_Model_goesAlong 45 0 0 [(2, 177), (0, 2400 + r 51), (0, 0)] sh g (fun x s2_ g2 => x = none ∧ s2_ = sh ∧ gaQ g 2400 0 kd tm s s2 t (owW r dn la 0 0) P2 g2) := by
  have hm := ro_many ho
  have hf0 := hf
  have hs51 := ro_size ho 51 (by omega)
  obtain ⟨hTp, hpv⟩ := pOr_inv e
  obtain ⟨pa, na, pb, nb, hsa, hT26, hsb, hTm⟩ : ∃ pa na pb nb, (pSum (rT r 6) (rV r 6) true 8) (p + 1) n = .inr (pa, na, c, s) ∧ (rT r 6) pa = 26 ∧ (pSum (rT r 6) (rV r 6) true 8) (pa + 1) na = .inr (pb, nb, c2, s2) ∧ otT (rT r 6) (rV r 6) (pTest (rT r 6) (rV r 6) true 8) P2 N2 tm ok t pb nb := by
    rcases hpv with ⟨-, q⟩ | ⟨q, -⟩
    · exact q
    · omega
  clear hpv
  have hok6 := rT_ok r hs51
  have hfa := pSum_far (V := rV r 6) (o := true) hok6 8 _ _ _ _ _ _ hsa
  have hfb := pSum_far (V := rV r 6) (o := true) hok6 8 _ _ _ _ _ _ hsb
  refine gTri.of (by decide +kernel) rfl ?_
  show gWP f_Model_goesAlong _ _ _ 0 [(2, 177), (0, 2400 + r 51), (0, 0), (9, 0), (9, 0)] [] sh g _
  refine gw_aload_n (gc k_Model_goesAlong_0 0 rfl) rfl rfl ?_
  refine gw_iload_n (gc k_Model_goesAlong_0 1 rfl) rfl ?_
  refine gw_if_eq (tgt := 13) (gc k_Model_goesAlong_0 2 rfl) rfl (by omega) (fun c2 => ?_) (fun c2 => ?_)
  · refine gw_iconst (gc k_Model_goesAlong_0 7 rfl) ?_
    refine gw_putIK 29 rfl (gc k_Model_goesAlong_0 8 rfl) fl_Model_303 (gAt hx rfl rfl) hf rfl (fun hf => ?_)
    refine gw_aload_n (gc k_Model_goesAlong_0 9 rfl) rfl rfl ?_
    refine gw_iload_n (gc k_Model_goesAlong_0 10 rfl) rfl ?_
    refine gw_if_eq (tgt := 30) (gc k_Model_goesAlong_0 11 rfl) rfl (by omega) (fun c19 => ?_) (fun c19 => ?_)
    · refine gw_iconst (gc k_Model_goesAlong_0 16 rfl) ?_
      refine gw_putIK 30 rfl (gc k_Model_goesAlong_0 17 rfl) fl_Model_306 (gAt hx rfl rfl) hf rfl (fun hf => ?_)
      refine gw_aload_n (gc k_Model_goesAlong_0 18 rfl) rfl rfl ?_
      refine gw_iconst (gc k_Model_goesAlong_0 19 rfl) ?_
      refine gw_putZK 25 rfl (gc k_Model_goesAlong_0 20 rfl) fl_Model_291 (gAt hx rfl rfl) (by omega) hf rfl (fun hf => ?_)
      refine gw_aload_n (gc k_Model_goesAlong_0 21 rfl) rfl rfl ?_
      refine gw_iload_n (gc k_Model_goesAlong_0 22 rfl) rfl ?_
      refine gw_putIK 23 rfl (gc k_Model_goesAlong_0 23 rfl) fl_Model_258 (gAt hx rfl rfl) hf rfl (fun hf => ?_)
      have hI0 : gaI g (2400 + r 51) 0 0 (gup (gup (gup (gup g 177 29 0) 177 30 0) 177 25 1) 177 23 (2400 + r 51)) := by
        refine ⟨fun a k h1 h2 h3 => ?_, gup_k _ _ _ _ (by decide) |>.trans (gup_s _ _ _ _), gup_s _ _ _ _, ?_, ?_⟩
        · by_cases z : a = 177
          · subst z
            rw [gup_k _ _ _ _ (by omega), gup_k _ _ _ _ (by omega), gup_k _ _ _ _ (by omega), gup_k _ _ _ _ (by omega)]
          · rw [gup_a _ _ _ _ _ z, gup_a _ _ _ _ _ z, gup_a _ _ _ _ _ z, gup_a _ _ _ _ _ z]
        · rw [gup_k _ _ _ _ (by decide), gup_k _ _ _ _ (by decide), gup_k _ _ _ _ (by decide), gup_s]
        · rw [gup_k _ _ _ _ (by decide), gup_k _ _ _ _ (by decide), gup_s]
      obtain ⟨M0, hM0⟩ : ∃ M, M = (gup (gup (gup (gup g 177 29 0) 177 30 0) 177 25 1) 177 23 (2400 + r 51)) := ⟨_, rfl⟩
      rw [← hM0] at hI0 ⊢
      have hfM : gFin M0 := hI0.1.fin hf0
      have hf := hfM
      have E0 := hI0.E er ho h27 h28 ⟨hdn, hla, (by omega), (by omega)⟩
      refine gw_aload_n (gc k_Model_goesAlong_0 24 rfl) rfl rfl ?_
      refine gw_aload_n (gc k_Model_goesAlong_0 25 rfl) rfl rfl ?_
      refine gw_getf 42 rfl (gc k_Model_goesAlong_0 26 rfl) fl_Model_446 (gAt hx rfl rfl) ?_
      rw [hI0.1 177 42 (by decide) (by decide) (by omega), h42]
      refine gw_putIK 22 rfl (gc k_Model_goesAlong_0 27 rfl) fl_Model_261 (gAt hx rfl rfl) hf rfl (fun hf => ?_)
      rw [evM_of]
      obtain ⟨y0, hy0⟩ : ∃ y, y = M0 177 24 := ⟨_, rfl⟩
      rw [← hy0]
      have hf := hfM.ev (2400 + p) y0
      refine gw_aload_n (gc k_Model_goesAlong_0 28 rfl) rfl rfl ?_
      refine gw_aload_n (gc k_Model_goesAlong_0 29 rfl) rfl rfl ?_
      refine gw_aload_n (gc k_Model_goesAlong_0 30 rfl) rfl rfl ?_
      refine gw_getf 22 rfl (gc k_Model_goesAlong_0 31 rfl) fl_Model_261 (gAt hx rfl rfl) ?_
      rw [evM_22]
      refine gw_cV1 (gc k_Model_goesAlong_0 32 rfl) y_Model_codeAt ln_Model_264 (c_codeAt hx hfM E0 p _ _ (by omega)) rfl rfl (gAt hx rfl rfl) rfl rfl ?_
      rw [hTp]
      refine gw_putIK 44 rfl (gc k_Model_goesAlong_0 33 rfl) fl_Model_455 (gAt hx rfl rfl) hf rfl (fun hf => ?_)
      rw [evM_up _ _ _ _ (by decide) (by decide)]
      have hI1 := hI0.up (k := 44) kd (by omega)
      have hf := (hI1.1.fin hf0).ev (2400 + p) y0
      refine gw_aload_n (gc k_Model_goesAlong_0 34 rfl) rfl rfl ?_
      refine gw_dup (gc k_Model_goesAlong_0 35 rfl) rfl ?_
      refine gw_getf 22 rfl (gc k_Model_goesAlong_0 36 rfl) fl_Model_261 (gAt hx rfl rfl) ?_
      refine gw_iconst (gc k_Model_goesAlong_0 37 rfl) ?_
      refine gw_iadd (gc k_Model_goesAlong_0 38 rfl) ?_
      refine gw_putIK 22 rfl (gc k_Model_goesAlong_0 39 rfl) fl_Model_261 (gAt hx rfl rfl) hf rfl (fun hf => ?_)
      rw [evM_inc]
      have hf := (hI1.1.fin hf0).ev (2400 + (p + 1)) y0
      refine gw_aload_n (gc k_Model_goesAlong_1 0 rfl) rfl rfl ?_
      refine gw_iconst (gc k_Model_goesAlong_1 1 rfl) ?_
      refine gw_putZK 45 rfl (gc k_Model_goesAlong_1 2 rfl) fl_Model_458 (gAt hx rfl rfl) (by omega) hf rfl (fun hf => ?_)
      rw [evM_up _ _ _ _ (by decide) (by decide)]
      have hI2 := hI1.up (k := 45) 1 (by omega)
      obtain ⟨M2, hM2⟩ : ∃ M, M = gup (gup M0 177 44 kd) 177 45 1 := ⟨_, rfl⟩
      rw [← hM2] at hI2 ⊢
      have h244 : M2 177 44 = kd := by rw [hM2, gup_k _ _ _ _ (by decide), gup_s]
      have h245 : M2 177 45 = 1 := by rw [hM2, gup_s]
      have hf := (hI2.1.fin hf0).ev (2400 + (p + 1)) y0
      refine gw_join0 102 (fun v => v = 2) (fun v79 hv79 => ?_) (fun kj79 => ?_)
      · subst hv79
        refine gw_istore_3 (gc k_Model_goesAlong_1 14 rfl) rfl rfl ?_
        refine gw_iconst (gc k_Model_goesAlong_1 15 rfl) ?_
        refine gw_istore_4 (gc k_Model_goesAlong_1 16 rfl) rfl rfl ?_
        refine gw_iload (gc k_Model_goesAlong_1 17 rfl) rfl ?_
        refine gw_iload_n (gc k_Model_goesAlong_1 18 rfl) rfl ?_
        refine gw_icmp_ge (tgt := 173) (gc k_Model_goesAlong_1 19 rfl) rfl (by omega) (fun c109 => ?_) (fun c109 => ?_)
        · exfalso; omega
        · refine gw_iload (gc k_Model_goesAlong_1 20 rfl) rfl ?_
          refine gw_if_le (tgt := 127) (gc k_Model_goesAlong_1 21 rfl) rfl (by omega) (fun c114 => ?_) (fun c114 => ?_)
          · have hf := (hI2.1.fin hf0).ev (2400 + (p + 1)) y0
            refine gw_aload_n (gc k_Model_goesAlong_1 28 rfl) rfl rfl ?_
            refine gw_iconst (gc k_Model_goesAlong_1 29 rfl) ?_
            refine gw_putZK 24 rfl (gc k_Model_goesAlong_1 30 rfl) fl_Model_271 (gAt hx rfl rfl) (by omega) hf rfl (fun hf => ?_)
            rw [evM_br]
            have hE1 := hI2.E er ho h27 h28 ⟨hdn, hla, (by omega), (by omega)⟩
            have hfS := hI2.1.fin hf0
            have hf := hfS.ev (2400 + (p + 1)) 0
            refine gw_aload_n (gc k_Model_goesAlong_1 31 rfl) rfl rfl ?_
            refine gw_getref (gc k_Model_goesAlong_1 32 rfl) fl_Model_97 (gAt hx rfl rfl) (gRf hf rfl rfl) ?_
            refine gw_iload (gc k_Model_goesAlong_1 33 rfl) rfl ?_
            refine gw_aload_n (gc k_Model_goesAlong_1 34 rfl) rfl rfl ?_
            refine gw_iload_n (gc k_Model_goesAlong_1 35 rfl) rfl ?_
            refine gw_cV1 (gc k_Model_goesAlong_1 36 rfl) y_Model_sumOf ln_Model_288 ((ev_sumK hx hfS hE1 8 _ _ _ _ _ _ hsa (by omega)).2.2 0 0 (by omega) (by omega)) rfl rfl (gAt hx rfl rfl) rfl rfl ?_
            have hf := hfS.ev (2400 + pa) (evB 0 0 (s (owW r dn la 0 0)))
            have hbb1 := evB_01 (live := 0) (br := 0) (v := s (owW r dn la 0 0)) (by omega)
            refine gw_lastF (gc k_Model_goesAlong_1 37 rfl) (gAt hx rfl rfl) (by omega) hf rfl (fun hf => ?_)
            rw [evM_ua _ _ _ _ _ (by decide)]
            have hIs1 := hI2.sm 0 (evV 0 0 (s (owW r dn la 0 0)))
            obtain ⟨b1, hb1⟩ : ∃ b, b = evB 0 0 (s (owW r dn la 0 0)) := ⟨_, rfl⟩
            rw [← hb1] at hbb1 ⊢
            have hf := (hIs1.1.fin hf0).ev (2400 + pa) b1
            refine gw_aload_n (gc k_Model_goesAlong_1 38 rfl) rfl rfl ?_
            refine gw_join0 164 (fun v => v = if (1 : Int) = 1 ∧ b1 = 0 then 1 else 0) (fun v145 hv145 => ?_) (fun kj145 => ?_)
            · refine gw_putZK 45 rfl (gc k_Model_goesAlong_2 8 rfl) fl_Model_458 (gAt hx rfl rfl) (by omega) hf rfl (fun hf => ?_)
              rw [evM_up _ _ _ _ (by decide) (by decide)]
              obtain ⟨a1, ha1⟩ : ∃ a, a = v145 := ⟨_, rfl⟩
              rw [← ha1] at hv145 ⊢
              clear ha1
              have hI3 := hIs1.up (k := 45) a1 (by omega)
              obtain ⟨M3, hM3⟩ : ∃ M, M = gup (gup M2 199 0 (evV 0 0 (s (owW r dn la 0 0)))) 177 45 a1 := ⟨_, rfl⟩
              rw [← hM3] at hI3 ⊢
              have h345 : M3 177 45 = a1 := by rw [hM3, gup_s]
              have h344 : M3 177 44 = kd := by rw [hM3, gup_k _ _ _ _ (by decide), gup_a _ _ _ _ _ (by decide)]; exact h244
              have hs10 : ∀ y, M3 199 y = if y = 0 then evV 0 0 (s (owW r dn la 0 0)) else M2 199 y := fun y => by
                rw [hM3, gup_a _ _ _ _ _ (by decide)]
                by_cases z : y = 0
                · rw [z, gup_s, if_pos rfl]
                · rw [gup_k _ _ _ _ z, if_neg z]
              have hva1 := hv145
              have hva11 : a1 = 0 ∨ a1 = 1 := by rw [hv145]; split <;> omega
              have hf := (hI3.1.fin hf0).ev (2400 + pa) b1
              refine gw_iinc_4 (gc k_Model_goesAlong_2 9 rfl) rfl rfl ?_
              refine gw_goto (tgt := 106) (gc k_Model_goesAlong_2 10 rfl) rfl ?_
              refine gw_iload (gc k_Model_goesAlong_1 17 rfl) rfl ?_
              refine gw_iload_n (gc k_Model_goesAlong_1 18 rfl) rfl ?_
              refine gw_icmp_ge (tgt := 173) (gc k_Model_goesAlong_1 19 rfl) rfl (by omega) (fun c109 => ?_) (fun c109 => ?_)
              · exfalso; omega
              · refine gw_iload (gc k_Model_goesAlong_1 20 rfl) rfl ?_
                refine gw_if_le (tgt := 127) (gc k_Model_goesAlong_1 21 rfl) rfl (by omega) (fun c114 => ?_) (fun c114 => ?_)
                · exfalso; omega
                · refine gw_aload_n (gc k_Model_goesAlong_1 22 rfl) rfl rfl ?_
                  refine gw_dup (gc k_Model_goesAlong_1 23 rfl) rfl ?_
                  refine gw_getf 22 rfl (gc k_Model_goesAlong_1 24 rfl) fl_Model_261 (gAt hx rfl rfl) ?_
                  refine gw_iconst (gc k_Model_goesAlong_1 25 rfl) ?_
                  refine gw_iadd (gc k_Model_goesAlong_1 26 rfl) ?_
                  refine gw_putIK 22 rfl (gc k_Model_goesAlong_1 27 rfl) fl_Model_261 (gAt hx rfl rfl) hf rfl (fun hf => ?_)
                  rw [evM_inc]
                  have hf := (hI3.1.fin hf0).ev (2400 + (pa + 1)) b1
                  refine gw_aload_n (gc k_Model_goesAlong_1 28 rfl) rfl rfl ?_
                  refine gw_iconst (gc k_Model_goesAlong_1 29 rfl) ?_
                  refine gw_putZK 24 rfl (gc k_Model_goesAlong_1 30 rfl) fl_Model_271 (gAt hx rfl rfl) (by omega) hf rfl (fun hf => ?_)
                  rw [evM_br]
                  have hE2 := hI3.E er ho h27 h28 ⟨hdn, hla, (by omega), (by omega)⟩
                  have hfS := hI3.1.fin hf0
                  have hf := hfS.ev (2400 + (pa + 1)) 0
                  refine gw_aload_n (gc k_Model_goesAlong_1 31 rfl) rfl rfl ?_
                  refine gw_getref (gc k_Model_goesAlong_1 32 rfl) fl_Model_97 (gAt hx rfl rfl) (gRf hf rfl rfl) ?_
                  refine gw_iload (gc k_Model_goesAlong_1 33 rfl) rfl ?_
                  refine gw_aload_n (gc k_Model_goesAlong_1 34 rfl) rfl rfl ?_
                  refine gw_iload_n (gc k_Model_goesAlong_1 35 rfl) rfl ?_
                  refine gw_cV1 (gc k_Model_goesAlong_1 36 rfl) y_Model_sumOf ln_Model_288 ((ev_sumK hx hfS hE2 8 _ _ _ _ _ _ hsb (by omega)).2.2 0 0 (by omega) (by omega)) rfl rfl (gAt hx rfl rfl) rfl rfl ?_
                  have hf := hfS.ev (2400 + pb) (evB 0 0 (s2 (owW r dn la 0 0)))
                  have hbb2 := evB_01 (live := 0) (br := 0) (v := s2 (owW r dn la 0 0)) (by omega)
                  refine gw_lastF (gc k_Model_goesAlong_1 37 rfl) (gAt hx rfl rfl) (by omega) hf rfl (fun hf => ?_)
                  rw [evM_ua _ _ _ _ _ (by decide)]
                  have hIs2 := hI3.sm (0 + 1) (evV 0 0 (s2 (owW r dn la 0 0)))
                  obtain ⟨b2, hb2⟩ : ∃ b, b = evB 0 0 (s2 (owW r dn la 0 0)) := ⟨_, rfl⟩
                  rw [← hb2] at hbb2 ⊢
                  have hf := (hIs2.1.fin hf0).ev (2400 + pb) b2
                  refine gw_aload_n (gc k_Model_goesAlong_1 38 rfl) rfl rfl ?_
                  refine gw_join0 164 (fun v => v = if a1 = 1 ∧ b2 = 0 then 1 else 0) (fun v145 hv145 => ?_) (fun kj145 => ?_)
                  · refine gw_putZK 45 rfl (gc k_Model_goesAlong_2 8 rfl) fl_Model_458 (gAt hx rfl rfl) (by omega) hf rfl (fun hf => ?_)
                    rw [evM_up _ _ _ _ (by decide) (by decide)]
                    obtain ⟨a2, ha2⟩ : ∃ a, a = v145 := ⟨_, rfl⟩
                    rw [← ha2] at hv145 ⊢
                    clear ha2
                    have hI4 := hIs2.up (k := 45) a2 (by omega)
                    obtain ⟨M4, hM4⟩ : ∃ M, M = gup (gup M3 199 (0 + 1) (evV 0 0 (s2 (owW r dn la 0 0)))) 177 45 a2 := ⟨_, rfl⟩
                    rw [← hM4] at hI4 ⊢
                    have h445 : M4 177 45 = a2 := by rw [hM4, gup_s]
                    have h444 : M4 177 44 = kd := by rw [hM4, gup_k _ _ _ _ (by decide), gup_a _ _ _ _ _ (by decide)]; exact h344
                    have hs20 : ∀ y, M4 199 y = if y = (0 + 1) then evV 0 0 (s2 (owW r dn la 0 0)) else M3 199 y := fun y => by
                      rw [hM4, gup_a _ _ _ _ _ (by decide)]
                      by_cases z : y = (0 + 1)
                      · rw [z, gup_s, if_pos rfl]
                      · rw [gup_k _ _ _ _ z, if_neg z]
                    have hva2 := hv145
                    have hva21 : a2 = 0 ∨ a2 = 1 := by rw [hv145]; split <;> omega
                    have hf := (hI4.1.fin hf0).ev (2400 + pb) b2
                    refine gw_iinc_4 (gc k_Model_goesAlong_2 9 rfl) rfl rfl ?_
                    refine gw_goto (tgt := 106) (gc k_Model_goesAlong_2 10 rfl) rfl ?_
                    refine gw_iload (gc k_Model_goesAlong_1 17 rfl) rfl ?_
                    refine gw_iload_n (gc k_Model_goesAlong_1 18 rfl) rfl ?_
                    refine gw_icmp_ge (tgt := 173) (gc k_Model_goesAlong_1 19 rfl) rfl (by omega) (fun c109 => ?_) (fun c109 => ?_)
                    · refine gw_aload_n (gc k_Model_goesAlong_2 11 rfl) rfl rfl ?_
                      refine gw_iconst (gc k_Model_goesAlong_2 12 rfl) ?_
                      refine gw_putIK 43 rfl (gc k_Model_goesAlong_2 13 rfl) fl_Model_461 (gAt hx rfl rfl) hf rfl (fun hf => ?_)
                      rw [evM_up _ _ _ _ (by decide) (by decide)]
                      have hI5 := hI4.up (k := 43) 1 (by omega)
                      have hE5 := hI5.E er ho h27 h28 ⟨hdn, hla, (by omega), (by omega)⟩
                      have hf5 := hI5.1.fin hf0
                      refine gw_aload_n (gc k_Model_goesAlong_2 14 rfl) rfl rfl ?_
                      refine gw_bipush (gc k_Model_goesAlong_2 15 rfl) (by decide) ?_
                      refine gw_cV1 (gc k_Model_goesAlong_2 16 rfl) y_Model_passes0 ln_Model_285 (c_Model_passes0 hx hf5 hE5 pb 27 b2 (by omega) (by omega)) rfl rfl (gAt hx rfl rfl) rfl rfl ?_
                      refine gw_beq (tgt := 214) (gc k_Model_goesAlong_2 17 rfl) rfl (fun c184 => ?_) (fun c184 => ?_)
                      · rw [if_neg c184]
                        rcases hTm with ⟨z, -⟩ | ⟨-, htm, hW⟩
                        · exact absurd z c184
                        have hI6 := hI5
                        rw [← htm] at hI6
                        obtain ⟨M6, hM6⟩ : ∃ M, M = gup M4 177 43 tm := ⟨_, rfl⟩
                        rw [← hM6] at hI6
                        rw [show gup M4 177 43 1 = M6 by rw [hM6, htm]]
                        have hE6 := hI6.E er ho h27 h28 ⟨hdn, hla, (by omega), (by omega)⟩
                        have hf6 := hI6.1.fin hf0
                        have hf := hf6.ev (2400 + pb) b2
                        have h643 : M6 177 43 = tm := by rw [hM6, gup_s]
                        have h644 : M6 177 44 = kd := by rw [hM6, gup_k _ _ _ _ (by decide)]; exact h444
                        have h645 : M6 177 45 = a2 := by rw [hM6, gup_k _ _ _ _ (by decide)]; exact h445
                        refine gw_aload_n (gc k_Model_goesAlong_2 33 rfl) rfl rfl ?_
                        refine gw_iconst (gc k_Model_goesAlong_2 34 rfl) ?_
                        refine gw_putZK 24 rfl (gc k_Model_goesAlong_2 35 rfl) fl_Model_271 (gAt hx rfl rfl) (by omega) hf rfl (fun hf => ?_)
                        rw [evM_br]
                        refine gw_aload_n (gc k_Model_goesAlong_2 36 rfl) rfl rfl ?_
                        refine gw_aload_n (gc k_Model_goesAlong_2 37 rfl) rfl rfl ?_
                        refine gw_iconst (gc k_Model_goesAlong_2 38 rfl) ?_
                        refine gw_cV1 (gc k_Model_goesAlong_2 39 rfl) y_Model_passes0 ln_Model_285 (c_Model_passes0 hx hf6 hE6 pb 4 0 (by omega) (by omega)) rfl rfl (gAt hx rfl rfl) rfl rfl ?_
                        refine gw_beq (tgt := 236) (gc k_Model_goesAlong_3 0 rfl) rfl (fun c225 => ?_) (fun c225 => ?_)
                        · rw [if_neg c225]
                          rcases hW with ⟨z, -⟩ | ⟨-, hP2, -, -, ht1⟩
                          · exact absurd z c225
                          have hf := hf6.ev (2400 + pb) 0
                          refine gw_iconst (gc k_Model_goesAlong_3 5 rfl) ?_
                          refine gw_goto (tgt := 241) (gc k_Model_goesAlong_3 6 rfl) rfl ?_
                          refine gw_putZK 46 rfl (gc k_Model_goesAlong_3 8 rfl) fl_Model_464 (gAt hx rfl rfl) (by omega) hf rfl (fun hf => ?_)
                          rw [evM_up _ _ _ _ (by decide) (by decide)]
                          have hf := ((hI6.up (k := 46) 1 (by omega)).1.fin hf0).ev (2400 + pb) 0
                          refine gw_aload_n (gc k_Model_goesAlong_3 9 rfl) rfl rfl ?_
                          refine gw_aload_n (gc k_Model_goesAlong_3 10 rfl) rfl rfl ?_
                          refine gw_getf 46 rfl (gc k_Model_goesAlong_3 11 rfl) fl_Model_464 (gAt hx rfl rfl) ?_
                          rw [evM_k _ _ _ (by decide) (by decide), gup_s]
                          refine gw_if_eq (tgt := 263) (gc k_Model_goesAlong_3 12 rfl) rfl (by omega) (fun c249 => ?_) (fun c249 => ?_)
                          · exact absurd c249 (by decide)
                          · refine gw_aload_n (gc k_Model_goesAlong_3 13 rfl) rfl rfl ?_
                            refine gw_getf 24 rfl (gc k_Model_goesAlong_3 14 rfl) fl_Model_271 (gAt hx rfl rfl) ?_
                            rw [evM_24]
                            refine gw_if_ne (tgt := 263) (gc k_Model_goesAlong_3 15 rfl) rfl (by omega) (fun c256 => ?_) (fun c256 => ?_)
                            · exact absurd rfl c256
                            · refine gw_iconst (gc k_Model_goesAlong_3 16 rfl) ?_
                              refine gw_goto (tgt := 264) (gc k_Model_goesAlong_3 17 rfl) rfl ?_
                              refine gw_putZK 46 rfl (gc k_Model_goesAlong_3 19 rfl) fl_Model_464 (gAt hx rfl rfl) (by omega) hf rfl (fun hf => ?_)
                              rw [evM_up _ _ _ _ (by decide) (by decide), gup_gup]
                              have hI7 := hI6.up (k := 46) 1 (by omega)
                              have hf := (hI7.1.fin hf0).ev (2400 + pb) 0
                              refine gw_aload_n (gc k_Model_goesAlong_3 20 rfl) rfl rfl ?_
                              refine gw_dup (gc k_Model_goesAlong_3 21 rfl) rfl ?_
                              refine gw_getf 22 rfl (gc k_Model_goesAlong_3 22 rfl) fl_Model_261 (gAt hx rfl rfl) ?_
                              refine gw_iconst (gc k_Model_goesAlong_3 23 rfl) ?_
                              refine gw_iadd (gc k_Model_goesAlong_3 24 rfl) ?_
                              refine gw_putIK 22 rfl (gc k_Model_goesAlong_3 25 rfl) fl_Model_261 (gAt hx rfl rfl) hf rfl (fun hf => ?_)
                              rw [evM_inc]
                              refine gw_return (gc k_Model_goesAlong_3 26 rfl) rfl ?_
                              refine ⟨rfl, rfl, ?_, ?_, ?_, ?_, ?_, ?_, fun hz => ⟨?_, ?_, fun hz2 => ?_, ?_, ?_⟩⟩
                              · intro a k h1 h2 h3
                                by_cases z : a = 177
                                · subst z; rw [evM_k _ _ _ (by omega) (by omega)]; exact hI7.1 _ _ h1 h2 h3
                                · rw [evM_fn _ _ _ z]; exact hI7.1 _ _ h1 h2 h3
                              · rw [evM_22]; omega
                              · rw [evM_k _ _ _ (by decide) (by decide), gup_k _ _ _ _ (by decide)]; exact h643
                              · rw [evM_k _ _ _ (by decide) (by decide), gup_k _ _ _ _ (by decide)]; exact h644
                              · rw [evM_k _ _ _ (by decide) (by decide), gup_k _ _ _ _ (by decide)]; rw [h645]; omega
                              · rw [evM_k _ _ _ (by decide) (by decide), gup_s]; omega
                              · exact absurd hz (by decide)
                              · exact absurd hz (by decide)
                              · exact absurd hz (by decide)
                              · exact absurd hz (by decide)
                              · exact absurd hz (by decide)
                        · rw [if_pos c225]
                          rcases hW with ⟨-, kk, hte, hok⟩ | ⟨z, -⟩
                          rotate_left
                          · exact absurd c225 z
                          obtain ⟨yt, hy1, hy2, hyt⟩ := (ev_testK hx hf6 hE6 8 _ _ _ _ _ _ hte (by omega)).2 0 0 (by omega) (by omega)
                          refine gw_aload_n (gc k_Model_goesAlong_3 1 rfl) rfl rfl ?_
                          refine gw_iload_n (gc k_Model_goesAlong_3 2 rfl) rfl ?_
                          refine gw_cV1 (gc k_Model_goesAlong_3 3 rfl) y_Model_testOf ln_Model_318 hyt rfl rfl (gAt hx rfl rfl) rfl rfl ?_
                          have hf := hf6.ev (2400 + P2) (evB 0 0 (t (owW r dn la 0 0)))
                          have hbt := evB_01 (live := 0) (br := 0) (v := t (owW r dn la 0 0)) (by omega)
                          refine gw_if_eq (tgt := 240) (gc k_Model_goesAlong_3 4 rfl) rfl (by omega) (fun c233 => ?_) (fun c233 => ?_)
                          · refine gw_iconst (gc k_Model_goesAlong_3 7 rfl) ?_
                            refine gw_putZK 46 rfl (gc k_Model_goesAlong_3 8 rfl) fl_Model_464 (gAt hx rfl rfl) (by omega) hf rfl (fun hf => ?_)
                            rw [evM_up _ _ _ _ (by decide) (by decide)]
                            have hf := ((hI6.up (k := 46) 0 (by omega)).1.fin hf0).ev (2400 + P2) (evB 0 0 (t (owW r dn la 0 0)))
                            refine gw_aload_n (gc k_Model_goesAlong_3 9 rfl) rfl rfl ?_
                            refine gw_aload_n (gc k_Model_goesAlong_3 10 rfl) rfl rfl ?_
                            refine gw_getf 46 rfl (gc k_Model_goesAlong_3 11 rfl) fl_Model_464 (gAt hx rfl rfl) ?_
                            rw [evM_k _ _ _ (by decide) (by decide), gup_s]
                            refine gw_if_eq (tgt := 263) (gc k_Model_goesAlong_3 12 rfl) rfl (by omega) (fun c249 => ?_) (fun c249 => ?_)
                            · refine gw_iconst (gc k_Model_goesAlong_3 18 rfl) ?_
                              refine gw_putZK 46 rfl (gc k_Model_goesAlong_3 19 rfl) fl_Model_464 (gAt hx rfl rfl) (by omega) hf rfl (fun hf => ?_)
                              rw [evM_up _ _ _ _ (by decide) (by decide), gup_gup]
                              have hI7 := hI6.up (k := 46) 0 (by omega)
                              have hf := (hI7.1.fin hf0).ev (2400 + P2) (evB 0 0 (t (owW r dn la 0 0)))
                              refine gw_aload_n (gc k_Model_goesAlong_3 20 rfl) rfl rfl ?_
                              refine gw_dup (gc k_Model_goesAlong_3 21 rfl) rfl ?_
                              refine gw_getf 22 rfl (gc k_Model_goesAlong_3 22 rfl) fl_Model_261 (gAt hx rfl rfl) ?_
                              refine gw_iconst (gc k_Model_goesAlong_3 23 rfl) ?_
                              refine gw_iadd (gc k_Model_goesAlong_3 24 rfl) ?_
                              refine gw_putIK 22 rfl (gc k_Model_goesAlong_3 25 rfl) fl_Model_261 (gAt hx rfl rfl) hf rfl (fun hf => ?_)
                              rw [evM_inc]
                              refine gw_return (gc k_Model_goesAlong_3 26 rfl) rfl ?_
                              refine ⟨rfl, rfl, ?_, ?_, ?_, ?_, ?_, ?_, fun hz => ⟨?_, ?_, fun hz2 => ?_, ?_, ?_⟩⟩
                              · intro a k h1 h2 h3
                                by_cases z : a = 177
                                · subst z; rw [evM_k _ _ _ (by omega) (by omega)]; exact hI7.1 _ _ h1 h2 h3
                                · rw [evM_fn _ _ _ z]; exact hI7.1 _ _ h1 h2 h3
                              · rw [evM_22]; omega
                              · rw [evM_k _ _ _ (by decide) (by decide), gup_k _ _ _ _ (by decide)]; exact h643
                              · rw [evM_k _ _ _ (by decide) (by decide), gup_k _ _ _ _ (by decide)]; exact h644
                              · rw [evM_k _ _ _ (by decide) (by decide), gup_k _ _ _ _ (by decide)]; rw [h645]; omega
                              · rw [evM_k _ _ _ (by decide) (by decide), gup_s]; omega
                              · exact absurd hz (by decide)
                              · exact absurd hz (by decide)
                              · exact absurd hz (by decide)
                              · exact absurd hz (by decide)
                              · exact absurd hz (by decide)
                            · exact absurd rfl c249
                          · refine gw_iconst (gc k_Model_goesAlong_3 5 rfl) ?_
                            refine gw_goto (tgt := 241) (gc k_Model_goesAlong_3 6 rfl) rfl ?_
                            refine gw_putZK 46 rfl (gc k_Model_goesAlong_3 8 rfl) fl_Model_464 (gAt hx rfl rfl) (by omega) hf rfl (fun hf => ?_)
                            rw [evM_up _ _ _ _ (by decide) (by decide)]
                            have hf := ((hI6.up (k := 46) 1 (by omega)).1.fin hf0).ev (2400 + P2) (evB 0 0 (t (owW r dn la 0 0)))
                            refine gw_aload_n (gc k_Model_goesAlong_3 9 rfl) rfl rfl ?_
                            refine gw_aload_n (gc k_Model_goesAlong_3 10 rfl) rfl rfl ?_
                            refine gw_getf 46 rfl (gc k_Model_goesAlong_3 11 rfl) fl_Model_464 (gAt hx rfl rfl) ?_
                            rw [evM_k _ _ _ (by decide) (by decide), gup_s]
                            refine gw_if_eq (tgt := 263) (gc k_Model_goesAlong_3 12 rfl) rfl (by omega) (fun c249 => ?_) (fun c249 => ?_)
                            · exact absurd c249 (by decide)
                            · refine gw_aload_n (gc k_Model_goesAlong_3 13 rfl) rfl rfl ?_
                              refine gw_getf 24 rfl (gc k_Model_goesAlong_3 14 rfl) fl_Model_271 (gAt hx rfl rfl) ?_
                              rw [evM_24]
                              refine gw_if_ne (tgt := 263) (gc k_Model_goesAlong_3 15 rfl) rfl (by omega) (fun c256 => ?_) (fun c256 => ?_)
                              · refine gw_iconst (gc k_Model_goesAlong_3 18 rfl) ?_
                                refine gw_putZK 46 rfl (gc k_Model_goesAlong_3 19 rfl) fl_Model_464 (gAt hx rfl rfl) (by omega) hf rfl (fun hf => ?_)
                                rw [evM_up _ _ _ _ (by decide) (by decide), gup_gup]
                                have hI7 := hI6.up (k := 46) 0 (by omega)
                                have hf := (hI7.1.fin hf0).ev (2400 + P2) (evB 0 0 (t (owW r dn la 0 0)))
                                refine gw_aload_n (gc k_Model_goesAlong_3 20 rfl) rfl rfl ?_
                                refine gw_dup (gc k_Model_goesAlong_3 21 rfl) rfl ?_
                                refine gw_getf 22 rfl (gc k_Model_goesAlong_3 22 rfl) fl_Model_261 (gAt hx rfl rfl) ?_
                                refine gw_iconst (gc k_Model_goesAlong_3 23 rfl) ?_
                                refine gw_iadd (gc k_Model_goesAlong_3 24 rfl) ?_
                                refine gw_putIK 22 rfl (gc k_Model_goesAlong_3 25 rfl) fl_Model_261 (gAt hx rfl rfl) hf rfl (fun hf => ?_)
                                rw [evM_inc]
                                refine gw_return (gc k_Model_goesAlong_3 26 rfl) rfl ?_
                                refine ⟨rfl, rfl, ?_, ?_, ?_, ?_, ?_, ?_, fun hz => ⟨?_, ?_, fun hz2 => ?_, ?_, ?_⟩⟩
                                · intro a k h1 h2 h3
                                  by_cases z : a = 177
                                  · subst z; rw [evM_k _ _ _ (by omega) (by omega)]; exact hI7.1 _ _ h1 h2 h3
                                  · rw [evM_fn _ _ _ z]; exact hI7.1 _ _ h1 h2 h3
                                · rw [evM_22]; omega
                                · rw [evM_k _ _ _ (by decide) (by decide), gup_k _ _ _ _ (by decide)]; exact h643
                                · rw [evM_k _ _ _ (by decide) (by decide), gup_k _ _ _ _ (by decide)]; exact h644
                                · rw [evM_k _ _ _ (by decide) (by decide), gup_k _ _ _ _ (by decide)]; rw [h645]; omega
                                · rw [evM_k _ _ _ (by decide) (by decide), gup_s]; omega
                                · exact absurd hz (by decide)
                                · exact absurd hz (by decide)
                                · exact absurd hz (by decide)
                                · exact absurd hz (by decide)
                                · exact absurd hz (by decide)
                              · refine gw_iconst (gc k_Model_goesAlong_3 16 rfl) ?_
                                refine gw_goto (tgt := 264) (gc k_Model_goesAlong_3 17 rfl) rfl ?_
                                refine gw_putZK 46 rfl (gc k_Model_goesAlong_3 19 rfl) fl_Model_464 (gAt hx rfl rfl) (by omega) hf rfl (fun hf => ?_)
                                rw [evM_up _ _ _ _ (by decide) (by decide), gup_gup]
                                have hI7 := hI6.up (k := 46) 1 (by omega)
                                have hf := (hI7.1.fin hf0).ev (2400 + P2) (evB 0 0 (t (owW r dn la 0 0)))
                                refine gw_aload_n (gc k_Model_goesAlong_3 20 rfl) rfl rfl ?_
                                refine gw_dup (gc k_Model_goesAlong_3 21 rfl) rfl ?_
                                refine gw_getf 22 rfl (gc k_Model_goesAlong_3 22 rfl) fl_Model_261 (gAt hx rfl rfl) ?_
                                refine gw_iconst (gc k_Model_goesAlong_3 23 rfl) ?_
                                refine gw_iadd (gc k_Model_goesAlong_3 24 rfl) ?_
                                refine gw_putIK 22 rfl (gc k_Model_goesAlong_3 25 rfl) fl_Model_261 (gAt hx rfl rfl) hf rfl (fun hf => ?_)
                                rw [evM_inc]
                                refine gw_return (gc k_Model_goesAlong_3 26 rfl) rfl ?_
                                refine ⟨rfl, rfl, ?_, ?_, ?_, ?_, ?_, ?_, fun hz => ⟨?_, ?_, fun hz2 => ?_, ?_, ?_⟩⟩
                                · intro a k h1 h2 h3
                                  by_cases z : a = 177
                                  · subst z; rw [evM_k _ _ _ (by omega) (by omega)]; exact hI7.1 _ _ h1 h2 h3
                                  · rw [evM_fn _ _ _ z]; exact hI7.1 _ _ h1 h2 h3
                                · rw [evM_22]; omega
                                · rw [evM_k _ _ _ (by decide) (by decide), gup_k _ _ _ _ (by decide)]; exact h643
                                · rw [evM_k _ _ _ (by decide) (by decide), gup_k _ _ _ _ (by decide)]; exact h644
                                · rw [evM_k _ _ _ (by decide) (by decide), gup_k _ _ _ _ (by decide)]; rw [h645]; omega
                                · rw [evM_k _ _ _ (by decide) (by decide), gup_s]; omega
                                · exact absurd hz (by decide)
                                · exact absurd hz (by decide)
                                · exact absurd hz (by decide)
                                · exact absurd hz (by decide)
                                · exact absurd hz (by decide)
                      · rw [if_pos c184]
                        rcases hTm with ⟨-, hT50, htm, hTv, hW⟩ | ⟨z, -⟩
                        rotate_left
                        · exact absurd c184 z
                        have hf := hf5.ev (2400 + (pb + 1)) b2
                        refine gw_aload_n (gc k_Model_goesAlong_2 18 rfl) rfl rfl ?_
                        refine gw_aload_n (gc k_Model_goesAlong_2 19 rfl) rfl rfl ?_
                        refine gw_getref (gc k_Model_goesAlong_2 20 rfl) fl_Model_28 (gAt hx rfl rfl) (gRf hf rfl rfl) ?_
                        refine gw_sipush (gc k_Model_goesAlong_2 21 rfl) (by decide) ?_
                        refine gw_aload_n (gc k_Model_goesAlong_2 22 rfl) rfl rfl ?_
                        refine gw_getf 22 rfl (gc k_Model_goesAlong_2 23 rfl) fl_Model_261 (gAt hx rfl rfl) ?_
                        rw [evM_22]
                        refine gw_iadd (gc k_Model_goesAlong_2 24 rfl) ?_
                        have hlt := hE5.lt (pb + 1) (by omega) (by omega)
                        rw [hI5.2.2.1] at hlt
                        refine gw_iald (gc k_Model_goesAlong_2 25 rfl) (gAt hx rfl rfl) (by omega) ?_
                        rw [show evM (gup M4 177 43 1) (2400 + (pb + 1)) b2 179 (2852 + (2400 + (pb + 1))) = tm by
                          rw [evM_fn _ _ _ (by decide), show gup M4 177 43 1 179 = r from (funext fun k => hI5.1 179 k (by decide) (by decide) (by omega)).trans er, hTv]; exact congrArg r (by omega)]
                        refine gw_putIK 43 rfl (gc k_Model_goesAlong_2 26 rfl) fl_Model_461 (gAt hx rfl rfl) hf rfl (fun hf => ?_)
                        rw [evM_up _ _ _ _ (by decide) (by decide), gup_gup]
                        have hI6 := hI4.up (k := 43) tm (by omega)
                        have hf := (hI6.1.fin hf0).ev (2400 + (pb + 1)) b2
                        refine gw_aload_n (gc k_Model_goesAlong_2 27 rfl) rfl rfl ?_
                        refine gw_dup (gc k_Model_goesAlong_2 28 rfl) rfl ?_
                        refine gw_getf 22 rfl (gc k_Model_goesAlong_2 29 rfl) fl_Model_261 (gAt hx rfl rfl) ?_
                        refine gw_iconst (gc k_Model_goesAlong_2 30 rfl) ?_
                        refine gw_iadd (gc k_Model_goesAlong_2 31 rfl) ?_
                        refine gw_putIK 22 rfl (gc k_Model_goesAlong_2 32 rfl) fl_Model_261 (gAt hx rfl rfl) hf rfl (fun hf => ?_)
                        rw [evM_inc, show pb + 1 + 1 = pb + 2 by omega]
                        obtain ⟨M6, hM6⟩ : ∃ M, M = gup M4 177 43 tm := ⟨_, rfl⟩
                        rw [← hM6] at hI6 ⊢
                        have hE6 := hI6.E er ho h27 h28 ⟨hdn, hla, (by omega), (by omega)⟩
                        have hf6 := hI6.1.fin hf0
                        have hf := hf6.ev (2400 + (pb + 2)) b2
                        have h643 : M6 177 43 = tm := by rw [hM6, gup_s]
                        have h644 : M6 177 44 = kd := by rw [hM6, gup_k _ _ _ _ (by decide)]; exact h444
                        have h645 : M6 177 45 = a2 := by rw [hM6, gup_k _ _ _ _ (by decide)]; exact h445
                        refine gw_aload_n (gc k_Model_goesAlong_2 33 rfl) rfl rfl ?_
                        refine gw_iconst (gc k_Model_goesAlong_2 34 rfl) ?_
                        refine gw_putZK 24 rfl (gc k_Model_goesAlong_2 35 rfl) fl_Model_271 (gAt hx rfl rfl) (by omega) hf rfl (fun hf => ?_)
                        rw [evM_br]
                        refine gw_aload_n (gc k_Model_goesAlong_2 36 rfl) rfl rfl ?_
                        refine gw_aload_n (gc k_Model_goesAlong_2 37 rfl) rfl rfl ?_
                        refine gw_iconst (gc k_Model_goesAlong_2 38 rfl) ?_
                        refine gw_cV1 (gc k_Model_goesAlong_2 39 rfl) y_Model_passes0 ln_Model_285 (c_Model_passes0 hx hf6 hE6 (pb + 2) 4 0 (by omega) (by omega)) rfl rfl (gAt hx rfl rfl) rfl rfl ?_
                        refine gw_beq (tgt := 236) (gc k_Model_goesAlong_3 0 rfl) rfl (fun c225 => ?_) (fun c225 => ?_)
                        · rw [if_neg c225]
                          rcases hW with ⟨z, -⟩ | ⟨-, hP2, -, -, ht1⟩
                          · exact absurd z c225
                          have hf := hf6.ev (2400 + (pb + 2)) 0
                          refine gw_iconst (gc k_Model_goesAlong_3 5 rfl) ?_
                          refine gw_goto (tgt := 241) (gc k_Model_goesAlong_3 6 rfl) rfl ?_
                          refine gw_putZK 46 rfl (gc k_Model_goesAlong_3 8 rfl) fl_Model_464 (gAt hx rfl rfl) (by omega) hf rfl (fun hf => ?_)
                          rw [evM_up _ _ _ _ (by decide) (by decide)]
                          have hf := ((hI6.up (k := 46) 1 (by omega)).1.fin hf0).ev (2400 + (pb + 2)) 0
                          refine gw_aload_n (gc k_Model_goesAlong_3 9 rfl) rfl rfl ?_
                          refine gw_aload_n (gc k_Model_goesAlong_3 10 rfl) rfl rfl ?_
                          refine gw_getf 46 rfl (gc k_Model_goesAlong_3 11 rfl) fl_Model_464 (gAt hx rfl rfl) ?_
                          rw [evM_k _ _ _ (by decide) (by decide), gup_s]
                          refine gw_if_eq (tgt := 263) (gc k_Model_goesAlong_3 12 rfl) rfl (by omega) (fun c249 => ?_) (fun c249 => ?_)
                          · exact absurd c249 (by decide)
                          · refine gw_aload_n (gc k_Model_goesAlong_3 13 rfl) rfl rfl ?_
                            refine gw_getf 24 rfl (gc k_Model_goesAlong_3 14 rfl) fl_Model_271 (gAt hx rfl rfl) ?_
                            rw [evM_24]
                            refine gw_if_ne (tgt := 263) (gc k_Model_goesAlong_3 15 rfl) rfl (by omega) (fun c256 => ?_) (fun c256 => ?_)
                            · exact absurd rfl c256
                            · refine gw_iconst (gc k_Model_goesAlong_3 16 rfl) ?_
                              refine gw_goto (tgt := 264) (gc k_Model_goesAlong_3 17 rfl) rfl ?_
                              refine gw_putZK 46 rfl (gc k_Model_goesAlong_3 19 rfl) fl_Model_464 (gAt hx rfl rfl) (by omega) hf rfl (fun hf => ?_)
                              rw [evM_up _ _ _ _ (by decide) (by decide), gup_gup]
                              have hI7 := hI6.up (k := 46) 1 (by omega)
                              have hf := (hI7.1.fin hf0).ev (2400 + (pb + 2)) 0
                              refine gw_aload_n (gc k_Model_goesAlong_3 20 rfl) rfl rfl ?_
                              refine gw_dup (gc k_Model_goesAlong_3 21 rfl) rfl ?_
                              refine gw_getf 22 rfl (gc k_Model_goesAlong_3 22 rfl) fl_Model_261 (gAt hx rfl rfl) ?_
                              refine gw_iconst (gc k_Model_goesAlong_3 23 rfl) ?_
                              refine gw_iadd (gc k_Model_goesAlong_3 24 rfl) ?_
                              refine gw_putIK 22 rfl (gc k_Model_goesAlong_3 25 rfl) fl_Model_261 (gAt hx rfl rfl) hf rfl (fun hf => ?_)
                              rw [evM_inc]
                              refine gw_return (gc k_Model_goesAlong_3 26 rfl) rfl ?_
                              refine ⟨rfl, rfl, ?_, ?_, ?_, ?_, ?_, ?_, fun hz => ⟨?_, ?_, fun hz2 => ?_, ?_, ?_⟩⟩
                              · intro a k h1 h2 h3
                                by_cases z : a = 177
                                · subst z; rw [evM_k _ _ _ (by omega) (by omega)]; exact hI7.1 _ _ h1 h2 h3
                                · rw [evM_fn _ _ _ z]; exact hI7.1 _ _ h1 h2 h3
                              · rw [evM_22]; omega
                              · rw [evM_k _ _ _ (by decide) (by decide), gup_k _ _ _ _ (by decide)]; exact h643
                              · rw [evM_k _ _ _ (by decide) (by decide), gup_k _ _ _ _ (by decide)]; exact h644
                              · rw [evM_k _ _ _ (by decide) (by decide), gup_k _ _ _ _ (by decide)]; rw [h645]; omega
                              · rw [evM_k _ _ _ (by decide) (by decide), gup_s]; omega
                              · exact absurd hz (by decide)
                              · exact absurd hz (by decide)
                              · exact absurd hz (by decide)
                              · exact absurd hz (by decide)
                              · exact absurd hz (by decide)
                        · rw [if_pos c225]
                          rcases hW with ⟨-, kk, hte, hok⟩ | ⟨z, -⟩
                          rotate_left
                          · exact absurd c225 z
                          obtain ⟨yt, hy1, hy2, hyt⟩ := (ev_testK hx hf6 hE6 8 _ _ _ _ _ _ hte (by omega)).2 0 0 (by omega) (by omega)
                          refine gw_aload_n (gc k_Model_goesAlong_3 1 rfl) rfl rfl ?_
                          refine gw_iload_n (gc k_Model_goesAlong_3 2 rfl) rfl ?_
                          refine gw_cV1 (gc k_Model_goesAlong_3 3 rfl) y_Model_testOf ln_Model_318 hyt rfl rfl (gAt hx rfl rfl) rfl rfl ?_
                          have hf := hf6.ev (2400 + P2) (evB 0 0 (t (owW r dn la 0 0)))
                          have hbt := evB_01 (live := 0) (br := 0) (v := t (owW r dn la 0 0)) (by omega)
                          refine gw_if_eq (tgt := 240) (gc k_Model_goesAlong_3 4 rfl) rfl (by omega) (fun c233 => ?_) (fun c233 => ?_)
                          · refine gw_iconst (gc k_Model_goesAlong_3 7 rfl) ?_
                            refine gw_putZK 46 rfl (gc k_Model_goesAlong_3 8 rfl) fl_Model_464 (gAt hx rfl rfl) (by omega) hf rfl (fun hf => ?_)
                            rw [evM_up _ _ _ _ (by decide) (by decide)]
                            have hf := ((hI6.up (k := 46) 0 (by omega)).1.fin hf0).ev (2400 + P2) (evB 0 0 (t (owW r dn la 0 0)))
                            refine gw_aload_n (gc k_Model_goesAlong_3 9 rfl) rfl rfl ?_
                            refine gw_aload_n (gc k_Model_goesAlong_3 10 rfl) rfl rfl ?_
                            refine gw_getf 46 rfl (gc k_Model_goesAlong_3 11 rfl) fl_Model_464 (gAt hx rfl rfl) ?_
                            rw [evM_k _ _ _ (by decide) (by decide), gup_s]
                            refine gw_if_eq (tgt := 263) (gc k_Model_goesAlong_3 12 rfl) rfl (by omega) (fun c249 => ?_) (fun c249 => ?_)
                            · refine gw_iconst (gc k_Model_goesAlong_3 18 rfl) ?_
                              refine gw_putZK 46 rfl (gc k_Model_goesAlong_3 19 rfl) fl_Model_464 (gAt hx rfl rfl) (by omega) hf rfl (fun hf => ?_)
                              rw [evM_up _ _ _ _ (by decide) (by decide), gup_gup]
                              have hI7 := hI6.up (k := 46) 0 (by omega)
                              have hf := (hI7.1.fin hf0).ev (2400 + P2) (evB 0 0 (t (owW r dn la 0 0)))
                              refine gw_aload_n (gc k_Model_goesAlong_3 20 rfl) rfl rfl ?_
                              refine gw_dup (gc k_Model_goesAlong_3 21 rfl) rfl ?_
                              refine gw_getf 22 rfl (gc k_Model_goesAlong_3 22 rfl) fl_Model_261 (gAt hx rfl rfl) ?_
                              refine gw_iconst (gc k_Model_goesAlong_3 23 rfl) ?_
                              refine gw_iadd (gc k_Model_goesAlong_3 24 rfl) ?_
                              refine gw_putIK 22 rfl (gc k_Model_goesAlong_3 25 rfl) fl_Model_261 (gAt hx rfl rfl) hf rfl (fun hf => ?_)
                              rw [evM_inc]
                              refine gw_return (gc k_Model_goesAlong_3 26 rfl) rfl ?_
                              refine ⟨rfl, rfl, ?_, ?_, ?_, ?_, ?_, ?_, fun hz => ⟨?_, ?_, fun hz2 => ?_, ?_, ?_⟩⟩
                              · intro a k h1 h2 h3
                                by_cases z : a = 177
                                · subst z; rw [evM_k _ _ _ (by omega) (by omega)]; exact hI7.1 _ _ h1 h2 h3
                                · rw [evM_fn _ _ _ z]; exact hI7.1 _ _ h1 h2 h3
                              · rw [evM_22]; omega
                              · rw [evM_k _ _ _ (by decide) (by decide), gup_k _ _ _ _ (by decide)]; exact h643
                              · rw [evM_k _ _ _ (by decide) (by decide), gup_k _ _ _ _ (by decide)]; exact h644
                              · rw [evM_k _ _ _ (by decide) (by decide), gup_k _ _ _ _ (by decide)]; rw [h645]; omega
                              · rw [evM_k _ _ _ (by decide) (by decide), gup_s]; omega
                              · exact absurd hz (by decide)
                              · exact absurd hz (by decide)
                              · exact absurd hz (by decide)
                              · exact absurd hz (by decide)
                              · exact absurd hz (by decide)
                            · exact absurd rfl c249
                          · refine gw_iconst (gc k_Model_goesAlong_3 5 rfl) ?_
                            refine gw_goto (tgt := 241) (gc k_Model_goesAlong_3 6 rfl) rfl ?_
                            refine gw_putZK 46 rfl (gc k_Model_goesAlong_3 8 rfl) fl_Model_464 (gAt hx rfl rfl) (by omega) hf rfl (fun hf => ?_)
                            rw [evM_up _ _ _ _ (by decide) (by decide)]
                            have hf := ((hI6.up (k := 46) 1 (by omega)).1.fin hf0).ev (2400 + P2) (evB 0 0 (t (owW r dn la 0 0)))
                            refine gw_aload_n (gc k_Model_goesAlong_3 9 rfl) rfl rfl ?_
                            refine gw_aload_n (gc k_Model_goesAlong_3 10 rfl) rfl rfl ?_
                            refine gw_getf 46 rfl (gc k_Model_goesAlong_3 11 rfl) fl_Model_464 (gAt hx rfl rfl) ?_
                            rw [evM_k _ _ _ (by decide) (by decide), gup_s]
                            refine gw_if_eq (tgt := 263) (gc k_Model_goesAlong_3 12 rfl) rfl (by omega) (fun c249 => ?_) (fun c249 => ?_)
                            · exact absurd c249 (by decide)
                            · refine gw_aload_n (gc k_Model_goesAlong_3 13 rfl) rfl rfl ?_
                              refine gw_getf 24 rfl (gc k_Model_goesAlong_3 14 rfl) fl_Model_271 (gAt hx rfl rfl) ?_
                              rw [evM_24]
                              refine gw_if_ne (tgt := 263) (gc k_Model_goesAlong_3 15 rfl) rfl (by omega) (fun c256 => ?_) (fun c256 => ?_)
                              · refine gw_iconst (gc k_Model_goesAlong_3 18 rfl) ?_
                                refine gw_putZK 46 rfl (gc k_Model_goesAlong_3 19 rfl) fl_Model_464 (gAt hx rfl rfl) (by omega) hf rfl (fun hf => ?_)
                                rw [evM_up _ _ _ _ (by decide) (by decide), gup_gup]
                                have hI7 := hI6.up (k := 46) 0 (by omega)
                                have hf := (hI7.1.fin hf0).ev (2400 + P2) (evB 0 0 (t (owW r dn la 0 0)))
                                refine gw_aload_n (gc k_Model_goesAlong_3 20 rfl) rfl rfl ?_
                                refine gw_dup (gc k_Model_goesAlong_3 21 rfl) rfl ?_
                                refine gw_getf 22 rfl (gc k_Model_goesAlong_3 22 rfl) fl_Model_261 (gAt hx rfl rfl) ?_
                                refine gw_iconst (gc k_Model_goesAlong_3 23 rfl) ?_
                                refine gw_iadd (gc k_Model_goesAlong_3 24 rfl) ?_
                                refine gw_putIK 22 rfl (gc k_Model_goesAlong_3 25 rfl) fl_Model_261 (gAt hx rfl rfl) hf rfl (fun hf => ?_)
                                rw [evM_inc]
                                refine gw_return (gc k_Model_goesAlong_3 26 rfl) rfl ?_
                                refine ⟨rfl, rfl, ?_, ?_, ?_, ?_, ?_, ?_, fun hz => ⟨?_, ?_, fun hz2 => ?_, ?_, ?_⟩⟩
                                · intro a k h1 h2 h3
                                  by_cases z : a = 177
                                  · subst z; rw [evM_k _ _ _ (by omega) (by omega)]; exact hI7.1 _ _ h1 h2 h3
                                  · rw [evM_fn _ _ _ z]; exact hI7.1 _ _ h1 h2 h3
                                · rw [evM_22]; omega
                                · rw [evM_k _ _ _ (by decide) (by decide), gup_k _ _ _ _ (by decide)]; exact h643
                                · rw [evM_k _ _ _ (by decide) (by decide), gup_k _ _ _ _ (by decide)]; exact h644
                                · rw [evM_k _ _ _ (by decide) (by decide), gup_k _ _ _ _ (by decide)]; rw [h645]; omega
                                · rw [evM_k _ _ _ (by decide) (by decide), gup_s]; omega
                                · exact absurd hz (by decide)
                                · exact absurd hz (by decide)
                                · exact absurd hz (by decide)
                                · exact absurd hz (by decide)
                                · exact absurd hz (by decide)
                              · refine gw_iconst (gc k_Model_goesAlong_3 16 rfl) ?_
                                refine gw_goto (tgt := 264) (gc k_Model_goesAlong_3 17 rfl) rfl ?_
                                refine gw_putZK 46 rfl (gc k_Model_goesAlong_3 19 rfl) fl_Model_464 (gAt hx rfl rfl) (by omega) hf rfl (fun hf => ?_)
                                rw [evM_up _ _ _ _ (by decide) (by decide), gup_gup]
                                have hI7 := hI6.up (k := 46) 1 (by omega)
                                have hf := (hI7.1.fin hf0).ev (2400 + P2) (evB 0 0 (t (owW r dn la 0 0)))
                                refine gw_aload_n (gc k_Model_goesAlong_3 20 rfl) rfl rfl ?_
                                refine gw_dup (gc k_Model_goesAlong_3 21 rfl) rfl ?_
                                refine gw_getf 22 rfl (gc k_Model_goesAlong_3 22 rfl) fl_Model_261 (gAt hx rfl rfl) ?_
                                refine gw_iconst (gc k_Model_goesAlong_3 23 rfl) ?_
                                refine gw_iadd (gc k_Model_goesAlong_3 24 rfl) ?_
                                refine gw_putIK 22 rfl (gc k_Model_goesAlong_3 25 rfl) fl_Model_261 (gAt hx rfl rfl) hf rfl (fun hf => ?_)
                                rw [evM_inc]
                                refine gw_return (gc k_Model_goesAlong_3 26 rfl) rfl ?_
                                refine ⟨rfl, rfl, ?_, ?_, ?_, ?_, ?_, ?_, fun hz => ⟨?_, ?_, fun hz2 => ?_, ?_, ?_⟩⟩
                                · intro a k h1 h2 h3
                                  by_cases z : a = 177
                                  · subst z; rw [evM_k _ _ _ (by omega) (by omega)]; exact hI7.1 _ _ h1 h2 h3
                                  · rw [evM_fn _ _ _ z]; exact hI7.1 _ _ h1 h2 h3
                                · rw [evM_22]; omega
                                · rw [evM_k _ _ _ (by decide) (by decide), gup_k _ _ _ _ (by decide)]; exact h643
                                · rw [evM_k _ _ _ (by decide) (by decide), gup_k _ _ _ _ (by decide)]; exact h644
                                · rw [evM_k _ _ _ (by decide) (by decide), gup_k _ _ _ _ (by decide)]; rw [h645]; omega
                                · rw [evM_k _ _ _ (by decide) (by decide), gup_s]; omega
                                · exact absurd hz (by decide)
                                · exact absurd hz (by decide)
                                · exact absurd hz (by decide)
                                · exact absurd hz (by decide)
                                · exact absurd hz (by decide)
                    · exfalso; omega
                  · refine gw_aload_n (gc k_Model_goesAlong_1 39 rfl) rfl rfl ?_
                    refine gw_getf 45 rfl (gc k_Model_goesAlong_2 0 rfl) fl_Model_458 (gAt hx rfl rfl) ?_
                    rw [evM_k _ _ _ (by decide) (by decide), gup_a _ _ _ _ _ (by decide), h345]
                    refine gw_if_eq (tgt := 163) (gc k_Model_goesAlong_2 1 rfl) rfl (by omega) (fun c149 => ?_) (fun c149 => ?_)
                    · refine gw_iconst (gc k_Model_goesAlong_2 7 rfl) ?_
                      exact kj145 _ (by first | (exfalso; omega) | rw [if_pos (by omega)] | rw [if_neg (by omega)])
                    · refine gw_aload_n (gc k_Model_goesAlong_2 2 rfl) rfl rfl ?_
                      refine gw_getf 24 rfl (gc k_Model_goesAlong_2 3 rfl) fl_Model_271 (gAt hx rfl rfl) ?_
                      rw [evM_24]
                      refine gw_if_ne (tgt := 163) (gc k_Model_goesAlong_2 4 rfl) rfl (by omega) (fun c156 => ?_) (fun c156 => ?_)
                      · refine gw_iconst (gc k_Model_goesAlong_2 7 rfl) ?_
                        exact kj145 _ (by first | (exfalso; omega) | rw [if_pos (by omega)] | rw [if_neg (by omega)])
                      · refine gw_iconst (gc k_Model_goesAlong_2 5 rfl) ?_
                        refine gw_goto (tgt := 164) (gc k_Model_goesAlong_2 6 rfl) rfl ?_
                        exact kj145 _ (by first | (exfalso; omega) | rw [if_pos (by omega)] | rw [if_neg (by omega)])
            · refine gw_aload_n (gc k_Model_goesAlong_1 39 rfl) rfl rfl ?_
              refine gw_getf 45 rfl (gc k_Model_goesAlong_2 0 rfl) fl_Model_458 (gAt hx rfl rfl) ?_
              rw [evM_k _ _ _ (by decide) (by decide), gup_a _ _ _ _ _ (by decide), h245]
              refine gw_if_eq (tgt := 163) (gc k_Model_goesAlong_2 1 rfl) rfl (by omega) (fun c149 => ?_) (fun c149 => ?_)
              · refine gw_iconst (gc k_Model_goesAlong_2 7 rfl) ?_
                exact kj145 _ (by first | (exfalso; omega) | rw [if_pos (by omega)] | rw [if_neg (by omega)])
              · refine gw_aload_n (gc k_Model_goesAlong_2 2 rfl) rfl rfl ?_
                refine gw_getf 24 rfl (gc k_Model_goesAlong_2 3 rfl) fl_Model_271 (gAt hx rfl rfl) ?_
                rw [evM_24]
                refine gw_if_ne (tgt := 163) (gc k_Model_goesAlong_2 4 rfl) rfl (by omega) (fun c156 => ?_) (fun c156 => ?_)
                · refine gw_iconst (gc k_Model_goesAlong_2 7 rfl) ?_
                  exact kj145 _ (by first | (exfalso; omega) | rw [if_pos (by omega)] | rw [if_neg (by omega)])
                · refine gw_iconst (gc k_Model_goesAlong_2 5 rfl) ?_
                  refine gw_goto (tgt := 164) (gc k_Model_goesAlong_2 6 rfl) rfl ?_
                  exact kj145 _ (by first | (exfalso; omega) | rw [if_pos (by omega)] | rw [if_neg (by omega)])
          · exfalso; omega
      · refine gw_aload_n (gc k_Model_goesAlong_1 3 rfl) rfl rfl ?_
        refine gw_getf 44 rfl (gc k_Model_goesAlong_1 4 rfl) fl_Model_455 (gAt hx rfl rfl) ?_
        rw [evM_k _ _ _ (by decide) (by decide), h244]
        refine gw_bipush (gc k_Model_goesAlong_1 5 rfl) (by decide) ?_
        refine gw_icmp_eq (tgt := 97) (gc k_Model_goesAlong_1 6 rfl) rfl (by omega) (fun c85 => ?_) (fun c85 => ?_)
        · refine gw_iconst (gc k_Model_goesAlong_1 11 rfl) ?_
          refine gw_goto (tgt := 102) (gc k_Model_goesAlong_1 12 rfl) rfl ?_
          exact kj79 _ (by first | rfl | (exfalso; omega))
        · refine gw_aload_n (gc k_Model_goesAlong_1 7 rfl) rfl rfl ?_
          refine gw_getf 44 rfl (gc k_Model_goesAlong_1 8 rfl) fl_Model_455 (gAt hx rfl rfl) ?_
          rw [evM_k _ _ _ (by decide) (by decide), h244]
          refine gw_bipush (gc k_Model_goesAlong_1 9 rfl) (by decide) ?_
          refine gw_icmp_ne (tgt := 101) (gc k_Model_goesAlong_1 10 rfl) rfl (by omega) (fun c94 => ?_) (fun c94 => ?_)
          · refine gw_iconst (gc k_Model_goesAlong_1 13 rfl) ?_
            exact kj79 _ (by first | rfl | (exfalso; omega))
          · refine gw_iconst (gc k_Model_goesAlong_1 11 rfl) ?_
            refine gw_goto (tgt := 102) (gc k_Model_goesAlong_1 12 rfl) rfl ?_
            exact kj79 _ (by first | rfl | (exfalso; omega))
    · exact absurd rfl c19
  · exact absurd rfl c2
set_option maxHeartbeats 8000000 in
theorem c_along00 {sh : gS} {g : gM} (hx : gFix sh) (hf : gFin g) {r : Int → Int} (er : g 179 = r) (ho : rowOK r) (hl : lawsOK r) {dn la : Int} (h27 : g 177 27 = dn) (h28 : g 177 28 = la) (hdn : 0 ≤ dn ∧ dn ≤ 1000) (hla : -1 ≤ la ∧ la ≤ 12) {p n : Int} (hp : 0 ≤ p ∧ p ≤ 400) (h42 : g 177 42 = 2400 + p) {P2 N2 kd : Int} {c : PK} {s : PS} {c2 : PK} {s2 : PS} {tm : Int} {ok : Option PK} {t : PS} (e : pOrder (rT r 6) (rV r 6) (pSum (rT r 6) (rV r 6) true 8) (pTest (rT r 6) (rV r 6) true 8) p n = .inr (P2, N2, kd, c, s, c2, s2, tm, ok, t)) (hkd : ¬ (kd = 22 ∨ kd = 23)) : gTri f_Model_goesAlong 45 0 0 [(2, 177), (0, 2400 + r 51), (0, 0)] sh g (fun x s2_ g2 => x = none ∧ s2_ = sh ∧ gaQ g 2400 0 kd tm s s2 t (owW r dn la 0 0) P2 g2) := by
  have hm := ro_many ho
  have hf0 := hf
  have hs51 := ro_size ho 51 (by omega)
  obtain ⟨hTp, hpv⟩ := pOr_inv e
  have hTm : otT (rT r 6) (rV r 6) (pTest (rT r 6) (rV r 6) true 8) P2 N2 tm ok t (p + 1) n := by
    rcases hpv with ⟨q, -⟩ | ⟨-, -, -, q⟩
    · omega
    · exact q
  have hk2 : kd = 24 ∨ kd = 25 := by
    rcases hpv with ⟨q, -⟩ | ⟨q, -⟩
    · omega
    · exact q
  have hs0 : s = fun _ => some 0 := by
    rcases hpv with ⟨q, -⟩ | ⟨-, q, -, -⟩
    · omega
    · exact q.2
  have hs20 : s2 = fun _ => some 0 := by
    rcases hpv with ⟨q, -⟩ | ⟨-, -, q, -⟩
    · omega
    · exact q.2
  clear hpv
  have hok6 := rT_ok r hs51
  have hpl := hok6 p (by omega)
  refine gTri.of (by decide +kernel) rfl ?_
  show gWP f_Model_goesAlong _ _ _ 0 [(2, 177), (0, 2400 + r 51), (0, 0), (9, 0), (9, 0)] [] sh g _
  refine gw_aload_n (gc k_Model_goesAlong_0 0 rfl) rfl rfl ?_
  refine gw_iload_n (gc k_Model_goesAlong_0 1 rfl) rfl ?_
  refine gw_if_eq (tgt := 13) (gc k_Model_goesAlong_0 2 rfl) rfl (by omega) (fun c2 => ?_) (fun c2 => ?_)
  · refine gw_iconst (gc k_Model_goesAlong_0 7 rfl) ?_
    refine gw_putIK 29 rfl (gc k_Model_goesAlong_0 8 rfl) fl_Model_303 (gAt hx rfl rfl) hf rfl (fun hf => ?_)
    refine gw_aload_n (gc k_Model_goesAlong_0 9 rfl) rfl rfl ?_
    refine gw_iload_n (gc k_Model_goesAlong_0 10 rfl) rfl ?_
    refine gw_if_eq (tgt := 30) (gc k_Model_goesAlong_0 11 rfl) rfl (by omega) (fun c19 => ?_) (fun c19 => ?_)
    · refine gw_iconst (gc k_Model_goesAlong_0 16 rfl) ?_
      refine gw_putIK 30 rfl (gc k_Model_goesAlong_0 17 rfl) fl_Model_306 (gAt hx rfl rfl) hf rfl (fun hf => ?_)
      refine gw_aload_n (gc k_Model_goesAlong_0 18 rfl) rfl rfl ?_
      refine gw_iconst (gc k_Model_goesAlong_0 19 rfl) ?_
      refine gw_putZK 25 rfl (gc k_Model_goesAlong_0 20 rfl) fl_Model_291 (gAt hx rfl rfl) (by omega) hf rfl (fun hf => ?_)
      refine gw_aload_n (gc k_Model_goesAlong_0 21 rfl) rfl rfl ?_
      refine gw_iload_n (gc k_Model_goesAlong_0 22 rfl) rfl ?_
      refine gw_putIK 23 rfl (gc k_Model_goesAlong_0 23 rfl) fl_Model_258 (gAt hx rfl rfl) hf rfl (fun hf => ?_)
      have hI0 : gaI g (2400 + r 51) 0 0 (gup (gup (gup (gup g 177 29 0) 177 30 0) 177 25 1) 177 23 (2400 + r 51)) := by
        refine ⟨fun a k h1 h2 h3 => ?_, gup_k _ _ _ _ (by decide) |>.trans (gup_s _ _ _ _), gup_s _ _ _ _, ?_, ?_⟩
        · by_cases z : a = 177
          · subst z
            rw [gup_k _ _ _ _ (by omega), gup_k _ _ _ _ (by omega), gup_k _ _ _ _ (by omega), gup_k _ _ _ _ (by omega)]
          · rw [gup_a _ _ _ _ _ z, gup_a _ _ _ _ _ z, gup_a _ _ _ _ _ z, gup_a _ _ _ _ _ z]
        · rw [gup_k _ _ _ _ (by decide), gup_k _ _ _ _ (by decide), gup_k _ _ _ _ (by decide), gup_s]
        · rw [gup_k _ _ _ _ (by decide), gup_k _ _ _ _ (by decide), gup_s]
      obtain ⟨M0, hM0⟩ : ∃ M, M = (gup (gup (gup (gup g 177 29 0) 177 30 0) 177 25 1) 177 23 (2400 + r 51)) := ⟨_, rfl⟩
      rw [← hM0] at hI0 ⊢
      have hfM : gFin M0 := hI0.1.fin hf0
      have hf := hfM
      have E0 := hI0.E er ho h27 h28 ⟨hdn, hla, (by omega), (by omega)⟩
      refine gw_aload_n (gc k_Model_goesAlong_0 24 rfl) rfl rfl ?_
      refine gw_aload_n (gc k_Model_goesAlong_0 25 rfl) rfl rfl ?_
      refine gw_getf 42 rfl (gc k_Model_goesAlong_0 26 rfl) fl_Model_446 (gAt hx rfl rfl) ?_
      rw [hI0.1 177 42 (by decide) (by decide) (by omega), h42]
      refine gw_putIK 22 rfl (gc k_Model_goesAlong_0 27 rfl) fl_Model_261 (gAt hx rfl rfl) hf rfl (fun hf => ?_)
      rw [evM_of]
      obtain ⟨y0, hy0⟩ : ∃ y, y = M0 177 24 := ⟨_, rfl⟩
      rw [← hy0]
      have hf := hfM.ev (2400 + p) y0
      refine gw_aload_n (gc k_Model_goesAlong_0 28 rfl) rfl rfl ?_
      refine gw_aload_n (gc k_Model_goesAlong_0 29 rfl) rfl rfl ?_
      refine gw_aload_n (gc k_Model_goesAlong_0 30 rfl) rfl rfl ?_
      refine gw_getf 22 rfl (gc k_Model_goesAlong_0 31 rfl) fl_Model_261 (gAt hx rfl rfl) ?_
      rw [evM_22]
      refine gw_cV1 (gc k_Model_goesAlong_0 32 rfl) y_Model_codeAt ln_Model_264 (c_codeAt hx hfM E0 p _ _ (by omega)) rfl rfl (gAt hx rfl rfl) rfl rfl ?_
      rw [hTp]
      refine gw_putIK 44 rfl (gc k_Model_goesAlong_0 33 rfl) fl_Model_455 (gAt hx rfl rfl) hf rfl (fun hf => ?_)
      rw [evM_up _ _ _ _ (by decide) (by decide)]
      have hI1 := hI0.up (k := 44) kd (by omega)
      have hf := (hI1.1.fin hf0).ev (2400 + p) y0
      refine gw_aload_n (gc k_Model_goesAlong_0 34 rfl) rfl rfl ?_
      refine gw_dup (gc k_Model_goesAlong_0 35 rfl) rfl ?_
      refine gw_getf 22 rfl (gc k_Model_goesAlong_0 36 rfl) fl_Model_261 (gAt hx rfl rfl) ?_
      refine gw_iconst (gc k_Model_goesAlong_0 37 rfl) ?_
      refine gw_iadd (gc k_Model_goesAlong_0 38 rfl) ?_
      refine gw_putIK 22 rfl (gc k_Model_goesAlong_0 39 rfl) fl_Model_261 (gAt hx rfl rfl) hf rfl (fun hf => ?_)
      rw [evM_inc]
      have hf := (hI1.1.fin hf0).ev (2400 + (p + 1)) y0
      refine gw_aload_n (gc k_Model_goesAlong_1 0 rfl) rfl rfl ?_
      refine gw_iconst (gc k_Model_goesAlong_1 1 rfl) ?_
      refine gw_putZK 45 rfl (gc k_Model_goesAlong_1 2 rfl) fl_Model_458 (gAt hx rfl rfl) (by omega) hf rfl (fun hf => ?_)
      rw [evM_up _ _ _ _ (by decide) (by decide)]
      have hI2 := hI1.up (k := 45) 1 (by omega)
      obtain ⟨M2, hM2⟩ : ∃ M, M = gup (gup M0 177 44 kd) 177 45 1 := ⟨_, rfl⟩
      rw [← hM2] at hI2 ⊢
      have h244 : M2 177 44 = kd := by rw [hM2, gup_k _ _ _ _ (by decide), gup_s]
      have h245 : M2 177 45 = 1 := by rw [hM2, gup_s]
      have hf := (hI2.1.fin hf0).ev (2400 + (p + 1)) y0
      refine gw_join0 102 (fun v => v = 0) (fun v79 hv79 => ?_) (fun kj79 => ?_)
      · subst hv79
        refine gw_istore_3 (gc k_Model_goesAlong_1 14 rfl) rfl rfl ?_
        refine gw_iconst (gc k_Model_goesAlong_1 15 rfl) ?_
        refine gw_istore_4 (gc k_Model_goesAlong_1 16 rfl) rfl rfl ?_
        refine gw_iload (gc k_Model_goesAlong_1 17 rfl) rfl ?_
        refine gw_iload_n (gc k_Model_goesAlong_1 18 rfl) rfl ?_
        refine gw_icmp_ge (tgt := 173) (gc k_Model_goesAlong_1 19 rfl) rfl (by omega) (fun c109 => ?_) (fun c109 => ?_)
        · refine gw_aload_n (gc k_Model_goesAlong_2 11 rfl) rfl rfl ?_
          refine gw_iconst (gc k_Model_goesAlong_2 12 rfl) ?_
          refine gw_putIK 43 rfl (gc k_Model_goesAlong_2 13 rfl) fl_Model_461 (gAt hx rfl rfl) hf rfl (fun hf => ?_)
          rw [evM_up _ _ _ _ (by decide) (by decide)]
          have hI5 := hI2.up (k := 43) 1 (by omega)
          have hE5 := hI5.E er ho h27 h28 ⟨hdn, hla, (by omega), (by omega)⟩
          have hf5 := hI5.1.fin hf0
          refine gw_aload_n (gc k_Model_goesAlong_2 14 rfl) rfl rfl ?_
          refine gw_bipush (gc k_Model_goesAlong_2 15 rfl) (by decide) ?_
          refine gw_cV1 (gc k_Model_goesAlong_2 16 rfl) y_Model_passes0 ln_Model_285 (c_Model_passes0 hx hf5 hE5 (p + 1) 27 y0 (by omega) (by omega)) rfl rfl (gAt hx rfl rfl) rfl rfl ?_
          refine gw_beq (tgt := 214) (gc k_Model_goesAlong_2 17 rfl) rfl (fun c184 => ?_) (fun c184 => ?_)
          · rw [if_neg c184]
            rcases hTm with ⟨z, -⟩ | ⟨-, htm, hW⟩
            · exact absurd z c184
            have hI6 := hI5
            rw [← htm] at hI6
            obtain ⟨M6, hM6⟩ : ∃ M, M = gup M2 177 43 tm := ⟨_, rfl⟩
            rw [← hM6] at hI6
            rw [show gup M2 177 43 1 = M6 by rw [hM6, htm]]
            have hE6 := hI6.E er ho h27 h28 ⟨hdn, hla, (by omega), (by omega)⟩
            have hf6 := hI6.1.fin hf0
            have hf := hf6.ev (2400 + (p + 1)) y0
            have h643 : M6 177 43 = tm := by rw [hM6, gup_s]
            have h644 : M6 177 44 = kd := by rw [hM6, gup_k _ _ _ _ (by decide)]; exact h244
            have h645 : M6 177 45 = 1 := by rw [hM6, gup_k _ _ _ _ (by decide)]; exact h245
            refine gw_aload_n (gc k_Model_goesAlong_2 33 rfl) rfl rfl ?_
            refine gw_iconst (gc k_Model_goesAlong_2 34 rfl) ?_
            refine gw_putZK 24 rfl (gc k_Model_goesAlong_2 35 rfl) fl_Model_271 (gAt hx rfl rfl) (by omega) hf rfl (fun hf => ?_)
            rw [evM_br]
            refine gw_aload_n (gc k_Model_goesAlong_2 36 rfl) rfl rfl ?_
            refine gw_aload_n (gc k_Model_goesAlong_2 37 rfl) rfl rfl ?_
            refine gw_iconst (gc k_Model_goesAlong_2 38 rfl) ?_
            refine gw_cV1 (gc k_Model_goesAlong_2 39 rfl) y_Model_passes0 ln_Model_285 (c_Model_passes0 hx hf6 hE6 (p + 1) 4 0 (by omega) (by omega)) rfl rfl (gAt hx rfl rfl) rfl rfl ?_
            refine gw_beq (tgt := 236) (gc k_Model_goesAlong_3 0 rfl) rfl (fun c225 => ?_) (fun c225 => ?_)
            · rw [if_neg c225]
              rcases hW with ⟨z, -⟩ | ⟨-, hP2, -, -, ht1⟩
              · exact absurd z c225
              have hf := hf6.ev (2400 + (p + 1)) 0
              refine gw_iconst (gc k_Model_goesAlong_3 5 rfl) ?_
              refine gw_goto (tgt := 241) (gc k_Model_goesAlong_3 6 rfl) rfl ?_
              refine gw_putZK 46 rfl (gc k_Model_goesAlong_3 8 rfl) fl_Model_464 (gAt hx rfl rfl) (by omega) hf rfl (fun hf => ?_)
              rw [evM_up _ _ _ _ (by decide) (by decide)]
              have hf := ((hI6.up (k := 46) 1 (by omega)).1.fin hf0).ev (2400 + (p + 1)) 0
              refine gw_aload_n (gc k_Model_goesAlong_3 9 rfl) rfl rfl ?_
              refine gw_aload_n (gc k_Model_goesAlong_3 10 rfl) rfl rfl ?_
              refine gw_getf 46 rfl (gc k_Model_goesAlong_3 11 rfl) fl_Model_464 (gAt hx rfl rfl) ?_
              rw [evM_k _ _ _ (by decide) (by decide), gup_s]
              refine gw_if_eq (tgt := 263) (gc k_Model_goesAlong_3 12 rfl) rfl (by omega) (fun c249 => ?_) (fun c249 => ?_)
              · exact absurd c249 (by decide)
              · refine gw_aload_n (gc k_Model_goesAlong_3 13 rfl) rfl rfl ?_
                refine gw_getf 24 rfl (gc k_Model_goesAlong_3 14 rfl) fl_Model_271 (gAt hx rfl rfl) ?_
                rw [evM_24]
                refine gw_if_ne (tgt := 263) (gc k_Model_goesAlong_3 15 rfl) rfl (by omega) (fun c256 => ?_) (fun c256 => ?_)
                · exact absurd rfl c256
                · refine gw_iconst (gc k_Model_goesAlong_3 16 rfl) ?_
                  refine gw_goto (tgt := 264) (gc k_Model_goesAlong_3 17 rfl) rfl ?_
                  refine gw_putZK 46 rfl (gc k_Model_goesAlong_3 19 rfl) fl_Model_464 (gAt hx rfl rfl) (by omega) hf rfl (fun hf => ?_)
                  rw [evM_up _ _ _ _ (by decide) (by decide), gup_gup]
                  have hI7 := hI6.up (k := 46) 1 (by omega)
                  have hf := (hI7.1.fin hf0).ev (2400 + (p + 1)) 0
                  refine gw_aload_n (gc k_Model_goesAlong_3 20 rfl) rfl rfl ?_
                  refine gw_dup (gc k_Model_goesAlong_3 21 rfl) rfl ?_
                  refine gw_getf 22 rfl (gc k_Model_goesAlong_3 22 rfl) fl_Model_261 (gAt hx rfl rfl) ?_
                  refine gw_iconst (gc k_Model_goesAlong_3 23 rfl) ?_
                  refine gw_iadd (gc k_Model_goesAlong_3 24 rfl) ?_
                  refine gw_putIK 22 rfl (gc k_Model_goesAlong_3 25 rfl) fl_Model_261 (gAt hx rfl rfl) hf rfl (fun hf => ?_)
                  rw [evM_inc]
                  refine gw_return (gc k_Model_goesAlong_3 26 rfl) rfl ?_
                  refine ⟨rfl, rfl, ?_, ?_, ?_, ?_, ?_, ?_, fun hz => ⟨?_, ?_, fun hz2 => ?_, ?_, ?_⟩⟩
                  · intro a k h1 h2 h3
                    by_cases z : a = 177
                    · subst z; rw [evM_k _ _ _ (by omega) (by omega)]; exact hI7.1 _ _ h1 h2 h3
                    · rw [evM_fn _ _ _ z]; exact hI7.1 _ _ h1 h2 h3
                  · rw [evM_22]; omega
                  · rw [evM_k _ _ _ (by decide) (by decide), gup_k _ _ _ _ (by decide)]; exact h643
                  · rw [evM_k _ _ _ (by decide) (by decide), gup_k _ _ _ _ (by decide)]; exact h644
                  · rw [evM_k _ _ _ (by decide) (by decide), gup_k _ _ _ _ (by decide)]; rw [h645]; omega
                  · rw [evM_k _ _ _ (by decide) (by decide), gup_s]; omega
                  · exact absurd hz (by decide)
                  · exact absurd hz (by decide)
                  · exfalso; omega
                  · exact absurd hz (by decide)
                  · exact absurd hz (by decide)
            · rw [if_pos c225]
              rcases hW with ⟨-, kk, hte, hok⟩ | ⟨z, -⟩
              rotate_left
              · exact absurd c225 z
              obtain ⟨yt, hy1, hy2, hyt⟩ := (ev_testK hx hf6 hE6 8 _ _ _ _ _ _ hte (by omega)).2 0 0 (by omega) (by omega)
              refine gw_aload_n (gc k_Model_goesAlong_3 1 rfl) rfl rfl ?_
              refine gw_iload_n (gc k_Model_goesAlong_3 2 rfl) rfl ?_
              refine gw_cV1 (gc k_Model_goesAlong_3 3 rfl) y_Model_testOf ln_Model_318 hyt rfl rfl (gAt hx rfl rfl) rfl rfl ?_
              have hf := hf6.ev (2400 + P2) (evB 0 0 (t (owW r dn la 0 0)))
              have hbt := evB_01 (live := 0) (br := 0) (v := t (owW r dn la 0 0)) (by omega)
              refine gw_if_eq (tgt := 240) (gc k_Model_goesAlong_3 4 rfl) rfl (by omega) (fun c233 => ?_) (fun c233 => ?_)
              · refine gw_iconst (gc k_Model_goesAlong_3 7 rfl) ?_
                refine gw_putZK 46 rfl (gc k_Model_goesAlong_3 8 rfl) fl_Model_464 (gAt hx rfl rfl) (by omega) hf rfl (fun hf => ?_)
                rw [evM_up _ _ _ _ (by decide) (by decide)]
                have hf := ((hI6.up (k := 46) 0 (by omega)).1.fin hf0).ev (2400 + P2) (evB 0 0 (t (owW r dn la 0 0)))
                refine gw_aload_n (gc k_Model_goesAlong_3 9 rfl) rfl rfl ?_
                refine gw_aload_n (gc k_Model_goesAlong_3 10 rfl) rfl rfl ?_
                refine gw_getf 46 rfl (gc k_Model_goesAlong_3 11 rfl) fl_Model_464 (gAt hx rfl rfl) ?_
                rw [evM_k _ _ _ (by decide) (by decide), gup_s]
                refine gw_if_eq (tgt := 263) (gc k_Model_goesAlong_3 12 rfl) rfl (by omega) (fun c249 => ?_) (fun c249 => ?_)
                · refine gw_iconst (gc k_Model_goesAlong_3 18 rfl) ?_
                  refine gw_putZK 46 rfl (gc k_Model_goesAlong_3 19 rfl) fl_Model_464 (gAt hx rfl rfl) (by omega) hf rfl (fun hf => ?_)
                  rw [evM_up _ _ _ _ (by decide) (by decide), gup_gup]
                  have hI7 := hI6.up (k := 46) 0 (by omega)
                  have hf := (hI7.1.fin hf0).ev (2400 + P2) (evB 0 0 (t (owW r dn la 0 0)))
                  refine gw_aload_n (gc k_Model_goesAlong_3 20 rfl) rfl rfl ?_
                  refine gw_dup (gc k_Model_goesAlong_3 21 rfl) rfl ?_
                  refine gw_getf 22 rfl (gc k_Model_goesAlong_3 22 rfl) fl_Model_261 (gAt hx rfl rfl) ?_
                  refine gw_iconst (gc k_Model_goesAlong_3 23 rfl) ?_
                  refine gw_iadd (gc k_Model_goesAlong_3 24 rfl) ?_
                  refine gw_putIK 22 rfl (gc k_Model_goesAlong_3 25 rfl) fl_Model_261 (gAt hx rfl rfl) hf rfl (fun hf => ?_)
                  rw [evM_inc]
                  refine gw_return (gc k_Model_goesAlong_3 26 rfl) rfl ?_
                  refine ⟨rfl, rfl, ?_, ?_, ?_, ?_, ?_, ?_, fun hz => ⟨?_, ?_, fun hz2 => ?_, ?_, ?_⟩⟩
                  · intro a k h1 h2 h3
                    by_cases z : a = 177
                    · subst z; rw [evM_k _ _ _ (by omega) (by omega)]; exact hI7.1 _ _ h1 h2 h3
                    · rw [evM_fn _ _ _ z]; exact hI7.1 _ _ h1 h2 h3
                  · rw [evM_22]; omega
                  · rw [evM_k _ _ _ (by decide) (by decide), gup_k _ _ _ _ (by decide)]; exact h643
                  · rw [evM_k _ _ _ (by decide) (by decide), gup_k _ _ _ _ (by decide)]; exact h644
                  · rw [evM_k _ _ _ (by decide) (by decide), gup_k _ _ _ _ (by decide)]; rw [h645]; omega
                  · rw [evM_k _ _ _ (by decide) (by decide), gup_s]; omega
                  · exact absurd hz (by decide)
                  · exact absurd hz (by decide)
                  · exfalso; omega
                  · exact absurd hz (by decide)
                  · exact absurd hz (by decide)
                · exact absurd rfl c249
              · refine gw_iconst (gc k_Model_goesAlong_3 5 rfl) ?_
                refine gw_goto (tgt := 241) (gc k_Model_goesAlong_3 6 rfl) rfl ?_
                refine gw_putZK 46 rfl (gc k_Model_goesAlong_3 8 rfl) fl_Model_464 (gAt hx rfl rfl) (by omega) hf rfl (fun hf => ?_)
                rw [evM_up _ _ _ _ (by decide) (by decide)]
                have hf := ((hI6.up (k := 46) 1 (by omega)).1.fin hf0).ev (2400 + P2) (evB 0 0 (t (owW r dn la 0 0)))
                refine gw_aload_n (gc k_Model_goesAlong_3 9 rfl) rfl rfl ?_
                refine gw_aload_n (gc k_Model_goesAlong_3 10 rfl) rfl rfl ?_
                refine gw_getf 46 rfl (gc k_Model_goesAlong_3 11 rfl) fl_Model_464 (gAt hx rfl rfl) ?_
                rw [evM_k _ _ _ (by decide) (by decide), gup_s]
                refine gw_if_eq (tgt := 263) (gc k_Model_goesAlong_3 12 rfl) rfl (by omega) (fun c249 => ?_) (fun c249 => ?_)
                · exact absurd c249 (by decide)
                · refine gw_aload_n (gc k_Model_goesAlong_3 13 rfl) rfl rfl ?_
                  refine gw_getf 24 rfl (gc k_Model_goesAlong_3 14 rfl) fl_Model_271 (gAt hx rfl rfl) ?_
                  rw [evM_24]
                  refine gw_if_ne (tgt := 263) (gc k_Model_goesAlong_3 15 rfl) rfl (by omega) (fun c256 => ?_) (fun c256 => ?_)
                  · refine gw_iconst (gc k_Model_goesAlong_3 18 rfl) ?_
                    refine gw_putZK 46 rfl (gc k_Model_goesAlong_3 19 rfl) fl_Model_464 (gAt hx rfl rfl) (by omega) hf rfl (fun hf => ?_)
                    rw [evM_up _ _ _ _ (by decide) (by decide), gup_gup]
                    have hI7 := hI6.up (k := 46) 0 (by omega)
                    have hf := (hI7.1.fin hf0).ev (2400 + P2) (evB 0 0 (t (owW r dn la 0 0)))
                    refine gw_aload_n (gc k_Model_goesAlong_3 20 rfl) rfl rfl ?_
                    refine gw_dup (gc k_Model_goesAlong_3 21 rfl) rfl ?_
                    refine gw_getf 22 rfl (gc k_Model_goesAlong_3 22 rfl) fl_Model_261 (gAt hx rfl rfl) ?_
                    refine gw_iconst (gc k_Model_goesAlong_3 23 rfl) ?_
                    refine gw_iadd (gc k_Model_goesAlong_3 24 rfl) ?_
                    refine gw_putIK 22 rfl (gc k_Model_goesAlong_3 25 rfl) fl_Model_261 (gAt hx rfl rfl) hf rfl (fun hf => ?_)
                    rw [evM_inc]
                    refine gw_return (gc k_Model_goesAlong_3 26 rfl) rfl ?_
                    refine ⟨rfl, rfl, ?_, ?_, ?_, ?_, ?_, ?_, fun hz => ⟨?_, ?_, fun hz2 => ?_, ?_, ?_⟩⟩
                    · intro a k h1 h2 h3
                      by_cases z : a = 177
                      · subst z; rw [evM_k _ _ _ (by omega) (by omega)]; exact hI7.1 _ _ h1 h2 h3
                      · rw [evM_fn _ _ _ z]; exact hI7.1 _ _ h1 h2 h3
                    · rw [evM_22]; omega
                    · rw [evM_k _ _ _ (by decide) (by decide), gup_k _ _ _ _ (by decide)]; exact h643
                    · rw [evM_k _ _ _ (by decide) (by decide), gup_k _ _ _ _ (by decide)]; exact h644
                    · rw [evM_k _ _ _ (by decide) (by decide), gup_k _ _ _ _ (by decide)]; rw [h645]; omega
                    · rw [evM_k _ _ _ (by decide) (by decide), gup_s]; omega
                    · exact absurd hz (by decide)
                    · exact absurd hz (by decide)
                    · exfalso; omega
                    · exact absurd hz (by decide)
                    · exact absurd hz (by decide)
                  · refine gw_iconst (gc k_Model_goesAlong_3 16 rfl) ?_
                    refine gw_goto (tgt := 264) (gc k_Model_goesAlong_3 17 rfl) rfl ?_
                    refine gw_putZK 46 rfl (gc k_Model_goesAlong_3 19 rfl) fl_Model_464 (gAt hx rfl rfl) (by omega) hf rfl (fun hf => ?_)
                    rw [evM_up _ _ _ _ (by decide) (by decide), gup_gup]
                    have hI7 := hI6.up (k := 46) 1 (by omega)
                    have hf := (hI7.1.fin hf0).ev (2400 + P2) (evB 0 0 (t (owW r dn la 0 0)))
                    refine gw_aload_n (gc k_Model_goesAlong_3 20 rfl) rfl rfl ?_
                    refine gw_dup (gc k_Model_goesAlong_3 21 rfl) rfl ?_
                    refine gw_getf 22 rfl (gc k_Model_goesAlong_3 22 rfl) fl_Model_261 (gAt hx rfl rfl) ?_
                    refine gw_iconst (gc k_Model_goesAlong_3 23 rfl) ?_
                    refine gw_iadd (gc k_Model_goesAlong_3 24 rfl) ?_
                    refine gw_putIK 22 rfl (gc k_Model_goesAlong_3 25 rfl) fl_Model_261 (gAt hx rfl rfl) hf rfl (fun hf => ?_)
                    rw [evM_inc]
                    refine gw_return (gc k_Model_goesAlong_3 26 rfl) rfl ?_
                    refine ⟨rfl, rfl, ?_, ?_, ?_, ?_, ?_, ?_, fun hz => ⟨?_, ?_, fun hz2 => ?_, ?_, ?_⟩⟩
                    · intro a k h1 h2 h3
                      by_cases z : a = 177
                      · subst z; rw [evM_k _ _ _ (by omega) (by omega)]; exact hI7.1 _ _ h1 h2 h3
                      · rw [evM_fn _ _ _ z]; exact hI7.1 _ _ h1 h2 h3
                    · rw [evM_22]; omega
                    · rw [evM_k _ _ _ (by decide) (by decide), gup_k _ _ _ _ (by decide)]; exact h643
                    · rw [evM_k _ _ _ (by decide) (by decide), gup_k _ _ _ _ (by decide)]; exact h644
                    · rw [evM_k _ _ _ (by decide) (by decide), gup_k _ _ _ _ (by decide)]; rw [h645]; omega
                    · rw [evM_k _ _ _ (by decide) (by decide), gup_s]; omega
                    · exact absurd hz (by decide)
                    · exact absurd hz (by decide)
                    · exfalso; omega
                    · exact absurd hz (by decide)
                    · exact absurd hz (by decide)
          · rw [if_pos c184]
            rcases hTm with ⟨-, hT50, htm, hTv, hW⟩ | ⟨z, -⟩
            rotate_left
            · exact absurd c184 z
            have hf := hf5.ev (2400 + ((p + 1) + 1)) y0
            refine gw_aload_n (gc k_Model_goesAlong_2 18 rfl) rfl rfl ?_
            refine gw_aload_n (gc k_Model_goesAlong_2 19 rfl) rfl rfl ?_
            refine gw_getref (gc k_Model_goesAlong_2 20 rfl) fl_Model_28 (gAt hx rfl rfl) (gRf hf rfl rfl) ?_
            refine gw_sipush (gc k_Model_goesAlong_2 21 rfl) (by decide) ?_
            refine gw_aload_n (gc k_Model_goesAlong_2 22 rfl) rfl rfl ?_
            refine gw_getf 22 rfl (gc k_Model_goesAlong_2 23 rfl) fl_Model_261 (gAt hx rfl rfl) ?_
            rw [evM_22]
            refine gw_iadd (gc k_Model_goesAlong_2 24 rfl) ?_
            have hlt := hE5.lt ((p + 1) + 1) (by omega) (by omega)
            rw [hI5.2.2.1] at hlt
            refine gw_iald (gc k_Model_goesAlong_2 25 rfl) (gAt hx rfl rfl) (by omega) ?_
            rw [show evM (gup M2 177 43 1) (2400 + ((p + 1) + 1)) y0 179 (2852 + (2400 + ((p + 1) + 1))) = tm by
              rw [evM_fn _ _ _ (by decide), show gup M2 177 43 1 179 = r from (funext fun k => hI5.1 179 k (by decide) (by decide) (by omega)).trans er, hTv]; exact congrArg r (by omega)]
            refine gw_putIK 43 rfl (gc k_Model_goesAlong_2 26 rfl) fl_Model_461 (gAt hx rfl rfl) hf rfl (fun hf => ?_)
            rw [evM_up _ _ _ _ (by decide) (by decide), gup_gup]
            have hI6 := hI2.up (k := 43) tm (by omega)
            have hf := (hI6.1.fin hf0).ev (2400 + ((p + 1) + 1)) y0
            refine gw_aload_n (gc k_Model_goesAlong_2 27 rfl) rfl rfl ?_
            refine gw_dup (gc k_Model_goesAlong_2 28 rfl) rfl ?_
            refine gw_getf 22 rfl (gc k_Model_goesAlong_2 29 rfl) fl_Model_261 (gAt hx rfl rfl) ?_
            refine gw_iconst (gc k_Model_goesAlong_2 30 rfl) ?_
            refine gw_iadd (gc k_Model_goesAlong_2 31 rfl) ?_
            refine gw_putIK 22 rfl (gc k_Model_goesAlong_2 32 rfl) fl_Model_261 (gAt hx rfl rfl) hf rfl (fun hf => ?_)
            rw [evM_inc, show (p + 1) + 1 + 1 = (p + 1) + 2 by omega]
            obtain ⟨M6, hM6⟩ : ∃ M, M = gup M2 177 43 tm := ⟨_, rfl⟩
            rw [← hM6] at hI6 ⊢
            have hE6 := hI6.E er ho h27 h28 ⟨hdn, hla, (by omega), (by omega)⟩
            have hf6 := hI6.1.fin hf0
            have hf := hf6.ev (2400 + ((p + 1) + 2)) y0
            have h643 : M6 177 43 = tm := by rw [hM6, gup_s]
            have h644 : M6 177 44 = kd := by rw [hM6, gup_k _ _ _ _ (by decide)]; exact h244
            have h645 : M6 177 45 = 1 := by rw [hM6, gup_k _ _ _ _ (by decide)]; exact h245
            refine gw_aload_n (gc k_Model_goesAlong_2 33 rfl) rfl rfl ?_
            refine gw_iconst (gc k_Model_goesAlong_2 34 rfl) ?_
            refine gw_putZK 24 rfl (gc k_Model_goesAlong_2 35 rfl) fl_Model_271 (gAt hx rfl rfl) (by omega) hf rfl (fun hf => ?_)
            rw [evM_br]
            refine gw_aload_n (gc k_Model_goesAlong_2 36 rfl) rfl rfl ?_
            refine gw_aload_n (gc k_Model_goesAlong_2 37 rfl) rfl rfl ?_
            refine gw_iconst (gc k_Model_goesAlong_2 38 rfl) ?_
            refine gw_cV1 (gc k_Model_goesAlong_2 39 rfl) y_Model_passes0 ln_Model_285 (c_Model_passes0 hx hf6 hE6 ((p + 1) + 2) 4 0 (by omega) (by omega)) rfl rfl (gAt hx rfl rfl) rfl rfl ?_
            refine gw_beq (tgt := 236) (gc k_Model_goesAlong_3 0 rfl) rfl (fun c225 => ?_) (fun c225 => ?_)
            · rw [if_neg c225]
              rcases hW with ⟨z, -⟩ | ⟨-, hP2, -, -, ht1⟩
              · exact absurd z c225
              have hf := hf6.ev (2400 + ((p + 1) + 2)) 0
              refine gw_iconst (gc k_Model_goesAlong_3 5 rfl) ?_
              refine gw_goto (tgt := 241) (gc k_Model_goesAlong_3 6 rfl) rfl ?_
              refine gw_putZK 46 rfl (gc k_Model_goesAlong_3 8 rfl) fl_Model_464 (gAt hx rfl rfl) (by omega) hf rfl (fun hf => ?_)
              rw [evM_up _ _ _ _ (by decide) (by decide)]
              have hf := ((hI6.up (k := 46) 1 (by omega)).1.fin hf0).ev (2400 + ((p + 1) + 2)) 0
              refine gw_aload_n (gc k_Model_goesAlong_3 9 rfl) rfl rfl ?_
              refine gw_aload_n (gc k_Model_goesAlong_3 10 rfl) rfl rfl ?_
              refine gw_getf 46 rfl (gc k_Model_goesAlong_3 11 rfl) fl_Model_464 (gAt hx rfl rfl) ?_
              rw [evM_k _ _ _ (by decide) (by decide), gup_s]
              refine gw_if_eq (tgt := 263) (gc k_Model_goesAlong_3 12 rfl) rfl (by omega) (fun c249 => ?_) (fun c249 => ?_)
              · exact absurd c249 (by decide)
              · refine gw_aload_n (gc k_Model_goesAlong_3 13 rfl) rfl rfl ?_
                refine gw_getf 24 rfl (gc k_Model_goesAlong_3 14 rfl) fl_Model_271 (gAt hx rfl rfl) ?_
                rw [evM_24]
                refine gw_if_ne (tgt := 263) (gc k_Model_goesAlong_3 15 rfl) rfl (by omega) (fun c256 => ?_) (fun c256 => ?_)
                · exact absurd rfl c256
                · refine gw_iconst (gc k_Model_goesAlong_3 16 rfl) ?_
                  refine gw_goto (tgt := 264) (gc k_Model_goesAlong_3 17 rfl) rfl ?_
                  refine gw_putZK 46 rfl (gc k_Model_goesAlong_3 19 rfl) fl_Model_464 (gAt hx rfl rfl) (by omega) hf rfl (fun hf => ?_)
                  rw [evM_up _ _ _ _ (by decide) (by decide), gup_gup]
                  have hI7 := hI6.up (k := 46) 1 (by omega)
                  have hf := (hI7.1.fin hf0).ev (2400 + ((p + 1) + 2)) 0
                  refine gw_aload_n (gc k_Model_goesAlong_3 20 rfl) rfl rfl ?_
                  refine gw_dup (gc k_Model_goesAlong_3 21 rfl) rfl ?_
                  refine gw_getf 22 rfl (gc k_Model_goesAlong_3 22 rfl) fl_Model_261 (gAt hx rfl rfl) ?_
                  refine gw_iconst (gc k_Model_goesAlong_3 23 rfl) ?_
                  refine gw_iadd (gc k_Model_goesAlong_3 24 rfl) ?_
                  refine gw_putIK 22 rfl (gc k_Model_goesAlong_3 25 rfl) fl_Model_261 (gAt hx rfl rfl) hf rfl (fun hf => ?_)
                  rw [evM_inc]
                  refine gw_return (gc k_Model_goesAlong_3 26 rfl) rfl ?_
                  refine ⟨rfl, rfl, ?_, ?_, ?_, ?_, ?_, ?_, fun hz => ⟨?_, ?_, fun hz2 => ?_, ?_, ?_⟩⟩
                  · intro a k h1 h2 h3
                    by_cases z : a = 177
                    · subst z; rw [evM_k _ _ _ (by omega) (by omega)]; exact hI7.1 _ _ h1 h2 h3
                    · rw [evM_fn _ _ _ z]; exact hI7.1 _ _ h1 h2 h3
                  · rw [evM_22]; omega
                  · rw [evM_k _ _ _ (by decide) (by decide), gup_k _ _ _ _ (by decide)]; exact h643
                  · rw [evM_k _ _ _ (by decide) (by decide), gup_k _ _ _ _ (by decide)]; exact h644
                  · rw [evM_k _ _ _ (by decide) (by decide), gup_k _ _ _ _ (by decide)]; rw [h645]; omega
                  · rw [evM_k _ _ _ (by decide) (by decide), gup_s]; omega
                  · exact absurd hz (by decide)
                  · exact absurd hz (by decide)
                  · exfalso; omega
                  · exact absurd hz (by decide)
                  · exact absurd hz (by decide)
            · rw [if_pos c225]
              rcases hW with ⟨-, kk, hte, hok⟩ | ⟨z, -⟩
              rotate_left
              · exact absurd c225 z
              obtain ⟨yt, hy1, hy2, hyt⟩ := (ev_testK hx hf6 hE6 8 _ _ _ _ _ _ hte (by omega)).2 0 0 (by omega) (by omega)
              refine gw_aload_n (gc k_Model_goesAlong_3 1 rfl) rfl rfl ?_
              refine gw_iload_n (gc k_Model_goesAlong_3 2 rfl) rfl ?_
              refine gw_cV1 (gc k_Model_goesAlong_3 3 rfl) y_Model_testOf ln_Model_318 hyt rfl rfl (gAt hx rfl rfl) rfl rfl ?_
              have hf := hf6.ev (2400 + P2) (evB 0 0 (t (owW r dn la 0 0)))
              have hbt := evB_01 (live := 0) (br := 0) (v := t (owW r dn la 0 0)) (by omega)
              refine gw_if_eq (tgt := 240) (gc k_Model_goesAlong_3 4 rfl) rfl (by omega) (fun c233 => ?_) (fun c233 => ?_)
              · refine gw_iconst (gc k_Model_goesAlong_3 7 rfl) ?_
                refine gw_putZK 46 rfl (gc k_Model_goesAlong_3 8 rfl) fl_Model_464 (gAt hx rfl rfl) (by omega) hf rfl (fun hf => ?_)
                rw [evM_up _ _ _ _ (by decide) (by decide)]
                have hf := ((hI6.up (k := 46) 0 (by omega)).1.fin hf0).ev (2400 + P2) (evB 0 0 (t (owW r dn la 0 0)))
                refine gw_aload_n (gc k_Model_goesAlong_3 9 rfl) rfl rfl ?_
                refine gw_aload_n (gc k_Model_goesAlong_3 10 rfl) rfl rfl ?_
                refine gw_getf 46 rfl (gc k_Model_goesAlong_3 11 rfl) fl_Model_464 (gAt hx rfl rfl) ?_
                rw [evM_k _ _ _ (by decide) (by decide), gup_s]
                refine gw_if_eq (tgt := 263) (gc k_Model_goesAlong_3 12 rfl) rfl (by omega) (fun c249 => ?_) (fun c249 => ?_)
                · refine gw_iconst (gc k_Model_goesAlong_3 18 rfl) ?_
                  refine gw_putZK 46 rfl (gc k_Model_goesAlong_3 19 rfl) fl_Model_464 (gAt hx rfl rfl) (by omega) hf rfl (fun hf => ?_)
                  rw [evM_up _ _ _ _ (by decide) (by decide), gup_gup]
                  have hI7 := hI6.up (k := 46) 0 (by omega)
                  have hf := (hI7.1.fin hf0).ev (2400 + P2) (evB 0 0 (t (owW r dn la 0 0)))
                  refine gw_aload_n (gc k_Model_goesAlong_3 20 rfl) rfl rfl ?_
                  refine gw_dup (gc k_Model_goesAlong_3 21 rfl) rfl ?_
                  refine gw_getf 22 rfl (gc k_Model_goesAlong_3 22 rfl) fl_Model_261 (gAt hx rfl rfl) ?_
                  refine gw_iconst (gc k_Model_goesAlong_3 23 rfl) ?_
                  refine gw_iadd (gc k_Model_goesAlong_3 24 rfl) ?_
                  refine gw_putIK 22 rfl (gc k_Model_goesAlong_3 25 rfl) fl_Model_261 (gAt hx rfl rfl) hf rfl (fun hf => ?_)
                  rw [evM_inc]
                  refine gw_return (gc k_Model_goesAlong_3 26 rfl) rfl ?_
                  refine ⟨rfl, rfl, ?_, ?_, ?_, ?_, ?_, ?_, fun hz => ⟨?_, ?_, fun hz2 => ?_, ?_, ?_⟩⟩
                  · intro a k h1 h2 h3
                    by_cases z : a = 177
                    · subst z; rw [evM_k _ _ _ (by omega) (by omega)]; exact hI7.1 _ _ h1 h2 h3
                    · rw [evM_fn _ _ _ z]; exact hI7.1 _ _ h1 h2 h3
                  · rw [evM_22]; omega
                  · rw [evM_k _ _ _ (by decide) (by decide), gup_k _ _ _ _ (by decide)]; exact h643
                  · rw [evM_k _ _ _ (by decide) (by decide), gup_k _ _ _ _ (by decide)]; exact h644
                  · rw [evM_k _ _ _ (by decide) (by decide), gup_k _ _ _ _ (by decide)]; rw [h645]; omega
                  · rw [evM_k _ _ _ (by decide) (by decide), gup_s]; omega
                  · exact absurd hz (by decide)
                  · exact absurd hz (by decide)
                  · exfalso; omega
                  · exact absurd hz (by decide)
                  · exact absurd hz (by decide)
                · exact absurd rfl c249
              · refine gw_iconst (gc k_Model_goesAlong_3 5 rfl) ?_
                refine gw_goto (tgt := 241) (gc k_Model_goesAlong_3 6 rfl) rfl ?_
                refine gw_putZK 46 rfl (gc k_Model_goesAlong_3 8 rfl) fl_Model_464 (gAt hx rfl rfl) (by omega) hf rfl (fun hf => ?_)
                rw [evM_up _ _ _ _ (by decide) (by decide)]
                have hf := ((hI6.up (k := 46) 1 (by omega)).1.fin hf0).ev (2400 + P2) (evB 0 0 (t (owW r dn la 0 0)))
                refine gw_aload_n (gc k_Model_goesAlong_3 9 rfl) rfl rfl ?_
                refine gw_aload_n (gc k_Model_goesAlong_3 10 rfl) rfl rfl ?_
                refine gw_getf 46 rfl (gc k_Model_goesAlong_3 11 rfl) fl_Model_464 (gAt hx rfl rfl) ?_
                rw [evM_k _ _ _ (by decide) (by decide), gup_s]
                refine gw_if_eq (tgt := 263) (gc k_Model_goesAlong_3 12 rfl) rfl (by omega) (fun c249 => ?_) (fun c249 => ?_)
                · exact absurd c249 (by decide)
                · refine gw_aload_n (gc k_Model_goesAlong_3 13 rfl) rfl rfl ?_
                  refine gw_getf 24 rfl (gc k_Model_goesAlong_3 14 rfl) fl_Model_271 (gAt hx rfl rfl) ?_
                  rw [evM_24]
                  refine gw_if_ne (tgt := 263) (gc k_Model_goesAlong_3 15 rfl) rfl (by omega) (fun c256 => ?_) (fun c256 => ?_)
                  · refine gw_iconst (gc k_Model_goesAlong_3 18 rfl) ?_
                    refine gw_putZK 46 rfl (gc k_Model_goesAlong_3 19 rfl) fl_Model_464 (gAt hx rfl rfl) (by omega) hf rfl (fun hf => ?_)
                    rw [evM_up _ _ _ _ (by decide) (by decide), gup_gup]
                    have hI7 := hI6.up (k := 46) 0 (by omega)
                    have hf := (hI7.1.fin hf0).ev (2400 + P2) (evB 0 0 (t (owW r dn la 0 0)))
                    refine gw_aload_n (gc k_Model_goesAlong_3 20 rfl) rfl rfl ?_
                    refine gw_dup (gc k_Model_goesAlong_3 21 rfl) rfl ?_
                    refine gw_getf 22 rfl (gc k_Model_goesAlong_3 22 rfl) fl_Model_261 (gAt hx rfl rfl) ?_
                    refine gw_iconst (gc k_Model_goesAlong_3 23 rfl) ?_
                    refine gw_iadd (gc k_Model_goesAlong_3 24 rfl) ?_
                    refine gw_putIK 22 rfl (gc k_Model_goesAlong_3 25 rfl) fl_Model_261 (gAt hx rfl rfl) hf rfl (fun hf => ?_)
                    rw [evM_inc]
                    refine gw_return (gc k_Model_goesAlong_3 26 rfl) rfl ?_
                    refine ⟨rfl, rfl, ?_, ?_, ?_, ?_, ?_, ?_, fun hz => ⟨?_, ?_, fun hz2 => ?_, ?_, ?_⟩⟩
                    · intro a k h1 h2 h3
                      by_cases z : a = 177
                      · subst z; rw [evM_k _ _ _ (by omega) (by omega)]; exact hI7.1 _ _ h1 h2 h3
                      · rw [evM_fn _ _ _ z]; exact hI7.1 _ _ h1 h2 h3
                    · rw [evM_22]; omega
                    · rw [evM_k _ _ _ (by decide) (by decide), gup_k _ _ _ _ (by decide)]; exact h643
                    · rw [evM_k _ _ _ (by decide) (by decide), gup_k _ _ _ _ (by decide)]; exact h644
                    · rw [evM_k _ _ _ (by decide) (by decide), gup_k _ _ _ _ (by decide)]; rw [h645]; omega
                    · rw [evM_k _ _ _ (by decide) (by decide), gup_s]; omega
                    · exact absurd hz (by decide)
                    · exact absurd hz (by decide)
                    · exfalso; omega
                    · exact absurd hz (by decide)
                    · exact absurd hz (by decide)
                  · refine gw_iconst (gc k_Model_goesAlong_3 16 rfl) ?_
                    refine gw_goto (tgt := 264) (gc k_Model_goesAlong_3 17 rfl) rfl ?_
                    refine gw_putZK 46 rfl (gc k_Model_goesAlong_3 19 rfl) fl_Model_464 (gAt hx rfl rfl) (by omega) hf rfl (fun hf => ?_)
                    rw [evM_up _ _ _ _ (by decide) (by decide), gup_gup]
                    have hI7 := hI6.up (k := 46) 1 (by omega)
                    have hf := (hI7.1.fin hf0).ev (2400 + P2) (evB 0 0 (t (owW r dn la 0 0)))
                    refine gw_aload_n (gc k_Model_goesAlong_3 20 rfl) rfl rfl ?_
                    refine gw_dup (gc k_Model_goesAlong_3 21 rfl) rfl ?_
                    refine gw_getf 22 rfl (gc k_Model_goesAlong_3 22 rfl) fl_Model_261 (gAt hx rfl rfl) ?_
                    refine gw_iconst (gc k_Model_goesAlong_3 23 rfl) ?_
                    refine gw_iadd (gc k_Model_goesAlong_3 24 rfl) ?_
                    refine gw_putIK 22 rfl (gc k_Model_goesAlong_3 25 rfl) fl_Model_261 (gAt hx rfl rfl) hf rfl (fun hf => ?_)
                    rw [evM_inc]
                    refine gw_return (gc k_Model_goesAlong_3 26 rfl) rfl ?_
                    refine ⟨rfl, rfl, ?_, ?_, ?_, ?_, ?_, ?_, fun hz => ⟨?_, ?_, fun hz2 => ?_, ?_, ?_⟩⟩
                    · intro a k h1 h2 h3
                      by_cases z : a = 177
                      · subst z; rw [evM_k _ _ _ (by omega) (by omega)]; exact hI7.1 _ _ h1 h2 h3
                      · rw [evM_fn _ _ _ z]; exact hI7.1 _ _ h1 h2 h3
                    · rw [evM_22]; omega
                    · rw [evM_k _ _ _ (by decide) (by decide), gup_k _ _ _ _ (by decide)]; exact h643
                    · rw [evM_k _ _ _ (by decide) (by decide), gup_k _ _ _ _ (by decide)]; exact h644
                    · rw [evM_k _ _ _ (by decide) (by decide), gup_k _ _ _ _ (by decide)]; rw [h645]; omega
                    · rw [evM_k _ _ _ (by decide) (by decide), gup_s]; omega
                    · exact absurd hz (by decide)
                    · exact absurd hz (by decide)
                    · exfalso; omega
                    · exact absurd hz (by decide)
                    · exact absurd hz (by decide)
        · exfalso; omega
      · refine gw_aload_n (gc k_Model_goesAlong_1 3 rfl) rfl rfl ?_
        refine gw_getf 44 rfl (gc k_Model_goesAlong_1 4 rfl) fl_Model_455 (gAt hx rfl rfl) ?_
        rw [evM_k _ _ _ (by decide) (by decide), h244]
        refine gw_bipush (gc k_Model_goesAlong_1 5 rfl) (by decide) ?_
        refine gw_icmp_eq (tgt := 97) (gc k_Model_goesAlong_1 6 rfl) rfl (by omega) (fun c85 => ?_) (fun c85 => ?_)
        · refine gw_iconst (gc k_Model_goesAlong_1 11 rfl) ?_
          refine gw_goto (tgt := 102) (gc k_Model_goesAlong_1 12 rfl) rfl ?_
          exact kj79 _ (by first | rfl | (exfalso; omega))
        · refine gw_aload_n (gc k_Model_goesAlong_1 7 rfl) rfl rfl ?_
          refine gw_getf 44 rfl (gc k_Model_goesAlong_1 8 rfl) fl_Model_455 (gAt hx rfl rfl) ?_
          rw [evM_k _ _ _ (by decide) (by decide), h244]
          refine gw_bipush (gc k_Model_goesAlong_1 9 rfl) (by decide) ?_
          refine gw_icmp_ne (tgt := 101) (gc k_Model_goesAlong_1 10 rfl) rfl (by omega) (fun c94 => ?_) (fun c94 => ?_)
          · refine gw_iconst (gc k_Model_goesAlong_1 13 rfl) ?_
            exact kj79 _ (by first | rfl | (exfalso; omega))
          · refine gw_iconst (gc k_Model_goesAlong_1 11 rfl) ?_
            refine gw_goto (tgt := 102) (gc k_Model_goesAlong_1 12 rfl) rfl ?_
            exact kj79 _ (by first | rfl | (exfalso; omega))
    · exact absurd rfl c19
  · exact absurd rfl c2
set_option maxHeartbeats 8000000 in
theorem c_along11 {sh : gS} {g : gM} (hx : gFix sh) (hf : gFin g) {r : Int → Int} (er : g 179 = r) (ho : rowOK r) (hl : lawsOK r) {dn la : Int} (h27 : g 177 27 = dn) (h28 : g 177 28 = la) (hdn : 0 ≤ dn ∧ dn ≤ 1000) (hla : -1 ≤ la ∧ la ≤ 12) {p n : Int} (hp : 0 ≤ p ∧ p ≤ 400) (h42 : g 177 42 = 2400 + p) {P2 N2 kd : Int} {c : PK} {s : PS} {c2 : PK} {s2 : PS} {tm : Int} {ok : Option PK} {t : PS} (e : pOrder (rT r 6) (rV r 6) (pSum (rT r 6) (rV r 6) true 8) (pTest (rT r 6) (rV r 6) true 8) p n = .inr (P2, N2, kd, c, s, c2, s2, tm, ok, t)) (hkd : kd = 22 ∨ kd = 23) : gTri f_Model_goesAlong 45 0 0 [(2, 177), (0, 2400 + r 51), (0, 1)] sh g (fun x s2_ g2 => x = none ∧ s2_ = sh ∧ gaQ g 2400 1 kd tm s s2 t (owW r dn la (allN r 2) (allN r 0)) P2 g2) := by
  have hm := ro_many ho
  have hf0 := hf
  have hs51 := ro_size ho 51 (by omega)
  obtain ⟨hTp, hpv⟩ := pOr_inv e
  obtain ⟨pa, na, pb, nb, hsa, hT26, hsb, hTm⟩ : ∃ pa na pb nb, (pSum (rT r 6) (rV r 6) true 8) (p + 1) n = .inr (pa, na, c, s) ∧ (rT r 6) pa = 26 ∧ (pSum (rT r 6) (rV r 6) true 8) (pa + 1) na = .inr (pb, nb, c2, s2) ∧ otT (rT r 6) (rV r 6) (pTest (rT r 6) (rV r 6) true 8) P2 N2 tm ok t pb nb := by
    rcases hpv with ⟨-, q⟩ | ⟨q, -⟩
    · exact q
    · omega
  clear hpv
  have hok6 := rT_ok r hs51
  have hfa := pSum_far (V := rV r 6) (o := true) hok6 8 _ _ _ _ _ _ hsa
  have hfb := pSum_far (V := rV r 6) (o := true) hok6 8 _ _ _ _ _ _ hsb
  refine gTri.of (by decide +kernel) rfl ?_
  show gWP f_Model_goesAlong _ _ _ 0 [(2, 177), (0, 2400 + r 51), (0, 1), (9, 0), (9, 0)] [] sh g _
  refine gw_aload_n (gc k_Model_goesAlong_0 0 rfl) rfl rfl ?_
  refine gw_iload_n (gc k_Model_goesAlong_0 1 rfl) rfl ?_
  refine gw_if_eq (tgt := 13) (gc k_Model_goesAlong_0 2 rfl) rfl (by omega) (fun c2 => ?_) (fun c2 => ?_)
  · exact absurd c2 (by decide)
  · refine gw_aload_n (gc k_Model_goesAlong_0 3 rfl) rfl rfl ?_
    refine gw_iconst (gc k_Model_goesAlong_0 4 rfl) ?_
    refine gw_xV1 (gc k_Model_goesAlong_0 5 rfl) y_Model_allOf ln_Model_332 (c_Model_allOf hx hf 2 (by omega) (by rw [er]; exact ho) (by rw [er]; exact hl)) rfl rfl (gAt hx rfl rfl) rfl rfl (fun r7 sh2 g7 hq7 => ?_)
    rw [er] at hq7
    obtain ⟨rfl, rfl, hq7⟩ := hq7
    have hf := hf.sk hq7
    have e7 : g7 179 = r := (hq7.fn (by decide) (by decide)).trans er
    refine gw_goto (tgt := 14) (gc k_Model_goesAlong_0 6 rfl) rfl ?_
    refine gw_putIK 29 rfl (gc k_Model_goesAlong_0 8 rfl) fl_Model_303 (gAt hx rfl rfl) hf rfl (fun hf => ?_)
    refine gw_aload_n (gc k_Model_goesAlong_0 9 rfl) rfl rfl ?_
    refine gw_iload_n (gc k_Model_goesAlong_0 10 rfl) rfl ?_
    refine gw_if_eq (tgt := 30) (gc k_Model_goesAlong_0 11 rfl) rfl (by omega) (fun c19 => ?_) (fun c19 => ?_)
    · exact absurd c19 (by decide)
    · refine gw_aload_n (gc k_Model_goesAlong_0 12 rfl) rfl rfl ?_
      refine gw_iconst (gc k_Model_goesAlong_0 13 rfl) ?_
      refine gw_xV1 (gc k_Model_goesAlong_0 14 rfl) y_Model_allOf ln_Model_332 (c_Model_allOf hx hf 0 (by omega) (by rw [gup_fn _ _ _ _ (by decide), e7]; exact ho) (by rw [gup_fn _ _ _ _ (by decide), e7]; exact hl)) rfl rfl (gAt hx rfl rfl) rfl rfl (fun r24 sh2 g24 hq24 => ?_)
      rw [gup_fn _ _ _ _ (by decide), e7] at hq24
      obtain ⟨rfl, rfl, hq24⟩ := hq24
      have hf := hf.sk hq24
      refine gw_goto (tgt := 31) (gc k_Model_goesAlong_0 15 rfl) rfl ?_
      refine gw_putIK 30 rfl (gc k_Model_goesAlong_0 17 rfl) fl_Model_306 (gAt hx rfl rfl) hf rfl (fun hf => ?_)
      refine gw_aload_n (gc k_Model_goesAlong_0 18 rfl) rfl rfl ?_
      refine gw_iconst (gc k_Model_goesAlong_0 19 rfl) ?_
      refine gw_putZK 25 rfl (gc k_Model_goesAlong_0 20 rfl) fl_Model_291 (gAt hx rfl rfl) (by omega) hf rfl (fun hf => ?_)
      refine gw_aload_n (gc k_Model_goesAlong_0 21 rfl) rfl rfl ?_
      refine gw_iload_n (gc k_Model_goesAlong_0 22 rfl) rfl ?_
      refine gw_putIK 23 rfl (gc k_Model_goesAlong_0 23 rfl) fl_Model_258 (gAt hx rfl rfl) hf rfl (fun hf => ?_)
      have hI0 : gaI g (2400 + r 51) (allN r 2) (allN r 0) (gup (gup (gup g24 177 30 (allN r 0)) 177 25 1) 177 23 (2400 + r 51)) := by
        refine ⟨fun a k h1 h2 h3 => ?_, gup_k _ _ _ _ (by decide) |>.trans (gup_s _ _ _ _), gup_s _ _ _ _, ?_, ?_⟩
        · by_cases z : a = 177
          · subst z
            rw [gup_k _ _ _ _ (by omega), gup_k _ _ _ _ (by omega), gup_k _ _ _ _ (by omega), hq24.fl (by omega), gup_k _ _ _ _ (by omega), hq7.fl (by omega)]
          · rw [gup_a _ _ _ _ _ z, gup_a _ _ _ _ _ z, gup_a _ _ _ _ _ z, hq24.fn z h2, gup_a _ _ _ _ _ z, hq7.fn z h2]
        · rw [gup_k _ _ _ _ (by decide), gup_k _ _ _ _ (by decide), gup_k _ _ _ _ (by decide), hq24.fl (by omega), gup_s]
        · rw [gup_k _ _ _ _ (by decide), gup_k _ _ _ _ (by decide), gup_s]
      obtain ⟨M0, hM0⟩ : ∃ M, M = (gup (gup (gup g24 177 30 (allN r 0)) 177 25 1) 177 23 (2400 + r 51)) := ⟨_, rfl⟩
      rw [← hM0] at hI0 ⊢
      have hfM : gFin M0 := hI0.1.fin hf0
      have hf := hfM
      have E0 := hI0.E er ho h27 h28 ⟨hdn, hla, allN_bd2 ho, allN_bd ho 0⟩
      refine gw_aload_n (gc k_Model_goesAlong_0 24 rfl) rfl rfl ?_
      refine gw_aload_n (gc k_Model_goesAlong_0 25 rfl) rfl rfl ?_
      refine gw_getf 42 rfl (gc k_Model_goesAlong_0 26 rfl) fl_Model_446 (gAt hx rfl rfl) ?_
      rw [hI0.1 177 42 (by decide) (by decide) (by omega), h42]
      refine gw_putIK 22 rfl (gc k_Model_goesAlong_0 27 rfl) fl_Model_261 (gAt hx rfl rfl) hf rfl (fun hf => ?_)
      rw [evM_of]
      obtain ⟨y0, hy0⟩ : ∃ y, y = M0 177 24 := ⟨_, rfl⟩
      rw [← hy0]
      have hf := hfM.ev (2400 + p) y0
      refine gw_aload_n (gc k_Model_goesAlong_0 28 rfl) rfl rfl ?_
      refine gw_aload_n (gc k_Model_goesAlong_0 29 rfl) rfl rfl ?_
      refine gw_aload_n (gc k_Model_goesAlong_0 30 rfl) rfl rfl ?_
      refine gw_getf 22 rfl (gc k_Model_goesAlong_0 31 rfl) fl_Model_261 (gAt hx rfl rfl) ?_
      rw [evM_22]
      refine gw_cV1 (gc k_Model_goesAlong_0 32 rfl) y_Model_codeAt ln_Model_264 (c_codeAt hx hfM E0 p _ _ (by omega)) rfl rfl (gAt hx rfl rfl) rfl rfl ?_
      rw [hTp]
      refine gw_putIK 44 rfl (gc k_Model_goesAlong_0 33 rfl) fl_Model_455 (gAt hx rfl rfl) hf rfl (fun hf => ?_)
      rw [evM_up _ _ _ _ (by decide) (by decide)]
      have hI1 := hI0.up (k := 44) kd (by omega)
      have hf := (hI1.1.fin hf0).ev (2400 + p) y0
      refine gw_aload_n (gc k_Model_goesAlong_0 34 rfl) rfl rfl ?_
      refine gw_dup (gc k_Model_goesAlong_0 35 rfl) rfl ?_
      refine gw_getf 22 rfl (gc k_Model_goesAlong_0 36 rfl) fl_Model_261 (gAt hx rfl rfl) ?_
      refine gw_iconst (gc k_Model_goesAlong_0 37 rfl) ?_
      refine gw_iadd (gc k_Model_goesAlong_0 38 rfl) ?_
      refine gw_putIK 22 rfl (gc k_Model_goesAlong_0 39 rfl) fl_Model_261 (gAt hx rfl rfl) hf rfl (fun hf => ?_)
      rw [evM_inc]
      have hf := (hI1.1.fin hf0).ev (2400 + (p + 1)) y0
      refine gw_aload_n (gc k_Model_goesAlong_1 0 rfl) rfl rfl ?_
      refine gw_iconst (gc k_Model_goesAlong_1 1 rfl) ?_
      refine gw_putZK 45 rfl (gc k_Model_goesAlong_1 2 rfl) fl_Model_458 (gAt hx rfl rfl) (by omega) hf rfl (fun hf => ?_)
      rw [evM_up _ _ _ _ (by decide) (by decide)]
      have hI2 := hI1.up (k := 45) 1 (by omega)
      obtain ⟨M2, hM2⟩ : ∃ M, M = gup (gup M0 177 44 kd) 177 45 1 := ⟨_, rfl⟩
      rw [← hM2] at hI2 ⊢
      have h244 : M2 177 44 = kd := by rw [hM2, gup_k _ _ _ _ (by decide), gup_s]
      have h245 : M2 177 45 = 1 := by rw [hM2, gup_s]
      have hf := (hI2.1.fin hf0).ev (2400 + (p + 1)) y0
      refine gw_join0 102 (fun v => v = 2) (fun v79 hv79 => ?_) (fun kj79 => ?_)
      · subst hv79
        refine gw_istore_3 (gc k_Model_goesAlong_1 14 rfl) rfl rfl ?_
        refine gw_iconst (gc k_Model_goesAlong_1 15 rfl) ?_
        refine gw_istore_4 (gc k_Model_goesAlong_1 16 rfl) rfl rfl ?_
        refine gw_iload (gc k_Model_goesAlong_1 17 rfl) rfl ?_
        refine gw_iload_n (gc k_Model_goesAlong_1 18 rfl) rfl ?_
        refine gw_icmp_ge (tgt := 173) (gc k_Model_goesAlong_1 19 rfl) rfl (by omega) (fun c109 => ?_) (fun c109 => ?_)
        · exfalso; omega
        · refine gw_iload (gc k_Model_goesAlong_1 20 rfl) rfl ?_
          refine gw_if_le (tgt := 127) (gc k_Model_goesAlong_1 21 rfl) rfl (by omega) (fun c114 => ?_) (fun c114 => ?_)
          · have hf := (hI2.1.fin hf0).ev (2400 + (p + 1)) y0
            refine gw_aload_n (gc k_Model_goesAlong_1 28 rfl) rfl rfl ?_
            refine gw_iconst (gc k_Model_goesAlong_1 29 rfl) ?_
            refine gw_putZK 24 rfl (gc k_Model_goesAlong_1 30 rfl) fl_Model_271 (gAt hx rfl rfl) (by omega) hf rfl (fun hf => ?_)
            rw [evM_br]
            have hE1 := hI2.E er ho h27 h28 ⟨hdn, hla, allN_bd2 ho, allN_bd ho 0⟩
            have hfS := hI2.1.fin hf0
            have hf := hfS.ev (2400 + (p + 1)) 0
            refine gw_aload_n (gc k_Model_goesAlong_1 31 rfl) rfl rfl ?_
            refine gw_getref (gc k_Model_goesAlong_1 32 rfl) fl_Model_97 (gAt hx rfl rfl) (gRf hf rfl rfl) ?_
            refine gw_iload (gc k_Model_goesAlong_1 33 rfl) rfl ?_
            refine gw_aload_n (gc k_Model_goesAlong_1 34 rfl) rfl rfl ?_
            refine gw_iload_n (gc k_Model_goesAlong_1 35 rfl) rfl ?_
            refine gw_cV1 (gc k_Model_goesAlong_1 36 rfl) y_Model_sumOf ln_Model_288 ((ev_sumK hx hfS hE1 8 _ _ _ _ _ _ hsa (by omega)).2.2 1 0 (by omega) (by omega)) rfl rfl (gAt hx rfl rfl) rfl rfl ?_
            have hf := hfS.ev (2400 + pa) (evB 1 0 (s (owW r dn la (allN r 2) (allN r 0))))
            have hbb1 := evB_01 (live := 1) (br := 0) (v := s (owW r dn la (allN r 2) (allN r 0))) (by omega)
            refine gw_lastF (gc k_Model_goesAlong_1 37 rfl) (gAt hx rfl rfl) (by omega) hf rfl (fun hf => ?_)
            rw [evM_ua _ _ _ _ _ (by decide)]
            have hIs1 := hI2.sm 0 (evV 1 0 (s (owW r dn la (allN r 2) (allN r 0))))
            obtain ⟨b1, hb1⟩ : ∃ b, b = evB 1 0 (s (owW r dn la (allN r 2) (allN r 0))) := ⟨_, rfl⟩
            rw [← hb1] at hbb1 ⊢
            have hf := (hIs1.1.fin hf0).ev (2400 + pa) b1
            refine gw_aload_n (gc k_Model_goesAlong_1 38 rfl) rfl rfl ?_
            refine gw_join0 164 (fun v => v = if (1 : Int) = 1 ∧ b1 = 0 then 1 else 0) (fun v145 hv145 => ?_) (fun kj145 => ?_)
            · refine gw_putZK 45 rfl (gc k_Model_goesAlong_2 8 rfl) fl_Model_458 (gAt hx rfl rfl) (by omega) hf rfl (fun hf => ?_)
              rw [evM_up _ _ _ _ (by decide) (by decide)]
              obtain ⟨a1, ha1⟩ : ∃ a, a = v145 := ⟨_, rfl⟩
              rw [← ha1] at hv145 ⊢
              clear ha1
              have hI3 := hIs1.up (k := 45) a1 (by omega)
              obtain ⟨M3, hM3⟩ : ∃ M, M = gup (gup M2 199 0 (evV 1 0 (s (owW r dn la (allN r 2) (allN r 0))))) 177 45 a1 := ⟨_, rfl⟩
              rw [← hM3] at hI3 ⊢
              have h345 : M3 177 45 = a1 := by rw [hM3, gup_s]
              have h344 : M3 177 44 = kd := by rw [hM3, gup_k _ _ _ _ (by decide), gup_a _ _ _ _ _ (by decide)]; exact h244
              have hs10 : ∀ y, M3 199 y = if y = 0 then evV 1 0 (s (owW r dn la (allN r 2) (allN r 0))) else M2 199 y := fun y => by
                rw [hM3, gup_a _ _ _ _ _ (by decide)]
                by_cases z : y = 0
                · rw [z, gup_s, if_pos rfl]
                · rw [gup_k _ _ _ _ z, if_neg z]
              have hva1 := hv145
              have hva11 : a1 = 0 ∨ a1 = 1 := by rw [hv145]; split <;> omega
              have hf := (hI3.1.fin hf0).ev (2400 + pa) b1
              refine gw_iinc_4 (gc k_Model_goesAlong_2 9 rfl) rfl rfl ?_
              refine gw_goto (tgt := 106) (gc k_Model_goesAlong_2 10 rfl) rfl ?_
              refine gw_iload (gc k_Model_goesAlong_1 17 rfl) rfl ?_
              refine gw_iload_n (gc k_Model_goesAlong_1 18 rfl) rfl ?_
              refine gw_icmp_ge (tgt := 173) (gc k_Model_goesAlong_1 19 rfl) rfl (by omega) (fun c109 => ?_) (fun c109 => ?_)
              · exfalso; omega
              · refine gw_iload (gc k_Model_goesAlong_1 20 rfl) rfl ?_
                refine gw_if_le (tgt := 127) (gc k_Model_goesAlong_1 21 rfl) rfl (by omega) (fun c114 => ?_) (fun c114 => ?_)
                · exfalso; omega
                · refine gw_aload_n (gc k_Model_goesAlong_1 22 rfl) rfl rfl ?_
                  refine gw_dup (gc k_Model_goesAlong_1 23 rfl) rfl ?_
                  refine gw_getf 22 rfl (gc k_Model_goesAlong_1 24 rfl) fl_Model_261 (gAt hx rfl rfl) ?_
                  refine gw_iconst (gc k_Model_goesAlong_1 25 rfl) ?_
                  refine gw_iadd (gc k_Model_goesAlong_1 26 rfl) ?_
                  refine gw_putIK 22 rfl (gc k_Model_goesAlong_1 27 rfl) fl_Model_261 (gAt hx rfl rfl) hf rfl (fun hf => ?_)
                  rw [evM_inc]
                  have hf := (hI3.1.fin hf0).ev (2400 + (pa + 1)) b1
                  refine gw_aload_n (gc k_Model_goesAlong_1 28 rfl) rfl rfl ?_
                  refine gw_iconst (gc k_Model_goesAlong_1 29 rfl) ?_
                  refine gw_putZK 24 rfl (gc k_Model_goesAlong_1 30 rfl) fl_Model_271 (gAt hx rfl rfl) (by omega) hf rfl (fun hf => ?_)
                  rw [evM_br]
                  have hE2 := hI3.E er ho h27 h28 ⟨hdn, hla, allN_bd2 ho, allN_bd ho 0⟩
                  have hfS := hI3.1.fin hf0
                  have hf := hfS.ev (2400 + (pa + 1)) 0
                  refine gw_aload_n (gc k_Model_goesAlong_1 31 rfl) rfl rfl ?_
                  refine gw_getref (gc k_Model_goesAlong_1 32 rfl) fl_Model_97 (gAt hx rfl rfl) (gRf hf rfl rfl) ?_
                  refine gw_iload (gc k_Model_goesAlong_1 33 rfl) rfl ?_
                  refine gw_aload_n (gc k_Model_goesAlong_1 34 rfl) rfl rfl ?_
                  refine gw_iload_n (gc k_Model_goesAlong_1 35 rfl) rfl ?_
                  refine gw_cV1 (gc k_Model_goesAlong_1 36 rfl) y_Model_sumOf ln_Model_288 ((ev_sumK hx hfS hE2 8 _ _ _ _ _ _ hsb (by omega)).2.2 1 0 (by omega) (by omega)) rfl rfl (gAt hx rfl rfl) rfl rfl ?_
                  have hf := hfS.ev (2400 + pb) (evB 1 0 (s2 (owW r dn la (allN r 2) (allN r 0))))
                  have hbb2 := evB_01 (live := 1) (br := 0) (v := s2 (owW r dn la (allN r 2) (allN r 0))) (by omega)
                  refine gw_lastF (gc k_Model_goesAlong_1 37 rfl) (gAt hx rfl rfl) (by omega) hf rfl (fun hf => ?_)
                  rw [evM_ua _ _ _ _ _ (by decide)]
                  have hIs2 := hI3.sm (0 + 1) (evV 1 0 (s2 (owW r dn la (allN r 2) (allN r 0))))
                  obtain ⟨b2, hb2⟩ : ∃ b, b = evB 1 0 (s2 (owW r dn la (allN r 2) (allN r 0))) := ⟨_, rfl⟩
                  rw [← hb2] at hbb2 ⊢
                  have hf := (hIs2.1.fin hf0).ev (2400 + pb) b2
                  refine gw_aload_n (gc k_Model_goesAlong_1 38 rfl) rfl rfl ?_
                  refine gw_join0 164 (fun v => v = if a1 = 1 ∧ b2 = 0 then 1 else 0) (fun v145 hv145 => ?_) (fun kj145 => ?_)
                  · refine gw_putZK 45 rfl (gc k_Model_goesAlong_2 8 rfl) fl_Model_458 (gAt hx rfl rfl) (by omega) hf rfl (fun hf => ?_)
                    rw [evM_up _ _ _ _ (by decide) (by decide)]
                    obtain ⟨a2, ha2⟩ : ∃ a, a = v145 := ⟨_, rfl⟩
                    rw [← ha2] at hv145 ⊢
                    clear ha2
                    have hI4 := hIs2.up (k := 45) a2 (by omega)
                    obtain ⟨M4, hM4⟩ : ∃ M, M = gup (gup M3 199 (0 + 1) (evV 1 0 (s2 (owW r dn la (allN r 2) (allN r 0))))) 177 45 a2 := ⟨_, rfl⟩
                    rw [← hM4] at hI4 ⊢
                    have h445 : M4 177 45 = a2 := by rw [hM4, gup_s]
                    have h444 : M4 177 44 = kd := by rw [hM4, gup_k _ _ _ _ (by decide), gup_a _ _ _ _ _ (by decide)]; exact h344
                    have hs20 : ∀ y, M4 199 y = if y = (0 + 1) then evV 1 0 (s2 (owW r dn la (allN r 2) (allN r 0))) else M3 199 y := fun y => by
                      rw [hM4, gup_a _ _ _ _ _ (by decide)]
                      by_cases z : y = (0 + 1)
                      · rw [z, gup_s, if_pos rfl]
                      · rw [gup_k _ _ _ _ z, if_neg z]
                    have hva2 := hv145
                    have hva21 : a2 = 0 ∨ a2 = 1 := by rw [hv145]; split <;> omega
                    have hf := (hI4.1.fin hf0).ev (2400 + pb) b2
                    refine gw_iinc_4 (gc k_Model_goesAlong_2 9 rfl) rfl rfl ?_
                    refine gw_goto (tgt := 106) (gc k_Model_goesAlong_2 10 rfl) rfl ?_
                    refine gw_iload (gc k_Model_goesAlong_1 17 rfl) rfl ?_
                    refine gw_iload_n (gc k_Model_goesAlong_1 18 rfl) rfl ?_
                    refine gw_icmp_ge (tgt := 173) (gc k_Model_goesAlong_1 19 rfl) rfl (by omega) (fun c109 => ?_) (fun c109 => ?_)
                    · refine gw_aload_n (gc k_Model_goesAlong_2 11 rfl) rfl rfl ?_
                      refine gw_iconst (gc k_Model_goesAlong_2 12 rfl) ?_
                      refine gw_putIK 43 rfl (gc k_Model_goesAlong_2 13 rfl) fl_Model_461 (gAt hx rfl rfl) hf rfl (fun hf => ?_)
                      rw [evM_up _ _ _ _ (by decide) (by decide)]
                      have hI5 := hI4.up (k := 43) 1 (by omega)
                      have hE5 := hI5.E er ho h27 h28 ⟨hdn, hla, allN_bd2 ho, allN_bd ho 0⟩
                      have hf5 := hI5.1.fin hf0
                      refine gw_aload_n (gc k_Model_goesAlong_2 14 rfl) rfl rfl ?_
                      refine gw_bipush (gc k_Model_goesAlong_2 15 rfl) (by decide) ?_
                      refine gw_cV1 (gc k_Model_goesAlong_2 16 rfl) y_Model_passes0 ln_Model_285 (c_Model_passes0 hx hf5 hE5 pb 27 b2 (by omega) (by omega)) rfl rfl (gAt hx rfl rfl) rfl rfl ?_
                      refine gw_beq (tgt := 214) (gc k_Model_goesAlong_2 17 rfl) rfl (fun c184 => ?_) (fun c184 => ?_)
                      · rw [if_neg c184]
                        rcases hTm with ⟨z, -⟩ | ⟨-, htm, hW⟩
                        · exact absurd z c184
                        have hI6 := hI5
                        rw [← htm] at hI6
                        obtain ⟨M6, hM6⟩ : ∃ M, M = gup M4 177 43 tm := ⟨_, rfl⟩
                        rw [← hM6] at hI6
                        rw [show gup M4 177 43 1 = M6 by rw [hM6, htm]]
                        have hE6 := hI6.E er ho h27 h28 ⟨hdn, hla, allN_bd2 ho, allN_bd ho 0⟩
                        have hf6 := hI6.1.fin hf0
                        have hf := hf6.ev (2400 + pb) b2
                        have h643 : M6 177 43 = tm := by rw [hM6, gup_s]
                        have h644 : M6 177 44 = kd := by rw [hM6, gup_k _ _ _ _ (by decide)]; exact h444
                        have h645 : M6 177 45 = a2 := by rw [hM6, gup_k _ _ _ _ (by decide)]; exact h445
                        refine gw_aload_n (gc k_Model_goesAlong_2 33 rfl) rfl rfl ?_
                        refine gw_iconst (gc k_Model_goesAlong_2 34 rfl) ?_
                        refine gw_putZK 24 rfl (gc k_Model_goesAlong_2 35 rfl) fl_Model_271 (gAt hx rfl rfl) (by omega) hf rfl (fun hf => ?_)
                        rw [evM_br]
                        refine gw_aload_n (gc k_Model_goesAlong_2 36 rfl) rfl rfl ?_
                        refine gw_aload_n (gc k_Model_goesAlong_2 37 rfl) rfl rfl ?_
                        refine gw_iconst (gc k_Model_goesAlong_2 38 rfl) ?_
                        refine gw_cV1 (gc k_Model_goesAlong_2 39 rfl) y_Model_passes0 ln_Model_285 (c_Model_passes0 hx hf6 hE6 pb 4 0 (by omega) (by omega)) rfl rfl (gAt hx rfl rfl) rfl rfl ?_
                        refine gw_beq (tgt := 236) (gc k_Model_goesAlong_3 0 rfl) rfl (fun c225 => ?_) (fun c225 => ?_)
                        · rw [if_neg c225]
                          rcases hW with ⟨z, -⟩ | ⟨-, hP2, -, -, ht1⟩
                          · exact absurd z c225
                          have hf := hf6.ev (2400 + pb) 0
                          refine gw_iconst (gc k_Model_goesAlong_3 5 rfl) ?_
                          refine gw_goto (tgt := 241) (gc k_Model_goesAlong_3 6 rfl) rfl ?_
                          refine gw_putZK 46 rfl (gc k_Model_goesAlong_3 8 rfl) fl_Model_464 (gAt hx rfl rfl) (by omega) hf rfl (fun hf => ?_)
                          rw [evM_up _ _ _ _ (by decide) (by decide)]
                          have hf := ((hI6.up (k := 46) 1 (by omega)).1.fin hf0).ev (2400 + pb) 0
                          refine gw_aload_n (gc k_Model_goesAlong_3 9 rfl) rfl rfl ?_
                          refine gw_aload_n (gc k_Model_goesAlong_3 10 rfl) rfl rfl ?_
                          refine gw_getf 46 rfl (gc k_Model_goesAlong_3 11 rfl) fl_Model_464 (gAt hx rfl rfl) ?_
                          rw [evM_k _ _ _ (by decide) (by decide), gup_s]
                          refine gw_if_eq (tgt := 263) (gc k_Model_goesAlong_3 12 rfl) rfl (by omega) (fun c249 => ?_) (fun c249 => ?_)
                          · exact absurd c249 (by decide)
                          · refine gw_aload_n (gc k_Model_goesAlong_3 13 rfl) rfl rfl ?_
                            refine gw_getf 24 rfl (gc k_Model_goesAlong_3 14 rfl) fl_Model_271 (gAt hx rfl rfl) ?_
                            rw [evM_24]
                            refine gw_if_ne (tgt := 263) (gc k_Model_goesAlong_3 15 rfl) rfl (by omega) (fun c256 => ?_) (fun c256 => ?_)
                            · exact absurd rfl c256
                            · refine gw_iconst (gc k_Model_goesAlong_3 16 rfl) ?_
                              refine gw_goto (tgt := 264) (gc k_Model_goesAlong_3 17 rfl) rfl ?_
                              refine gw_putZK 46 rfl (gc k_Model_goesAlong_3 19 rfl) fl_Model_464 (gAt hx rfl rfl) (by omega) hf rfl (fun hf => ?_)
                              rw [evM_up _ _ _ _ (by decide) (by decide), gup_gup]
                              have hI7 := hI6.up (k := 46) 1 (by omega)
                              have hf := (hI7.1.fin hf0).ev (2400 + pb) 0
                              refine gw_aload_n (gc k_Model_goesAlong_3 20 rfl) rfl rfl ?_
                              refine gw_dup (gc k_Model_goesAlong_3 21 rfl) rfl ?_
                              refine gw_getf 22 rfl (gc k_Model_goesAlong_3 22 rfl) fl_Model_261 (gAt hx rfl rfl) ?_
                              refine gw_iconst (gc k_Model_goesAlong_3 23 rfl) ?_
                              refine gw_iadd (gc k_Model_goesAlong_3 24 rfl) ?_
                              refine gw_putIK 22 rfl (gc k_Model_goesAlong_3 25 rfl) fl_Model_261 (gAt hx rfl rfl) hf rfl (fun hf => ?_)
                              rw [evM_inc]
                              refine gw_return (gc k_Model_goesAlong_3 26 rfl) rfl ?_
                              refine ⟨rfl, rfl, ?_, ?_, ?_, ?_, ?_, ?_, fun hz => ⟨?_, ?_, fun hz2 => ?_, ?_, ?_⟩⟩
                              · intro a k h1 h2 h3
                                by_cases z : a = 177
                                · subst z; rw [evM_k _ _ _ (by omega) (by omega)]; exact hI7.1 _ _ h1 h2 h3
                                · rw [evM_fn _ _ _ z]; exact hI7.1 _ _ h1 h2 h3
                              · rw [evM_22]; omega
                              · rw [evM_k _ _ _ (by decide) (by decide), gup_k _ _ _ _ (by decide)]; exact h643
                              · rw [evM_k _ _ _ (by decide) (by decide), gup_k _ _ _ _ (by decide)]; exact h644
                              · rw [evM_k _ _ _ (by decide) (by decide), gup_k _ _ _ _ (by decide)]; rw [h645]; omega
                              · rw [evM_k _ _ _ (by decide) (by decide), gup_s]; omega
                              · rw [evM_k _ _ _ (by decide) (by decide), gup_s, ht1]; exact (bi_1 rfl).symm
                              · rw [evM_k _ _ _ (by decide) (by decide), gup_k _ _ _ _ (by decide)]
                                rw [h645, hva2, hva1, hb1, hb2]
                                exact ga_ss _ _
                              · rw [evM_fn _ _ _ (by decide), gup_fn _ _ _ _ (by decide), hM6, gup_fn _ _ _ _ (by decide), hs20, hs20, hs10, if_neg (by decide), if_pos rfl, if_pos (by decide), evV10, evV10]
                                exact ⟨rfl, rfl⟩
                              · exact bd9_getD (ev_sumK hx hfM E0 8 _ _ _ _ _ _ hsa (by omega)).1
                              · exact bd9_getD (ev_sumK hx hfM E0 8 _ _ _ _ _ _ hsb (by omega)).1
                        · rw [if_pos c225]
                          rcases hW with ⟨-, kk, hte, hok⟩ | ⟨z, -⟩
                          rotate_left
                          · exact absurd c225 z
                          obtain ⟨yt, hy1, hy2, hyt⟩ := (ev_testK hx hf6 hE6 8 _ _ _ _ _ _ hte (by omega)).2 1 0 (by omega) (by omega)
                          refine gw_aload_n (gc k_Model_goesAlong_3 1 rfl) rfl rfl ?_
                          refine gw_iload_n (gc k_Model_goesAlong_3 2 rfl) rfl ?_
                          refine gw_cV1 (gc k_Model_goesAlong_3 3 rfl) y_Model_testOf ln_Model_318 hyt rfl rfl (gAt hx rfl rfl) rfl rfl ?_
                          have hf := hf6.ev (2400 + P2) (evB 1 0 (t (owW r dn la (allN r 2) (allN r 0))))
                          have hbt := evB_01 (live := 1) (br := 0) (v := t (owW r dn la (allN r 2) (allN r 0))) (by omega)
                          refine gw_if_eq (tgt := 240) (gc k_Model_goesAlong_3 4 rfl) rfl (by omega) (fun c233 => ?_) (fun c233 => ?_)
                          · refine gw_iconst (gc k_Model_goesAlong_3 7 rfl) ?_
                            refine gw_putZK 46 rfl (gc k_Model_goesAlong_3 8 rfl) fl_Model_464 (gAt hx rfl rfl) (by omega) hf rfl (fun hf => ?_)
                            rw [evM_up _ _ _ _ (by decide) (by decide)]
                            have hf := ((hI6.up (k := 46) 0 (by omega)).1.fin hf0).ev (2400 + P2) (evB 1 0 (t (owW r dn la (allN r 2) (allN r 0))))
                            refine gw_aload_n (gc k_Model_goesAlong_3 9 rfl) rfl rfl ?_
                            refine gw_aload_n (gc k_Model_goesAlong_3 10 rfl) rfl rfl ?_
                            refine gw_getf 46 rfl (gc k_Model_goesAlong_3 11 rfl) fl_Model_464 (gAt hx rfl rfl) ?_
                            rw [evM_k _ _ _ (by decide) (by decide), gup_s]
                            refine gw_if_eq (tgt := 263) (gc k_Model_goesAlong_3 12 rfl) rfl (by omega) (fun c249 => ?_) (fun c249 => ?_)
                            · refine gw_iconst (gc k_Model_goesAlong_3 18 rfl) ?_
                              refine gw_putZK 46 rfl (gc k_Model_goesAlong_3 19 rfl) fl_Model_464 (gAt hx rfl rfl) (by omega) hf rfl (fun hf => ?_)
                              rw [evM_up _ _ _ _ (by decide) (by decide), gup_gup]
                              have hI7 := hI6.up (k := 46) 0 (by omega)
                              have hf := (hI7.1.fin hf0).ev (2400 + P2) (evB 1 0 (t (owW r dn la (allN r 2) (allN r 0))))
                              refine gw_aload_n (gc k_Model_goesAlong_3 20 rfl) rfl rfl ?_
                              refine gw_dup (gc k_Model_goesAlong_3 21 rfl) rfl ?_
                              refine gw_getf 22 rfl (gc k_Model_goesAlong_3 22 rfl) fl_Model_261 (gAt hx rfl rfl) ?_
                              refine gw_iconst (gc k_Model_goesAlong_3 23 rfl) ?_
                              refine gw_iadd (gc k_Model_goesAlong_3 24 rfl) ?_
                              refine gw_putIK 22 rfl (gc k_Model_goesAlong_3 25 rfl) fl_Model_261 (gAt hx rfl rfl) hf rfl (fun hf => ?_)
                              rw [evM_inc]
                              refine gw_return (gc k_Model_goesAlong_3 26 rfl) rfl ?_
                              refine ⟨rfl, rfl, ?_, ?_, ?_, ?_, ?_, ?_, fun hz => ⟨?_, ?_, fun hz2 => ?_, ?_, ?_⟩⟩
                              · intro a k h1 h2 h3
                                by_cases z : a = 177
                                · subst z; rw [evM_k _ _ _ (by omega) (by omega)]; exact hI7.1 _ _ h1 h2 h3
                                · rw [evM_fn _ _ _ z]; exact hI7.1 _ _ h1 h2 h3
                              · rw [evM_22]; omega
                              · rw [evM_k _ _ _ (by decide) (by decide), gup_k _ _ _ _ (by decide)]; exact h643
                              · rw [evM_k _ _ _ (by decide) (by decide), gup_k _ _ _ _ (by decide)]; exact h644
                              · rw [evM_k _ _ _ (by decide) (by decide), gup_k _ _ _ _ (by decide)]; rw [h645]; omega
                              · rw [evM_k _ _ _ (by decide) (by decide), gup_s]; omega
                              · rw [evM_k _ _ _ (by decide) (by decide), gup_s, ← ga_ts hz hy1 hy2]
                                first | rw [if_pos (by omega)] | rw [if_neg (by omega)]
                              · rw [evM_k _ _ _ (by decide) (by decide), gup_k _ _ _ _ (by decide)]
                                rw [h645, hva2, hva1, hb1, hb2]
                                exact ga_ss _ _
                              · rw [evM_fn _ _ _ (by decide), gup_fn _ _ _ _ (by decide), hM6, gup_fn _ _ _ _ (by decide), hs20, hs20, hs10, if_neg (by decide), if_pos rfl, if_pos (by decide), evV10, evV10]
                                exact ⟨rfl, rfl⟩
                              · exact bd9_getD (ev_sumK hx hfM E0 8 _ _ _ _ _ _ hsa (by omega)).1
                              · exact bd9_getD (ev_sumK hx hfM E0 8 _ _ _ _ _ _ hsb (by omega)).1
                            · exact absurd rfl c249
                          · refine gw_iconst (gc k_Model_goesAlong_3 5 rfl) ?_
                            refine gw_goto (tgt := 241) (gc k_Model_goesAlong_3 6 rfl) rfl ?_
                            refine gw_putZK 46 rfl (gc k_Model_goesAlong_3 8 rfl) fl_Model_464 (gAt hx rfl rfl) (by omega) hf rfl (fun hf => ?_)
                            rw [evM_up _ _ _ _ (by decide) (by decide)]
                            have hf := ((hI6.up (k := 46) 1 (by omega)).1.fin hf0).ev (2400 + P2) (evB 1 0 (t (owW r dn la (allN r 2) (allN r 0))))
                            refine gw_aload_n (gc k_Model_goesAlong_3 9 rfl) rfl rfl ?_
                            refine gw_aload_n (gc k_Model_goesAlong_3 10 rfl) rfl rfl ?_
                            refine gw_getf 46 rfl (gc k_Model_goesAlong_3 11 rfl) fl_Model_464 (gAt hx rfl rfl) ?_
                            rw [evM_k _ _ _ (by decide) (by decide), gup_s]
                            refine gw_if_eq (tgt := 263) (gc k_Model_goesAlong_3 12 rfl) rfl (by omega) (fun c249 => ?_) (fun c249 => ?_)
                            · exact absurd c249 (by decide)
                            · refine gw_aload_n (gc k_Model_goesAlong_3 13 rfl) rfl rfl ?_
                              refine gw_getf 24 rfl (gc k_Model_goesAlong_3 14 rfl) fl_Model_271 (gAt hx rfl rfl) ?_
                              rw [evM_24]
                              refine gw_if_ne (tgt := 263) (gc k_Model_goesAlong_3 15 rfl) rfl (by omega) (fun c256 => ?_) (fun c256 => ?_)
                              · refine gw_iconst (gc k_Model_goesAlong_3 18 rfl) ?_
                                refine gw_putZK 46 rfl (gc k_Model_goesAlong_3 19 rfl) fl_Model_464 (gAt hx rfl rfl) (by omega) hf rfl (fun hf => ?_)
                                rw [evM_up _ _ _ _ (by decide) (by decide), gup_gup]
                                have hI7 := hI6.up (k := 46) 0 (by omega)
                                have hf := (hI7.1.fin hf0).ev (2400 + P2) (evB 1 0 (t (owW r dn la (allN r 2) (allN r 0))))
                                refine gw_aload_n (gc k_Model_goesAlong_3 20 rfl) rfl rfl ?_
                                refine gw_dup (gc k_Model_goesAlong_3 21 rfl) rfl ?_
                                refine gw_getf 22 rfl (gc k_Model_goesAlong_3 22 rfl) fl_Model_261 (gAt hx rfl rfl) ?_
                                refine gw_iconst (gc k_Model_goesAlong_3 23 rfl) ?_
                                refine gw_iadd (gc k_Model_goesAlong_3 24 rfl) ?_
                                refine gw_putIK 22 rfl (gc k_Model_goesAlong_3 25 rfl) fl_Model_261 (gAt hx rfl rfl) hf rfl (fun hf => ?_)
                                rw [evM_inc]
                                refine gw_return (gc k_Model_goesAlong_3 26 rfl) rfl ?_
                                refine ⟨rfl, rfl, ?_, ?_, ?_, ?_, ?_, ?_, fun hz => ⟨?_, ?_, fun hz2 => ?_, ?_, ?_⟩⟩
                                · intro a k h1 h2 h3
                                  by_cases z : a = 177
                                  · subst z; rw [evM_k _ _ _ (by omega) (by omega)]; exact hI7.1 _ _ h1 h2 h3
                                  · rw [evM_fn _ _ _ z]; exact hI7.1 _ _ h1 h2 h3
                                · rw [evM_22]; omega
                                · rw [evM_k _ _ _ (by decide) (by decide), gup_k _ _ _ _ (by decide)]; exact h643
                                · rw [evM_k _ _ _ (by decide) (by decide), gup_k _ _ _ _ (by decide)]; exact h644
                                · rw [evM_k _ _ _ (by decide) (by decide), gup_k _ _ _ _ (by decide)]; rw [h645]; omega
                                · rw [evM_k _ _ _ (by decide) (by decide), gup_s]; omega
                                · rw [evM_k _ _ _ (by decide) (by decide), gup_s, ← ga_ts hz hy1 hy2]
                                  first | rw [if_pos (by omega)] | rw [if_neg (by omega)]
                                · rw [evM_k _ _ _ (by decide) (by decide), gup_k _ _ _ _ (by decide)]
                                  rw [h645, hva2, hva1, hb1, hb2]
                                  exact ga_ss _ _
                                · rw [evM_fn _ _ _ (by decide), gup_fn _ _ _ _ (by decide), hM6, gup_fn _ _ _ _ (by decide), hs20, hs20, hs10, if_neg (by decide), if_pos rfl, if_pos (by decide), evV10, evV10]
                                  exact ⟨rfl, rfl⟩
                                · exact bd9_getD (ev_sumK hx hfM E0 8 _ _ _ _ _ _ hsa (by omega)).1
                                · exact bd9_getD (ev_sumK hx hfM E0 8 _ _ _ _ _ _ hsb (by omega)).1
                              · refine gw_iconst (gc k_Model_goesAlong_3 16 rfl) ?_
                                refine gw_goto (tgt := 264) (gc k_Model_goesAlong_3 17 rfl) rfl ?_
                                refine gw_putZK 46 rfl (gc k_Model_goesAlong_3 19 rfl) fl_Model_464 (gAt hx rfl rfl) (by omega) hf rfl (fun hf => ?_)
                                rw [evM_up _ _ _ _ (by decide) (by decide), gup_gup]
                                have hI7 := hI6.up (k := 46) 1 (by omega)
                                have hf := (hI7.1.fin hf0).ev (2400 + P2) (evB 1 0 (t (owW r dn la (allN r 2) (allN r 0))))
                                refine gw_aload_n (gc k_Model_goesAlong_3 20 rfl) rfl rfl ?_
                                refine gw_dup (gc k_Model_goesAlong_3 21 rfl) rfl ?_
                                refine gw_getf 22 rfl (gc k_Model_goesAlong_3 22 rfl) fl_Model_261 (gAt hx rfl rfl) ?_
                                refine gw_iconst (gc k_Model_goesAlong_3 23 rfl) ?_
                                refine gw_iadd (gc k_Model_goesAlong_3 24 rfl) ?_
                                refine gw_putIK 22 rfl (gc k_Model_goesAlong_3 25 rfl) fl_Model_261 (gAt hx rfl rfl) hf rfl (fun hf => ?_)
                                rw [evM_inc]
                                refine gw_return (gc k_Model_goesAlong_3 26 rfl) rfl ?_
                                refine ⟨rfl, rfl, ?_, ?_, ?_, ?_, ?_, ?_, fun hz => ⟨?_, ?_, fun hz2 => ?_, ?_, ?_⟩⟩
                                · intro a k h1 h2 h3
                                  by_cases z : a = 177
                                  · subst z; rw [evM_k _ _ _ (by omega) (by omega)]; exact hI7.1 _ _ h1 h2 h3
                                  · rw [evM_fn _ _ _ z]; exact hI7.1 _ _ h1 h2 h3
                                · rw [evM_22]; omega
                                · rw [evM_k _ _ _ (by decide) (by decide), gup_k _ _ _ _ (by decide)]; exact h643
                                · rw [evM_k _ _ _ (by decide) (by decide), gup_k _ _ _ _ (by decide)]; exact h644
                                · rw [evM_k _ _ _ (by decide) (by decide), gup_k _ _ _ _ (by decide)]; rw [h645]; omega
                                · rw [evM_k _ _ _ (by decide) (by decide), gup_s]; omega
                                · rw [evM_k _ _ _ (by decide) (by decide), gup_s, ← ga_ts hz hy1 hy2]
                                  first | rw [if_pos (by omega)] | rw [if_neg (by omega)]
                                · rw [evM_k _ _ _ (by decide) (by decide), gup_k _ _ _ _ (by decide)]
                                  rw [h645, hva2, hva1, hb1, hb2]
                                  exact ga_ss _ _
                                · rw [evM_fn _ _ _ (by decide), gup_fn _ _ _ _ (by decide), hM6, gup_fn _ _ _ _ (by decide), hs20, hs20, hs10, if_neg (by decide), if_pos rfl, if_pos (by decide), evV10, evV10]
                                  exact ⟨rfl, rfl⟩
                                · exact bd9_getD (ev_sumK hx hfM E0 8 _ _ _ _ _ _ hsa (by omega)).1
                                · exact bd9_getD (ev_sumK hx hfM E0 8 _ _ _ _ _ _ hsb (by omega)).1
                      · rw [if_pos c184]
                        rcases hTm with ⟨-, hT50, htm, hTv, hW⟩ | ⟨z, -⟩
                        rotate_left
                        · exact absurd c184 z
                        have hf := hf5.ev (2400 + (pb + 1)) b2
                        refine gw_aload_n (gc k_Model_goesAlong_2 18 rfl) rfl rfl ?_
                        refine gw_aload_n (gc k_Model_goesAlong_2 19 rfl) rfl rfl ?_
                        refine gw_getref (gc k_Model_goesAlong_2 20 rfl) fl_Model_28 (gAt hx rfl rfl) (gRf hf rfl rfl) ?_
                        refine gw_sipush (gc k_Model_goesAlong_2 21 rfl) (by decide) ?_
                        refine gw_aload_n (gc k_Model_goesAlong_2 22 rfl) rfl rfl ?_
                        refine gw_getf 22 rfl (gc k_Model_goesAlong_2 23 rfl) fl_Model_261 (gAt hx rfl rfl) ?_
                        rw [evM_22]
                        refine gw_iadd (gc k_Model_goesAlong_2 24 rfl) ?_
                        have hlt := hE5.lt (pb + 1) (by omega) (by omega)
                        rw [hI5.2.2.1] at hlt
                        refine gw_iald (gc k_Model_goesAlong_2 25 rfl) (gAt hx rfl rfl) (by omega) ?_
                        rw [show evM (gup M4 177 43 1) (2400 + (pb + 1)) b2 179 (2852 + (2400 + (pb + 1))) = tm by
                          rw [evM_fn _ _ _ (by decide), show gup M4 177 43 1 179 = r from (funext fun k => hI5.1 179 k (by decide) (by decide) (by omega)).trans er, hTv]; exact congrArg r (by omega)]
                        refine gw_putIK 43 rfl (gc k_Model_goesAlong_2 26 rfl) fl_Model_461 (gAt hx rfl rfl) hf rfl (fun hf => ?_)
                        rw [evM_up _ _ _ _ (by decide) (by decide), gup_gup]
                        have hI6 := hI4.up (k := 43) tm (by omega)
                        have hf := (hI6.1.fin hf0).ev (2400 + (pb + 1)) b2
                        refine gw_aload_n (gc k_Model_goesAlong_2 27 rfl) rfl rfl ?_
                        refine gw_dup (gc k_Model_goesAlong_2 28 rfl) rfl ?_
                        refine gw_getf 22 rfl (gc k_Model_goesAlong_2 29 rfl) fl_Model_261 (gAt hx rfl rfl) ?_
                        refine gw_iconst (gc k_Model_goesAlong_2 30 rfl) ?_
                        refine gw_iadd (gc k_Model_goesAlong_2 31 rfl) ?_
                        refine gw_putIK 22 rfl (gc k_Model_goesAlong_2 32 rfl) fl_Model_261 (gAt hx rfl rfl) hf rfl (fun hf => ?_)
                        rw [evM_inc, show pb + 1 + 1 = pb + 2 by omega]
                        obtain ⟨M6, hM6⟩ : ∃ M, M = gup M4 177 43 tm := ⟨_, rfl⟩
                        rw [← hM6] at hI6 ⊢
                        have hE6 := hI6.E er ho h27 h28 ⟨hdn, hla, allN_bd2 ho, allN_bd ho 0⟩
                        have hf6 := hI6.1.fin hf0
                        have hf := hf6.ev (2400 + (pb + 2)) b2
                        have h643 : M6 177 43 = tm := by rw [hM6, gup_s]
                        have h644 : M6 177 44 = kd := by rw [hM6, gup_k _ _ _ _ (by decide)]; exact h444
                        have h645 : M6 177 45 = a2 := by rw [hM6, gup_k _ _ _ _ (by decide)]; exact h445
                        refine gw_aload_n (gc k_Model_goesAlong_2 33 rfl) rfl rfl ?_
                        refine gw_iconst (gc k_Model_goesAlong_2 34 rfl) ?_
                        refine gw_putZK 24 rfl (gc k_Model_goesAlong_2 35 rfl) fl_Model_271 (gAt hx rfl rfl) (by omega) hf rfl (fun hf => ?_)
                        rw [evM_br]
                        refine gw_aload_n (gc k_Model_goesAlong_2 36 rfl) rfl rfl ?_
                        refine gw_aload_n (gc k_Model_goesAlong_2 37 rfl) rfl rfl ?_
                        refine gw_iconst (gc k_Model_goesAlong_2 38 rfl) ?_
                        refine gw_cV1 (gc k_Model_goesAlong_2 39 rfl) y_Model_passes0 ln_Model_285 (c_Model_passes0 hx hf6 hE6 (pb + 2) 4 0 (by omega) (by omega)) rfl rfl (gAt hx rfl rfl) rfl rfl ?_
                        refine gw_beq (tgt := 236) (gc k_Model_goesAlong_3 0 rfl) rfl (fun c225 => ?_) (fun c225 => ?_)
                        · rw [if_neg c225]
                          rcases hW with ⟨z, -⟩ | ⟨-, hP2, -, -, ht1⟩
                          · exact absurd z c225
                          have hf := hf6.ev (2400 + (pb + 2)) 0
                          refine gw_iconst (gc k_Model_goesAlong_3 5 rfl) ?_
                          refine gw_goto (tgt := 241) (gc k_Model_goesAlong_3 6 rfl) rfl ?_
                          refine gw_putZK 46 rfl (gc k_Model_goesAlong_3 8 rfl) fl_Model_464 (gAt hx rfl rfl) (by omega) hf rfl (fun hf => ?_)
                          rw [evM_up _ _ _ _ (by decide) (by decide)]
                          have hf := ((hI6.up (k := 46) 1 (by omega)).1.fin hf0).ev (2400 + (pb + 2)) 0
                          refine gw_aload_n (gc k_Model_goesAlong_3 9 rfl) rfl rfl ?_
                          refine gw_aload_n (gc k_Model_goesAlong_3 10 rfl) rfl rfl ?_
                          refine gw_getf 46 rfl (gc k_Model_goesAlong_3 11 rfl) fl_Model_464 (gAt hx rfl rfl) ?_
                          rw [evM_k _ _ _ (by decide) (by decide), gup_s]
                          refine gw_if_eq (tgt := 263) (gc k_Model_goesAlong_3 12 rfl) rfl (by omega) (fun c249 => ?_) (fun c249 => ?_)
                          · exact absurd c249 (by decide)
                          · refine gw_aload_n (gc k_Model_goesAlong_3 13 rfl) rfl rfl ?_
                            refine gw_getf 24 rfl (gc k_Model_goesAlong_3 14 rfl) fl_Model_271 (gAt hx rfl rfl) ?_
                            rw [evM_24]
                            refine gw_if_ne (tgt := 263) (gc k_Model_goesAlong_3 15 rfl) rfl (by omega) (fun c256 => ?_) (fun c256 => ?_)
                            · exact absurd rfl c256
                            · refine gw_iconst (gc k_Model_goesAlong_3 16 rfl) ?_
                              refine gw_goto (tgt := 264) (gc k_Model_goesAlong_3 17 rfl) rfl ?_
                              refine gw_putZK 46 rfl (gc k_Model_goesAlong_3 19 rfl) fl_Model_464 (gAt hx rfl rfl) (by omega) hf rfl (fun hf => ?_)
                              rw [evM_up _ _ _ _ (by decide) (by decide), gup_gup]
                              have hI7 := hI6.up (k := 46) 1 (by omega)
                              have hf := (hI7.1.fin hf0).ev (2400 + (pb + 2)) 0
                              refine gw_aload_n (gc k_Model_goesAlong_3 20 rfl) rfl rfl ?_
                              refine gw_dup (gc k_Model_goesAlong_3 21 rfl) rfl ?_
                              refine gw_getf 22 rfl (gc k_Model_goesAlong_3 22 rfl) fl_Model_261 (gAt hx rfl rfl) ?_
                              refine gw_iconst (gc k_Model_goesAlong_3 23 rfl) ?_
                              refine gw_iadd (gc k_Model_goesAlong_3 24 rfl) ?_
                              refine gw_putIK 22 rfl (gc k_Model_goesAlong_3 25 rfl) fl_Model_261 (gAt hx rfl rfl) hf rfl (fun hf => ?_)
                              rw [evM_inc]
                              refine gw_return (gc k_Model_goesAlong_3 26 rfl) rfl ?_
                              refine ⟨rfl, rfl, ?_, ?_, ?_, ?_, ?_, ?_, fun hz => ⟨?_, ?_, fun hz2 => ?_, ?_, ?_⟩⟩
                              · intro a k h1 h2 h3
                                by_cases z : a = 177
                                · subst z; rw [evM_k _ _ _ (by omega) (by omega)]; exact hI7.1 _ _ h1 h2 h3
                                · rw [evM_fn _ _ _ z]; exact hI7.1 _ _ h1 h2 h3
                              · rw [evM_22]; omega
                              · rw [evM_k _ _ _ (by decide) (by decide), gup_k _ _ _ _ (by decide)]; exact h643
                              · rw [evM_k _ _ _ (by decide) (by decide), gup_k _ _ _ _ (by decide)]; exact h644
                              · rw [evM_k _ _ _ (by decide) (by decide), gup_k _ _ _ _ (by decide)]; rw [h645]; omega
                              · rw [evM_k _ _ _ (by decide) (by decide), gup_s]; omega
                              · rw [evM_k _ _ _ (by decide) (by decide), gup_s, ht1]; exact (bi_1 rfl).symm
                              · rw [evM_k _ _ _ (by decide) (by decide), gup_k _ _ _ _ (by decide)]
                                rw [h645, hva2, hva1, hb1, hb2]
                                exact ga_ss _ _
                              · rw [evM_fn _ _ _ (by decide), gup_fn _ _ _ _ (by decide), hM6, gup_fn _ _ _ _ (by decide), hs20, hs20, hs10, if_neg (by decide), if_pos rfl, if_pos (by decide), evV10, evV10]
                                exact ⟨rfl, rfl⟩
                              · exact bd9_getD (ev_sumK hx hfM E0 8 _ _ _ _ _ _ hsa (by omega)).1
                              · exact bd9_getD (ev_sumK hx hfM E0 8 _ _ _ _ _ _ hsb (by omega)).1
                        · rw [if_pos c225]
                          rcases hW with ⟨-, kk, hte, hok⟩ | ⟨z, -⟩
                          rotate_left
                          · exact absurd c225 z
                          obtain ⟨yt, hy1, hy2, hyt⟩ := (ev_testK hx hf6 hE6 8 _ _ _ _ _ _ hte (by omega)).2 1 0 (by omega) (by omega)
                          refine gw_aload_n (gc k_Model_goesAlong_3 1 rfl) rfl rfl ?_
                          refine gw_iload_n (gc k_Model_goesAlong_3 2 rfl) rfl ?_
                          refine gw_cV1 (gc k_Model_goesAlong_3 3 rfl) y_Model_testOf ln_Model_318 hyt rfl rfl (gAt hx rfl rfl) rfl rfl ?_
                          have hf := hf6.ev (2400 + P2) (evB 1 0 (t (owW r dn la (allN r 2) (allN r 0))))
                          have hbt := evB_01 (live := 1) (br := 0) (v := t (owW r dn la (allN r 2) (allN r 0))) (by omega)
                          refine gw_if_eq (tgt := 240) (gc k_Model_goesAlong_3 4 rfl) rfl (by omega) (fun c233 => ?_) (fun c233 => ?_)
                          · refine gw_iconst (gc k_Model_goesAlong_3 7 rfl) ?_
                            refine gw_putZK 46 rfl (gc k_Model_goesAlong_3 8 rfl) fl_Model_464 (gAt hx rfl rfl) (by omega) hf rfl (fun hf => ?_)
                            rw [evM_up _ _ _ _ (by decide) (by decide)]
                            have hf := ((hI6.up (k := 46) 0 (by omega)).1.fin hf0).ev (2400 + P2) (evB 1 0 (t (owW r dn la (allN r 2) (allN r 0))))
                            refine gw_aload_n (gc k_Model_goesAlong_3 9 rfl) rfl rfl ?_
                            refine gw_aload_n (gc k_Model_goesAlong_3 10 rfl) rfl rfl ?_
                            refine gw_getf 46 rfl (gc k_Model_goesAlong_3 11 rfl) fl_Model_464 (gAt hx rfl rfl) ?_
                            rw [evM_k _ _ _ (by decide) (by decide), gup_s]
                            refine gw_if_eq (tgt := 263) (gc k_Model_goesAlong_3 12 rfl) rfl (by omega) (fun c249 => ?_) (fun c249 => ?_)
                            · refine gw_iconst (gc k_Model_goesAlong_3 18 rfl) ?_
                              refine gw_putZK 46 rfl (gc k_Model_goesAlong_3 19 rfl) fl_Model_464 (gAt hx rfl rfl) (by omega) hf rfl (fun hf => ?_)
                              rw [evM_up _ _ _ _ (by decide) (by decide), gup_gup]
                              have hI7 := hI6.up (k := 46) 0 (by omega)
                              have hf := (hI7.1.fin hf0).ev (2400 + P2) (evB 1 0 (t (owW r dn la (allN r 2) (allN r 0))))
                              refine gw_aload_n (gc k_Model_goesAlong_3 20 rfl) rfl rfl ?_
                              refine gw_dup (gc k_Model_goesAlong_3 21 rfl) rfl ?_
                              refine gw_getf 22 rfl (gc k_Model_goesAlong_3 22 rfl) fl_Model_261 (gAt hx rfl rfl) ?_
                              refine gw_iconst (gc k_Model_goesAlong_3 23 rfl) ?_
                              refine gw_iadd (gc k_Model_goesAlong_3 24 rfl) ?_
                              refine gw_putIK 22 rfl (gc k_Model_goesAlong_3 25 rfl) fl_Model_261 (gAt hx rfl rfl) hf rfl (fun hf => ?_)
                              rw [evM_inc]
                              refine gw_return (gc k_Model_goesAlong_3 26 rfl) rfl ?_
                              refine ⟨rfl, rfl, ?_, ?_, ?_, ?_, ?_, ?_, fun hz => ⟨?_, ?_, fun hz2 => ?_, ?_, ?_⟩⟩
                              · intro a k h1 h2 h3
                                by_cases z : a = 177
                                · subst z; rw [evM_k _ _ _ (by omega) (by omega)]; exact hI7.1 _ _ h1 h2 h3
                                · rw [evM_fn _ _ _ z]; exact hI7.1 _ _ h1 h2 h3
                              · rw [evM_22]; omega
                              · rw [evM_k _ _ _ (by decide) (by decide), gup_k _ _ _ _ (by decide)]; exact h643
                              · rw [evM_k _ _ _ (by decide) (by decide), gup_k _ _ _ _ (by decide)]; exact h644
                              · rw [evM_k _ _ _ (by decide) (by decide), gup_k _ _ _ _ (by decide)]; rw [h645]; omega
                              · rw [evM_k _ _ _ (by decide) (by decide), gup_s]; omega
                              · rw [evM_k _ _ _ (by decide) (by decide), gup_s, ← ga_ts hz hy1 hy2]
                                first | rw [if_pos (by omega)] | rw [if_neg (by omega)]
                              · rw [evM_k _ _ _ (by decide) (by decide), gup_k _ _ _ _ (by decide)]
                                rw [h645, hva2, hva1, hb1, hb2]
                                exact ga_ss _ _
                              · rw [evM_fn _ _ _ (by decide), gup_fn _ _ _ _ (by decide), hM6, gup_fn _ _ _ _ (by decide), hs20, hs20, hs10, if_neg (by decide), if_pos rfl, if_pos (by decide), evV10, evV10]
                                exact ⟨rfl, rfl⟩
                              · exact bd9_getD (ev_sumK hx hfM E0 8 _ _ _ _ _ _ hsa (by omega)).1
                              · exact bd9_getD (ev_sumK hx hfM E0 8 _ _ _ _ _ _ hsb (by omega)).1
                            · exact absurd rfl c249
                          · refine gw_iconst (gc k_Model_goesAlong_3 5 rfl) ?_
                            refine gw_goto (tgt := 241) (gc k_Model_goesAlong_3 6 rfl) rfl ?_
                            refine gw_putZK 46 rfl (gc k_Model_goesAlong_3 8 rfl) fl_Model_464 (gAt hx rfl rfl) (by omega) hf rfl (fun hf => ?_)
                            rw [evM_up _ _ _ _ (by decide) (by decide)]
                            have hf := ((hI6.up (k := 46) 1 (by omega)).1.fin hf0).ev (2400 + P2) (evB 1 0 (t (owW r dn la (allN r 2) (allN r 0))))
                            refine gw_aload_n (gc k_Model_goesAlong_3 9 rfl) rfl rfl ?_
                            refine gw_aload_n (gc k_Model_goesAlong_3 10 rfl) rfl rfl ?_
                            refine gw_getf 46 rfl (gc k_Model_goesAlong_3 11 rfl) fl_Model_464 (gAt hx rfl rfl) ?_
                            rw [evM_k _ _ _ (by decide) (by decide), gup_s]
                            refine gw_if_eq (tgt := 263) (gc k_Model_goesAlong_3 12 rfl) rfl (by omega) (fun c249 => ?_) (fun c249 => ?_)
                            · exact absurd c249 (by decide)
                            · refine gw_aload_n (gc k_Model_goesAlong_3 13 rfl) rfl rfl ?_
                              refine gw_getf 24 rfl (gc k_Model_goesAlong_3 14 rfl) fl_Model_271 (gAt hx rfl rfl) ?_
                              rw [evM_24]
                              refine gw_if_ne (tgt := 263) (gc k_Model_goesAlong_3 15 rfl) rfl (by omega) (fun c256 => ?_) (fun c256 => ?_)
                              · refine gw_iconst (gc k_Model_goesAlong_3 18 rfl) ?_
                                refine gw_putZK 46 rfl (gc k_Model_goesAlong_3 19 rfl) fl_Model_464 (gAt hx rfl rfl) (by omega) hf rfl (fun hf => ?_)
                                rw [evM_up _ _ _ _ (by decide) (by decide), gup_gup]
                                have hI7 := hI6.up (k := 46) 0 (by omega)
                                have hf := (hI7.1.fin hf0).ev (2400 + P2) (evB 1 0 (t (owW r dn la (allN r 2) (allN r 0))))
                                refine gw_aload_n (gc k_Model_goesAlong_3 20 rfl) rfl rfl ?_
                                refine gw_dup (gc k_Model_goesAlong_3 21 rfl) rfl ?_
                                refine gw_getf 22 rfl (gc k_Model_goesAlong_3 22 rfl) fl_Model_261 (gAt hx rfl rfl) ?_
                                refine gw_iconst (gc k_Model_goesAlong_3 23 rfl) ?_
                                refine gw_iadd (gc k_Model_goesAlong_3 24 rfl) ?_
                                refine gw_putIK 22 rfl (gc k_Model_goesAlong_3 25 rfl) fl_Model_261 (gAt hx rfl rfl) hf rfl (fun hf => ?_)
                                rw [evM_inc]
                                refine gw_return (gc k_Model_goesAlong_3 26 rfl) rfl ?_
                                refine ⟨rfl, rfl, ?_, ?_, ?_, ?_, ?_, ?_, fun hz => ⟨?_, ?_, fun hz2 => ?_, ?_, ?_⟩⟩
                                · intro a k h1 h2 h3
                                  by_cases z : a = 177
                                  · subst z; rw [evM_k _ _ _ (by omega) (by omega)]; exact hI7.1 _ _ h1 h2 h3
                                  · rw [evM_fn _ _ _ z]; exact hI7.1 _ _ h1 h2 h3
                                · rw [evM_22]; omega
                                · rw [evM_k _ _ _ (by decide) (by decide), gup_k _ _ _ _ (by decide)]; exact h643
                                · rw [evM_k _ _ _ (by decide) (by decide), gup_k _ _ _ _ (by decide)]; exact h644
                                · rw [evM_k _ _ _ (by decide) (by decide), gup_k _ _ _ _ (by decide)]; rw [h645]; omega
                                · rw [evM_k _ _ _ (by decide) (by decide), gup_s]; omega
                                · rw [evM_k _ _ _ (by decide) (by decide), gup_s, ← ga_ts hz hy1 hy2]
                                  first | rw [if_pos (by omega)] | rw [if_neg (by omega)]
                                · rw [evM_k _ _ _ (by decide) (by decide), gup_k _ _ _ _ (by decide)]
                                  rw [h645, hva2, hva1, hb1, hb2]
                                  exact ga_ss _ _
                                · rw [evM_fn _ _ _ (by decide), gup_fn _ _ _ _ (by decide), hM6, gup_fn _ _ _ _ (by decide), hs20, hs20, hs10, if_neg (by decide), if_pos rfl, if_pos (by decide), evV10, evV10]
                                  exact ⟨rfl, rfl⟩
                                · exact bd9_getD (ev_sumK hx hfM E0 8 _ _ _ _ _ _ hsa (by omega)).1
                                · exact bd9_getD (ev_sumK hx hfM E0 8 _ _ _ _ _ _ hsb (by omega)).1
                              · refine gw_iconst (gc k_Model_goesAlong_3 16 rfl) ?_
                                refine gw_goto (tgt := 264) (gc k_Model_goesAlong_3 17 rfl) rfl ?_
                                refine gw_putZK 46 rfl (gc k_Model_goesAlong_3 19 rfl) fl_Model_464 (gAt hx rfl rfl) (by omega) hf rfl (fun hf => ?_)
                                rw [evM_up _ _ _ _ (by decide) (by decide), gup_gup]
                                have hI7 := hI6.up (k := 46) 1 (by omega)
                                have hf := (hI7.1.fin hf0).ev (2400 + P2) (evB 1 0 (t (owW r dn la (allN r 2) (allN r 0))))
                                refine gw_aload_n (gc k_Model_goesAlong_3 20 rfl) rfl rfl ?_
                                refine gw_dup (gc k_Model_goesAlong_3 21 rfl) rfl ?_
                                refine gw_getf 22 rfl (gc k_Model_goesAlong_3 22 rfl) fl_Model_261 (gAt hx rfl rfl) ?_
                                refine gw_iconst (gc k_Model_goesAlong_3 23 rfl) ?_
                                refine gw_iadd (gc k_Model_goesAlong_3 24 rfl) ?_
                                refine gw_putIK 22 rfl (gc k_Model_goesAlong_3 25 rfl) fl_Model_261 (gAt hx rfl rfl) hf rfl (fun hf => ?_)
                                rw [evM_inc]
                                refine gw_return (gc k_Model_goesAlong_3 26 rfl) rfl ?_
                                refine ⟨rfl, rfl, ?_, ?_, ?_, ?_, ?_, ?_, fun hz => ⟨?_, ?_, fun hz2 => ?_, ?_, ?_⟩⟩
                                · intro a k h1 h2 h3
                                  by_cases z : a = 177
                                  · subst z; rw [evM_k _ _ _ (by omega) (by omega)]; exact hI7.1 _ _ h1 h2 h3
                                  · rw [evM_fn _ _ _ z]; exact hI7.1 _ _ h1 h2 h3
                                · rw [evM_22]; omega
                                · rw [evM_k _ _ _ (by decide) (by decide), gup_k _ _ _ _ (by decide)]; exact h643
                                · rw [evM_k _ _ _ (by decide) (by decide), gup_k _ _ _ _ (by decide)]; exact h644
                                · rw [evM_k _ _ _ (by decide) (by decide), gup_k _ _ _ _ (by decide)]; rw [h645]; omega
                                · rw [evM_k _ _ _ (by decide) (by decide), gup_s]; omega
                                · rw [evM_k _ _ _ (by decide) (by decide), gup_s, ← ga_ts hz hy1 hy2]
                                  first | rw [if_pos (by omega)] | rw [if_neg (by omega)]
                                · rw [evM_k _ _ _ (by decide) (by decide), gup_k _ _ _ _ (by decide)]
                                  rw [h645, hva2, hva1, hb1, hb2]
                                  exact ga_ss _ _
                                · rw [evM_fn _ _ _ (by decide), gup_fn _ _ _ _ (by decide), hM6, gup_fn _ _ _ _ (by decide), hs20, hs20, hs10, if_neg (by decide), if_pos rfl, if_pos (by decide), evV10, evV10]
                                  exact ⟨rfl, rfl⟩
                                · exact bd9_getD (ev_sumK hx hfM E0 8 _ _ _ _ _ _ hsa (by omega)).1
                                · exact bd9_getD (ev_sumK hx hfM E0 8 _ _ _ _ _ _ hsb (by omega)).1
                    · exfalso; omega
                  · refine gw_aload_n (gc k_Model_goesAlong_1 39 rfl) rfl rfl ?_
                    refine gw_getf 45 rfl (gc k_Model_goesAlong_2 0 rfl) fl_Model_458 (gAt hx rfl rfl) ?_
                    rw [evM_k _ _ _ (by decide) (by decide), gup_a _ _ _ _ _ (by decide), h345]
                    refine gw_if_eq (tgt := 163) (gc k_Model_goesAlong_2 1 rfl) rfl (by omega) (fun c149 => ?_) (fun c149 => ?_)
                    · refine gw_iconst (gc k_Model_goesAlong_2 7 rfl) ?_
                      exact kj145 _ (by first | (exfalso; omega) | rw [if_pos (by omega)] | rw [if_neg (by omega)])
                    · refine gw_aload_n (gc k_Model_goesAlong_2 2 rfl) rfl rfl ?_
                      refine gw_getf 24 rfl (gc k_Model_goesAlong_2 3 rfl) fl_Model_271 (gAt hx rfl rfl) ?_
                      rw [evM_24]
                      refine gw_if_ne (tgt := 163) (gc k_Model_goesAlong_2 4 rfl) rfl (by omega) (fun c156 => ?_) (fun c156 => ?_)
                      · refine gw_iconst (gc k_Model_goesAlong_2 7 rfl) ?_
                        exact kj145 _ (by first | (exfalso; omega) | rw [if_pos (by omega)] | rw [if_neg (by omega)])
                      · refine gw_iconst (gc k_Model_goesAlong_2 5 rfl) ?_
                        refine gw_goto (tgt := 164) (gc k_Model_goesAlong_2 6 rfl) rfl ?_
                        exact kj145 _ (by first | (exfalso; omega) | rw [if_pos (by omega)] | rw [if_neg (by omega)])
            · refine gw_aload_n (gc k_Model_goesAlong_1 39 rfl) rfl rfl ?_
              refine gw_getf 45 rfl (gc k_Model_goesAlong_2 0 rfl) fl_Model_458 (gAt hx rfl rfl) ?_
              rw [evM_k _ _ _ (by decide) (by decide), gup_a _ _ _ _ _ (by decide), h245]
              refine gw_if_eq (tgt := 163) (gc k_Model_goesAlong_2 1 rfl) rfl (by omega) (fun c149 => ?_) (fun c149 => ?_)
              · refine gw_iconst (gc k_Model_goesAlong_2 7 rfl) ?_
                exact kj145 _ (by first | (exfalso; omega) | rw [if_pos (by omega)] | rw [if_neg (by omega)])
              · refine gw_aload_n (gc k_Model_goesAlong_2 2 rfl) rfl rfl ?_
                refine gw_getf 24 rfl (gc k_Model_goesAlong_2 3 rfl) fl_Model_271 (gAt hx rfl rfl) ?_
                rw [evM_24]
                refine gw_if_ne (tgt := 163) (gc k_Model_goesAlong_2 4 rfl) rfl (by omega) (fun c156 => ?_) (fun c156 => ?_)
                · refine gw_iconst (gc k_Model_goesAlong_2 7 rfl) ?_
                  exact kj145 _ (by first | (exfalso; omega) | rw [if_pos (by omega)] | rw [if_neg (by omega)])
                · refine gw_iconst (gc k_Model_goesAlong_2 5 rfl) ?_
                  refine gw_goto (tgt := 164) (gc k_Model_goesAlong_2 6 rfl) rfl ?_
                  exact kj145 _ (by first | (exfalso; omega) | rw [if_pos (by omega)] | rw [if_neg (by omega)])
          · exfalso; omega
      · refine gw_aload_n (gc k_Model_goesAlong_1 3 rfl) rfl rfl ?_
        refine gw_getf 44 rfl (gc k_Model_goesAlong_1 4 rfl) fl_Model_455 (gAt hx rfl rfl) ?_
        rw [evM_k _ _ _ (by decide) (by decide), h244]
        refine gw_bipush (gc k_Model_goesAlong_1 5 rfl) (by decide) ?_
        refine gw_icmp_eq (tgt := 97) (gc k_Model_goesAlong_1 6 rfl) rfl (by omega) (fun c85 => ?_) (fun c85 => ?_)
        · refine gw_iconst (gc k_Model_goesAlong_1 11 rfl) ?_
          refine gw_goto (tgt := 102) (gc k_Model_goesAlong_1 12 rfl) rfl ?_
          exact kj79 _ (by first | rfl | (exfalso; omega))
        · refine gw_aload_n (gc k_Model_goesAlong_1 7 rfl) rfl rfl ?_
          refine gw_getf 44 rfl (gc k_Model_goesAlong_1 8 rfl) fl_Model_455 (gAt hx rfl rfl) ?_
          rw [evM_k _ _ _ (by decide) (by decide), h244]
          refine gw_bipush (gc k_Model_goesAlong_1 9 rfl) (by decide) ?_
          refine gw_icmp_ne (tgt := 101) (gc k_Model_goesAlong_1 10 rfl) rfl (by omega) (fun c94 => ?_) (fun c94 => ?_)
          · refine gw_iconst (gc k_Model_goesAlong_1 13 rfl) ?_
            exact kj79 _ (by first | rfl | (exfalso; omega))
          · refine gw_iconst (gc k_Model_goesAlong_1 11 rfl) ?_
            refine gw_goto (tgt := 102) (gc k_Model_goesAlong_1 12 rfl) rfl ?_
            exact kj79 _ (by first | rfl | (exfalso; omega))
set_option maxHeartbeats 8000000 in
theorem c_along10 {sh : gS} {g : gM} (hx : gFix sh) (hf : gFin g) {r : Int → Int} (er : g 179 = r) (ho : rowOK r) (hl : lawsOK r) {dn la : Int} (h27 : g 177 27 = dn) (h28 : g 177 28 = la) (hdn : 0 ≤ dn ∧ dn ≤ 1000) (hla : -1 ≤ la ∧ la ≤ 12) {p n : Int} (hp : 0 ≤ p ∧ p ≤ 400) (h42 : g 177 42 = 2400 + p) {P2 N2 kd : Int} {c : PK} {s : PS} {c2 : PK} {s2 : PS} {tm : Int} {ok : Option PK} {t : PS} (e : pOrder (rT r 6) (rV r 6) (pSum (rT r 6) (rV r 6) true 8) (pTest (rT r 6) (rV r 6) true 8) p n = .inr (P2, N2, kd, c, s, c2, s2, tm, ok, t)) (hkd : ¬ (kd = 22 ∨ kd = 23)) : gTri f_Model_goesAlong 45 0 0 [(2, 177), (0, 2400 + r 51), (0, 1)] sh g (fun x s2_ g2 => x = none ∧ s2_ = sh ∧ gaQ g 2400 1 kd tm s s2 t (owW r dn la (allN r 2) (allN r 0)) P2 g2) := by
  have hm := ro_many ho
  have hf0 := hf
  have hs51 := ro_size ho 51 (by omega)
  obtain ⟨hTp, hpv⟩ := pOr_inv e
  have hTm : otT (rT r 6) (rV r 6) (pTest (rT r 6) (rV r 6) true 8) P2 N2 tm ok t (p + 1) n := by
    rcases hpv with ⟨q, -⟩ | ⟨-, -, -, q⟩
    · omega
    · exact q
  have hk2 : kd = 24 ∨ kd = 25 := by
    rcases hpv with ⟨q, -⟩ | ⟨q, -⟩
    · omega
    · exact q
  have hs0 : s = fun _ => some 0 := by
    rcases hpv with ⟨q, -⟩ | ⟨-, q, -, -⟩
    · omega
    · exact q.2
  have hs20 : s2 = fun _ => some 0 := by
    rcases hpv with ⟨q, -⟩ | ⟨-, -, q, -⟩
    · omega
    · exact q.2
  clear hpv
  have hok6 := rT_ok r hs51
  have hpl := hok6 p (by omega)
  refine gTri.of (by decide +kernel) rfl ?_
  show gWP f_Model_goesAlong _ _ _ 0 [(2, 177), (0, 2400 + r 51), (0, 1), (9, 0), (9, 0)] [] sh g _
  refine gw_aload_n (gc k_Model_goesAlong_0 0 rfl) rfl rfl ?_
  refine gw_iload_n (gc k_Model_goesAlong_0 1 rfl) rfl ?_
  refine gw_if_eq (tgt := 13) (gc k_Model_goesAlong_0 2 rfl) rfl (by omega) (fun c2 => ?_) (fun c2 => ?_)
  · exact absurd c2 (by decide)
  · refine gw_aload_n (gc k_Model_goesAlong_0 3 rfl) rfl rfl ?_
    refine gw_iconst (gc k_Model_goesAlong_0 4 rfl) ?_
    refine gw_xV1 (gc k_Model_goesAlong_0 5 rfl) y_Model_allOf ln_Model_332 (c_Model_allOf hx hf 2 (by omega) (by rw [er]; exact ho) (by rw [er]; exact hl)) rfl rfl (gAt hx rfl rfl) rfl rfl (fun r7 sh2 g7 hq7 => ?_)
    rw [er] at hq7
    obtain ⟨rfl, rfl, hq7⟩ := hq7
    have hf := hf.sk hq7
    have e7 : g7 179 = r := (hq7.fn (by decide) (by decide)).trans er
    refine gw_goto (tgt := 14) (gc k_Model_goesAlong_0 6 rfl) rfl ?_
    refine gw_putIK 29 rfl (gc k_Model_goesAlong_0 8 rfl) fl_Model_303 (gAt hx rfl rfl) hf rfl (fun hf => ?_)
    refine gw_aload_n (gc k_Model_goesAlong_0 9 rfl) rfl rfl ?_
    refine gw_iload_n (gc k_Model_goesAlong_0 10 rfl) rfl ?_
    refine gw_if_eq (tgt := 30) (gc k_Model_goesAlong_0 11 rfl) rfl (by omega) (fun c19 => ?_) (fun c19 => ?_)
    · exact absurd c19 (by decide)
    · refine gw_aload_n (gc k_Model_goesAlong_0 12 rfl) rfl rfl ?_
      refine gw_iconst (gc k_Model_goesAlong_0 13 rfl) ?_
      refine gw_xV1 (gc k_Model_goesAlong_0 14 rfl) y_Model_allOf ln_Model_332 (c_Model_allOf hx hf 0 (by omega) (by rw [gup_fn _ _ _ _ (by decide), e7]; exact ho) (by rw [gup_fn _ _ _ _ (by decide), e7]; exact hl)) rfl rfl (gAt hx rfl rfl) rfl rfl (fun r24 sh2 g24 hq24 => ?_)
      rw [gup_fn _ _ _ _ (by decide), e7] at hq24
      obtain ⟨rfl, rfl, hq24⟩ := hq24
      have hf := hf.sk hq24
      refine gw_goto (tgt := 31) (gc k_Model_goesAlong_0 15 rfl) rfl ?_
      refine gw_putIK 30 rfl (gc k_Model_goesAlong_0 17 rfl) fl_Model_306 (gAt hx rfl rfl) hf rfl (fun hf => ?_)
      refine gw_aload_n (gc k_Model_goesAlong_0 18 rfl) rfl rfl ?_
      refine gw_iconst (gc k_Model_goesAlong_0 19 rfl) ?_
      refine gw_putZK 25 rfl (gc k_Model_goesAlong_0 20 rfl) fl_Model_291 (gAt hx rfl rfl) (by omega) hf rfl (fun hf => ?_)
      refine gw_aload_n (gc k_Model_goesAlong_0 21 rfl) rfl rfl ?_
      refine gw_iload_n (gc k_Model_goesAlong_0 22 rfl) rfl ?_
      refine gw_putIK 23 rfl (gc k_Model_goesAlong_0 23 rfl) fl_Model_258 (gAt hx rfl rfl) hf rfl (fun hf => ?_)
      have hI0 : gaI g (2400 + r 51) (allN r 2) (allN r 0) (gup (gup (gup g24 177 30 (allN r 0)) 177 25 1) 177 23 (2400 + r 51)) := by
        refine ⟨fun a k h1 h2 h3 => ?_, gup_k _ _ _ _ (by decide) |>.trans (gup_s _ _ _ _), gup_s _ _ _ _, ?_, ?_⟩
        · by_cases z : a = 177
          · subst z
            rw [gup_k _ _ _ _ (by omega), gup_k _ _ _ _ (by omega), gup_k _ _ _ _ (by omega), hq24.fl (by omega), gup_k _ _ _ _ (by omega), hq7.fl (by omega)]
          · rw [gup_a _ _ _ _ _ z, gup_a _ _ _ _ _ z, gup_a _ _ _ _ _ z, hq24.fn z h2, gup_a _ _ _ _ _ z, hq7.fn z h2]
        · rw [gup_k _ _ _ _ (by decide), gup_k _ _ _ _ (by decide), gup_k _ _ _ _ (by decide), hq24.fl (by omega), gup_s]
        · rw [gup_k _ _ _ _ (by decide), gup_k _ _ _ _ (by decide), gup_s]
      obtain ⟨M0, hM0⟩ : ∃ M, M = (gup (gup (gup g24 177 30 (allN r 0)) 177 25 1) 177 23 (2400 + r 51)) := ⟨_, rfl⟩
      rw [← hM0] at hI0 ⊢
      have hfM : gFin M0 := hI0.1.fin hf0
      have hf := hfM
      have E0 := hI0.E er ho h27 h28 ⟨hdn, hla, allN_bd2 ho, allN_bd ho 0⟩
      refine gw_aload_n (gc k_Model_goesAlong_0 24 rfl) rfl rfl ?_
      refine gw_aload_n (gc k_Model_goesAlong_0 25 rfl) rfl rfl ?_
      refine gw_getf 42 rfl (gc k_Model_goesAlong_0 26 rfl) fl_Model_446 (gAt hx rfl rfl) ?_
      rw [hI0.1 177 42 (by decide) (by decide) (by omega), h42]
      refine gw_putIK 22 rfl (gc k_Model_goesAlong_0 27 rfl) fl_Model_261 (gAt hx rfl rfl) hf rfl (fun hf => ?_)
      rw [evM_of]
      obtain ⟨y0, hy0⟩ : ∃ y, y = M0 177 24 := ⟨_, rfl⟩
      rw [← hy0]
      have hf := hfM.ev (2400 + p) y0
      refine gw_aload_n (gc k_Model_goesAlong_0 28 rfl) rfl rfl ?_
      refine gw_aload_n (gc k_Model_goesAlong_0 29 rfl) rfl rfl ?_
      refine gw_aload_n (gc k_Model_goesAlong_0 30 rfl) rfl rfl ?_
      refine gw_getf 22 rfl (gc k_Model_goesAlong_0 31 rfl) fl_Model_261 (gAt hx rfl rfl) ?_
      rw [evM_22]
      refine gw_cV1 (gc k_Model_goesAlong_0 32 rfl) y_Model_codeAt ln_Model_264 (c_codeAt hx hfM E0 p _ _ (by omega)) rfl rfl (gAt hx rfl rfl) rfl rfl ?_
      rw [hTp]
      refine gw_putIK 44 rfl (gc k_Model_goesAlong_0 33 rfl) fl_Model_455 (gAt hx rfl rfl) hf rfl (fun hf => ?_)
      rw [evM_up _ _ _ _ (by decide) (by decide)]
      have hI1 := hI0.up (k := 44) kd (by omega)
      have hf := (hI1.1.fin hf0).ev (2400 + p) y0
      refine gw_aload_n (gc k_Model_goesAlong_0 34 rfl) rfl rfl ?_
      refine gw_dup (gc k_Model_goesAlong_0 35 rfl) rfl ?_
      refine gw_getf 22 rfl (gc k_Model_goesAlong_0 36 rfl) fl_Model_261 (gAt hx rfl rfl) ?_
      refine gw_iconst (gc k_Model_goesAlong_0 37 rfl) ?_
      refine gw_iadd (gc k_Model_goesAlong_0 38 rfl) ?_
      refine gw_putIK 22 rfl (gc k_Model_goesAlong_0 39 rfl) fl_Model_261 (gAt hx rfl rfl) hf rfl (fun hf => ?_)
      rw [evM_inc]
      have hf := (hI1.1.fin hf0).ev (2400 + (p + 1)) y0
      refine gw_aload_n (gc k_Model_goesAlong_1 0 rfl) rfl rfl ?_
      refine gw_iconst (gc k_Model_goesAlong_1 1 rfl) ?_
      refine gw_putZK 45 rfl (gc k_Model_goesAlong_1 2 rfl) fl_Model_458 (gAt hx rfl rfl) (by omega) hf rfl (fun hf => ?_)
      rw [evM_up _ _ _ _ (by decide) (by decide)]
      have hI2 := hI1.up (k := 45) 1 (by omega)
      obtain ⟨M2, hM2⟩ : ∃ M, M = gup (gup M0 177 44 kd) 177 45 1 := ⟨_, rfl⟩
      rw [← hM2] at hI2 ⊢
      have h244 : M2 177 44 = kd := by rw [hM2, gup_k _ _ _ _ (by decide), gup_s]
      have h245 : M2 177 45 = 1 := by rw [hM2, gup_s]
      have hf := (hI2.1.fin hf0).ev (2400 + (p + 1)) y0
      refine gw_join0 102 (fun v => v = 0) (fun v79 hv79 => ?_) (fun kj79 => ?_)
      · subst hv79
        refine gw_istore_3 (gc k_Model_goesAlong_1 14 rfl) rfl rfl ?_
        refine gw_iconst (gc k_Model_goesAlong_1 15 rfl) ?_
        refine gw_istore_4 (gc k_Model_goesAlong_1 16 rfl) rfl rfl ?_
        refine gw_iload (gc k_Model_goesAlong_1 17 rfl) rfl ?_
        refine gw_iload_n (gc k_Model_goesAlong_1 18 rfl) rfl ?_
        refine gw_icmp_ge (tgt := 173) (gc k_Model_goesAlong_1 19 rfl) rfl (by omega) (fun c109 => ?_) (fun c109 => ?_)
        · refine gw_aload_n (gc k_Model_goesAlong_2 11 rfl) rfl rfl ?_
          refine gw_iconst (gc k_Model_goesAlong_2 12 rfl) ?_
          refine gw_putIK 43 rfl (gc k_Model_goesAlong_2 13 rfl) fl_Model_461 (gAt hx rfl rfl) hf rfl (fun hf => ?_)
          rw [evM_up _ _ _ _ (by decide) (by decide)]
          have hI5 := hI2.up (k := 43) 1 (by omega)
          have hE5 := hI5.E er ho h27 h28 ⟨hdn, hla, allN_bd2 ho, allN_bd ho 0⟩
          have hf5 := hI5.1.fin hf0
          refine gw_aload_n (gc k_Model_goesAlong_2 14 rfl) rfl rfl ?_
          refine gw_bipush (gc k_Model_goesAlong_2 15 rfl) (by decide) ?_
          refine gw_cV1 (gc k_Model_goesAlong_2 16 rfl) y_Model_passes0 ln_Model_285 (c_Model_passes0 hx hf5 hE5 (p + 1) 27 y0 (by omega) (by omega)) rfl rfl (gAt hx rfl rfl) rfl rfl ?_
          refine gw_beq (tgt := 214) (gc k_Model_goesAlong_2 17 rfl) rfl (fun c184 => ?_) (fun c184 => ?_)
          · rw [if_neg c184]
            rcases hTm with ⟨z, -⟩ | ⟨-, htm, hW⟩
            · exact absurd z c184
            have hI6 := hI5
            rw [← htm] at hI6
            obtain ⟨M6, hM6⟩ : ∃ M, M = gup M2 177 43 tm := ⟨_, rfl⟩
            rw [← hM6] at hI6
            rw [show gup M2 177 43 1 = M6 by rw [hM6, htm]]
            have hE6 := hI6.E er ho h27 h28 ⟨hdn, hla, allN_bd2 ho, allN_bd ho 0⟩
            have hf6 := hI6.1.fin hf0
            have hf := hf6.ev (2400 + (p + 1)) y0
            have h643 : M6 177 43 = tm := by rw [hM6, gup_s]
            have h644 : M6 177 44 = kd := by rw [hM6, gup_k _ _ _ _ (by decide)]; exact h244
            have h645 : M6 177 45 = 1 := by rw [hM6, gup_k _ _ _ _ (by decide)]; exact h245
            refine gw_aload_n (gc k_Model_goesAlong_2 33 rfl) rfl rfl ?_
            refine gw_iconst (gc k_Model_goesAlong_2 34 rfl) ?_
            refine gw_putZK 24 rfl (gc k_Model_goesAlong_2 35 rfl) fl_Model_271 (gAt hx rfl rfl) (by omega) hf rfl (fun hf => ?_)
            rw [evM_br]
            refine gw_aload_n (gc k_Model_goesAlong_2 36 rfl) rfl rfl ?_
            refine gw_aload_n (gc k_Model_goesAlong_2 37 rfl) rfl rfl ?_
            refine gw_iconst (gc k_Model_goesAlong_2 38 rfl) ?_
            refine gw_cV1 (gc k_Model_goesAlong_2 39 rfl) y_Model_passes0 ln_Model_285 (c_Model_passes0 hx hf6 hE6 (p + 1) 4 0 (by omega) (by omega)) rfl rfl (gAt hx rfl rfl) rfl rfl ?_
            refine gw_beq (tgt := 236) (gc k_Model_goesAlong_3 0 rfl) rfl (fun c225 => ?_) (fun c225 => ?_)
            · rw [if_neg c225]
              rcases hW with ⟨z, -⟩ | ⟨-, hP2, -, -, ht1⟩
              · exact absurd z c225
              have hf := hf6.ev (2400 + (p + 1)) 0
              refine gw_iconst (gc k_Model_goesAlong_3 5 rfl) ?_
              refine gw_goto (tgt := 241) (gc k_Model_goesAlong_3 6 rfl) rfl ?_
              refine gw_putZK 46 rfl (gc k_Model_goesAlong_3 8 rfl) fl_Model_464 (gAt hx rfl rfl) (by omega) hf rfl (fun hf => ?_)
              rw [evM_up _ _ _ _ (by decide) (by decide)]
              have hf := ((hI6.up (k := 46) 1 (by omega)).1.fin hf0).ev (2400 + (p + 1)) 0
              refine gw_aload_n (gc k_Model_goesAlong_3 9 rfl) rfl rfl ?_
              refine gw_aload_n (gc k_Model_goesAlong_3 10 rfl) rfl rfl ?_
              refine gw_getf 46 rfl (gc k_Model_goesAlong_3 11 rfl) fl_Model_464 (gAt hx rfl rfl) ?_
              rw [evM_k _ _ _ (by decide) (by decide), gup_s]
              refine gw_if_eq (tgt := 263) (gc k_Model_goesAlong_3 12 rfl) rfl (by omega) (fun c249 => ?_) (fun c249 => ?_)
              · exact absurd c249 (by decide)
              · refine gw_aload_n (gc k_Model_goesAlong_3 13 rfl) rfl rfl ?_
                refine gw_getf 24 rfl (gc k_Model_goesAlong_3 14 rfl) fl_Model_271 (gAt hx rfl rfl) ?_
                rw [evM_24]
                refine gw_if_ne (tgt := 263) (gc k_Model_goesAlong_3 15 rfl) rfl (by omega) (fun c256 => ?_) (fun c256 => ?_)
                · exact absurd rfl c256
                · refine gw_iconst (gc k_Model_goesAlong_3 16 rfl) ?_
                  refine gw_goto (tgt := 264) (gc k_Model_goesAlong_3 17 rfl) rfl ?_
                  refine gw_putZK 46 rfl (gc k_Model_goesAlong_3 19 rfl) fl_Model_464 (gAt hx rfl rfl) (by omega) hf rfl (fun hf => ?_)
                  rw [evM_up _ _ _ _ (by decide) (by decide), gup_gup]
                  have hI7 := hI6.up (k := 46) 1 (by omega)
                  have hf := (hI7.1.fin hf0).ev (2400 + (p + 1)) 0
                  refine gw_aload_n (gc k_Model_goesAlong_3 20 rfl) rfl rfl ?_
                  refine gw_dup (gc k_Model_goesAlong_3 21 rfl) rfl ?_
                  refine gw_getf 22 rfl (gc k_Model_goesAlong_3 22 rfl) fl_Model_261 (gAt hx rfl rfl) ?_
                  refine gw_iconst (gc k_Model_goesAlong_3 23 rfl) ?_
                  refine gw_iadd (gc k_Model_goesAlong_3 24 rfl) ?_
                  refine gw_putIK 22 rfl (gc k_Model_goesAlong_3 25 rfl) fl_Model_261 (gAt hx rfl rfl) hf rfl (fun hf => ?_)
                  rw [evM_inc]
                  refine gw_return (gc k_Model_goesAlong_3 26 rfl) rfl ?_
                  refine ⟨rfl, rfl, ?_, ?_, ?_, ?_, ?_, ?_, fun hz => ⟨?_, ?_, fun hz2 => ?_, ?_, ?_⟩⟩
                  · intro a k h1 h2 h3
                    by_cases z : a = 177
                    · subst z; rw [evM_k _ _ _ (by omega) (by omega)]; exact hI7.1 _ _ h1 h2 h3
                    · rw [evM_fn _ _ _ z]; exact hI7.1 _ _ h1 h2 h3
                  · rw [evM_22]; omega
                  · rw [evM_k _ _ _ (by decide) (by decide), gup_k _ _ _ _ (by decide)]; exact h643
                  · rw [evM_k _ _ _ (by decide) (by decide), gup_k _ _ _ _ (by decide)]; exact h644
                  · rw [evM_k _ _ _ (by decide) (by decide), gup_k _ _ _ _ (by decide)]; rw [h645]; omega
                  · rw [evM_k _ _ _ (by decide) (by decide), gup_s]; omega
                  · rw [evM_k _ _ _ (by decide) (by decide), gup_s, ht1]; exact (bi_1 rfl).symm
                  · rw [evM_k _ _ _ (by decide) (by decide), gup_k _ _ _ _ (by decide)]
                    rw [h645, hs0, hs20]; rfl
                  · exfalso; omega
                  · rw [hs0]; show bd9 0; exact ⟨by decide, by decide⟩
                  · rw [hs20]; show bd9 0; exact ⟨by decide, by decide⟩
            · rw [if_pos c225]
              rcases hW with ⟨-, kk, hte, hok⟩ | ⟨z, -⟩
              rotate_left
              · exact absurd c225 z
              obtain ⟨yt, hy1, hy2, hyt⟩ := (ev_testK hx hf6 hE6 8 _ _ _ _ _ _ hte (by omega)).2 1 0 (by omega) (by omega)
              refine gw_aload_n (gc k_Model_goesAlong_3 1 rfl) rfl rfl ?_
              refine gw_iload_n (gc k_Model_goesAlong_3 2 rfl) rfl ?_
              refine gw_cV1 (gc k_Model_goesAlong_3 3 rfl) y_Model_testOf ln_Model_318 hyt rfl rfl (gAt hx rfl rfl) rfl rfl ?_
              have hf := hf6.ev (2400 + P2) (evB 1 0 (t (owW r dn la (allN r 2) (allN r 0))))
              have hbt := evB_01 (live := 1) (br := 0) (v := t (owW r dn la (allN r 2) (allN r 0))) (by omega)
              refine gw_if_eq (tgt := 240) (gc k_Model_goesAlong_3 4 rfl) rfl (by omega) (fun c233 => ?_) (fun c233 => ?_)
              · refine gw_iconst (gc k_Model_goesAlong_3 7 rfl) ?_
                refine gw_putZK 46 rfl (gc k_Model_goesAlong_3 8 rfl) fl_Model_464 (gAt hx rfl rfl) (by omega) hf rfl (fun hf => ?_)
                rw [evM_up _ _ _ _ (by decide) (by decide)]
                have hf := ((hI6.up (k := 46) 0 (by omega)).1.fin hf0).ev (2400 + P2) (evB 1 0 (t (owW r dn la (allN r 2) (allN r 0))))
                refine gw_aload_n (gc k_Model_goesAlong_3 9 rfl) rfl rfl ?_
                refine gw_aload_n (gc k_Model_goesAlong_3 10 rfl) rfl rfl ?_
                refine gw_getf 46 rfl (gc k_Model_goesAlong_3 11 rfl) fl_Model_464 (gAt hx rfl rfl) ?_
                rw [evM_k _ _ _ (by decide) (by decide), gup_s]
                refine gw_if_eq (tgt := 263) (gc k_Model_goesAlong_3 12 rfl) rfl (by omega) (fun c249 => ?_) (fun c249 => ?_)
                · refine gw_iconst (gc k_Model_goesAlong_3 18 rfl) ?_
                  refine gw_putZK 46 rfl (gc k_Model_goesAlong_3 19 rfl) fl_Model_464 (gAt hx rfl rfl) (by omega) hf rfl (fun hf => ?_)
                  rw [evM_up _ _ _ _ (by decide) (by decide), gup_gup]
                  have hI7 := hI6.up (k := 46) 0 (by omega)
                  have hf := (hI7.1.fin hf0).ev (2400 + P2) (evB 1 0 (t (owW r dn la (allN r 2) (allN r 0))))
                  refine gw_aload_n (gc k_Model_goesAlong_3 20 rfl) rfl rfl ?_
                  refine gw_dup (gc k_Model_goesAlong_3 21 rfl) rfl ?_
                  refine gw_getf 22 rfl (gc k_Model_goesAlong_3 22 rfl) fl_Model_261 (gAt hx rfl rfl) ?_
                  refine gw_iconst (gc k_Model_goesAlong_3 23 rfl) ?_
                  refine gw_iadd (gc k_Model_goesAlong_3 24 rfl) ?_
                  refine gw_putIK 22 rfl (gc k_Model_goesAlong_3 25 rfl) fl_Model_261 (gAt hx rfl rfl) hf rfl (fun hf => ?_)
                  rw [evM_inc]
                  refine gw_return (gc k_Model_goesAlong_3 26 rfl) rfl ?_
                  refine ⟨rfl, rfl, ?_, ?_, ?_, ?_, ?_, ?_, fun hz => ⟨?_, ?_, fun hz2 => ?_, ?_, ?_⟩⟩
                  · intro a k h1 h2 h3
                    by_cases z : a = 177
                    · subst z; rw [evM_k _ _ _ (by omega) (by omega)]; exact hI7.1 _ _ h1 h2 h3
                    · rw [evM_fn _ _ _ z]; exact hI7.1 _ _ h1 h2 h3
                  · rw [evM_22]; omega
                  · rw [evM_k _ _ _ (by decide) (by decide), gup_k _ _ _ _ (by decide)]; exact h643
                  · rw [evM_k _ _ _ (by decide) (by decide), gup_k _ _ _ _ (by decide)]; exact h644
                  · rw [evM_k _ _ _ (by decide) (by decide), gup_k _ _ _ _ (by decide)]; rw [h645]; omega
                  · rw [evM_k _ _ _ (by decide) (by decide), gup_s]; omega
                  · rw [evM_k _ _ _ (by decide) (by decide), gup_s, ← ga_ts hz hy1 hy2]
                    first | rw [if_pos (by omega)] | rw [if_neg (by omega)]
                  · rw [evM_k _ _ _ (by decide) (by decide), gup_k _ _ _ _ (by decide)]
                    rw [h645, hs0, hs20]; rfl
                  · exfalso; omega
                  · rw [hs0]; show bd9 0; exact ⟨by decide, by decide⟩
                  · rw [hs20]; show bd9 0; exact ⟨by decide, by decide⟩
                · exact absurd rfl c249
              · refine gw_iconst (gc k_Model_goesAlong_3 5 rfl) ?_
                refine gw_goto (tgt := 241) (gc k_Model_goesAlong_3 6 rfl) rfl ?_
                refine gw_putZK 46 rfl (gc k_Model_goesAlong_3 8 rfl) fl_Model_464 (gAt hx rfl rfl) (by omega) hf rfl (fun hf => ?_)
                rw [evM_up _ _ _ _ (by decide) (by decide)]
                have hf := ((hI6.up (k := 46) 1 (by omega)).1.fin hf0).ev (2400 + P2) (evB 1 0 (t (owW r dn la (allN r 2) (allN r 0))))
                refine gw_aload_n (gc k_Model_goesAlong_3 9 rfl) rfl rfl ?_
                refine gw_aload_n (gc k_Model_goesAlong_3 10 rfl) rfl rfl ?_
                refine gw_getf 46 rfl (gc k_Model_goesAlong_3 11 rfl) fl_Model_464 (gAt hx rfl rfl) ?_
                rw [evM_k _ _ _ (by decide) (by decide), gup_s]
                refine gw_if_eq (tgt := 263) (gc k_Model_goesAlong_3 12 rfl) rfl (by omega) (fun c249 => ?_) (fun c249 => ?_)
                · exact absurd c249 (by decide)
                · refine gw_aload_n (gc k_Model_goesAlong_3 13 rfl) rfl rfl ?_
                  refine gw_getf 24 rfl (gc k_Model_goesAlong_3 14 rfl) fl_Model_271 (gAt hx rfl rfl) ?_
                  rw [evM_24]
                  refine gw_if_ne (tgt := 263) (gc k_Model_goesAlong_3 15 rfl) rfl (by omega) (fun c256 => ?_) (fun c256 => ?_)
                  · refine gw_iconst (gc k_Model_goesAlong_3 18 rfl) ?_
                    refine gw_putZK 46 rfl (gc k_Model_goesAlong_3 19 rfl) fl_Model_464 (gAt hx rfl rfl) (by omega) hf rfl (fun hf => ?_)
                    rw [evM_up _ _ _ _ (by decide) (by decide), gup_gup]
                    have hI7 := hI6.up (k := 46) 0 (by omega)
                    have hf := (hI7.1.fin hf0).ev (2400 + P2) (evB 1 0 (t (owW r dn la (allN r 2) (allN r 0))))
                    refine gw_aload_n (gc k_Model_goesAlong_3 20 rfl) rfl rfl ?_
                    refine gw_dup (gc k_Model_goesAlong_3 21 rfl) rfl ?_
                    refine gw_getf 22 rfl (gc k_Model_goesAlong_3 22 rfl) fl_Model_261 (gAt hx rfl rfl) ?_
                    refine gw_iconst (gc k_Model_goesAlong_3 23 rfl) ?_
                    refine gw_iadd (gc k_Model_goesAlong_3 24 rfl) ?_
                    refine gw_putIK 22 rfl (gc k_Model_goesAlong_3 25 rfl) fl_Model_261 (gAt hx rfl rfl) hf rfl (fun hf => ?_)
                    rw [evM_inc]
                    refine gw_return (gc k_Model_goesAlong_3 26 rfl) rfl ?_
                    refine ⟨rfl, rfl, ?_, ?_, ?_, ?_, ?_, ?_, fun hz => ⟨?_, ?_, fun hz2 => ?_, ?_, ?_⟩⟩
                    · intro a k h1 h2 h3
                      by_cases z : a = 177
                      · subst z; rw [evM_k _ _ _ (by omega) (by omega)]; exact hI7.1 _ _ h1 h2 h3
                      · rw [evM_fn _ _ _ z]; exact hI7.1 _ _ h1 h2 h3
                    · rw [evM_22]; omega
                    · rw [evM_k _ _ _ (by decide) (by decide), gup_k _ _ _ _ (by decide)]; exact h643
                    · rw [evM_k _ _ _ (by decide) (by decide), gup_k _ _ _ _ (by decide)]; exact h644
                    · rw [evM_k _ _ _ (by decide) (by decide), gup_k _ _ _ _ (by decide)]; rw [h645]; omega
                    · rw [evM_k _ _ _ (by decide) (by decide), gup_s]; omega
                    · rw [evM_k _ _ _ (by decide) (by decide), gup_s, ← ga_ts hz hy1 hy2]
                      first | rw [if_pos (by omega)] | rw [if_neg (by omega)]
                    · rw [evM_k _ _ _ (by decide) (by decide), gup_k _ _ _ _ (by decide)]
                      rw [h645, hs0, hs20]; rfl
                    · exfalso; omega
                    · rw [hs0]; show bd9 0; exact ⟨by decide, by decide⟩
                    · rw [hs20]; show bd9 0; exact ⟨by decide, by decide⟩
                  · refine gw_iconst (gc k_Model_goesAlong_3 16 rfl) ?_
                    refine gw_goto (tgt := 264) (gc k_Model_goesAlong_3 17 rfl) rfl ?_
                    refine gw_putZK 46 rfl (gc k_Model_goesAlong_3 19 rfl) fl_Model_464 (gAt hx rfl rfl) (by omega) hf rfl (fun hf => ?_)
                    rw [evM_up _ _ _ _ (by decide) (by decide), gup_gup]
                    have hI7 := hI6.up (k := 46) 1 (by omega)
                    have hf := (hI7.1.fin hf0).ev (2400 + P2) (evB 1 0 (t (owW r dn la (allN r 2) (allN r 0))))
                    refine gw_aload_n (gc k_Model_goesAlong_3 20 rfl) rfl rfl ?_
                    refine gw_dup (gc k_Model_goesAlong_3 21 rfl) rfl ?_
                    refine gw_getf 22 rfl (gc k_Model_goesAlong_3 22 rfl) fl_Model_261 (gAt hx rfl rfl) ?_
                    refine gw_iconst (gc k_Model_goesAlong_3 23 rfl) ?_
                    refine gw_iadd (gc k_Model_goesAlong_3 24 rfl) ?_
                    refine gw_putIK 22 rfl (gc k_Model_goesAlong_3 25 rfl) fl_Model_261 (gAt hx rfl rfl) hf rfl (fun hf => ?_)
                    rw [evM_inc]
                    refine gw_return (gc k_Model_goesAlong_3 26 rfl) rfl ?_
                    refine ⟨rfl, rfl, ?_, ?_, ?_, ?_, ?_, ?_, fun hz => ⟨?_, ?_, fun hz2 => ?_, ?_, ?_⟩⟩
                    · intro a k h1 h2 h3
                      by_cases z : a = 177
                      · subst z; rw [evM_k _ _ _ (by omega) (by omega)]; exact hI7.1 _ _ h1 h2 h3
                      · rw [evM_fn _ _ _ z]; exact hI7.1 _ _ h1 h2 h3
                    · rw [evM_22]; omega
                    · rw [evM_k _ _ _ (by decide) (by decide), gup_k _ _ _ _ (by decide)]; exact h643
                    · rw [evM_k _ _ _ (by decide) (by decide), gup_k _ _ _ _ (by decide)]; exact h644
                    · rw [evM_k _ _ _ (by decide) (by decide), gup_k _ _ _ _ (by decide)]; rw [h645]; omega
                    · rw [evM_k _ _ _ (by decide) (by decide), gup_s]; omega
                    · rw [evM_k _ _ _ (by decide) (by decide), gup_s, ← ga_ts hz hy1 hy2]
                      first | rw [if_pos (by omega)] | rw [if_neg (by omega)]
                    · rw [evM_k _ _ _ (by decide) (by decide), gup_k _ _ _ _ (by decide)]
                      rw [h645, hs0, hs20]; rfl
                    · exfalso; omega
                    · rw [hs0]; show bd9 0; exact ⟨by decide, by decide⟩
                    · rw [hs20]; show bd9 0; exact ⟨by decide, by decide⟩
          · rw [if_pos c184]
            rcases hTm with ⟨-, hT50, htm, hTv, hW⟩ | ⟨z, -⟩
            rotate_left
            · exact absurd c184 z
            have hf := hf5.ev (2400 + ((p + 1) + 1)) y0
            refine gw_aload_n (gc k_Model_goesAlong_2 18 rfl) rfl rfl ?_
            refine gw_aload_n (gc k_Model_goesAlong_2 19 rfl) rfl rfl ?_
            refine gw_getref (gc k_Model_goesAlong_2 20 rfl) fl_Model_28 (gAt hx rfl rfl) (gRf hf rfl rfl) ?_
            refine gw_sipush (gc k_Model_goesAlong_2 21 rfl) (by decide) ?_
            refine gw_aload_n (gc k_Model_goesAlong_2 22 rfl) rfl rfl ?_
            refine gw_getf 22 rfl (gc k_Model_goesAlong_2 23 rfl) fl_Model_261 (gAt hx rfl rfl) ?_
            rw [evM_22]
            refine gw_iadd (gc k_Model_goesAlong_2 24 rfl) ?_
            have hlt := hE5.lt ((p + 1) + 1) (by omega) (by omega)
            rw [hI5.2.2.1] at hlt
            refine gw_iald (gc k_Model_goesAlong_2 25 rfl) (gAt hx rfl rfl) (by omega) ?_
            rw [show evM (gup M2 177 43 1) (2400 + ((p + 1) + 1)) y0 179 (2852 + (2400 + ((p + 1) + 1))) = tm by
              rw [evM_fn _ _ _ (by decide), show gup M2 177 43 1 179 = r from (funext fun k => hI5.1 179 k (by decide) (by decide) (by omega)).trans er, hTv]; exact congrArg r (by omega)]
            refine gw_putIK 43 rfl (gc k_Model_goesAlong_2 26 rfl) fl_Model_461 (gAt hx rfl rfl) hf rfl (fun hf => ?_)
            rw [evM_up _ _ _ _ (by decide) (by decide), gup_gup]
            have hI6 := hI2.up (k := 43) tm (by omega)
            have hf := (hI6.1.fin hf0).ev (2400 + ((p + 1) + 1)) y0
            refine gw_aload_n (gc k_Model_goesAlong_2 27 rfl) rfl rfl ?_
            refine gw_dup (gc k_Model_goesAlong_2 28 rfl) rfl ?_
            refine gw_getf 22 rfl (gc k_Model_goesAlong_2 29 rfl) fl_Model_261 (gAt hx rfl rfl) ?_
            refine gw_iconst (gc k_Model_goesAlong_2 30 rfl) ?_
            refine gw_iadd (gc k_Model_goesAlong_2 31 rfl) ?_
            refine gw_putIK 22 rfl (gc k_Model_goesAlong_2 32 rfl) fl_Model_261 (gAt hx rfl rfl) hf rfl (fun hf => ?_)
            rw [evM_inc, show (p + 1) + 1 + 1 = (p + 1) + 2 by omega]
            obtain ⟨M6, hM6⟩ : ∃ M, M = gup M2 177 43 tm := ⟨_, rfl⟩
            rw [← hM6] at hI6 ⊢
            have hE6 := hI6.E er ho h27 h28 ⟨hdn, hla, allN_bd2 ho, allN_bd ho 0⟩
            have hf6 := hI6.1.fin hf0
            have hf := hf6.ev (2400 + ((p + 1) + 2)) y0
            have h643 : M6 177 43 = tm := by rw [hM6, gup_s]
            have h644 : M6 177 44 = kd := by rw [hM6, gup_k _ _ _ _ (by decide)]; exact h244
            have h645 : M6 177 45 = 1 := by rw [hM6, gup_k _ _ _ _ (by decide)]; exact h245
            refine gw_aload_n (gc k_Model_goesAlong_2 33 rfl) rfl rfl ?_
            refine gw_iconst (gc k_Model_goesAlong_2 34 rfl) ?_
            refine gw_putZK 24 rfl (gc k_Model_goesAlong_2 35 rfl) fl_Model_271 (gAt hx rfl rfl) (by omega) hf rfl (fun hf => ?_)
            rw [evM_br]
            refine gw_aload_n (gc k_Model_goesAlong_2 36 rfl) rfl rfl ?_
            refine gw_aload_n (gc k_Model_goesAlong_2 37 rfl) rfl rfl ?_
            refine gw_iconst (gc k_Model_goesAlong_2 38 rfl) ?_
            refine gw_cV1 (gc k_Model_goesAlong_2 39 rfl) y_Model_passes0 ln_Model_285 (c_Model_passes0 hx hf6 hE6 ((p + 1) + 2) 4 0 (by omega) (by omega)) rfl rfl (gAt hx rfl rfl) rfl rfl ?_
            refine gw_beq (tgt := 236) (gc k_Model_goesAlong_3 0 rfl) rfl (fun c225 => ?_) (fun c225 => ?_)
            · rw [if_neg c225]
              rcases hW with ⟨z, -⟩ | ⟨-, hP2, -, -, ht1⟩
              · exact absurd z c225
              have hf := hf6.ev (2400 + ((p + 1) + 2)) 0
              refine gw_iconst (gc k_Model_goesAlong_3 5 rfl) ?_
              refine gw_goto (tgt := 241) (gc k_Model_goesAlong_3 6 rfl) rfl ?_
              refine gw_putZK 46 rfl (gc k_Model_goesAlong_3 8 rfl) fl_Model_464 (gAt hx rfl rfl) (by omega) hf rfl (fun hf => ?_)
              rw [evM_up _ _ _ _ (by decide) (by decide)]
              have hf := ((hI6.up (k := 46) 1 (by omega)).1.fin hf0).ev (2400 + ((p + 1) + 2)) 0
              refine gw_aload_n (gc k_Model_goesAlong_3 9 rfl) rfl rfl ?_
              refine gw_aload_n (gc k_Model_goesAlong_3 10 rfl) rfl rfl ?_
              refine gw_getf 46 rfl (gc k_Model_goesAlong_3 11 rfl) fl_Model_464 (gAt hx rfl rfl) ?_
              rw [evM_k _ _ _ (by decide) (by decide), gup_s]
              refine gw_if_eq (tgt := 263) (gc k_Model_goesAlong_3 12 rfl) rfl (by omega) (fun c249 => ?_) (fun c249 => ?_)
              · exact absurd c249 (by decide)
              · refine gw_aload_n (gc k_Model_goesAlong_3 13 rfl) rfl rfl ?_
                refine gw_getf 24 rfl (gc k_Model_goesAlong_3 14 rfl) fl_Model_271 (gAt hx rfl rfl) ?_
                rw [evM_24]
                refine gw_if_ne (tgt := 263) (gc k_Model_goesAlong_3 15 rfl) rfl (by omega) (fun c256 => ?_) (fun c256 => ?_)
                · exact absurd rfl c256
                · refine gw_iconst (gc k_Model_goesAlong_3 16 rfl) ?_
                  refine gw_goto (tgt := 264) (gc k_Model_goesAlong_3 17 rfl) rfl ?_
                  refine gw_putZK 46 rfl (gc k_Model_goesAlong_3 19 rfl) fl_Model_464 (gAt hx rfl rfl) (by omega) hf rfl (fun hf => ?_)
                  rw [evM_up _ _ _ _ (by decide) (by decide), gup_gup]
                  have hI7 := hI6.up (k := 46) 1 (by omega)
                  have hf := (hI7.1.fin hf0).ev (2400 + ((p + 1) + 2)) 0
                  refine gw_aload_n (gc k_Model_goesAlong_3 20 rfl) rfl rfl ?_
                  refine gw_dup (gc k_Model_goesAlong_3 21 rfl) rfl ?_
                  refine gw_getf 22 rfl (gc k_Model_goesAlong_3 22 rfl) fl_Model_261 (gAt hx rfl rfl) ?_
                  refine gw_iconst (gc k_Model_goesAlong_3 23 rfl) ?_
                  refine gw_iadd (gc k_Model_goesAlong_3 24 rfl) ?_
                  refine gw_putIK 22 rfl (gc k_Model_goesAlong_3 25 rfl) fl_Model_261 (gAt hx rfl rfl) hf rfl (fun hf => ?_)
                  rw [evM_inc]
                  refine gw_return (gc k_Model_goesAlong_3 26 rfl) rfl ?_
                  refine ⟨rfl, rfl, ?_, ?_, ?_, ?_, ?_, ?_, fun hz => ⟨?_, ?_, fun hz2 => ?_, ?_, ?_⟩⟩
                  · intro a k h1 h2 h3
                    by_cases z : a = 177
                    · subst z; rw [evM_k _ _ _ (by omega) (by omega)]; exact hI7.1 _ _ h1 h2 h3
                    · rw [evM_fn _ _ _ z]; exact hI7.1 _ _ h1 h2 h3
                  · rw [evM_22]; omega
                  · rw [evM_k _ _ _ (by decide) (by decide), gup_k _ _ _ _ (by decide)]; exact h643
                  · rw [evM_k _ _ _ (by decide) (by decide), gup_k _ _ _ _ (by decide)]; exact h644
                  · rw [evM_k _ _ _ (by decide) (by decide), gup_k _ _ _ _ (by decide)]; rw [h645]; omega
                  · rw [evM_k _ _ _ (by decide) (by decide), gup_s]; omega
                  · rw [evM_k _ _ _ (by decide) (by decide), gup_s, ht1]; exact (bi_1 rfl).symm
                  · rw [evM_k _ _ _ (by decide) (by decide), gup_k _ _ _ _ (by decide)]
                    rw [h645, hs0, hs20]; rfl
                  · exfalso; omega
                  · rw [hs0]; show bd9 0; exact ⟨by decide, by decide⟩
                  · rw [hs20]; show bd9 0; exact ⟨by decide, by decide⟩
            · rw [if_pos c225]
              rcases hW with ⟨-, kk, hte, hok⟩ | ⟨z, -⟩
              rotate_left
              · exact absurd c225 z
              obtain ⟨yt, hy1, hy2, hyt⟩ := (ev_testK hx hf6 hE6 8 _ _ _ _ _ _ hte (by omega)).2 1 0 (by omega) (by omega)
              refine gw_aload_n (gc k_Model_goesAlong_3 1 rfl) rfl rfl ?_
              refine gw_iload_n (gc k_Model_goesAlong_3 2 rfl) rfl ?_
              refine gw_cV1 (gc k_Model_goesAlong_3 3 rfl) y_Model_testOf ln_Model_318 hyt rfl rfl (gAt hx rfl rfl) rfl rfl ?_
              have hf := hf6.ev (2400 + P2) (evB 1 0 (t (owW r dn la (allN r 2) (allN r 0))))
              have hbt := evB_01 (live := 1) (br := 0) (v := t (owW r dn la (allN r 2) (allN r 0))) (by omega)
              refine gw_if_eq (tgt := 240) (gc k_Model_goesAlong_3 4 rfl) rfl (by omega) (fun c233 => ?_) (fun c233 => ?_)
              · refine gw_iconst (gc k_Model_goesAlong_3 7 rfl) ?_
                refine gw_putZK 46 rfl (gc k_Model_goesAlong_3 8 rfl) fl_Model_464 (gAt hx rfl rfl) (by omega) hf rfl (fun hf => ?_)
                rw [evM_up _ _ _ _ (by decide) (by decide)]
                have hf := ((hI6.up (k := 46) 0 (by omega)).1.fin hf0).ev (2400 + P2) (evB 1 0 (t (owW r dn la (allN r 2) (allN r 0))))
                refine gw_aload_n (gc k_Model_goesAlong_3 9 rfl) rfl rfl ?_
                refine gw_aload_n (gc k_Model_goesAlong_3 10 rfl) rfl rfl ?_
                refine gw_getf 46 rfl (gc k_Model_goesAlong_3 11 rfl) fl_Model_464 (gAt hx rfl rfl) ?_
                rw [evM_k _ _ _ (by decide) (by decide), gup_s]
                refine gw_if_eq (tgt := 263) (gc k_Model_goesAlong_3 12 rfl) rfl (by omega) (fun c249 => ?_) (fun c249 => ?_)
                · refine gw_iconst (gc k_Model_goesAlong_3 18 rfl) ?_
                  refine gw_putZK 46 rfl (gc k_Model_goesAlong_3 19 rfl) fl_Model_464 (gAt hx rfl rfl) (by omega) hf rfl (fun hf => ?_)
                  rw [evM_up _ _ _ _ (by decide) (by decide), gup_gup]
                  have hI7 := hI6.up (k := 46) 0 (by omega)
                  have hf := (hI7.1.fin hf0).ev (2400 + P2) (evB 1 0 (t (owW r dn la (allN r 2) (allN r 0))))
                  refine gw_aload_n (gc k_Model_goesAlong_3 20 rfl) rfl rfl ?_
                  refine gw_dup (gc k_Model_goesAlong_3 21 rfl) rfl ?_
                  refine gw_getf 22 rfl (gc k_Model_goesAlong_3 22 rfl) fl_Model_261 (gAt hx rfl rfl) ?_
                  refine gw_iconst (gc k_Model_goesAlong_3 23 rfl) ?_
                  refine gw_iadd (gc k_Model_goesAlong_3 24 rfl) ?_
                  refine gw_putIK 22 rfl (gc k_Model_goesAlong_3 25 rfl) fl_Model_261 (gAt hx rfl rfl) hf rfl (fun hf => ?_)
                  rw [evM_inc]
                  refine gw_return (gc k_Model_goesAlong_3 26 rfl) rfl ?_
                  refine ⟨rfl, rfl, ?_, ?_, ?_, ?_, ?_, ?_, fun hz => ⟨?_, ?_, fun hz2 => ?_, ?_, ?_⟩⟩
                  · intro a k h1 h2 h3
                    by_cases z : a = 177
                    · subst z; rw [evM_k _ _ _ (by omega) (by omega)]; exact hI7.1 _ _ h1 h2 h3
                    · rw [evM_fn _ _ _ z]; exact hI7.1 _ _ h1 h2 h3
                  · rw [evM_22]; omega
                  · rw [evM_k _ _ _ (by decide) (by decide), gup_k _ _ _ _ (by decide)]; exact h643
                  · rw [evM_k _ _ _ (by decide) (by decide), gup_k _ _ _ _ (by decide)]; exact h644
                  · rw [evM_k _ _ _ (by decide) (by decide), gup_k _ _ _ _ (by decide)]; rw [h645]; omega
                  · rw [evM_k _ _ _ (by decide) (by decide), gup_s]; omega
                  · rw [evM_k _ _ _ (by decide) (by decide), gup_s, ← ga_ts hz hy1 hy2]
                    first | rw [if_pos (by omega)] | rw [if_neg (by omega)]
                  · rw [evM_k _ _ _ (by decide) (by decide), gup_k _ _ _ _ (by decide)]
                    rw [h645, hs0, hs20]; rfl
                  · exfalso; omega
                  · rw [hs0]; show bd9 0; exact ⟨by decide, by decide⟩
                  · rw [hs20]; show bd9 0; exact ⟨by decide, by decide⟩
                · exact absurd rfl c249
              · refine gw_iconst (gc k_Model_goesAlong_3 5 rfl) ?_
                refine gw_goto (tgt := 241) (gc k_Model_goesAlong_3 6 rfl) rfl ?_
                refine gw_putZK 46 rfl (gc k_Model_goesAlong_3 8 rfl) fl_Model_464 (gAt hx rfl rfl) (by omega) hf rfl (fun hf => ?_)
                rw [evM_up _ _ _ _ (by decide) (by decide)]
                have hf := ((hI6.up (k := 46) 1 (by omega)).1.fin hf0).ev (2400 + P2) (evB 1 0 (t (owW r dn la (allN r 2) (allN r 0))))
                refine gw_aload_n (gc k_Model_goesAlong_3 9 rfl) rfl rfl ?_
                refine gw_aload_n (gc k_Model_goesAlong_3 10 rfl) rfl rfl ?_
                refine gw_getf 46 rfl (gc k_Model_goesAlong_3 11 rfl) fl_Model_464 (gAt hx rfl rfl) ?_
                rw [evM_k _ _ _ (by decide) (by decide), gup_s]
                refine gw_if_eq (tgt := 263) (gc k_Model_goesAlong_3 12 rfl) rfl (by omega) (fun c249 => ?_) (fun c249 => ?_)
                · exact absurd c249 (by decide)
                · refine gw_aload_n (gc k_Model_goesAlong_3 13 rfl) rfl rfl ?_
                  refine gw_getf 24 rfl (gc k_Model_goesAlong_3 14 rfl) fl_Model_271 (gAt hx rfl rfl) ?_
                  rw [evM_24]
                  refine gw_if_ne (tgt := 263) (gc k_Model_goesAlong_3 15 rfl) rfl (by omega) (fun c256 => ?_) (fun c256 => ?_)
                  · refine gw_iconst (gc k_Model_goesAlong_3 18 rfl) ?_
                    refine gw_putZK 46 rfl (gc k_Model_goesAlong_3 19 rfl) fl_Model_464 (gAt hx rfl rfl) (by omega) hf rfl (fun hf => ?_)
                    rw [evM_up _ _ _ _ (by decide) (by decide), gup_gup]
                    have hI7 := hI6.up (k := 46) 0 (by omega)
                    have hf := (hI7.1.fin hf0).ev (2400 + P2) (evB 1 0 (t (owW r dn la (allN r 2) (allN r 0))))
                    refine gw_aload_n (gc k_Model_goesAlong_3 20 rfl) rfl rfl ?_
                    refine gw_dup (gc k_Model_goesAlong_3 21 rfl) rfl ?_
                    refine gw_getf 22 rfl (gc k_Model_goesAlong_3 22 rfl) fl_Model_261 (gAt hx rfl rfl) ?_
                    refine gw_iconst (gc k_Model_goesAlong_3 23 rfl) ?_
                    refine gw_iadd (gc k_Model_goesAlong_3 24 rfl) ?_
                    refine gw_putIK 22 rfl (gc k_Model_goesAlong_3 25 rfl) fl_Model_261 (gAt hx rfl rfl) hf rfl (fun hf => ?_)
                    rw [evM_inc]
                    refine gw_return (gc k_Model_goesAlong_3 26 rfl) rfl ?_
                    refine ⟨rfl, rfl, ?_, ?_, ?_, ?_, ?_, ?_, fun hz => ⟨?_, ?_, fun hz2 => ?_, ?_, ?_⟩⟩
                    · intro a k h1 h2 h3
                      by_cases z : a = 177
                      · subst z; rw [evM_k _ _ _ (by omega) (by omega)]; exact hI7.1 _ _ h1 h2 h3
                      · rw [evM_fn _ _ _ z]; exact hI7.1 _ _ h1 h2 h3
                    · rw [evM_22]; omega
                    · rw [evM_k _ _ _ (by decide) (by decide), gup_k _ _ _ _ (by decide)]; exact h643
                    · rw [evM_k _ _ _ (by decide) (by decide), gup_k _ _ _ _ (by decide)]; exact h644
                    · rw [evM_k _ _ _ (by decide) (by decide), gup_k _ _ _ _ (by decide)]; rw [h645]; omega
                    · rw [evM_k _ _ _ (by decide) (by decide), gup_s]; omega
                    · rw [evM_k _ _ _ (by decide) (by decide), gup_s, ← ga_ts hz hy1 hy2]
                      first | rw [if_pos (by omega)] | rw [if_neg (by omega)]
                    · rw [evM_k _ _ _ (by decide) (by decide), gup_k _ _ _ _ (by decide)]
                      rw [h645, hs0, hs20]; rfl
                    · exfalso; omega
                    · rw [hs0]; show bd9 0; exact ⟨by decide, by decide⟩
                    · rw [hs20]; show bd9 0; exact ⟨by decide, by decide⟩
                  · refine gw_iconst (gc k_Model_goesAlong_3 16 rfl) ?_
                    refine gw_goto (tgt := 264) (gc k_Model_goesAlong_3 17 rfl) rfl ?_
                    refine gw_putZK 46 rfl (gc k_Model_goesAlong_3 19 rfl) fl_Model_464 (gAt hx rfl rfl) (by omega) hf rfl (fun hf => ?_)
                    rw [evM_up _ _ _ _ (by decide) (by decide), gup_gup]
                    have hI7 := hI6.up (k := 46) 1 (by omega)
                    have hf := (hI7.1.fin hf0).ev (2400 + P2) (evB 1 0 (t (owW r dn la (allN r 2) (allN r 0))))
                    refine gw_aload_n (gc k_Model_goesAlong_3 20 rfl) rfl rfl ?_
                    refine gw_dup (gc k_Model_goesAlong_3 21 rfl) rfl ?_
                    refine gw_getf 22 rfl (gc k_Model_goesAlong_3 22 rfl) fl_Model_261 (gAt hx rfl rfl) ?_
                    refine gw_iconst (gc k_Model_goesAlong_3 23 rfl) ?_
                    refine gw_iadd (gc k_Model_goesAlong_3 24 rfl) ?_
                    refine gw_putIK 22 rfl (gc k_Model_goesAlong_3 25 rfl) fl_Model_261 (gAt hx rfl rfl) hf rfl (fun hf => ?_)
                    rw [evM_inc]
                    refine gw_return (gc k_Model_goesAlong_3 26 rfl) rfl ?_
                    refine ⟨rfl, rfl, ?_, ?_, ?_, ?_, ?_, ?_, fun hz => ⟨?_, ?_, fun hz2 => ?_, ?_, ?_⟩⟩
                    · intro a k h1 h2 h3
                      by_cases z : a = 177
                      · subst z; rw [evM_k _ _ _ (by omega) (by omega)]; exact hI7.1 _ _ h1 h2 h3
                      · rw [evM_fn _ _ _ z]; exact hI7.1 _ _ h1 h2 h3
                    · rw [evM_22]; omega
                    · rw [evM_k _ _ _ (by decide) (by decide), gup_k _ _ _ _ (by decide)]; exact h643
                    · rw [evM_k _ _ _ (by decide) (by decide), gup_k _ _ _ _ (by decide)]; exact h644
                    · rw [evM_k _ _ _ (by decide) (by decide), gup_k _ _ _ _ (by decide)]; rw [h645]; omega
                    · rw [evM_k _ _ _ (by decide) (by decide), gup_s]; omega
                    · rw [evM_k _ _ _ (by decide) (by decide), gup_s, ← ga_ts hz hy1 hy2]
                      first | rw [if_pos (by omega)] | rw [if_neg (by omega)]
                    · rw [evM_k _ _ _ (by decide) (by decide), gup_k _ _ _ _ (by decide)]
                      rw [h645, hs0, hs20]; rfl
                    · exfalso; omega
                    · rw [hs0]; show bd9 0; exact ⟨by decide, by decide⟩
                    · rw [hs20]; show bd9 0; exact ⟨by decide, by decide⟩
        · exfalso; omega
      · refine gw_aload_n (gc k_Model_goesAlong_1 3 rfl) rfl rfl ?_
        refine gw_getf 44 rfl (gc k_Model_goesAlong_1 4 rfl) fl_Model_455 (gAt hx rfl rfl) ?_
        rw [evM_k _ _ _ (by decide) (by decide), h244]
        refine gw_bipush (gc k_Model_goesAlong_1 5 rfl) (by decide) ?_
        refine gw_icmp_eq (tgt := 97) (gc k_Model_goesAlong_1 6 rfl) rfl (by omega) (fun c85 => ?_) (fun c85 => ?_)
        · refine gw_iconst (gc k_Model_goesAlong_1 11 rfl) ?_
          refine gw_goto (tgt := 102) (gc k_Model_goesAlong_1 12 rfl) rfl ?_
          exact kj79 _ (by first | rfl | (exfalso; omega))
        · refine gw_aload_n (gc k_Model_goesAlong_1 7 rfl) rfl rfl ?_
          refine gw_getf 44 rfl (gc k_Model_goesAlong_1 8 rfl) fl_Model_455 (gAt hx rfl rfl) ?_
          rw [evM_k _ _ _ (by decide) (by decide), h244]
          refine gw_bipush (gc k_Model_goesAlong_1 9 rfl) (by decide) ?_
          refine gw_icmp_ne (tgt := 101) (gc k_Model_goesAlong_1 10 rfl) rfl (by omega) (fun c94 => ?_) (fun c94 => ?_)
          · refine gw_iconst (gc k_Model_goesAlong_1 13 rfl) ?_
            exact kj79 _ (by first | rfl | (exfalso; omega))
          · refine gw_iconst (gc k_Model_goesAlong_1 11 rfl) ?_
            refine gw_goto (tgt := 102) (gc k_Model_goesAlong_1 12 rfl) rfl ?_
            exact kj79 _ (by first | rfl | (exfalso; omega))
