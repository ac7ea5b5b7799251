/-! ===== the reference: whole orders ===== -/
abbrev XS : Type := OS × Int × Int
def wS (S : XS) : Int → Int := owW S.1.1 S.2.1 S.2.2 (allN S.1.1 2) (allN S.1.1 0)
def exC (kd : Int) (s s2 t : PS) : Nat → XS → Option XS
  | 0, S => some S
  | m + 1, S => if t (wS S) = some 1 then (if (s (wS S)).isSome = true ∧ (s2 (wS S)).isSome = true then (match stepO kd ((s (wS S)).getD 0) ((s2 (wS S)).getD 0) S.1 with
      | none => none
      | some (v, σ') => exC kd s s2 t m (σ', S.2.1 + 1, if kd = 25 then v else S.2.2)) else none) else exC kd s s2 t m S
theorem exC_n {kd : Int} {s s2 t : PS} {m : Nat} {S : XS} (h : ¬ t (wS S) = some 1) : exC kd s s2 t (m + 1) S = exC kd s s2 t m S := if_neg h
theorem exC_b {kd : Int} {s s2 t : PS} {m : Nat} {S : XS} (h : t (wS S) = some 1) (h2 : ¬ ((s (wS S)).isSome = true ∧ (s2 (wS S)).isSome = true)) : exC kd s s2 t (m + 1) S = none := (if_pos h).trans (if_neg h2)
theorem exC_f {kd : Int} {s s2 t : PS} {m : Nat} {S : XS} (h : t (wS S) = some 1) (h2 : (s (wS S)).isSome = true ∧ (s2 (wS S)).isSome = true) (h3 : stepO kd ((s (wS S)).getD 0) ((s2 (wS S)).getD 0) S.1 = none) : exC kd s s2 t (m + 1) S = none := by
  unfold exC; rw [if_pos h, if_pos h2, h3]
theorem exC_s {kd : Int} {s s2 t : PS} {m : Nat} {S : XS} {v : Int} {σ' : OS} (h : t (wS S) = some 1) (h2 : (s (wS S)).isSome = true ∧ (s2 (wS S)).isSome = true) (h3 : stepO kd ((s (wS S)).getD 0) ((s2 (wS S)).getD 0) S.1 = some (v, σ')) : exC kd s s2 t (m + 1) S = exC kd s s2 t m (σ', S.2.1 + 1, if kd = 25 then v else S.2.2) := by
  have e : exC kd s s2 t (m + 1) S = (match stepO kd ((s (wS S)).getD 0) ((s2 (wS S)).getD 0) S.1 with
      | none => none
      | some (v, σ') => exC kd s s2 t m (σ', S.2.1 + 1, if kd = 25 then v else S.2.2)) := (if_pos h).trans (if_pos h2)
  rw [e, h3]
def exL : List OC → Int → XS → Int ⊕ XS
  | [], _, S => .inr S
  | (kd, _, s, _, s2, tm, _, t) :: R, i, S => match exC kd s s2 t tm.toNat S with
    | none => .inl i
    | some S' => exL R (i + 1) S'
theorem pOrd_V {T V V2 : Int → Int} (h : vSame T V V2) (sm test : Int → Int → PR) : pOrder T V2 sm test = pOrder T V sm test := by
  have e : pOTimes T V2 test = pOTimes T V test := by
    funext hd c s c2 s2 p n
    unfold pOTimes
    by_cases z : T (p + 1) = 50
    · rw [h _ z]
    · rw [if_neg (show ¬ (T (p + 1) = 50 ∧ 1 ≤ V2 (p + 1) ∧ V2 (p + 1) ≤ 20) from fun q => z q.1), if_neg (show ¬ (T (p + 1) = 50 ∧ 1 ≤ V (p + 1) ∧ V (p + 1) ≤ 20) from fun q => z q.1)]
  funext p n
  unfold pOrder
  rw [e]
def ordC (T V : Int → Int) : Int → Int → OCR := pOrder T V (pSum T V true 8) (pTest T V true 8)
theorem ordC_V {T V V2 : Int → Int} (h : vSame T V V2) : ordC T V2 = ordC T V := by
  unfold ordC
  rw [pSum_V h, pTest_V h, pOrd_V h]
theorem ordC_low {r ρ : Int → Int} (h : sLow r ρ) : ordC (rT ρ 6) (rV ρ 6) = ordC (rT r 6) (rV r 6) := by
  rw [rT_eq (fun y hy => h y (by omega)) 6 (by omega)]
  refine ordC_V (fun p hp => ?_)
  have z : 0 ≤ p := by
    unfold rT at hp
    by_cases z : 0 ≤ p ∧ 400 * 6 + p < 400 * 6 + r (45 + 6)
    · exact z.1
    · rw [if_neg z] at hp; cases hp
  exact h _ (by omega)
theorem pOr_far {T V : Int → Int} {nt : Int} (h : pOK T nt) {p n P2 N2 kd : Int} {c : PK} {s : PS} {c2 : PK} {s2 : PS} {tm : Int} {ok : Option PK} {t : PS} (e : ordC T V p n = .inr (P2, N2, kd, c, s, c2, s2, tm, ok, t)) : (p < P2 ∧ P2 ≤ nt) ∧ (22 ≤ kd ∧ kd ≤ 25) ∧ T p = kd ∧ 1 ≤ tm ∧ tm ≤ 20 := by
  have hs := pSum_far (V := V) (o := true) h 8
  have ht := pTest_far (V := V) (o := true) h 8
  obtain ⟨h1, h2⟩ := pOr_inv e
  have w : ∀ q m, q ≤ nt → owT T (pTest T V true 8) P2 N2 ok t q m → q ≤ P2 ∧ P2 ≤ nt := fun q m hq hw => by
    rcases hw with ⟨a1, k, a2, a3⟩ | ⟨a1, a2, -⟩
    · have := ht _ _ _ _ _ _ a2; omega
    · omega
  have o : ∀ q m, q ≤ nt → otT T V (pTest T V true 8) P2 N2 tm ok t q m → (q ≤ P2 ∧ P2 ≤ nt) ∧ 1 ≤ tm ∧ tm ≤ 20 := fun q m hq hw => by
    rcases hw with ⟨a1, a2, a3, a4, a5⟩ | ⟨a1, a2, a3⟩
    · have := h (q + 1) (by omega)
      have := w _ _ (by omega) a5
      omega
    · have := w _ _ hq a3
      omega
  rcases h2 with ⟨z, pa, na, pb, nb, b1, b2, b3, b4⟩ | ⟨z, -, -, b4⟩
  · have q1 := hs _ _ _ _ _ _ b1
    have q2 := hs _ _ _ _ _ _ b3
    have q3 := o _ _ (by omega) b4
    omega
  · have q1 := h p (by omega)
    have q3 := o _ _ (by omega) b4
    omega
theorem pA_split {α : Type} {T : Int → Int} {nt : Int} {cl : Int → Int → Int ⊕ (Int × Int × α)} {f : Nat} {p n : Int} {A L : List α} (e : pAllL T nt cl f p n A = .inr L) : (¬ T p = 159 ∧ ¬ p < nt ∧ L = A) ∨ (T p = 159 ∧ ∃ (f2 : Nat) (p2 n2 : Int) (c : α), cl (p + 1) n = .inr (p2, n2, c) ∧ pAllL T nt cl f2 p2 n2 (A ++ [c]) = .inr L) := by
  cases f with
  | zero => cases e
  | succ f =>
    unfold pAllL at e
    split at e
    · next z =>
      split at e
      · cases e
      · cases hq : cl (p + 1) n with
        | inl q => rw [hq] at e; cases e
        | inr q =>
          obtain ⟨p2, n2, c⟩ := q
          rw [hq] at e
          exact Or.inr ⟨z, f, p2, n2, c, rfl, e⟩
    · next z =>
      split at e
      · cases e
      · next z2 => cases e; exact Or.inl ⟨z, z2, rfl⟩
theorem pA_pre {α : Type} {T : Int → Int} {nt : Int} {cl : Int → Int → Int ⊕ (Int × Int × α)} : ∀ (f : Nat) (p n : Int) (A L : List α), pAllL T nt cl f p n A = .inr L → A.length ≤ 12 → (∃ R, L = A ++ R) ∧ L.length ≤ 12
  | 0, p, n, A, L, e, _ => by cases e
  | f + 1, p, n, A, L, e, h => by
    unfold pAllL at e
    split at e
    · split at e
      · cases e
      · next z2 =>
        cases hq : cl (p + 1) n with
        | inl q => rw [hq] at e; cases e
        | inr q =>
          obtain ⟨p2, n2, c⟩ := q
          rw [hq] at e
          obtain ⟨⟨R, hR⟩, hl⟩ := pA_pre f _ _ _ _ e (by rw [List.length_append, List.length_singleton]; omega)
          exact ⟨⟨c :: R, by rw [hR, List.append_assoc]; rfl⟩, hl⟩
    · split at e
      · cases e
      · cases e; exact ⟨⟨[], (List.append_nil _).symm⟩, h⟩
/-- where the orders stand: at the next clause, or at the end -/
def orP (T : Int → Int) (nt : Int) (cl : Int → Int → OCR) (L : List OC) (A R : List OC) (pos : Int) : Prop := L = A ++ R ∧ ((R = [] ∧ nt ≤ pos ∧ pos ≤ 401) ∨ (∃ (n p2 n2 : Int) (f : Nat) (c : OC) (R2 : List OC), R = c :: R2 ∧ (0 ≤ pos ∧ pos < nt) ∧ cl pos n = .inr (p2, n2, c) ∧ pAllL T nt cl f p2 n2 (A ++ [c]) = .inr L))
theorem orP_0 {T V : Int → Int} {nt : Int} {L : List OC} (hk : pOK T nt) (e : pAll T nt (ordC T V) = .inr L) : orP T nt (ordC T V) L [] L 0 ∧ L.length ≤ 12 := by
  unfold pAll at e
  cases hq : ordC T V 0 0 with
  | inl q => rw [hq] at e; cases e
  | inr q =>
    obtain ⟨p2, n2, c⟩ := q
    rw [hq] at e
    obtain ⟨⟨R, hR⟩, hl⟩ := pA_pre _ _ _ _ _ e (by show 1 ≤ 12; decide)
    obtain ⟨kd, c1, s1, c2, s2, tm, ok, t⟩ := c
    have hf := pOr_far hk hq
    have hp := hk 0 (by omega)
    exact ⟨⟨rfl, Or.inr ⟨0, p2, n2, 401, _, R, hR, by omega, hq, e⟩⟩, hl⟩
theorem orP_s {T V : Int → Int} {nt : Int} {L A R2 : List OC} {c : OC} {p2 n2 : Int} {f : Nat} (hnt : nt ≤ 400) (hk : pOK T nt) (hL : L = A ++ c :: R2) (h2 : 0 ≤ p2 ∧ p2 ≤ nt) (hA : (A ++ [c]).length ≤ 12) (e : pAllL T nt (ordC T V) f p2 n2 (A ++ [c]) = .inr L) : orP T nt (ordC T V) L (A ++ [c]) R2 (p2 + 1) := by
  refine ⟨by rw [hL, List.append_assoc]; rfl, ?_⟩
  rcases pA_split e with ⟨a1, a2, a3⟩ | ⟨a1, f2, p3, n3, c3, a2, a3⟩
  · refine Or.inl ⟨?_, by omega, by omega⟩
    rw [hL] at a3
    have a4 : A ++ c :: R2 = A ++ [c] := a3
    have a5 := List.append_cancel_left a4
    exact (List.cons.inj a5).2
  · obtain ⟨⟨R3, hR3⟩, -⟩ := pA_pre _ _ _ _ _ a3 (by
      have : (A ++ [c]).length < 12 ∨ (A ++ [c]).length = 12 := by omega
      rcases this with q | q
      · rw [List.length_append, List.length_singleton]; omega
      · exfalso
        cases f with
        | zero => cases e
        | succ f =>
          unfold pAllL at e
          rw [if_pos a1, if_pos q] at e
          cases e)
    have hR2 : R2 = c3 :: R3 := by
      rw [hL, List.append_assoc, List.append_assoc] at hR3
      have a5 := List.append_cancel_left hR3
      exact (List.cons.inj a5).2
    have h159 := hk p2 (by omega)
    obtain ⟨kd, c1, s1, c2, s2, tm, ok, t⟩ := c3
    have hf := pOr_far hk a2
    have hp := hk (p2 + 1) (by omega)
    exact Or.inr ⟨n2, p3, n3, f2, _, R3, hR2, by omega, a2, a3⟩
def runQ (g0 : gM) (r0 : Int → Int) (V : Option XS) (p2 : Int) (x : Option gV) (g2 : gM) : Prop := (V = none ∧ x = some (0, 0) ∧ orF g0 g2 ∧ sLow r0 (g2 179)) ∨ (∃ S' : XS, V = some S' ∧ x = some (0, 1) ∧ stI g0 S'.1 S'.2.1 S'.2.2 g2 ∧ g2 177 42 = 2400 + p2 + 1 ∧ osOK r0 S'.1)
def xsB (S : XS) (d : Int) : Prop := (0 ≤ S.2.1 ∧ S.2.1 ≤ d) ∧ -1 ≤ S.2.2 ∧ S.2.2 ≤ 12
theorem exC_bd {r0 : Int → Int} {kd : Int} (hkd : 22 ≤ kd ∧ kd ≤ 25) {s s2 t : PS} : ∀ (m : Nat) (S S' : XS) (d : Int), osOK r0 S.1 → xsB S d → exC kd s s2 t m S = some S' → xsB S' (d + m) ∧ osOK r0 S'.1
  | 0, S, S', d, ho, h, e => by cases e; exact ⟨⟨by have := h.1; omega, h.2⟩, ho⟩
  | m + 1, S, S', d, ho, h, e => by
    by_cases z1 : t (wS S) = some 1
    · by_cases z2 : (s (wS S)).isSome = true ∧ (s2 (wS S)).isSome = true
      · cases hq : stepO kd ((s (wS S)).getD 0) ((s2 (wS S)).getD 0) S.1 with
        | none => rw [exC_f z1 z2 hq] at e; cases e
        | some q =>
          obtain ⟨v, σ'⟩ := q
          rw [exC_s z1 z2 hq] at e
          have hk := stepO_ok ho hq
          have h1 := h.1
          have h2 := h.2
          have := exC_bd hkd m _ S' (d + 1) hk.1 (show xsB (σ', S.2.1 + 1, if kd = 25 then v else S.2.2) (d + 1) by
            refine ⟨by show 0 ≤ S.2.1 + 1 ∧ S.2.1 + 1 ≤ d + 1; omega, ?_⟩
            show -1 ≤ (if kd = 25 then v else S.2.2) ∧ (if kd = 25 then v else S.2.2) ≤ 12
            by_cases z : kd = 25
            · have := hk.2.2 (by omega)
              rw [if_pos z]; omega
            · rw [if_neg z]; exact h2) e
          rwa [show d + 1 + (m : Int) = d + ((m + 1 : Nat) : Int) by omega] at this
      · rw [exC_b z1 z2] at e; cases e
    · rw [exC_n z1] at e
      have := exC_bd hkd m S S' d ho h e
      exact ⟨⟨by have := this.1.1; omega, this.1.2⟩, this.2⟩
theorem c_along0 {sh : gS} {g : gM} (hx : gFix sh) (hf : gFin g) {r : Int → Int} (er : g 179 = r) (ho : rowOK r) (hl : lawsOK r) {dn la : Int} (h27 : g 177 27 = dn) (h28 : g 177 28 = la) (hdn : 0 ≤ dn ∧ dn ≤ 1000) (hla : -1 ≤ la ∧ la ≤ 12) {p n : Int} (hp : 0 ≤ p ∧ p ≤ 400) (h42 : g 177 42 = 2400 + p) {P2 N2 kd : Int} {c : PK} {s : PS} {c2 : PK} {s2 : PS} {tm : Int} {ok : Option PK} {t : PS} (e : ordC (rT r 6) (rV r 6) p n = .inr (P2, N2, kd, c, s, c2, s2, tm, ok, t)) : gTri f_Model_goesAlong 45 0 0 [(2, 177), (0, 2400 + r 51), (0, 0)] sh g (fun x s2_ g2 => x = none ∧ s2_ = sh ∧ gaQ g 2400 0 kd tm s s2 t (owW r dn la 0 0) P2 g2) := by
  by_cases hkd : kd = 22 ∨ kd = 23
  · exact c_along01 hx hf er ho hl h27 h28 hdn hla hp h42 e hkd
  · exact c_along00 hx hf er ho hl h27 h28 hdn hla hp h42 e hkd
theorem c_along1 {sh : gS} {g : gM} (hx : gFix sh) (hf : gFin g) {r : Int → Int} (er : g 179 = r) (ho : rowOK r) (hl : lawsOK r) {dn la : Int} (h27 : g 177 27 = dn) (h28 : g 177 28 = la) (hdn : 0 ≤ dn ∧ dn ≤ 1000) (hla : -1 ≤ la ∧ la ≤ 12) {p n : Int} (hp : 0 ≤ p ∧ p ≤ 400) (h42 : g 177 42 = 2400 + p) {P2 N2 kd : Int} {c : PK} {s : PS} {c2 : PK} {s2 : PS} {tm : Int} {ok : Option PK} {t : PS} (e : ordC (rT r 6) (rV r 6) p n = .inr (P2, N2, kd, c, s, c2, s2, tm, ok, t)) : gTri f_Model_goesAlong 45 0 0 [(2, 177), (0, 2400 + r 51), (0, 1)] sh g (fun x s2_ g2 => x = none ∧ s2_ = sh ∧ gaQ g 2400 1 kd tm s s2 t (owW r dn la (allN r 2) (allN r 0)) P2 g2) := by
  by_cases hkd : kd = 22 ∨ kd = 23
  · exact c_along11 hx hf er ho hl h27 h28 hdn hla hp h42 e hkd
  · exact c_along10 hx hf er ho hl h27 h28 hdn hla hp h42 e hkd
set_option maxHeartbeats 1000000 in
theorem c_Model_runs {sh : gS} {g : gM} (hx : gFix sh) (hf : gFin g) {g0 : gM} (hf00 : gFin g0) {r0 : Int → Int} (hor : rowOK r0) (hl : lawsOK r0) {S0 : XS} (h : stI g0 S0.1 S0.2.1 S0.2.2 g) (ho0 : osOK r0 S0.1) {d : Int} (hxs : xsB S0 d) (hd : 0 ≤ d ∧ d ≤ 300) {p n : Int} (hp : 0 ≤ p ∧ p ≤ 400) (h42 : g 177 42 = 2400 + p) {P2 N2 kd : Int} {c : PK} {s : PS} {c2 : PK} {s2 : PS} {tm : Int} {ok : Option PK} {t : PS} (e : ordC (rT r0 6) (rV r0 6) p n = .inr (P2, N2, kd, c, s, c2, s2, tm, ok, t)) : gTri f_Model_runs 47 0 0 [(2, 177), (0, 2400 + r0 51)] sh g (fun x s2_ g2 => s2_ = sh ∧ runQ g0 r0 (exC kd s s2 t tm.toNat S0) P2 x g2) := by
  have h51 := ro_size hor 51 (by omega)
  have hfr := pOr_far (rT_ok r0 h51) e
  have e51 : S0.1.1 51 = r0 51 := ho0.2.1 51 (by omega)
  have hx1 := hxs.1
  have hx2 := hxs.2
  have hl0 := hl.low ho0.2.1
  refine gTri.of (by decide +kernel) rfl ?_
  show gWP f_Model_runs _ _ _ 0 [(2, 177), (0, 2400 + r0 51), (9, 0), (9, 0), (9, 0)] [] sh g _
  refine gw_aload_n (gc k_Model_runs_0 0 rfl) rfl rfl ?_
  refine gw_iload_n (gc k_Model_runs_0 1 rfl) rfl ?_
  refine gw_iconst (gc k_Model_runs_0 2 rfl) ?_
  refine gw_xV1 (gc k_Model_runs_0 3 rfl) y_Model_goesAlong ln_Model_473 (by have q := c_along0 hx hf h.2.1 ho0.1 hl0 h.2.2.2.2.1 h.2.2.2.2.2 (by omega) (by omega) hp h42 (by rw [ordC_low ho0.2.1]; exact e); rw [e51] at q; exact q) rfl rfl (gAt hx rfl rfl) rfl rfl (fun r3 sh2 g3 hq3 => ?_)
  obtain ⟨rfl, rfl, hq3⟩ := hq3
  have hf := hq3.1.fin hf
  refine gw_aload_n (gc k_Model_runs_0 4 rfl) rfl rfl ?_
  refine gw_getf 43 rfl (gc k_Model_runs_0 5 rfl) fl_Model_461 (gAt hx rfl rfl) ?_
  rw [hq3.2.2.1]
  refine gw_istore_2 (gc k_Model_runs_0 6 rfl) rfl rfl ?_
  refine gw_aload_n (gc k_Model_runs_0 7 rfl) rfl rfl ?_
  refine gw_getf 22 rfl (gc k_Model_runs_0 8 rfl) fl_Model_261 (gAt hx rfl rfl) ?_
  rw [hq3.2.1]
  refine gw_istore_3 (gc k_Model_runs_0 9 rfl) rfl rfl ?_
  refine gw_iconst (gc k_Model_runs_0 10 rfl) ?_
  refine gw_istore_4 (gc k_Model_runs_0 11 rfl) rfl rfl ?_
  refine gwloop (σ := Nat × XS × gM) (fun zs => ((zs.1) : Int) ≤ tm ∧ stI g0 (zs.2.1).1 (zs.2.1).2.1 (zs.2.1).2.2 (zs.2.2) ∧ osOK r0 (zs.2.1).1 ∧ xsB (zs.2.1) (d + (tm - (zs.1))) ∧ (zs.2.2) 177 42 = 2400 + p ∧ exC kd s s2 t (zs.1) (zs.2.1) = exC kd s s2 t tm.toNat S0) (fun zs => (zs.1)) (fun zs => [(2, 177), (0, 2400 + r0 51), (0, tm), (0, 2400 + P2 + 1), (0, tm - ((zs.1) : Int))]) (fun zs => (zs.2.2)) (tm.toNat, S0, g3) (show ((tm.toNat) : Int) ≤ tm ∧ stI g0 S0.1 S0.2.1 S0.2.2 g3 ∧ osOK r0 S0.1 ∧ xsB S0 (d + (tm - (tm.toNat))) ∧ g3 177 42 = 2400 + p ∧ exC kd s s2 t (tm.toNat) S0 = exC kd s s2 t tm.toNat S0 from ⟨by omega, h.ga hq3.1, ho0, by unfold xsB at hxs ⊢; omega, (hq3.1 _ _ (by decide) (by decide) (by omega)).trans h42, rfl⟩) (by show [_, _, _, _, _] = [_, _, _, _, _]; rw [show tm - ((tm.toNat : Nat) : Int) = 0 by omega]) rfl (fun zs hI ih => ?_)
  obtain ⟨m, S, g1⟩ := zs
  replace hI : (m : Int) ≤ tm ∧ stI g0 S.1 S.2.1 S.2.2 g1 ∧ osOK r0 S.1 ∧ xsB S (d + (tm - m)) ∧ g1 177 42 = 2400 + p ∧ exC kd s s2 t m S = exC kd s s2 t tm.toNat S0 := hI
  obtain ⟨hm1, hI, hoS, hxS, h42b, hV⟩ := hI
  show gWP _ _ _ _ _ [(2, 177), (0, 2400 + r0 51), (0, tm), (0, 2400 + P2 + 1), (0, tm - (m : Int))] [] _ (g1) _
  have hf := hI.1.fin hf00
  have eS := hoS.2.1 51 (by omega)
  have hlS := hl.low hoS.2.1
  have hxb := hxS.1
  have hxb2 := hxS.2
  refine gw_iload (gc k_Model_runs_0 12 rfl) rfl ?_
  refine gw_iload_n (gc k_Model_runs_0 13 rfl) rfl ?_
  refine gw_icmp_ge (tgt := 73) (gc k_Model_runs_0 14 rfl) rfl (by omega) (fun c22 => ?_) (fun c22 => ?_)
  · refine gw_aload_n (gc k_Model_runs_0 39 rfl) rfl rfl ?_
    refine gw_iload_n (gc k_Model_runs_1 0 rfl) rfl ?_
    refine gw_putIK 42 rfl (gc k_Model_runs_1 1 rfl) fl_Model_446 (gAt hx rfl rfl) hf rfl (fun hf => ?_)
    refine gw_iconst (gc k_Model_runs_1 2 rfl) ?_
    refine gw_zreturn (gc k_Model_runs_1 3 rfl) rfl (by omega) ?_
    obtain rfl : m = 0 := by omega
    exact ⟨rfl, Or.inr ⟨S, hV.symm, rfl, hI.at _, gup_s _ _ _ _, hoS⟩⟩
  · refine gw_aload_n (gc k_Model_runs_0 15 rfl) rfl rfl ?_
    refine gw_iload_n (gc k_Model_runs_0 16 rfl) rfl ?_
    refine gw_iconst (gc k_Model_runs_0 17 rfl) ?_
    obtain ⟨m, rfl⟩ : ∃ q, m = q + 1 := ⟨m - 1, by omega⟩
    refine gw_xV1 (gc k_Model_runs_0 18 rfl) y_Model_goesAlong ln_Model_473 (by have q := c_along1 hx hf hI.2.1 hoS.1 hlS hI.2.2.2.2.1 hI.2.2.2.2.2 (by omega) (by omega) hp h42b (by rw [ordC_low hoS.2.1]; exact e); rw [eS] at q; exact q) rfl rfl (gAt hx rfl rfl) rfl rfl (fun r28 sh2 g28 hq28 => ?_)
    obtain ⟨rfl, rfl, hq28⟩ := hq28
    have hf := hq28.1.fin hf
    obtain ⟨h46, h45, hsu, hb1, hb2⟩ := hq28.2.2.2.2.2.2 rfl
    have hI2 := hI.ga hq28.1
    refine gw_aload_n (gc k_Model_runs_0 19 rfl) rfl rfl ?_
    refine gw_getf 46 rfl (gc k_Model_runs_0 20 rfl) fl_Model_464 (gAt hx rfl rfl) ?_
    rw [h46]
    show gWP _ _ _ _ 35 _ ((0, bi (t (wS S) = some 1)) :: _) _ _ _
    refine gw_bne (tgt := 41) (gc k_Model_runs_0 21 rfl) rfl (fun c35 => ?_) (fun c35 => ?_)
    · refine gw_aload_n (gc k_Model_runs_0 23 rfl) rfl rfl ?_
      refine gw_getf 45 rfl (gc k_Model_runs_0 24 rfl) fl_Model_458 (gAt hx rfl rfl) ?_
      rw [h45]
      show gWP _ _ _ _ 45 _ ((0, bi ((s (wS S)).isSome = true ∧ (s2 (wS S)).isSome = true)) :: _) _ _ _
      refine gw_beq (tgt := 55) (gc k_Model_runs_0 25 rfl) rfl (fun c45 => ?_) (fun c45 => ?_)
      · refine gw_iconst (gc k_Model_runs_0 29 rfl) ?_
        refine gw_zreturn (gc k_Model_runs_0 30 rfl) rfl (by omega) ?_
        first | exact ⟨rfl, Or.inl ⟨by rw [← hV, exC_b c35 c45], rfl, hI2.1, by rw [hI2.2.1]; exact hoS.2.1⟩⟩ | (rcases hob with ⟨q1, q2, q3, q4⟩ | ⟨σq, -, q, -⟩ <;> first | exact ⟨rfl, Or.inl ⟨by rw [← hV, exC_f c35 c45 q1], rfl, q3, by rw [q4]; exact hoS.2.1⟩⟩ | (exfalso; omega))
      · refine gw_aload_n (gc k_Model_runs_0 26 rfl) rfl rfl ?_
        refine gw_xV1 (gc k_Model_runs_0 27 rfl) y_Model_obeys ln_Model_477 (c_Model_obeys hx hf (r0 := r0) hoS hlS hI2 (by omega) hq28.2.2.2.1 hf00 hsu hb1 hb2) rfl rfl (gAt hx rfl rfl) rfl rfl (fun r49 sh2 g49 hq49 => ?_)
        obtain ⟨rfl, hq49b, v, rfl, hob⟩ := hq49
        have hvb : -10 ≤ v ∧ v ≤ 24 := by rcases hob with ⟨-, q, -⟩ | ⟨σq, -, q, -⟩ <;> omega
        refine gw_if_ge (tgt := 57) (gc k_Model_runs_0 28 rfl) rfl (by omega) (fun c52 => ?_) (fun c52 => ?_)
        · obtain ⟨σ', hso, hv0, hst⟩ : ∃ σ', stepO kd ((s (wS S)).getD 0) ((s2 (wS S)).getD 0) S.1 = some (v, σ') ∧ (0 ≤ v ∧ v ≤ 24) ∧ stI g0 σ' S.2.1 (if kd = 25 then v else S.2.2) g49 := by
            rcases hob with ⟨-, q, -⟩ | ⟨σ', q1, q2, q3⟩
            · omega
            · exact ⟨σ', q1, q2, q3⟩
          have hk := stepO_ok hoS hso
          have hxN : xsB (σ', S.2.1 + 1, if kd = 25 then v else S.2.2) (d + (tm - (m : Int))) := by
            refine ⟨by show 0 ≤ S.2.1 + 1 ∧ S.2.1 + 1 ≤ _; omega, ?_⟩
            show -1 ≤ (if kd = 25 then v else S.2.2) ∧ (if kd = 25 then v else S.2.2) ≤ 12
            by_cases z : kd = 25
            · have := hk.2.2 (by omega)
              rw [if_pos z]; omega
            · rw [if_neg z]; exact hxb2
          have hf := hst.1.fin hf00
          refine gw_aload_n (gc k_Model_runs_0 31 rfl) rfl rfl ?_
          refine gw_dup (gc k_Model_runs_0 32 rfl) rfl ?_
          refine gw_getf 27 rfl (gc k_Model_runs_0 33 rfl) fl_Model_297 (gAt hx rfl rfl) ?_
          rw [hst.2.2.2.2.1]
          refine gw_iconst (gc k_Model_runs_0 34 rfl) ?_
          refine gw_iadd (gc k_Model_runs_0 35 rfl) ?_
          refine gw_putIK 27 rfl (gc k_Model_runs_0 36 rfl) fl_Model_297 (gAt hx rfl rfl) hf rfl (fun hf => ?_)
          refine gw_iinc_4 (gc k_Model_runs_0 37 rfl) rfl rfl ?_
          refine gw_goto (tgt := 19) (gc k_Model_runs_0 38 rfl) rfl ?_
          refine gWP.eqs ?_ rfl (ih (m, (σ', S.2.1 + 1, if kd = 25 then v else S.2.2), gup g49 177 27 (S.2.1 + 1)) (show (m : Int) ≤ tm ∧ stI g0 ((σ', S.2.1 + 1, if kd = 25 then v else S.2.2)).1 ((σ', S.2.1 + 1, if kd = 25 then v else S.2.2)).2.1 ((σ', S.2.1 + 1, if kd = 25 then v else S.2.2)).2.2 (gup g49 177 27 (S.2.1 + 1)) ∧ osOK r0 ((σ', S.2.1 + 1, if kd = 25 then v else S.2.2)).1 ∧ xsB ((σ', S.2.1 + 1, if kd = 25 then v else S.2.2)) (d + (tm - m)) ∧ (gup g49 177 27 (S.2.1 + 1)) 177 42 = 2400 + p ∧ exC kd s s2 t m ((σ', S.2.1 + 1, if kd = 25 then v else S.2.2)) = exC kd s s2 t tm.toNat S0 from ⟨by omega, hst.don _, hk.1, hxN, (gup_k _ _ _ _ (by decide)).trans ((hq49b).trans ((hq28.1 _ _ (by decide) (by decide) (by omega)).trans h42b)), by rw [← hV, exC_s c35 c45 hso]⟩) (show m < m + 1 from by omega))
          show [(2, 177), (0, 2400 + r0 51), (0, tm), (0, 2400 + P2 + 1), (0, tm - (m : Int))] = _
          rw [show tm - ((m + 1 : Nat) : Int) + 1 = tm - (m : Int) by omega]
        · refine gw_iconst (gc k_Model_runs_0 29 rfl) ?_
          refine gw_zreturn (gc k_Model_runs_0 30 rfl) rfl (by omega) ?_
          first | exact ⟨rfl, Or.inl ⟨by rw [← hV, exC_b c35 c45], rfl, hI2.1, by rw [hI2.2.1]; exact hoS.2.1⟩⟩ | (rcases hob with ⟨q1, q2, q3, q4⟩ | ⟨σq, -, q, -⟩ <;> first | exact ⟨rfl, Or.inl ⟨by rw [← hV, exC_f c35 c45 q1], rfl, q3, by rw [q4]; exact hoS.2.1⟩⟩ | (exfalso; omega))
    · refine gw_goto (tgt := 67) (gc k_Model_runs_0 22 rfl) rfl ?_
      refine gw_iinc_4 (gc k_Model_runs_0 37 rfl) rfl rfl ?_
      refine gw_goto (tgt := 19) (gc k_Model_runs_0 38 rfl) rfl ?_
      refine gWP.eqs ?_ rfl (ih (m, S, g28) (show (m : Int) ≤ tm ∧ stI g0 S.1 S.2.1 S.2.2 g28 ∧ osOK r0 S.1 ∧ xsB S (d + (tm - m)) ∧ g28 177 42 = 2400 + p ∧ exC kd s s2 t m S = exC kd s s2 t tm.toNat S0 from ⟨by omega, hI.ga hq28.1, hoS, by unfold xsB at hxS ⊢; omega, (hq28.1 _ _ (by decide) (by decide) (by omega)).trans h42b, by rw [← hV, exC_n c35]⟩) (show m < m + 1 from by omega))
      show [(2, 177), (0, 2400 + r0 51), (0, tm), (0, 2400 + P2 + 1), (0, tm - (m : Int))] = _
      rw [show tm - ((m + 1 : Nat) : Int) + 1 = tm - (m : Int) by omega]
