/-! ===== orders: the pair ===== -/
theorem nxF_cL {r L L2 : Int → Int} {u j : Int} (hj : 0 ≤ j) (hu : u ≤ 16) (he : ∀ y, 0 ≤ y → y < 416 → L2 y = L y) (y : Int) (h0 : 0 ≤ y) (h1 : y < 25) : nxF r L u j y = nxF r L2 u j y := by
  unfold nxF
  split
  · exact (he _ (by omega) (by omega)).symm
  · rfl
theorem trI.cL {r L L2 : Int → Int} {u T : Int} {g : gM} (h : trI r L u T g) (hm : 0 ≤ r 41 ∧ r 41 ≤ 12) (he : ∀ y, 0 ≤ y → y < 416 → L2 y = L y) : trI r L2 u T g := by
  have hu := h.1
  refine ⟨h.1, h.2.1, fun j a b => ?_⟩
  obtain ⟨q1, q2, q3, q4, q5⟩ := h.2.2 j a b
  refine ⟨by rw [he _ (by omega) (by omega)]; exact q1, q2, fun y c d => ?_, fun y c d => by rw [he _ (by omega) (by omega)]; exact q4 y c d, by rw [he _ (by omega) (by omega)]; exact q5⟩
  rw [he _ (by omega) (by omega), q3 y c d]
  exact unF_congr hm (fun z e f => nxF_cL a hu.2 he z e f) c d
theorem ordR {r : Int → Int} (ho : rowOK r) (g : gM) {len nt : Int} (hn : 0 ≤ nt ∧ nt ≤ 400) : oRow r (layF r 6 nt (tT (tB g) len) (tW (tB g) len) nt) := by
  refine ⟨fun y hy => ?_, layF_ok ho (by decide) hn (fun p a b => ⟨tT_bd g _ _, tW_bd _ _ _⟩)⟩
  unfold layF
  rw [if_neg (by omega), if_neg (by omega), if_neg (by omega)]
theorem pr_orders {sh : gS} {g : gM} {Λ : Int → List PC} (hR : relR Λ sh g) : prP f_Desk_orders f_Model_orders 41 48 0 0 [] Λ sh g := by
  have ht := hR.2.2.1
  have hro := hR.ro
  have hm := ro_many hro
  have hun := hR.un.1
  obtain ⟨nt, hnt⟩ := ntK_ex (tB g) ht.1.1.1
  have hn4 : 0 ≤ nt ∧ nt ≤ 400 := by have := hnt.1; have := ht.1.1; omega
  obtain ⟨r1, hr1⟩ : ∃ r, r = layF (g 179) 6 nt (tT (tB g) (g 177 13)) (tW (tB g) (g 177 13)) nt := ⟨_, rfl⟩
  have hor : oRow (g 179) r1 := by rw [hr1]; exact ordR hro g hn4
  refine (c_Desk_orders hR.1.1 hR.1.2 hR hnt hor).mono ?_
  rintro x s1 g1 ⟨rfl, ⟨e, M, hL, rfl, rfl, m012, m149, m121, hfM, hC, hT, hF, hF150, hF0⟩ | ⟨L, M, hL, m012, m149, hfM, hT, hF, hF150, hF0, hQ⟩⟩
  · -- a fault
    have c : ∀ a k, 159 ≤ a → a ≠ 175 → ansM M (-6) a k = g a k := fun a k q q2 => (ansM_k _ _ (by omega) q2).trans (hF a k (by unfold cS2 cS1; omega))
    have e179 : ansM M (-6) 179 = g 179 := funext fun y => c _ _ (by decide) (by decide)
    have e13 : ansM M (-6) 177 13 = g 177 13 := c _ _ (by decide) (by decide)
    have eB : tB (ansM M (-6)) = tB g := tB_eq (funext fun y => c _ _ (by decide) (by decide))
    have htk : tapeOK (ansM M (-6)) := by
      refine ⟨by rw [e13]; exact ht.1.1, fun j p q => ?_⟩
      rw [c _ _ (by decide) (by decide)]; exact ht.1.2 j p q
    refine ⟨(0, -6), rfl, Nat.zero_le _, hR.1.1, (c_Model_orders hR.1.1 (ansM_fin hfM (-6)) (by rw [e179]; exact hro) (by rw [e179]; exact hR.lw) htk (hR.2.2.2.2.2.2.2.2.keep (fun k => c _ _ (by decide) (by decide))) (by rw [c _ _ (by decide) (by decide)]; exact hun)).mono ?_⟩
    rintro y s2 g2 ⟨rfl, ⟨b, N, hb, hE, rfl, rfl⟩ | ⟨nt2, L2, r2, ⟨hn2, hNQ, hT0⟩, hL2, -⟩⟩
    · obtain ⟨hRd, n13, n14, nt2, hn2, n18, hTV, ⟨hNQ, hT0⟩, hX⟩ := hE
      have eB2 : tB (gup (ansM M (-6)) 177 41 (-1)) = tB g := (tB_eq (gup_fn _ _ _ _ (by decide))).trans eB
      have e132 : gup (ansM M (-6)) 177 41 (-1) 177 13 = g 177 13 := (gup_k _ _ _ _ (by decide)).trans e13
      rw [eB2, e132] at hTV hNQ hT0 hX
      have ent := nt_eq hnt hNQ hn2.1
      subst ent
      rw [hL] at hX
      have hb2 : b = tP (tB g) (g 177 13) e.toNat := by
        rcases hX with ⟨e2, q1, q2, q3, -⟩ | ⟨L, q1, -⟩
        · have := Sum.inl.inj q1
          subst this
          exact q2
        · cases q1
      have cR : ∀ a k, ¬ (a = 177 ∧ ((8 ≤ k ∧ k ≤ 10) ∨ k = 13 ∨ k = 14 ∨ (18 ≤ k ∧ k ≤ 21) ∨ k = 41)) → ¬ (a = 186 ∨ a = 187 ∨ a = 188) → N a k = ansM M (-6) a k := fun a k q1 q2 => by
        rw [hRd a k (by omega) (by omega) (by omega) (by omega)]
        by_cases e : a = 177
        · subst e; exact gup_k _ _ _ _ (by omega)
        · exact gup_a _ _ _ _ _ e
      have n41 : N 177 41 = -1 := (hRd _ _ (by decide) (by decide) (by decide) (by omega)).trans (gup_s _ _ _ _)
      refine ⟨rfl, app0 _, Λ, ?_⟩
      have q := refM_at N (-6)
      have cG : ∀ a k, ¬ (a = 177 ∧ (k = 0 ∨ (8 ≤ k ∧ k ≤ 10) ∨ k = 13 ∨ k = 14 ∨ (18 ≤ k ∧ k ≤ 21) ∨ k = 41)) → ¬ (a = 178 ∨ a = 186 ∨ a = 187 ∨ a = 188) → refM N (-6) a k = ansM M (-6) a k := fun a k q1 q2 => (q.2.2 a k (by omega) (by omega)).trans (cR a k (by omega) (by omega))
      have hW : mdW (ansM M (-6)) (refM N (-6)) := fun a k z => cG a k (fun e => by unfold mNum at z; omega) (by omega)
      refine hR.fin2 (g0 := M) (v := -6) (σ := osM g) hC hT hfM hF hW ?_ (rf_bad hR.2.2.2.1 (by decide) (fun k => hF _ _ (by unfold cS2 cS1; omega)) hW q.1 (fun k => ?_)) ⟨⟨?_, fun j a b => ?_⟩, ?_, fun j a b => ?_⟩ ⟨?_, ?_, ?_⟩ (fun a k z => ?_)
      · unfold osM
        rw [show refM N (-6) 179 = g 179 from funext fun y => (cG _ _ (by omega) (by decide)).trans (c _ _ (by decide) (by decide)), show refM N (-6) 190 = g 190 from funext fun y => (cG _ _ (by omega) (by decide)).trans (c _ _ (by decide) (by decide)), cG 177 33 (by omega) (by decide), c _ _ (by decide) (by decide)]
      · rw [q.2.1, cR _ _ (by omega) (by decide), cR _ _ (by omega) (by decide), c _ _ (by decide) (by decide), c _ _ (by decide) (by decide)]
      · rw [q.2.2 _ _ (by omega) (by decide), n13]; decide
      · rw [cG _ _ (by omega) (by decide), c _ _ (by decide) (by decide)]; exact ht.1.2 j a b
      · rw [cG _ _ (by omega) (by decide), ansM_k _ _ (by omega) (by decide), m149, q.2.2 _ _ (by omega) (by decide), n13]
      · rw [cG _ _ (by omega) (by decide), ansM_k _ _ (by omega) (by decide), hF150, cG _ _ (by omega) (by decide), c _ _ (by decide) (by decide)]; exact ht.2.2 j a b
      · rw [cG _ _ (by omega) (by decide), ansM_k _ _ (by omega) (by decide), hF0 _ (by decide), cG _ _ (by omega) (by decide), c _ _ (by decide) (by decide)]; exact hR.2.2.2.2.1.1
      · rw [cG _ _ (by omega) (by decide), ansM_k _ _ (by omega) (by decide), m012, q.2.2 _ _ (by omega) (by decide), n14, hb2]
      · rw [cG _ _ (by omega) (by decide), ansM_k _ _ (by omega) (by decide), m121, q.2.2 _ _ (by omega) (by decide), n41]
      · rw [cG a k (by omega) (by omega)]; exact c a k (by omega) (by omega)
    · rw [eB, e13] at hNQ hL2
      have ent := nt_eq hnt hNQ hn2.1
      subst ent
      rw [hL] at hL2
      cases hL2
  · -- orders read
    have c : ∀ v a k, 159 ≤ a → a ≠ 175 → ansM M v a k = g a k := fun v a k q q2 => (ansM_k _ _ (by omega) q2).trans (hF a k (by unfold cS2 cS1; omega))
    have e179 : ∀ v, ansM M v 179 = g 179 := fun v => funext fun y => c _ _ _ (by decide) (by decide)
    have e190 : ∀ v, ansM M v 190 = g 190 := fun v => funext fun y => c _ _ _ (by decide) (by decide)
    have e13 : ∀ v, ansM M v 177 13 = g 177 13 := fun v => c _ _ _ (by decide) (by decide)
    have e33 : ∀ v, ansM M v 177 33 = g 177 33 := fun v => c _ _ _ (by decide) (by decide)
    have eB : ∀ v, tB (ansM M v) = tB g := fun v => tB_eq (funext fun y => c _ _ _ (by decide) (by decide))
    have htk : ∀ v, tapeOK (ansM M v) := fun v => by
      refine ⟨by rw [e13]; exact ht.1.1, fun j p q => ?_⟩
      rw [c _ _ _ (by decide) (by decide)]; exact ht.1.2 j p q
    have hMod := fun v => c_Model_orders hR.1.1 (ansM_fin hfM v) (by rw [e179]; exact hro) (by rw [e179]; exact hR.lw) (htk v) (hR.2.2.2.2.2.2.2.2.keep (fun k => c _ _ _ (by decide) (by decide))) (by rw [e33]; exact hun)
    have key : ∀ v y g2, orQ (ansM M v) y g2 → (∃ i N, exL L 0 ((r1, g 190, g 177 33), 0, -1) = .inl i ∧ y = some (0, -3) ∧ g2 = refM N (-3) ∧ orN (ansM M v) N ∧ N 179 = r1 ∧ (∀ y, 0 ≤ y → y < 416 → N 190 y = g 190 y) ∧ N 177 33 = g 177 33 ∧ N 177 41 = i) ∨ (∃ S N, exL L 0 ((r1, g 190, g 177 33), 0, -1) = .inr S ∧ y = some (0, S.2.1) ∧ g2 = goodM N ∧ orN (ansM M v) N ∧ N 179 = S.1.1 ∧ N 190 = S.1.2.1 ∧ N 177 33 = S.1.2.2 ∧ N 177 41 = -1) := by
      rintro v y g2 (⟨b, N, hb, hE, -⟩ | ⟨nt2, L2, r2, ⟨hn2, hNQ, hT0⟩, hL2, ⟨-, hr2⟩, hQ2⟩)
      · exfalso
        obtain ⟨hRd, n13, n14, nt2, hn2, n18, hTV, ⟨hNQ, hT0⟩, hX⟩ := hE
        have eB2 : tB (gup (ansM M v) 177 41 (-1)) = tB g := (tB_eq (gup_fn _ _ _ _ (by decide))).trans (eB v)
        have e132 : gup (ansM M v) 177 41 (-1) 177 13 = g 177 13 := (gup_k _ _ _ _ (by decide)).trans (e13 v)
        rw [eB2, e132] at hNQ hX
        have ent := nt_eq hnt hNQ hn2.1
        subst ent
        rw [hL] at hX
        rcases hX with ⟨e2, q1, -⟩ | ⟨L, -, q2⟩
        · cases q1
        · exact hb q2
      · rw [eB, e13] at hNQ hL2 hr2
        have ent := nt_eq hnt hNQ hn2.1
        subst ent
        rw [hL] at hL2
        have eL := Sum.inr.inj hL2
        subst eL
        rw [e179, ← hr1] at hr2
        subst hr2
        rw [e190, e33] at hQ2
        exact hQ2
    rcases hQ with ⟨i, hi, rfl, rfl, m121, hC⟩ | ⟨S, hS, rfl, hS0, rfl, m121, hC⟩
    · refine ⟨(0, -3), rfl, Nat.zero_le _, hR.1.1, (hMod (-3)).mono ?_⟩
      rintro y s2 g2 ⟨rfl, hq⟩
      rcases key _ _ _ hq with ⟨i2, N, hi2, rfl, rfl, ⟨hN, n13, n14⟩, n179, n190, n33, n41⟩ | ⟨S, N, hS2, -⟩
      · rw [hi] at hi2
        have ei := Sum.inl.inj hi2
        subst ei
        refine ⟨rfl, app0 _, Λ, ?_⟩
        have q := refM_at N (-3)
        have cG : ∀ a k, ¬ (a = 178 ∨ a = 179 ∨ a = 182 ∨ (186 ≤ a ∧ a ≤ 191) ∨ a = 199) → ¬ (a = 177 ∧ (k = 0 ∨ (8 ≤ k ∧ k ≤ 10) ∨ k = 13 ∨ k = 14 ∨ (18 ≤ k ∧ k ≤ 25) ∨ (27 ≤ k ∧ k ≤ 30) ∨ k = 33 ∨ (41 ≤ k ∧ k ≤ 46))) → refM N (-3) a k = ansM M (-3) a k := fun a k q1 q2 => (q.2.2 a k (by omega) (by omega)).trans (hN a k (by omega) (by omega))
        have hW : mdW (ansM M (-3)) (refM N (-3)) := fun a k z => cG a k (by omega) (fun e => by unfold mNum at z; omega)
        have hm1 := ro_many hor.2
        have eo : osM (refM N (-3)) = (r1, N 190, g 177 33) := by
          rw [ref_os]
          unfold osM
          rw [n179, n33]
        refine hR.fin2 (g0 := M) (v := -3) (σ := (r1, N 190, g 177 33)) ⟨hC.1, hC.2.cL hm1 n190⟩ hT hfM hF hW eo (rf_bad hR.2.2.2.1 (by decide) (fun k => hF _ _ (by unfold cS2 cS1; omega)) hW q.1 (fun k => ?_)) ⟨⟨?_, fun j a b => ?_⟩, ?_, fun j a b => ?_⟩ ⟨?_, ?_, ?_⟩ (fun a k z => ?_)
        · rw [q.2.1, hN _ _ (by decide) (by omega), hN _ _ (by decide) (by omega), c _ _ _ (by decide) (by decide), c _ _ _ (by decide) (by decide)]
        · rw [q.2.2 _ _ (by omega) (by decide), n13]; decide
        · rw [cG _ _ (by decide) (by omega), c _ _ _ (by decide) (by decide)]; exact ht.1.2 j a b
        · rw [cG _ _ (by decide) (by omega), ansM_k _ _ (by omega) (by decide), m149, q.2.2 _ _ (by omega) (by decide), n13]
        · rw [cG _ _ (by decide) (by omega), ansM_k _ _ (by omega) (by decide), hF150, cG _ _ (by decide) (by omega), c _ _ _ (by decide) (by decide)]; exact ht.2.2 j a b
        · rw [cG _ _ (by decide) (by omega), ansM_k _ _ (by omega) (by decide), hF0 _ (by decide), cG _ _ (by decide) (by omega), c _ _ _ (by decide) (by decide)]; exact hR.2.2.2.2.1.1
        · rw [cG _ _ (by decide) (by omega), ansM_k _ _ (by omega) (by decide), m012, q.2.2 _ _ (by omega) (by decide), n14]
        · rw [cG _ _ (by decide) (by omega), ansM_k _ _ (by omega) (by decide), m121, q.2.2 _ _ (by omega) (by decide), n41]
        · rw [cG a k (by omega) (by omega)]; exact c _ a k (by omega) (by omega)
      · rw [hi] at hS2; cases hS2
    · refine ⟨(0, S.2.1), rfl, Nat.zero_le _, hR.1.1, (hMod 0).mono ?_⟩
      rintro y s2 g2 ⟨rfl, hq⟩
      rcases key _ _ _ hq with ⟨i2, N, hi2, -⟩ | ⟨S2, N, hS2, rfl, rfl, ⟨hN, n13, n14⟩, n179, n190, n33, n41⟩
      · rw [hS] at hi2; cases hi2
      · rw [hS] at hS2
        have eS := Sum.inr.inj hS2
        subst eS
        refine ⟨rfl, app0 _, Λ, ?_⟩
        have q := goodM_at N
        have cG : ∀ a k, ¬ (a = 179 ∨ a = 182 ∨ (186 ≤ a ∧ a ≤ 191) ∨ a = 199) → ¬ (a = 177 ∧ (k = 0 ∨ (8 ≤ k ∧ k ≤ 10) ∨ k = 13 ∨ k = 14 ∨ (18 ≤ k ∧ k ≤ 25) ∨ (27 ≤ k ∧ k ≤ 30) ∨ k = 33 ∨ (41 ≤ k ∧ k ≤ 46))) → goodM N a k = ansM M 0 a k := fun a k q1 q2 => (q.2 a k (by omega)).trans (hN a k (by omega) (by omega))
        have hW : mdW (ansM M 0) (goodM N) := fun a k z => cG a k (by omega) (fun e => by unfold mNum at z; omega)
        have eo : osM (goodM N) = S.1 := by
          rw [good_os]
          unfold osM
          rw [n179, n190, n33]
        refine hR.fin2 (g0 := M) (v := 0) (σ := S.1) hC hT hfM hF hW eo (rf_good hR.2.2.2.1 (fun k => hF _ _ (by unfold cS2 cS1; omega)) hW q.1 (fun k => ?_)) ⟨⟨?_, fun j a b => ?_⟩, ?_, fun j a b => ?_⟩ ⟨?_, ?_, ?_⟩ (fun a k z => ?_)
        · rw [cG _ _ (by decide) (by omega)]; exact c _ _ _ (by decide) (by decide)
        · rw [q.2 _ _ (by omega), n13]; decide
        · rw [cG _ _ (by decide) (by omega), c _ _ _ (by decide) (by decide)]; exact ht.1.2 j a b
        · rw [cG _ _ (by decide) (by omega), ansM_k _ _ (by omega) (by decide), m149, q.2 _ _ (by omega), n13]
        · rw [cG _ _ (by decide) (by omega), ansM_k _ _ (by omega) (by decide), hF150, cG _ _ (by decide) (by omega), c _ _ _ (by decide) (by decide)]; exact ht.2.2 j a b
        · rw [cG _ _ (by decide) (by omega), ansM_k _ _ (by omega) (by decide), hF0 _ (by decide), cG _ _ (by decide) (by omega), c _ _ _ (by decide) (by decide)]; exact hR.2.2.2.2.1.1
        · rw [cG _ _ (by decide) (by omega), ansM_k _ _ (by omega) (by decide), m012, q.2 _ _ (by omega), n14]
        · rw [cG _ _ (by decide) (by omega), ansM_k _ _ (by omega) (by decide), m121, q.2 _ _ (by omega), n41]
        · rw [cG a k (by omega) (by omega)]; exact c _ a k (by omega) (by omega)
