/-! ===== laws and orders: pairs ===== -/
theorem txL.ext2 {lo : Int} {o : Bool} {sh : gS} {g g2 : gM} {a : Int} {L : List OC} (h : txL lo o sh g a L) (he : ∀ x k, lo ≤ x → x < sh.length → g2 x k = g x k) : txL lo o sh g2 a L := by
  obtain ⟨N3, N5, N6, q1, q2, q3, q4, q5, q6, q7, q8, q9, q10, ⟨u, hu, q11⟩, q12⟩ := h
  have f : ∀ x, lo ≤ x → x < sh.length → g2 x = g x := fun x hx hx2 => funext fun k => he x k hx hx2
  refine ⟨N3, N5, N6, ?_, q2, ?_, ?_, ?_, ?_, ?_, q8, ?_, ?_, ⟨u, hu, ?_⟩, q12⟩
  · rw [f a q1.1 q2.lt]; exact q1
  · rw [f a q1.1 q2.lt]; exact q3
  · rw [f a q1.1 q2.lt]; exact q4
  · rw [f a q1.1 q2.lt]; exact q5
  · rw [f a q1.1 q2.lt]; exact q6
  · rw [f a q1.1 q2.lt]; exact q7
  · rw [f a q1.1 q2.lt]; exact q9
  · rw [f a q1.1 q2.lt]; exact q10
  · rw [f a q1.1 q2.lt, f _ q1.2.1 q3.lt, f _ q1.2.2.1 q4.lt, f _ q1.2.2.2.1 q5.lt, f _ q1.2.2.2.2.1 q6.lt, f _ q1.2.2.2.2.2 q7.lt]; exact q11
theorem txL.at {lo : Int} {o : Bool} {sh : gS} {g : gM} {a : Int} {L : List OC} (h : txL lo o sh g a L) : gsz sh a 10 8 := by
  obtain ⟨N3, N5, N6, q1, q2, -⟩ := h
  exact q2
theorem bdX.grow {Λ Λ2 : Int → List PC} {sh t : gS} {r : Int → Int} {g g2 : gM} {b : Int} (h : bdX Λ sh r g b) (hsh : 201 ≤ (sh.length : Int)) (hΛ : ∀ a : Int, a < (sh.length : Int) → Λ2 a = Λ a) (he : ∀ a k : Int, ((b ≤ a ∧ a ≤ b + 6) ∨ (201 ≤ a ∧ a < (sh.length : Int))) → g2 a k = g a k) : bdX Λ2 (sh ++ t) r g2 b := by
  refine ⟨⟨h.1.1, by rw [hΛ _ (by omega)]; exact h.1.2⟩, h.2.1.of (fun a k x y => he a k (by omega)), fun i a c => ?_⟩
  have q := h.2.2 i a c
  rw [he _ _ (by omega), hΛ _ q.2.at.lt]
  exact ⟨q.1, (q.2.ext2 (fun x k y z => he x k (by omega))).more t⟩
theorem bdT.grow {sh t : gS} {g : gM} {b : Int} (h : bdT sh g b) : bdT (sh ++ t) g b := fun i a c => ⟨(h i a c).1, (h i a c).2.elim Or.inl (fun z => Or.inr z.more)⟩
theorem shI.grow {Λ Λ2 : Int → List PC} {sh t : gS} {g : gM} {S k : Int} (h : shI Λ sh g S k) (hΛ : ∀ a : Int, a < (sh.length : Int) → Λ2 a = Λ a) : shI Λ2 (sh ++ t) g S k := by
  refine ⟨h.1, fun i a b => ?_⟩
  obtain ⟨q1, q2, q3, q4⟩ := h.2 i a b
  have hl : ((sh ++ t).length : Int) = sh.length + t.length := by rw [List.length_append]; omega
  refine ⟨by omega, q2, q3.elim Or.inl (fun ⟨r, z1, z2, z3⟩ => Or.inr ⟨r, z1, z2, ?_⟩), q4⟩
  intro h p c1 c2 c3 c4 c5
  rw [hΛ _ q1.2]
  exact z3 h p c1 c2 c3 c4 c5
theorem ppS.grow {Λ Λ2 : Int → List PC} {sh t : gS} {g : gM} (h : ppS Λ sh g) (hΛ : ∀ a : Int, a < (sh.length : Int) → Λ2 a = Λ a) : ppS Λ2 (sh ++ t) g := ⟨h.1.grow hΛ, h.2.1.grow hΛ, h.2.2.grow hΛ⟩
theorem imI.grow {Λ Λ2 : Int → List PC} {sh t : gS} {g g2 : gM} (h : imI Λ sh g) (hsh : 201 ≤ (sh.length : Int)) (hΛ : ∀ a : Int, a < (sh.length : Int) → Λ2 a = Λ a) (he : ∀ a k : Int, (a = 174 ∨ a = 181 ∨ a = 180 ∨ (160 ≤ a ∧ a ≤ 173) ∨ (201 ≤ a ∧ a < (sh.length : Int))) → g2 a k = g a k) : imI Λ2 (sh ++ t) g2 := fun k a b => by
  rw [he 174 k (by omega), he 181 k (by omega), show imR g2 k = imR g k from funext fun y => he 180 _ (by omega)]
  exact ⟨(h k a b).1, (h k a b).2.elim Or.inl (fun z => Or.inr ⟨z.1, z.2.1.grow hsh hΛ (fun x y q => he x y (by omega)), (z.2.2.keep (fun y => he _ y (by omega))).grow⟩)⟩
theorem nt_eq {B : Int → Int} {len nt nt2 : Int} (h : ntK B len nt) (h2 : ntQ B len nt2) (h0 : 0 ≤ nt2) : nt2 = nt := by
  have a1 := h.2 nt h.1.1
  have a2 := h2 nt h.1.1
  have b1 := h.2 nt2 h0
  have b2 := h2 nt2 h0
  by_cases z : nt < nt2
  · exact absurd (a1.mp (a2.mpr z)) (by omega)
  · by_cases y : nt2 < nt
    · exact absurd (b2.mp (b1.mpr y)) (by omega)
    · omega
/-- the new law's row -/
def lawR (r : Int → Int) (nt : Int) (C V : Int → Int) : Int → Int := rPt (layF r (r 43) nt C V nt) 43 (r 43 + 1)
theorem lawR_k {r : Int → Int} {nt : Int} {C V : Int → Int} {y : Int} (h43 : y ≠ 43) (h1 : y ≠ 45 + r 43) (h2 : ¬ (52 + 400 * r 43 ≤ y ∧ y < 52 + 400 * r 43 + nt)) (h3 : ¬ (2852 + 400 * r 43 ≤ y ∧ y < 2852 + 400 * r 43 + nt)) : lawR r nt C V y = r y := by
  unfold lawR
  rw [show rPt (layF r (r 43) nt C V nt) 43 (r 43 + 1) y = layF r (r 43) nt C V nt y from if_neg h43]
  unfold layF
  rw [if_neg h1, if_neg h2, if_neg h3]
theorem rowOK.told {r : Int → Int} (h : rowOK r) (h43 : r 43 < 6) : rowOK (rPt r 43 (r 43 + 1)) := by
  have k : ∀ x, x ≠ 43 → rPt r 43 (r 43 + 1) x = r x := fun x hx => if_neg hx
  have ks : rPt r 43 (r 43 + 1) 43 = r 43 + 1 := if_pos rfl
  obtain ⟨h1, h2, h3, h4, h5, h6, h7, h8, h9, h10, h11, h12, h13, h14⟩ := h
  refine ⟨by rw [k 41 (by decide)]; exact h1, fun i a b => by rw [k i (by omega)]; exact h2 i a b, by rw [k 24 (by decide)]; exact h3, by rw [k 37 (by decide)]; exact h4, by rw [k 38 (by decide)]; exact h5, by rw [k 39 (by decide)]; exact h6, by rw [k 40 (by decide)]; exact h7, by rw [k 42 (by decide)]; exact h8, by rw [ks]; omega, by rw [k 44 (by decide), ks]; omega, fun j a b => by rw [k _ (by omega), k _ (by omega)]; exact h11 j a b, fun i a b => by rw [k i (by omega)]; exact h12 i a b, fun i a b => by rw [k i (by omega)]; exact h13 i a b, fun i a b => by rw [k i (by omega)]; exact h14 i a b⟩
theorem lawR_law {r : Int → Int} (ho : rowOK r) {nt : Int} {C V B : Int → Int} {len : Int} (h43 : r 43 < 6) (hn : 0 ≤ nt ∧ nt ≤ 400) (hC : ∀ p, 0 ≤ p → p ≤ nt → C p = tT B len p ∧ V p = tW B len p) (h0 : ∀ p, nt ≤ p → tT B len p = 0) : (∀ i, 0 ≤ i → i < r 43 → rLaw (lawR r nt C V) i = rLaw r i) ∧ rLaw (lawR r nt C V) (r 43) = lawRd (tT B len) (tW B len) nt := by
  have ht := ro_told ho
  refine ⟨fun i a c => ?_, ?_⟩
  · have hs := ro_size ho (45 + i) (by omega)
    exact rLaw_slot (r := r) i (lawR_k (by omega) (by omega) (by omega) (by omega)) (fun p x y => ⟨lawR_k (by omega) (by omega) (by omega) (by omega), lawR_k (by omega) (by omega) (by omega) (by omega)⟩)
  · obtain ⟨q1, q2, q3⟩ := layF_T (r := r) (t := r 43) (by omega) hn hC h0
    unfold lawR
    have e := rLaw_eq (r := layF r (r 43) nt C V nt) (r2 := rPt (layF r (r 43) nt C V nt) 43 (r 43 + 1)) (fun y hy => if_neg (by omega)) (r 43) ht.1
    rw [e]
    unfold rLaw
    rw [q1, q2, pLaw_V q3, pLaw_all]
    rfl
theorem pr_law {sh : gS} {g : gM} {Λ : Int → List PC} (hR : relR Λ sh g) : prP f_Desk_law f_Model_law 41 37 6 869 [] Λ sh g := by
  have ht := hR.2.2.1
  have hro := hR.ro
  have hm := ro_many hro
  have h43 := ro_told hro
  have hsl := hR.1.1.len
  obtain ⟨nt, hnt⟩ := ntK_ex (tB g) ht.1.1.1
  refine (c_Desk_law hR.1.1 hR.1.2 hR hnt).mono ?_
  rintro x s1 g1 (⟨z, rfl, rfl, rfl⟩ | ⟨z, ⟨e, M, hL, rfl, rfl, rfl, hD⟩ | ⟨L, M, hL, rfl, ⟨t, rfl, ht1⟩, rfl, hfM, hTx, m7, m17, m012, m149, hF⟩⟩)
  · -- no room
    have c : ∀ a k, 150 ≤ a → a ≠ 175 → ansM (gup g 149 1 0) (-5) a k = g a k := fun a k q q2 => (ansM_k _ _ (by omega) q2).trans (gup_a _ _ _ _ _ (by omega))
    have e179 : ansM (gup g 149 1 0) (-5) 179 = g 179 := funext fun y => c _ _ (by decide) (by decide)
    have e13 : ansM (gup g 149 1 0) (-5) 177 13 = g 177 13 := c _ _ (by decide) (by decide)
    have hft : gFin (gup g 149 1 0) := hR.1.2.up rfl
    have htk : tapeOK (ansM (gup g 149 1 0) (-5)) := by
      refine ⟨by rw [e13]; exact ht.1.1, fun j p q => ?_⟩
      rw [c _ _ (by decide) (by decide)]; exact ht.1.2 j p q
    refine ⟨(0, -5), rfl, Nat.zero_le _, hR.1.1, (c_Model_law hR.1.1 (ansM_fin hft (-5)) (by rw [e179]; exact hro) htk (hR.2.2.2.2.2.2.2.2.keep (fun k => c _ _ (by decide) (by decide)))).mono ?_⟩
    rintro y s2 g2 ⟨rfl, ⟨w, rfl, rfl⟩ | ⟨w, -⟩⟩
    · refine ⟨rfl, app0 _, Λ, ?_⟩
      obtain ⟨N, hN⟩ : ∃ N, N = gup (ansM (gup g 149 1 0) (-5)) 177 13 0 := ⟨_, rfl⟩
      rw [← hN]
      have q := refM_at N (-5)
      have cN : ∀ a k, ¬ (a = 177 ∧ k = 13) → N a k = ansM (gup g 149 1 0) (-5) a k := fun a k q1 => by
        rw [hN]
        by_cases e : a = 177
        · subst e; exact gup_k _ _ _ _ (fun y => q1 ⟨rfl, y⟩)
        · exact gup_a _ _ _ _ _ e
      have n13 : N 177 13 = 0 := by rw [hN, gup_s]
      have cG : ∀ a k, ¬ (a = 177 ∧ (k = 0 ∨ k = 13)) → a ≠ 178 → refM N (-5) a k = ansM (gup g 149 1 0) (-5) a k := fun a k q1 q2 => (q.2.2 a k (by omega) q2).trans (cN a k (by omega))
      have hW : mdW (ansM (gup g 149 1 0) (-5)) (refM N (-5)) := fun a k z => cG a k (fun e => by unfold mNum at z; omega) (by omega)
      have c3 : ∀ a k, ¬ (a = 0 ∧ k = 13) → a ≠ 175 → ¬ (a = 149 ∧ k = 1) → ¬ (a = 177 ∧ (k = 0 ∨ k = 13)) → a ≠ 178 → refM N (-5) a k = g a k := fun a k q1 q2 q3 q4 q5 => by
        rw [cG a k q4 q5, ansM_k _ _ q1 q2]
        by_cases e : a = 149
        · subst e; exact gup_k _ _ _ _ (fun y => q3 ⟨rfl, y⟩)
        · exact gup_a _ _ _ _ _ e
      refine hR.fin2 (g0 := gup g 149 1 0) (v := -5) (σ := osM g) (hR.2.1.1.of (fun a k z => gup_a _ _ _ _ _ (by omega))) (hR.2.1.2.keep (fun k => gup_a _ _ _ _ _ (by decide))) hft (fun a k z => gup_a _ _ _ _ _ (fun e => z (by unfold cS2; omega))) hW ?_ (rf_bad hR.2.2.2.1 (by decide) (fun k => gup_a _ _ _ _ _ (by decide)) hW q.1 (fun k => ?_)) ⟨⟨?_, fun j a b => ?_⟩, ?_, fun j a b => ?_⟩ (hR.2.2.2.2.1.keep (fun a k z => c3 a k (by omega) (by omega) (by omega) (by omega) (by omega))) (fun a k z => c3 a k (by omega) (by omega) (by omega) (by omega) (by omega))
      · unfold osM
        rw [show refM N (-5) 179 = g 179 from funext fun y => c3 _ _ (by omega) (by decide) (by omega) (by omega) (by decide), show refM N (-5) 190 = g 190 from funext fun y => c3 _ _ (by omega) (by decide) (by omega) (by omega) (by decide), c3 177 33 (by omega) (by decide) (by omega) (by omega) (by decide)]
      · rw [q.2.1, cN _ _ (by omega), cN _ _ (by omega), c _ _ (by decide) (by decide), c _ _ (by decide) (by decide)]
      · rw [q.2.2 _ _ (by omega) (by decide), n13]; decide
      · rw [c3 _ _ (by omega) (by decide) (by omega) (by omega) (by decide)]; exact ht.1.2 j a b
      · rw [cG _ _ (by omega) (by decide), ansM_k _ _ (by omega) (by decide), gup_s, q.2.2 _ _ (by omega) (by decide), n13]
      · rw [c3 _ _ (by omega) (by decide) (by omega) (by omega) (by decide), c3 _ _ (by omega) (by decide) (by omega) (by omega) (by decide)]; exact ht.2.2 j a b
    · rw [e179] at w; exact absurd z w
  · -- a fault
    obtain ⟨d1, d2, hfM, d4⟩ := hD
    have c : ∀ a k, 159 ≤ a → a ≠ 175 → ansM M (-6) a k = g a k := fun a k q q2 => (ansM_k _ _ (by omega) q2).trans (d4 a k (by omega) (by omega) (by omega) (by omega) (by omega))
    have e179 : ansM M (-6) 179 = g 179 := funext fun y => c _ _ (by decide) (by decide)
    have e13 : ansM M (-6) 177 13 = g 177 13 := c _ _ (by decide) (by decide)
    have eB : tB (ansM M (-6)) = tB g := tB_eq (funext fun y => c _ _ (by decide) (by decide))
    have htk : tapeOK (ansM M (-6)) := by
      refine ⟨by rw [e13]; exact ht.1.1, fun j p q => ?_⟩
      rw [c _ _ (by decide) (by decide)]; exact ht.1.2 j p q
    refine ⟨(0, -6), rfl, Nat.zero_le _, hR.1.1, (c_Model_law hR.1.1 (ansM_fin hfM (-6)) (by rw [e179]; exact hro) htk (hR.2.2.2.2.2.2.2.2.keep (fun k => c _ _ (by decide) (by decide)))).mono ?_⟩
    rintro y s2 g2 ⟨rfl, ⟨w, -⟩ | ⟨w, b, N, hE, hQ⟩⟩
    · rw [e179] at w; exact absurd w z
    · obtain ⟨hRd, n13, n14, nt2, hn2, n18, hTV, ⟨hNQ, hT0⟩, hX⟩ := hE
      rw [eB, e13] at hTV hNQ hT0 hX
      have ent := nt_eq hnt hNQ hn2.1
      subst ent
      rw [hL] at hX
      obtain ⟨hb, he⟩ : b = tP (tB g) (g 177 13) e.toNat ∧ 0 ≤ e := by
        rcases hX with ⟨e2, q1, q2, q3, -⟩ | ⟨L, q1, -⟩
        · have := Sum.inl.inj q1
          subst this
          exact ⟨q2, q3⟩
        · cases q1
      have hbn := tP_bd (tB g) ht.1.1.1 e.toNat
      rcases hQ with ⟨-, rfl, rfl⟩ | ⟨hb2, -⟩
      · refine ⟨rfl, app0 _, Λ, ?_⟩
        have q := refM_at N (-6)
        have cG : ∀ a k, ¬ (a = 177 ∧ (k = 0 ∨ (8 ≤ k ∧ k ≤ 10) ∨ k = 13 ∨ k = 14 ∨ (18 ≤ k ∧ k ≤ 21))) → ¬ (a = 178 ∨ a = 186 ∨ a = 187 ∨ a = 188) → refM N (-6) a k = ansM M (-6) a k := fun a k q1 q2 => (q.2.2 a k (by omega) (by omega)).trans (hRd a k (by omega) (by omega) (by omega) (by omega))
        have hW : mdW (ansM M (-6)) (refM N (-6)) := fun a k z => cG a k (fun e => by unfold mNum at z; omega) (by omega)
        refine hR.fin2 (g0 := M) (v := -6) (σ := osM g) (hR.2.1.1.of (fun a k z => d4 a k (by omega) (by omega) (by omega) (by omega) (by omega))) (hR.2.1.2.keep (fun k => d4 _ _ (by omega) (by omega) (by omega) (by omega) (by omega))) hfM (fun a k z => d4 a k (by unfold cS2 cS1 at z; omega) (by unfold cS2 cS1 at z; omega) (by unfold cS2 cS1 at z; omega) (by unfold cS2 cS1 at z; omega) (by unfold cS2 cS1 at z; omega)) hW ?_ (rf_bad hR.2.2.2.1 (by decide) (fun k => d4 _ _ (by omega) (by omega) (by omega) (by omega) (by omega)) hW q.1 (fun k => ?_)) ⟨⟨?_, fun j a b => ?_⟩, ?_, fun j a b => ?_⟩ ⟨?_, ?_, ?_⟩ (fun a k z => ?_)
        · unfold osM
          rw [show refM N (-6) 179 = g 179 from funext fun y => (cG _ _ (by omega) (by decide)).trans (c _ _ (by decide) (by decide)), show refM N (-6) 190 = g 190 from funext fun y => (cG _ _ (by omega) (by decide)).trans (c _ _ (by decide) (by decide)), cG 177 33 (by omega) (by decide), c _ _ (by decide) (by decide)]
        · rw [q.2.1, hRd _ _ (by decide) (by decide) (by decide) (by omega), hRd _ _ (by decide) (by decide) (by decide) (by omega), c _ _ (by decide) (by decide), c _ _ (by decide) (by decide)]
        · rw [q.2.2 _ _ (by omega) (by decide), n13]; decide
        · rw [cG _ _ (by omega) (by decide), c _ _ (by decide) (by decide)]; exact ht.1.2 j a b
        · rw [cG _ _ (by omega) (by decide), ansM_k _ _ (by omega) (by decide), d2, q.2.2 _ _ (by omega) (by decide), n13]
        · rw [cG _ _ (by omega) (by decide), ansM_k _ _ (by omega) (by decide), d4 _ _ (by omega) (by omega) (by omega) (by omega) (by omega), cG _ _ (by omega) (by decide), c _ _ (by decide) (by decide)]; exact ht.2.2 j a b
        · rw [cG _ _ (by omega) (by decide), ansM_k _ _ (by omega) (by decide), d4 _ _ (by omega) (by omega) (by omega) (by omega) (by omega), cG _ _ (by omega) (by decide), c _ _ (by decide) (by decide)]; exact hR.2.2.2.2.1.1
        · rw [cG _ _ (by omega) (by decide), ansM_k _ _ (by omega) (by decide), d1, q.2.2 _ _ (by omega) (by decide), n14, hb]
        · rw [cG _ _ (by omega) (by decide), ansM_k _ _ (by omega) (by decide), d4 _ _ (by omega) (by omega) (by omega) (by omega) (by omega), cG _ _ (by omega) (by decide), c _ _ (by decide) (by decide)]; exact hR.2.2.2.2.1.2.2
        · rw [cG a k (by omega) (by omega)]; exact c a k (by omega) (by omega)
      · exfalso; omega
  · -- a law
    have cM : ∀ a k, (159 ≤ a ∧ a < (sh.length : Int)) → M a k = g a k := fun a k q => hF a k (by omega) (by omega) (by omega) (by omega) (by omega) (by omega) (by omega) (by omega)
    have c : ∀ a k, (159 ≤ a ∧ a ≤ 200) → a ≠ 175 → ansM M 0 a k = g a k := fun a k q q2 => (ansM_k _ _ (by omega) q2).trans (cM a k (by omega))
    have e179 : ansM M 0 179 = g 179 := funext fun y => c _ _ (by decide) (by decide)
    have e13 : ansM M 0 177 13 = g 177 13 := c _ _ (by decide) (by decide)
    have eB : tB (ansM M 0) = tB g := tB_eq (funext fun y => c _ _ (by decide) (by decide))
    have htk : tapeOK (ansM M 0) := by
      refine ⟨by rw [e13]; exact ht.1.1, fun j p q => ?_⟩
      rw [c _ _ (by decide) (by decide)]; exact ht.1.2 j p q
    refine ⟨(0, g 179 43), rfl, Nat.zero_le _, hR.1.1.app, (c_Model_law (hR.1.1.app) (ansM_fin hfM 0) (by rw [e179]; exact hro) htk (hR.2.2.2.2.2.2.2.2.keep (fun k => c _ _ (by decide) (by decide)))).mono ?_⟩
    rintro y s2 g2 ⟨rfl, ⟨w, -⟩ | ⟨w, b, N, hE, hQ⟩⟩
    · rw [e179] at w; exact absurd w z
    · obtain ⟨hRd, n13, n14, nt2, hn2, n18, hTV, ⟨hNQ, hT0⟩, hX⟩ := hE
      rw [eB, e13] at hTV hNQ hT0 hX
      have ent := nt_eq hnt hNQ hn2.1
      subst ent
      rw [hL] at hX
      have hb : b = -1 := by
        rcases hX with ⟨e2, q1, -⟩ | ⟨L, q1, q2⟩
        · cases q1
        · exact q2
      rcases hQ with ⟨hb2, -⟩ | ⟨-, rfl, rfl⟩
      · exact absurd hb hb2
      · rw [e179]
        refine ⟨rfl, ⟨t, rfl⟩, fun x => if x = (sh.length : Int) then L else Λ x, ?_⟩
        obtain ⟨Λ2, hΛ2⟩ : ∃ Λ2 : Int → List PC, Λ2 = fun x => if x = (sh.length : Int) then L else Λ x := ⟨_, rfl⟩
        rw [← hΛ2]
        have hΛ : ∀ a : Int, a < (sh.length : Int) → Λ2 a = Λ a := fun a ha => by rw [hΛ2]; exact if_neg (by omega)
        have hΛs : Λ2 (sh.length : Int) = L := by rw [hΛ2]; exact if_pos rfl
        have hb43 : g 179 43 < 6 := by omega
        obtain ⟨W, hW0⟩ : ∃ W, W = gup (layM N (g 179 43)) 179 43 (g 179 43 + 1) := ⟨_, rfl⟩
        rw [← hW0]
        have q := goodM_at W
        have n179 : N 179 = g 179 := (funext fun k => hRd 179 k (by decide) (by decide) (by decide) (by omega)).trans e179
        have w179 : W 179 = lawR (g 179) nt2 (N 186) (N 187) := by
          rw [hW0, gup_row]
          unfold layM lawR
          rw [gfr_fs, n179, n18]
        have cW : ∀ a k, a ≠ 179 → W a k = N a k := fun a k q1 => by
          rw [hW0, gup_a _ _ _ _ _ q1]
          unfold layM
          rw [gfr_a _ _ _ _ q1]
        have cG : ∀ a k, ¬ (a = 177 ∧ (k = 0 ∨ (8 ≤ k ∧ k ≤ 10) ∨ k = 13 ∨ k = 14 ∨ (18 ≤ k ∧ k ≤ 21))) → ¬ (a = 179 ∨ a = 186 ∨ a = 187 ∨ a = 188) → goodM W a k = ansM M 0 a k := fun a k q1 q2 => by
          rw [q.2 a k (by omega), cW a k (by omega)]
          exact hRd a k (by omega) (by omega) (by omega) (by omega)
        have hMW : mdW (ansM M 0) (goodM W) := fun a k z => cG a k (fun e => by unfold mNum at z; omega) (by omega)
        have g179 : goodM W 179 = lawR (g 179) nt2 (N 186) (N 187) := by rw [← w179]; exact funext fun y => q.2 _ _ (by omega)
        have cD : ∀ a k, (a < 177 ∨ 201 ≤ a) → a ≠ 175 → ¬ (a = 0 ∧ k = 13) → goodM W a k = M a k := fun a k q1 q2 q3 => (cG a k (by omega) (by omega)).trans (ansM_k _ _ q3 q2)
        have cO : ∀ a k, a < (sh.length : Int) → ¬ (a = 0 ∧ (k = 12 ∨ k = 13)) → ¬ (a = 1 ∧ k = 7) → ¬ (a = 7 ∧ k = g 179 43) → ¬ (149 ≤ a ∧ a ≤ 158) → a ≠ 175 → ¬ (a = 177 ∧ (k = 0 ∨ (8 ≤ k ∧ k ≤ 10) ∨ k = 13 ∨ k = 14 ∨ (18 ≤ k ∧ k ≤ 21))) → ¬ (a = 179 ∨ a = 186 ∨ a = 187 ∨ a = 188) → goodM W a k = g a k := fun a k z1 z2 z3 z4 z5 z6 z7 z8 => by
          rw [cG a k z7 z8, ansM_k _ _ (by omega) z6]
          exact hF a k (by omega) z3 z4 (by omega) (by omega) (by omega) (by omega) z1
        obtain ⟨r, hr⟩ : ∃ r, r = g 179 := ⟨_, rfl⟩
        have hrk : ∀ y, y < 45 → y ≠ 43 → lawR (g 179) nt2 (N 186) (N 187) y = g 179 y := fun y a b => lawR_k b (by omega) (by omega) (by omega)
        have hr43 : lawR (g 179) nt2 (N 186) (N 187) 43 = g 179 43 + 1 := by unfold lawR rPt; rw [if_pos rfl]
        have hTVN : ∀ p, 0 ≤ p → p ≤ nt2 → N 186 p = tT (tB g) (g 177 13) p ∧ N 187 p = tW (tB g) (g 177 13) p := hTV
        have hlw := lawR_law hro (C := N 186) (V := N 187) hb43 hn2 hTVN hT0
        have hok : rowOK (lawR (g 179) nt2 (N 186) (N 187)) := by
          have h1 := layF_ok hro (t := g 179 43) (nt := nt2) (C := N 186) (V := N 187) (by omega) hn2 (fun p a b => by
            rw [(hTVN p a (by omega)).1, (hTVN p a (by omega)).2]
            exact ⟨tT_bd g _ _, tW_bd _ _ _⟩)
          have e43 : layF (g 179) (g 179 43) nt2 (N 186) (N 187) nt2 43 = g 179 43 := by
            unfold layF
            rw [if_neg (by omega), if_neg (by omega), if_neg (by omega)]
          have h2 := h1.told (by omega)
          rw [e43] at h2
          exact h2
        obtain ⟨h1, ⟨h2, h2b⟩, h3, h4, h5, h6, h7, h8, h9⟩ := hR
        have hX0 := h2.1
        obtain ⟨x1, ⟨b1, b2, b3, b4, b5, b6, b7⟩, x3⟩ := hX0
        have x3 : ∀ i, 0 ≤ i → i < g 179 43 → rLaw (g 179) i = .inr (Λ (g 7 i)) ∧ txL 201 false sh g (g 7 i) ((Λ (g 7 i)).map pcO) := x3
        have hh := ro_heardN hro
        have g7 : ∀ i, i ≠ g 179 43 → goodM W 7 i = g 7 i := fun i hi => cO 7 i (by omega) (by omega) (by omega) (by omega) (by omega) (by decide) (by omega) (by omega)
        have g77 : goodM W 7 (g 179 43) = (sh.length : Int) := (cD _ _ (by decide) (by decide) (by omega)).trans m7
        have hTG : txL 201 false (sh ++ t) (goodM W) (sh.length : Int) (L.map pcO) := hTx.ext (fun x k hx => cD x k (by omega) (by omega) (by omega))
        have hBX : bdX Λ2 (sh ++ t) (goodM W 179) (goodM W) 1 := by
          rw [g179]
          refine ⟨⟨hok, by rw [hΛ _ (by omega)]; exact x1.2⟩, ⟨?_, ?_, ?_, ?_, fun i a b => ?_, ?_, fun j a b => ?_⟩, fun i a b => ?_⟩
          · rw [cO 1 0 (by omega) (by omega) (by omega) (by omega) (by omega) (by decide) (by omega) (by omega), hrk 41 (by decide) (by decide)]; exact b1
          · rw [cO 1 4 (by omega) (by omega) (by omega) (by omega) (by omega) (by decide) (by omega) (by omega), hrk 42 (by decide) (by decide)]; exact b2
          · rw [cD 1 7 (by decide) (by decide) (by omega), hr43]; exact m17
          · rw [cO 1 9 (by omega) (by omega) (by omega) (by omega) (by omega) (by decide) (by omega) (by omega), hrk 44 (by decide) (by decide)]; exact b4
          · rw [hrk 41 (by decide) (by decide)] at b
            rw [cO (1 + 1) i (by omega) (by omega) (by omega) (by omega) (by omega) (by decide) (by omega) (by omega), cO (1 + 2) i (by omega) (by omega) (by omega) (by omega) (by omega) (by decide) (by omega) (by omega), hrk (12 + i) (by omega) (by omega), hrk i (by omega) (by omega)]; exact b5 i a b
          · rw [cO (1 + 3) 0 (by omega) (by omega) (by omega) (by omega) (by omega) (by decide) (by omega) (by omega), cO (1 + 3) 1 (by omega) (by omega) (by omega) (by omega) (by omega) (by decide) (by omega) (by omega), cO (1 + 3) 2 (by omega) (by omega) (by omega) (by omega) (by omega) (by decide) (by omega) (by omega), cO (1 + 3) 3 (by omega) (by omega) (by omega) (by omega) (by omega) (by decide) (by omega) (by omega), cO (1 + 3) 4 (by omega) (by omega) (by omega) (by omega) (by omega) (by decide) (by omega) (by omega), hrk 24 (by decide) (by decide), hrk 37 (by decide) (by decide), hrk 38 (by decide) (by decide), hrk 39 (by decide) (by decide), hrk 40 (by decide) (by decide)]; exact b6
          · rw [hrk 42 (by decide) (by decide)] at b
            rw [cO (1 + 4) j (by omega) (by omega) (by omega) (by omega) (by omega) (by decide) (by omega) (by omega), cO (1 + 5) j (by omega) (by omega) (by omega) (by omega) (by omega) (by decide) (by omega) (by omega), hrk (25 + 2 * j) (by omega) (by omega), hrk (25 + 2 * j + 1) (by omega) (by omega)]; exact b7 j a b
          · rw [hr43] at b
            show rLaw _ i = .inr (Λ2 (goodM W 7 i)) ∧ txL 201 false (sh ++ t) (goodM W) (goodM W 7 i) ((Λ2 (goodM W 7 i)).map pcO)
            by_cases e : i = g 179 43
            · subst e
              rw [g77, hΛs, hlw.2, hL]
              exact ⟨rfl, hTG⟩
            · have o := x3 i a (by omega)
              rw [g7 i e, hΛ _ o.2.at.lt, hlw.1 i a (by omega)]
              exact ⟨o.1, (o.2.ext2 (fun x k y z => cO x k (by omega) (by omega) (by omega) (by omega) (by omega) (by omega) (by omega) (by omega))).more t⟩
        have eo190 : goodM W 190 = g 190 := funext fun y => cO _ _ (by omega) (by omega) (by omega) (by omega) (by omega) (by decide) (by omega) (by decide)
        have eo33 : goodM W 177 33 = g 177 33 := cO _ _ (by omega) (by omega) (by omega) (by omega) (by omega) (by decide) (by omega) (by decide)
        refine ⟨⟨h1.1.app, hMW.fin (ansM_fin hfM 0)⟩, ⟨⟨hBX, ?_⟩, ?_⟩, ⟨⟨?_, fun j a b => ?_⟩, ?_, fun j a b => ?_⟩, rf_good h4 (fun k => cM _ _ (by omega)) hMW q.1 (fun k => ?_), ⟨?_, ?_, ?_⟩, h6.keep (fun a k z => ?_), h7.grow hsl hΛ (fun a k z => ?_), (h8.keep (fun a k x y => ?_)).grow hΛ, h9.keep (fun k => ?_)⟩
        · show trI (goodM W 179) (goodM W 190) (goodM W 177 33) 13 (goodM W)
          rw [g179, eo190, eo33]
          refine (h2.2.row hm (fun y a b => hrk y (by omega) (by omega)) (hrk 41 (by decide) (by decide))).of (fun a k z1 z2 => cO a k (by omega) (by omega) (by omega) (by omega) (by omega) (by omega) (by omega) (by omega))
        · intro i a b
          show -1 ≤ goodM W 7 i ∧ (goodM W 7 i < 0 ∨ gsz (sh ++ t) (goodM W 7 i) 10 8)
          by_cases e : i = g 179 43
          · subst e
            rw [g77]
            exact ⟨by omega, Or.inr hTG.at⟩
          · rw [g7 i e]
            exact bdT.grow h2b i a b
        · rw [q.2 _ _ (by omega), cW _ _ (by decide), n13]; decide
        · rw [cO _ _ (by omega) (by omega) (by omega) (by omega) (by omega) (by decide) (by omega) (by decide)]; exact ht.1.2 j a b
        · rw [cD _ _ (by decide) (by decide) (by omega), m149, q.2 _ _ (by omega), cW _ _ (by decide), n13]
        · rw [cD _ _ (by decide) (by decide) (by omega), hF _ _ (by omega) (by omega) (by omega) (by omega) (by omega) (by omega) (by omega) (by omega), cO _ _ (by omega) (by omega) (by omega) (by omega) (by omega) (by decide) (by omega) (by decide)]; exact ht.2.2 j a b
        · rw [cO _ _ (by omega) (by omega) (by omega) (by omega) (by omega) (by decide) (by omega) (by decide)]
        · rw [cO _ _ (by omega) (by omega) (by omega) (by omega) (by omega) (by decide) (by omega) (by decide), cO _ _ (by omega) (by omega) (by omega) (by omega) (by omega) (by decide) (by omega) (by decide)]; exact h5.1
        · rw [cD _ _ (by decide) (by decide) (by omega), m012, q.2 _ _ (by omega), cW _ _ (by decide), n14, hb]
        · rw [cO _ _ (by omega) (by omega) (by omega) (by omega) (by omega) (by decide) (by omega) (by decide), cO _ _ (by omega) (by omega) (by omega) (by omega) (by omega) (by decide) (by omega) (by decide)]; exact h5.2.2
        · exact cO a k (by omega) (by omega) (by omega) (by omega) (by omega) (by omega) (by omega) (by omega)
        · exact cO a k (by omega) (by omega) (by omega) (by omega) (by omega) (by omega) (by omega) (by omega)
        · exact cO a k (by omega) (by omega) (by omega) (by omega) (by omega) (by omega) (by omega) (by omega)
        · exact cO _ _ (by omega) (by omega) (by omega) (by omega) (by omega) (by decide) (by omega) (by decide)
