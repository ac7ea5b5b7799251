/-! ===== the tape, what was heard, images, weeks: pairs; rows ===== -/
theorem gup_id {g : gM} {a k v : Int} (h : g a k = v) : gup g a k v = g := by
  funext x y
  unfold gup
  by_cases z : x = a
  · subst z
    by_cases e : y = k
    · rw [if_pos rfl, e, h]; simp
    · simp [e]
  · rw [if_neg z]
theorem app0 (sh : gS) : ∃ t, sh = sh ++ t := ⟨[], (List.append_nil _).symm⟩
theorem pr_feed {sh : gS} {g : gM} {Λ : Int → List PC} (hR : relR Λ sh g) (a b c d e : Int) : prP f_Desk_feed f_Model_feed 1 0 0 0 [(0, a), (0, b), (0, c), (0, d), (0, e)] Λ sh g := by
  refine (c_Desk_feed hR.1.1 hR.1.2 hR a b c d e).mono ?_
  have ht := hR.2.2.1
  rintro x s1 g1 ⟨rfl, ⟨z, rfl, rfl⟩ | ⟨z, rfl, d1, d2, d3, d4, d5⟩⟩
  · refine ⟨(0, -1), rfl, Nat.zero_le _, hR.1.1, (c_Model_feed2 hR.1.1 hR.1.2 a b c d e ht.1).mono ?_⟩
    rintro y s2 g2 ⟨rfl, ⟨w, rfl, rfl⟩ | ⟨w, -⟩⟩
    · exact ⟨rfl, app0 _, Λ, hR⟩
    · rw [ht.2.1] at z; exact absurd z w
  · have e13 : g1 177 13 = g 177 13 := d4 _ _ (by decide) (by decide)
    have e184 : ∀ j, g1 184 j = g 184 j := fun j => d4 _ _ (by omega) (by decide)
    have ht1 : tapeOK g1 := by
      refine ⟨by rw [e13]; exact ht.1.1, fun j p q => ?_⟩
      rw [e184]; exact ht.1.2 j p q
    have htn := ht.1.1
    rw [ht.2.1] at z d1 d2 d3 ⊢
    refine ⟨(0, g 177 13 + 20), rfl, Nat.zero_le _, hR.1.1, (c_Model_feed2 hR.1.1 d5 a b c d e ht1).mono ?_⟩
    rintro y s2 g2 ⟨rfl, ⟨w, -⟩ | ⟨w, rfl, m1, m2, m3, m4⟩⟩
    · rw [e13] at w; exact absurd w z
    · rw [e13] at m1 m2 m3 ⊢
      refine ⟨rfl, app0 _, Λ, ?_⟩
      have hfG : gFin g2 := (show mdW g1 g2 from fun p k q => m4 p k (by omega) (by omega) (fun r => by unfold mNum at q; omega)).fin d5
      refine hR.tp hfG ⟨⟨by omega, fun j p q => ?_⟩, ?_, fun j p q => ?_⟩ (fun p k q => ?_)
      · by_cases r : g 177 13 ≤ j ∧ j < g 177 13 + 20
        · have := m2 (j - g 177 13) (by omega) (by omega)
          rw [show g 177 13 + (j - g 177 13) = j by omega] at this
          rw [this]
          exact gi2b_bd _
        · rw [m3 j (by omega), e184]; exact ht.1.2 j p q
      · rw [m4 149 1 (by decide) (by decide) (by omega), d1, m1]
      · rw [m4 150 j (by decide) (by decide) (by omega)]
        by_cases r : g 177 13 ≤ j ∧ j < g 177 13 + 20
        · have q1 := m2 (j - g 177 13) (by omega) (by omega)
          have q2 := d2 (j - g 177 13) (by omega) (by omega)
          rw [show g 177 13 + (j - g 177 13) = j by omega] at q1 q2
          rw [q1, q2]
          unfold fdB
          rw [gand_255, gi2b_mod]
        · rw [m3 j (by omega), d3 j (by omega), e184]; exact ht.2.2 j p q
      · rw [m4 p k (by omega) (by omega) (by omega)]
        exact d4 p k (by omega) (by omega)
theorem pr_end {sh : gS} {g : gM} {Λ : Int → List PC} (hR : relR Λ sh g) (n : Int) (hn : -2147483648 ≤ n ∧ n ≤ 2147483647) : prP f_Desk_end f_Model_end 0 1 0 0 [(0, n)] Λ sh g := by
  refine (c_Desk_end hR.1.1 hR.1.2 hR n hn).mono ?_
  have ht := hR.2.2.1
  rintro x s1 g1 ⟨rfl, ⟨z, rfl, rfl⟩ | ⟨z, rfl, rfl, hf⟩⟩
  · refine ⟨(0, -1), rfl, Nat.zero_le _, hR.1.1, (c_Model_end hR.1.1 hR.1.2 n hn ht.1.1).mono ?_⟩
    rintro y s2 g2 ⟨rfl, ⟨w, rfl, rfl⟩ | ⟨w, -⟩⟩
    · exact ⟨rfl, app0 _, Λ, hR⟩
    · rw [ht.2.1] at z; exact absurd w z
  · have e13 : gup g 149 1 n 177 13 = g 177 13 := gup_a _ _ _ _ _ (by decide)
    have htn := ht.1.1
    refine ⟨(0, n), rfl, Nat.zero_le _, hR.1.1, (c_Model_end hR.1.1 hf n hn (by rw [e13]; exact ht.1.1)).mono ?_⟩
    rintro y s2 g2 ⟨rfl, ⟨w, -⟩ | ⟨w, rfl, rfl⟩⟩
    · rw [e13] at w; rw [ht.2.1] at z; exact absurd z w
    · rw [e13] at w
      refine ⟨rfl, app0 _, Λ, ?_⟩
      refine hR.tp (hf.up rfl) ⟨⟨?_, fun j p q => ?_⟩, ?_, fun j p q => ?_⟩ (fun p k q => ?_)
      · rw [gup_s]; omega
      · rw [gup_a _ _ _ _ _ (by decide), gup_a _ _ _ _ _ (by decide)]; exact ht.1.2 j p q
      · rw [gup_s, gup_a _ _ _ _ _ (by decide), gup_s]
      · rw [gup_a _ _ _ _ _ (by decide), gup_a _ _ _ _ _ (by decide), gup_a _ _ _ _ _ (by decide), gup_a _ _ _ _ _ (by decide)]; exact ht.2.2 j p q
      · have e1 : gup (gup g 149 1 n) 177 13 n p k = gup g 149 1 n p k := by
          by_cases r : p = 177
          · subst r; exact gup_k _ _ _ _ (by omega)
          · exact gup_a _ _ _ _ _ r
        rw [e1]
        by_cases r : p = 149
        · subst r; exact gup_k _ _ _ _ (by omega)
        · exact gup_a _ _ _ _ _ r
theorem pr_forget {sh : gS} {g : gM} {Λ : Int → List PC} (hR : relR Λ sh g) : prP f_Desk_forget f_Model_forget 0 0 0 0 [] Λ sh g := by
  refine (c_Desk_forget hR.1.1 hR.1.2 hR).mono ?_
  rintro x s1 g1 ⟨rfl, rfl, rfl, hf⟩
  have e179 : gup g 1 4 0 179 = g 179 := gup_fn _ _ _ _ (by decide)
  refine ⟨(0, g 179 42), rfl, Nat.zero_le _, hR.1.1, (c_Model_forget hR.1.1 hf).mono ?_⟩
  rintro y s2 g2 ⟨rfl, rfl, rfl⟩
  rw [e179]
  refine ⟨rfl, app0 _, Λ, ?_⟩
  have hm := ro_many hR.ro
  refine hR.core (g0 := gup g 1 4 0) (σ := (rPt (g 179) 42 0, g 190, g 177 33)) ⟨hR.X.fg i1, ?_⟩ (hR.2.1.2.keep (fun k => gup_a _ _ _ _ _ (by decide))) hf (fun a k z => gup_a _ _ _ _ _ (fun e => z (by unfold cS1; omega))) (fun a k z => gup_a _ _ _ _ _ (by omega)) ?_ (fun a k z => ?_)
  · refine (hR.2.1.1.2.row hm (fun y a b => if_neg (by omega)) (if_neg (by decide))).of (fun a k z1 z2 => gup_a _ _ _ _ _ (by omega))
  · rw [os_up, e179, gup_fn _ _ _ _ (by decide), gup_a _ _ _ _ _ (by decide)]
  · rw [gup_a _ _ _ _ _ (by omega), gup_a _ _ _ _ _ (by omega)]
theorem pr_image {sh : gS} {g : gM} {Λ : Int → List PC} (hR : relR Λ sh g) (k : Int) (hk : -2147483648 ≤ k ∧ k ≤ 2147483647) : prP f_Desk_image f_Model_image 4 1 0 0 [(0, k)] Λ sh g := by
  refine (c_Desk_image hR.1.1 hR.1.2 hR k hk).mono ?_
  rintro x s1 g1 ⟨rfl, ⟨z, rfl, rfl⟩ | ⟨z, rfl, M, hcp, rfl, hf⟩⟩
  · refine ⟨(0, -1), rfl, Nat.zero_le _, hR.1.1, (c_Model_image hR.1.1 (ansM_fin hR.1.2 (-1)) k hk).mono ?_⟩
    rintro y s2 g2 ⟨rfl, ⟨w, rfl, rfl⟩ | ⟨w, -⟩⟩
    · refine ⟨rfl, app0 _, Λ, ?_⟩
      have q := refM_at (ansM g (-1)) (-1)
      have hW : mdW (ansM g (-1)) (refM (ansM g (-1)) (-1)) := fun a k z => q.2.2 a k (fun e => by unfold mNum at z; omega) (by omega)
      refine hR.fin1 (v := -1) hR.2.1.1 hR.2.1.2 hR.1.2 (fun _ _ _ => rfl) hW (by rw [ref_os, ans_os]) (rf_bad hR.2.2.2.1 (by decide) (fun _ => rfl) hW q.1 (fun k => ?_)) (fun a k z => ?_)
      · rw [q.2.1, ansM_k _ _ (by omega) (by decide), ansM_k _ _ (by omega) (by decide)]
      · rw [q.2.2 a k (by omega) (by omega), ansM_k _ _ (by omega) (by omega)]
    · exact absurd w z
  · refine ⟨(0, 0), rfl, Nat.zero_le _, hR.1.1, (c_Model_image hR.1.1 hf k hk).mono ?_⟩
    rintro y s2 g2 ⟨rfl, ⟨w, -⟩ | ⟨w, rfl, rfl⟩⟩
    · exact absurd z w
    · refine ⟨rfl, app0 _, Λ, ?_⟩
      have hiI := iIm z
      obtain ⟨g1, hg1⟩ : ∃ G, G = ansM (gup M 174 k 1) 0 := ⟨_, rfl⟩
      rw [← hg1] at hf ⊢
      obtain ⟨G, hG⟩ : ∃ G, G = goodM (gup (gfr g1 180 (cpF (g1 180) (g1 179) (5652 * k) 0 5652)) 181 k 1) := ⟨_, rfl⟩
      rw [← hG]
      have c1 : ∀ a j, ¬ (a = 0 ∧ j = 13) → a ≠ 175 → ¬ (160 + 7 * k ≤ a ∧ a ≤ 160 + 7 * k + 6) → ¬ (a = 174 ∧ j = k) → g1 a j = g a j := fun a j q1 q2 q3 q4 => by
        rw [hg1, ansM_k _ _ q1 q2]
        by_cases e : a = 174
        · subst e; rw [gup_k _ _ _ _ (fun q => q4 ⟨rfl, q⟩)]; exact hcp.1 _ _ q3
        · rw [gup_a _ _ _ _ _ e]; exact hcp.1 a j q3
      have c2 : ∀ a j, ¬ (a = 177 ∧ j = 0) → a ≠ 180 → ¬ (a = 181 ∧ j = k) → G a j = g1 a j := fun a j q1 q2 q3 => by
        rw [hG, (goodM_at _).2 _ _ q1]
        by_cases e : a = 181
        · subst e; rw [gup_k _ _ _ _ (fun q => q3 ⟨rfl, q⟩), gfr_a _ _ _ _ q2]
        · rw [gup_a _ _ _ _ _ e, gfr_a _ _ _ _ q2]
      have c3 : ∀ a j, ¬ (a = 0 ∧ j = 13) → a ≠ 175 → ¬ (160 ≤ a ∧ a ≤ 174) → ¬ (a = 177 ∧ j = 0) → a ≠ 180 → a ≠ 181 → G a j = g a j := fun a j q1 q2 q3 q4 q5 q6 => (c2 a j q4 q5 (by omega)).trans (c1 a j q1 q2 (by omega) (by omega))
      have h180 : ∀ y, G 180 y = cpF (g 180) (g 179) (5652 * k) 0 5652 y := fun y => by
        rw [hG, (goodM_at _).2 _ _ (by omega), gup_a _ _ _ _ _ (by decide), gfr_s, show g1 180 = g 180 from funext fun y => c1 _ _ (by omega) (by decide) (by omega) (by omega), show g1 179 = g 179 from funext fun y => c1 _ _ (by omega) (by decide) (by omega) (by omega)]
      have hfG : gFin G := by rw [hG]; unfold goodM; exact (((hf.fr (gref_m178 (by decide))).up (gref_m178 (by decide) _)).up rfl)
      obtain ⟨h1, ⟨h2, h2b⟩, h3, h4, h5, h6, h7, h8, h9⟩ := hR
      have eo : osM G = osM g := by
        unfold osM
        rw [show G 179 = g 179 from funext fun y => c3 _ _ (by omega) (by decide) (by omega) (by omega) (by decide) (by decide), show G 190 = g 190 from funext fun y => c3 _ _ (by omega) (by decide) (by omega) (by omega) (by decide) (by decide), c3 177 33 (by omega) (by decide) (by omega) (by omega) (by decide) (by decide)]
      have hMW : mdW (ansM (gup M 174 k 1) 0) G := fun a j q => by
        rw [← hg1]
        exact c2 a j (fun e => by unfold mNum at q; omega) (by omega) (by omega)
      refine ⟨⟨h1.1, hfG⟩, ⟨?_, h2b.keep (fun j => c3 _ _ (by omega) (by decide) (by omega) (by omega) (by decide) (by decide))⟩, h3.keep (fun a j q => c3 a j (by omega) (by omega) (by omega) (by omega) (by omega) (by omega)), rf_good h4 (fun j => ?_) hMW ?_ (fun j => c3 _ _ (by omega) (by decide) (by omega) (by omega) (by decide) (by decide)), h5.keep (fun a j q => c3 a j (by omega) (by omega) (by omega) (by omega) (by omega) (by omega)), h6.keep (fun a j q => c3 a j (by omega) (by omega) (by omega) (by omega) (by omega) (by omega)), fun k2 a b => ?_, h8.keep (fun a j p q => c3 a j (by omega) (by omega) (by omega) (by omega) (by omega) (by omega)), h9.keep (fun j => c3 _ _ (by omega) (by decide) (by omega) (by omega) (by decide) (by decide))⟩
      · rw [eo]
        exact h2.of (fun a j q => c3 a j (by omega) (by omega) (by omega) (by omega) (by omega) (by omega))
      · rw [gup_a _ _ _ _ _ (by decide)]; exact hcp.1 _ _ (by omega)
      · rw [hG]; exact (goodM_at _).1
      · by_cases e : k2 = k
        · subst e
          have e174 : G 174 k2 = 1 := by rw [c2 _ _ (by omega) (by decide) (by omega), hg1, ansM_k _ _ (by omega) (by decide), gup_s]
          have e181 : G 181 k2 = 1 := by rw [hG, (goodM_at _).2 _ _ (by omega), gup_s]
          refine ⟨by rw [e174, e181], Or.inr ⟨e181, ?_, ?_⟩⟩
          · have he : ∀ y, 0 ≤ y → y < 5652 → imR G k2 y = g 179 y := fun y p q => by
              show G 180 (5652 * k2 + y) = _
              rw [h180, cpF_in _ _ (by omega)]
              congr 1; omega
            refine ((hcp.bdX hiI h2.1).row (h2.1.1.1.eq he) (fun y q => he y (by omega) (by omega))).of (fun a j q => ?_)
            rw [c2 a j (by omega) (by omega) (by omega), hg1, ansM_k _ _ (by omega) (by omega), gup_a _ _ _ _ _ (by omega)]
          · refine (cpS.tx hcp h2b).keep (fun j => ?_)
            rw [c2 _ j (by omega) (by omega) (by omega), hg1, ansM_k _ _ (by omega) (by omega), gup_a _ _ _ _ _ (by omega)]
        · have q0 := h7 k2 a b
          have e174 : G 174 k2 = g 174 k2 := (c2 _ _ (by omega) (by decide) (by omega)).trans (c1 _ _ (by omega) (by decide) (by omega) (by omega))
          have e181 : G 181 k2 = g 181 k2 := (c2 _ _ (by omega) (by decide) (by omega)).trans (c1 _ _ (by omega) (by decide) (by omega) (by omega))
          rw [e174, e181]
          refine ⟨q0.1, q0.2.elim Or.inl (fun r => Or.inr ⟨r.1, ?_, ?_⟩)⟩
          · have he : ∀ y, 0 ≤ y → y < 5652 → imR G k2 y = imR g k2 y := fun y p q => by
              show G 180 (5652 * k2 + y) = g 180 (5652 * k2 + y)
              rw [h180, cpF_out _ _ (by omega)]
            refine (r.2.1.row (r.2.1.1.1.eq he) (fun y q => he y (by omega) (by omega))).of (fun a j q => ?_)
            exact (c2 a j (by omega) (by omega) (by omega)).trans (c1 a j (by omega) (by omega) (by omega) (by omega))
          · exact r.2.2.keep (fun j => (c2 _ j (by omega) (by omega) (by omega)).trans (c1 _ j (by omega) (by omega) (by omega) (by omega)))
theorem pr_weeks {sh : gS} {g : gM} {Λ : Int → List PC} (hR : relR Λ sh g) (s n : Int) (hs : -2147483648 ≤ s ∧ s ≤ 2147483647) (hn : -2147483648 ≤ n ∧ n ≤ 2147483647) : prP f_Desk_weeks f_Model_weeks 6 45 0 0 [(0, s), (0, n)] Λ sh g := by
  have hbad : ∀ v, (v = -1 ∨ v = -2 ∨ v = -3 ∨ v = -5 ∨ v = -6) → relR Λ sh (refM (ansM g v) v) := fun v hv => by
    have q := refM_at (ansM g v) v
    have hW : mdW (ansM g v) (refM (ansM g v) v) := fun a k z => q.2.2 a k (fun e => by unfold mNum at z; omega) (by omega)
    refine hR.fin1 (v := v) hR.2.1.1 hR.2.1.2 hR.1.2 (fun _ _ _ => rfl) hW (by rw [ref_os, ans_os]) (rf_bad hR.2.2.2.1 hv (fun _ => rfl) hW q.1 (fun k => ?_)) (fun a k z => ?_)
    · rw [q.2.1, ansM_k _ _ (by omega) (by decide), ansM_k _ _ (by omega) (by decide)]
    · rw [q.2.2 a k (by omega) (by omega), ansM_k _ _ (by omega) (by omega)]
  have c0 : ∀ v, ansM g v 179 = g 179 := fun v => funext fun y => ansM_k _ _ (by omega) (by decide)
  refine (c_Desk_weeks hR.1.1 hR.1.2 hR s n hs hn).mono ?_
  rintro x s1 g1 ⟨rfl, ⟨z, rfl, rfl⟩ | ⟨z, z2, rfl, rfl⟩ | ⟨z, z2, rfl, M, rfl, hXd, hk1, hdF, hfM⟩⟩
  · refine ⟨(0, -1), rfl, Nat.zero_le _, hR.1.1, (c_Model_weeks hR.1.1 (ansM_fin hR.1.2 (-1)) s n ⟨hs, hn⟩ (by rw [c0]; exact hR.ro) (by rw [c0]; exact hR.lw)).mono ?_⟩
    rintro y s2 g2 ⟨rfl, ⟨w, rfl, rfl⟩ | ⟨w, -⟩ | ⟨w, -⟩⟩
    · exact ⟨rfl, app0 _, Λ, hbad _ (by decide)⟩
    · exact absurd w z
    · exact absurd w z
  · refine ⟨(0, -3), rfl, Nat.zero_le _, hR.1.1, (c_Model_weeks hR.1.1 (ansM_fin hR.1.2 (-3)) s n ⟨hs, hn⟩ (by rw [c0]; exact hR.ro) (by rw [c0]; exact hR.lw)).mono ?_⟩
    rintro y s2 g2 ⟨rfl, ⟨w, -⟩ | ⟨w, w2, rfl, rfl⟩ | ⟨w, w2, -⟩⟩
    · exact absurd z w
    · exact ⟨rfl, app0 _, Λ, hbad _ (by decide)⟩
    · rw [c0] at w2; exact absurd z2 w2
  · have cM : ∀ a k, ¬ (a = 0 ∧ k = 13) → a ≠ 175 → a ≠ 10 → a ≠ 11 → ¬ (a = 8 ∧ 2 ≤ k ∧ k ≤ 3) → ¬ (a = 141 ∧ (k = 1 ∨ k = 2)) → ¬ (142 ≤ a ∧ a ≤ 148) → ansM M 0 a k = g a k := fun a k q1 q2 q3 q4 q5 q6 q7 => (ansM_k _ _ q1 q2).trans (hdF a k q3 q4 q5 q6 q7)
    have e179 : ansM M 0 179 = g 179 := funext fun y => cM _ _ (by omega) (by decide) (by decide) (by decide) (by omega) (by omega) (by omega)
    refine ⟨(0, (wkF n.toNat (g 179) s 0).2), rfl, Nat.zero_le _, hR.1.1, (c_Model_weeks hR.1.1 (ansM_fin hfM 0) s n ⟨hs, hn⟩ (by rw [e179]; exact hR.ro) (by rw [e179]; exact hR.lw)).mono ?_⟩
    rintro y s2 g2 ⟨rfl, ⟨w, -⟩ | ⟨w, w2, -⟩ | ⟨w, w2, rfl, m0, m49, m179, m200, mF⟩⟩
    · exact absurd z w
    · rw [e179] at w2; exact absurd w2 z2
    · rw [e179] at m49 m179 m200 ⊢
      refine ⟨rfl, app0 _, Λ, ?_⟩
      have hm := ro_many hR.ro
      have hwk := wkF_ok n.toNat (g 179) s 0 hR.ro (by omega)
      have e41 : (wkF n.toNat (g 179) s 0).1 41 = g 179 41 := hwk.1 41 (by omega)
      have c3 : ∀ a k, ¬ (a = 0 ∧ k = 13) → a ≠ 175 → a ≠ 10 → a ≠ 11 → ¬ (a = 8 ∧ 2 ≤ k ∧ k ≤ 3) → ¬ (a = 141 ∧ (k = 1 ∨ k = 2)) → ¬ (142 ≤ a ∧ a ≤ 148) → ¬ (a = 177 ∧ (k = 0 ∨ (22 ≤ k ∧ k ≤ 25) ∨ k = 49 ∨ k = 50)) → ¬ (a = 182 ∨ a = 189 ∨ a = 200) → g2 a k = g a k := fun a k q1 q2 q3 q4 q5 q6 q7 q8 q9 => by
        by_cases e : a = 179
        · subst e; rw [m179]
        · rw [mF a k q8 (by omega)]; exact cM a k q1 q2 q3 q4 q5 q6 q7
      have hMW : mdW (ansM M 0) g2 := fun a k q => mF a k (fun e => by unfold mNum at q; omega) (by omega)
      obtain ⟨h1, ⟨h2, h2b⟩, h3, h4, h5, h6, h7, h8, h9⟩ := hR
      have eo : osM g2 = osM g := by
        unfold osM
        rw [m179, show g2 190 = g 190 from funext fun y => c3 _ _ (by omega) (by decide) (by decide) (by decide) (by omega) (by omega) (by omega) (by omega) (by omega), c3 177 33 (by omega) (by decide) (by decide) (by decide) (by omega) (by omega) (by omega) (by omega) (by omega)]
      refine ⟨⟨h1.1, hMW.fin (ansM_fin hfM 0)⟩, ⟨?_, h2b.keep (fun j => c3 _ _ (by omega) (by decide) (by decide) (by decide) (by omega) (by omega) (by omega) (by omega) (by omega))⟩, h3.keep (fun a j q => c3 a j (by omega) (by omega) (by omega) (by omega) (by omega) (by omega) (by omega) (by omega) (by omega)), rf_good h4 (fun j => hdF _ _ (by decide) (by decide) (by omega) (by omega) (by omega)) hMW m0 (fun j => c3 _ _ (by omega) (by decide) (by decide) (by decide) (by omega) (by omega) (by omega) (by omega) (by omega)), h5.keep (fun a j q => c3 a j (by omega) (by omega) (by omega) (by omega) (by omega) (by omega) (by omega) (by omega) (by omega)), ?_, h7.keep (fun a j q => c3 a j (by omega) (by omega) (by omega) (by omega) (by omega) (by omega) (by omega) (by omega) (by omega)), h8.keep (fun a j p q => c3 a j (by omega) (by omega) (by omega) (by omega) (by omega) (by omega) (by omega) (by omega) (by omega)), h9.keep (fun j => c3 _ _ (by omega) (by decide) (by decide) (by decide) (by omega) (by omega) (by omega) (by omega) (by omega))⟩
      · rw [eo]
        by_cases e : True
        · refine ⟨h2.1.of (fun a j q => c3 a j (by omega) (by omega) (by omega) (by omega) (by omega) (by omega) (by omega) (by omega) (by omega)), h2.2.of (fun a j p q => c3 a j (by omega) (by omega) (by omega) (by omega) (by omega) (by omega) (by omega) (by omega) (by omega))⟩
        · exact absurd trivial e
      · have f : ∀ a k, ((a = 141 ∧ k = 1) ∨ (142 ≤ a ∧ a ≤ 148)) → g2 a k = M a k := fun a k q => (mF a k (by omega) (by omega)).trans (ansM_k _ _ (by omega) (by omega))
        unfold dwI
        rw [m49, f 141 1 (by omega), f 142 0 (by omega)]
        have hd := hXd.2.1
        refine ⟨by omega, Or.inr ⟨hk1, hd.1.trans e41, hm.1, fun i a b => ?_⟩⟩
        rw [f 143 i (by omega), f 144 i (by omega), m200 _ (by omega) (by omega), m200 _ (by omega) (by omega)]
        exact hd.2.2.2.2.1 i a (by rw [e41]; exact b)
