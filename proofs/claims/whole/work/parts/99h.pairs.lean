/-! ===== the questions: desk and reference answer alike ===== -/
theorem cntR_q {g g1 : gM} (he : ∀ a k, ¬ qS a k → g1 a k = g a k) (k : Int) : cntR g1 k = cntR g k := by
  unfold cntR
  rw [show g1 178 = g 178 from funext fun y => he _ _ (by unfold qS; omega), show g1 179 = g 179 from funext fun y => he _ _ (by unfold qS; omega), he 177 33 (by unfold qS; omega), he 177 13 (by unfold qS; omega)]
theorem pr_of {sh : gS} {g : gM} {Λ : Int → List PC} (hR : relR Λ sh g) (n : Int) (w : Int) (hn : (-2147483648 ≤ n ∧ n ≤ 2147483647)) (hw : (-2147483648 ≤ w ∧ w ≤ 2147483647)) : prP f_Desk_of f_Model_of 5 44 0 0 [(0, n), (0, w)] Λ sh g := by
  refine prP.q (v := (0, ofR (g 179) n w)) (Nat.le_of_ble_eq_true rfl) hR (c_Desk_of hR.1.1 hR.1.2 hR n w hn hw) (fun g1 hR1 he e179 => ?_)
  have hx := hR1.1.1
  have hf := hR1.1.2
  exact (c_Model_of hx hf n w ⟨hn, hw⟩ hR1.ro hR1.lw).mono (fun y s2 g2 h => ⟨by rw [h.1, e179], h.2.1, h.2.2.qu⟩)
theorem pr_at {sh : gS} {g : gM} {Λ : Int → List PC} (hR : relR Λ sh g) (n : Int) (w : Int) (hn : (-2147483648 ≤ n ∧ n ≤ 2147483647)) (hw : (-2147483648 ≤ w ∧ w ≤ 2147483647)) : prP f_Desk_at f_Model_at 6 2 0 0 [(0, n), (0, w)] Λ sh g := by
  refine prP.q (v := (0, (if 0 ≤ n ∧ n ≤ g 179 41 - 1 ∧ 0 ≤ w ∧ w ≤ 1 then (if w = 0 then g 179 n - g 179 (12 + n) else if n = 0 then 0 else g 179 n - g 179 (n - 1)) else -1000))) (Nat.le_of_ble_eq_true rfl) hR (c_Desk_at hR.1.1 hR.1.2 hR n w hn hw) (fun g1 hR1 he e179 => ?_)
  have hx := hR1.1.1
  have hf := hR1.1.2
  exact (c_Model_at hx hf n w ⟨hn, hw⟩ hR1.ro).mono (fun y s2 g2 h => ⟨by rw [h.1, e179], h.2.1, by rw [h.2.2]; exact gQu.rf _⟩)
theorem pr_all {sh : gS} {g : gM} {Λ : Int → List PC} (hR : relR Λ sh g) (k : Int) (hk : (-2147483648 ≤ k ∧ k ≤ 2147483647)) : prP f_Desk_all f_Model_all 5 45 0 0 [(0, k)] Λ sh g := by
  refine prP.q (v := (0, (if 0 ≤ k ∧ k ≤ 2 then allN (g 179) k else -1))) (Nat.le_of_ble_eq_true rfl) hR (c_Desk_all hR.1.1 hR.1.2 hR k hk) (fun g1 hR1 he e179 => ?_)
  have hx := hR1.1.1
  have hf := hR1.1.2
  exact (c_Model_all hx hf k hk hR1.ro hR1.lw).mono (fun y s2 g2 h => ⟨by rw [h.1, e179], h.2.1, h.2.2.qu⟩)
theorem pr_blots {sh : gS} {g : gM} {Λ : Int → List PC} (hR : relR Λ sh g) : prP f_Desk_blots f_Model_blots 0 0 0 0 [] Λ sh g := by
  refine prP.q (v := (0, g 0 11)) (Nat.le_of_ble_eq_true rfl) hR (c_Desk_blots hR.1.1 hR.1.2 hR) (fun g1 hR1 he e179 => ?_)
  have hx := hR1.1.1
  have hf := hR1.1.2
  exact (c_Model_blots hx hf).mono (fun y s2 g2 h => ⟨by rw [h.1, he 177 6 (by unfold qS; omega), hR.2.2.2.2.1.1], h.2.1, by rw [h.2.2]; exact gQu.rf _⟩)
theorem pr_fault {sh : gS} {g : gM} {Λ : Int → List PC} (hR : relR Λ sh g) : prP f_Desk_fault f_Model_fault 0 0 0 0 [] Λ sh g := by
  refine prP.q (v := (0, g 0 12)) (Nat.le_of_ble_eq_true rfl) hR (c_Desk_fault hR.1.1 hR.1.2 hR) (fun g1 hR1 he e179 => ?_)
  have hx := hR1.1.1
  have hf := hR1.1.2
  exact (c_Model_fault hx hf).mono (fun y s2 g2 h => ⟨by rw [h.1, he 177 14 (by unfold qS; omega), hR.2.2.2.2.1.2.1], h.2.1, by rw [h.2.2]; exact gQu.rf _⟩)
theorem pr_stopped {sh : gS} {g : gM} {Λ : Int → List PC} (hR : relR Λ sh g) : prP f_Desk_stopped f_Model_stopped 0 0 0 0 [] Λ sh g := by
  refine prP.q (v := (0, g 12 1)) (Nat.le_of_ble_eq_true rfl) hR (c_Desk_stopped hR.1.1 hR.1.2 hR) (fun g1 hR1 he e179 => ?_)
  have hx := hR1.1.1
  have hf := hR1.1.2
  exact (c_Model_stopped hx hf).mono (fun y s2 g2 h => ⟨by rw [h.1, he 177 41 (by unfold qS; omega), hR.2.2.2.2.1.2.2], h.2.1, by rw [h.2.2]; exact gQu.rf _⟩)
theorem pr_status {sh : gS} {g : gM} {Λ : Int → List PC} (hR : relR Λ sh g) : prP f_Desk_status f_Model_status 0 0 0 0 [] Λ sh g := by
  refine prP.q (v := (0, g 0 13)) (Nat.le_of_ble_eq_true rfl) hR (c_Desk_status hR.1.1 hR.1.2 hR) (fun g1 hR1 he e179 => ?_)
  have hx := hR1.1.1
  have hf := hR1.1.2
  exact (c_Model_status hx hf).mono (fun y s2 g2 h => ⟨by rw [h.1, he 177 0 (by unfold qS; omega), hR.2.2.2.1.1], h.2.1, by rw [h.2.2]; exact gQu.rf _⟩)
theorem pr_best {sh : gS} {g : gM} {Λ : Int → List PC} (hR : relR Λ sh g) (i : Int) (hi : (-2147483648 ≤ i ∧ i ≤ 2147483647)) : prP f_Desk_best f_Model_best 7 47 0 0 [(0, i)] Λ sh g := by
  refine prP.q (v := (0, voR (g 179) 0 i)) (Nat.le_of_ble_eq_true rfl) hR (c_Desk_best hR.1.1 hR.1.2 hR i hi) (fun g1 hR1 he e179 => ?_)
  have hx := hR1.1.1
  have hf := hR1.1.2
  exact (c_Model_best hx hf i hi hR1.ro hR1.lw).mono (fun y s2 g2 h => ⟨by rw [h.1, e179], h.2.1, h.2.2.qu⟩)
theorem pr_mend {sh : gS} {g : gM} {Λ : Int → List PC} (hR : relR Λ sh g) (i : Int) (hi : (-2147483648 ≤ i ∧ i ≤ 2147483647)) : prP f_Desk_mend f_Model_mend 7 47 0 0 [(0, i)] Λ sh g := by
  refine prP.q (v := (0, voR (g 179) 1 i)) (Nat.le_of_ble_eq_true rfl) hR (c_Desk_mend hR.1.1 hR.1.2 hR i hi) (fun g1 hR1 he e179 => ?_)
  have hx := hR1.1.1
  have hf := hR1.1.2
  exact (c_Model_mend hx hf i hi hR1.ro hR1.lw).mono (fun y s2 g2 h => ⟨by rw [h.1, e179], h.2.1, h.2.2.qu⟩)
theorem pr_between {sh : gS} {g : gM} {Λ : Int → List PC} (hR : relR Λ sh g) (p : Int) (q : Int) (hp : (-2147483648 ≤ p ∧ p ≤ 2147483647)) (hq : (-2147483648 ≤ q ∧ q ≤ 2147483647)) : prP f_Desk_between f_Model_between 7 46 0 0 [(0, p), (0, q)] Λ sh g := by
  refine prP.q (v := (0, beR (g 179) p q)) (Nat.le_of_ble_eq_true rfl) hR (c_Desk_between hR.1.1 hR.1.2 hR p q hp hq) (fun g1 hR1 he e179 => ?_)
  have hx := hR1.1.1
  have hf := hR1.1.2
  exact (c_Model_between hx hf p q ⟨hp, hq⟩ hR1.ro hR1.lw).mono (fun y s2 g2 h => ⟨by rw [h.1, e179], h.2.1, h.2.2.qu⟩)
theorem pr_richest {sh : gS} {g : gM} {Λ : Int → List PC} (hR : relR Λ sh g) : prP f_Desk_richest f_Model_richest 7 46 0 0 [] Λ sh g := by
  refine prP.q (v := (0, riR (g 179))) (Nat.le_of_ble_eq_true rfl) hR (c_Desk_richest hR.1.1 hR.1.2 hR) (fun g1 hR1 he e179 => ?_)
  have hx := hR1.1.1
  have hf := hR1.1.2
  exact (c_Model_richest hx hf hR1.ro hR1.lw).mono (fun y s2 g2 h => ⟨by rw [h.1, e179], h.2.1, h.2.2.qu⟩)
theorem pr_ways {sh : gS} {g : gM} {Λ : Int → List PC} (hR : relR Λ sh g) : prP f_Desk_ways f_Model_ways 6 46 0 0 [] Λ sh g := by
  refine prP.q (v := (1, waR (g 179))) (Nat.le_of_ble_eq_true rfl) hR (c_Desk_ways hR.1.1 hR.1.2 hR) (fun g1 hR1 he e179 => ?_)
  have hx := hR1.1.1
  have hf := hR1.1.2
  exact (c_Model_ways hx hf hR1.ro hR1.lw).mono (fun y s2 g2 h => ⟨by rw [h.1, e179], h.2.1, h.2.2.qu⟩)
theorem pr_compass {sh : gS} {g : gM} {Λ : Int → List PC} (hR : relR Λ sh g) (k : Int) (hk : (-2147483648 ≤ k ∧ k ≤ 2147483647)) : prP f_Desk_compass f_Model_compass 7 46 0 0 [(0, k)] Λ sh g := by
  refine prP.q (v := (0, comR (g 179) k)) (Nat.le_of_ble_eq_true rfl) hR (c_Desk_compass hR.1.1 hR.1.2 hR k hk) (fun g1 hR1 he e179 => ?_)
  have hx := hR1.1.1
  have hf := hR1.1.2
  exact (c_Model_compass hx hf k hk hR1.ro hR1.lw).mono (fun y s2 g2 h => ⟨by rw [h.1, e179], h.2.1, h.2.2.qu⟩)
theorem pr_cheapest {sh : gS} {g : gM} {Λ : Int → List PC} (hR : relR Λ sh g) (n : Int) (k : Int) (hn : (-2147483648 ≤ n ∧ n ≤ 2147483647)) (hk : (-2147483648 ≤ k ∧ k ≤ 2147483647)) : prP f_Desk_cheapest f_Model_cheapest 8 46 0 0 [(0, n), (0, k)] Λ sh g := by
  refine prP.q (v := (0, chR (g 179) n k)) (Nat.le_of_ble_eq_true rfl) hR (c_Desk_cheapest hR.1.1 hR.1.2 hR n k hn hk) (fun g1 hR1 he e179 => ?_)
  have hx := hR1.1.1
  have hf := hR1.1.2
  exact (c_Model_cheapest hx hf n k ⟨hn, hk⟩ hR1.ro hR1.lw).mono (fun y s2 g2 h => ⟨by rw [h.1, e179], h.2.1, h.2.2.qu⟩)
theorem pr_canon {sh : gS} {g : gM} {Λ : Int → List PC} (hR : relR Λ sh g) (d : Int) (i : Int) (hd : (-2147483648 ≤ d ∧ d ≤ 2147483647)) (hi : (-2147483648 ≤ i ∧ i ≤ 2147483647)) : prP f_Desk_canon f_Model_canon 5 45 0 0 [(0, d), (0, i)] Λ sh g := by
  refine prP.q (v := (0, canR (g 179) d i)) (Nat.le_of_ble_eq_true rfl) hR (c_Desk_canon hR.1.1 hR.1.2 hR d i hd hi) (fun g1 hR1 he e179 => ?_)
  have hx := hR1.1.1
  have hf := hR1.1.2
  exact (c_Model_canon hx hf d i ⟨hd, hi⟩ hR1.ro hR1.lw).mono (fun y s2 g2 h => ⟨by rw [h.1, e179], h.2.1, h.2.2.qu⟩)
theorem pr_parallels {sh : gS} {g : gM} {Λ : Int → List PC} (hR : relR Λ sh g) (a : Int) (ha : (-2147483648 ≤ a ∧ a ≤ 2147483647)) : prP f_Desk_parallels f_Model_parallels 2 3 0 0 [(0, a)] Λ sh g := by
  refine prP.q (v := (0, parR (g 179) a)) (Nat.le_of_ble_eq_true rfl) hR (c_Desk_parallels hR.1.1 hR.1.2 hR a ha) (fun g1 hR1 he e179 => ?_)
  have hx := hR1.1.1
  have hf := hR1.1.2
  exact (c_Model_parallels hx hf a ha hR1.ro).mono (fun y s2 g2 h => ⟨by rw [h.1, e179], h.2.1, by rw [h.2.2]; exact gQu.rf _⟩)
theorem pr_canBe {sh : gS} {g : gM} {Λ : Int → List PC} (hR : relR Λ sh g) : prP f_Desk_canBe f_Model_canBe 7 45 0 0 [] Λ sh g := by
  refine prP.q (v := (0, cbR (g 179))) (Nat.le_of_ble_eq_true rfl) hR (c_Desk_canBe hR.1.1 hR.1.2 hR) (fun g1 hR1 he e179 => ?_)
  have hx := hR1.1.1
  have hf := hR1.1.2
  exact (c_Model_canBe hx hf hR1.ro hR1.lw).mono (fun y s2 g2 h => ⟨by rw [h.1, e179], h.2.1, h.2.2.1⟩)
theorem pr_listen {sh : gS} {g : gM} {Λ : Int → List PC} (hR : relR Λ sh g) (k : Int) (hk : (-2147483648 ≤ k ∧ k ≤ 2147483647)) : prP f_Desk_listen f_Model_listen 7 46 0 0 [(0, k)] Λ sh g := by
  refine prP.q (v := (0, liR (g 179) k)) (Nat.le_of_ble_eq_true rfl) hR (c_Desk_listen hR.1.1 hR.1.2 hR k hk) (fun g1 hR1 he e179 => ?_)
  have hx := hR1.1.1
  have hf := hR1.1.2
  exact (c_Model_listen hx hf k hk hR1.ro hR1.lw).mono (fun y s2 g2 h => ⟨by rw [h.1, e179], h.2.1, h.2.2⟩)
theorem pr_few {sh : gS} {g : gM} {Λ : Int → List PC} (hR : relR Λ sh g) (k : Int) (n : Int) (hk : (-2147483648 ≤ k ∧ k ≤ 2147483647)) (hn : (-2147483648 ≤ n ∧ n ≤ 2147483647)) : prP f_Desk_few f_Model_few 0 1 0 0 [(0, k), (0, n)] Λ sh g := by
  refine prP.q (v := (1, fewR (g 179 37) k n)) (Nat.le_of_ble_eq_true rfl) hR (c_Desk_few hR.1.1 hR.1.2 hR k n hk hn) (fun g1 hR1 he e179 => ?_)
  have hx := hR1.1.1
  have hf := hR1.1.2
  exact (c_Model_few hx hf k n ⟨hk, hn⟩ hR1.ro).mono (fun y s2 g2 h => ⟨by rw [h.1, e179], h.2.1, h.2.2⟩)
theorem pr_compare {sh : gS} {g : gM} {Λ : Int → List PC} (hR : relR Λ sh g) (k : Int) (hk : (-2147483648 ≤ k ∧ k ≤ 2147483647)) : prP f_Desk_compare f_Model_compare 7 47 0 0 [(0, k)] Λ sh g := by
  refine prP.q (v := (0, cmR (g 179) k)) (Nat.le_of_ble_eq_true rfl) hR (c_Desk_compare hR.1.1 hR.1.2 hR k hk) (fun g1 hR1 he e179 => ?_)
  have hx := hR1.1.1
  have hf := hR1.1.2
  exact (c_Model_compare hx hf k hk hR1.ro hR1.lw).mono (fun y s2 g2 h => ⟨by rw [h.1, e179], h.2.1, h.2.2.qu⟩)
theorem pr_drawn {sh : gS} {g : gM} {Λ : Int → List PC} (hR : relR Λ sh g) (n : Int) (w : Int) (hn : (-2147483648 ≤ n ∧ n ≤ 2147483647)) (hw : (-2147483648 ≤ w ∧ w ≤ 2147483647)) : prP f_Desk_drawn f_Model_drawn 1 1 0 0 [(0, n), (0, w)] Λ sh g := by
  refine prP.q (v := (0, (if 0 ≤ n ∧ n ≤ g 177 49 - 1 ∧ 0 ≤ w ∧ w ≤ 1 then g 200 (if w = 0 then 12 + n else n) else -1))) (Nat.le_of_ble_eq_true rfl) hR (c_Desk_drawn hR.1.1 hR.1.2 hR n w hn hw) (fun g1 hR1 he e179 => ?_)
  have hx := hR1.1.1
  have hf := hR1.1.2
  exact (c_Model_drawn hx hf n w ⟨hn, hw⟩ (by rw [he 177 49 (by unfold qS; omega)]; exact hR.2.2.2.2.2.1.1)).mono (fun y s2 g2 h => ⟨by rw [h.1, he 177 49 (by unfold qS; omega), show g1 200 = g 200 from funext fun y => he _ _ (by unfold qS; omega)], h.2.1, by rw [h.2.2]; exact gQu.rf _⟩)
theorem pr_count {sh : gS} {g : gM} {Λ : Int → List PC} (hR : relR Λ sh g) (k : Int) (hk : (-2147483648 ≤ k ∧ k ≤ 2147483647)) : prP f_Desk_count f_Model_count 5 45 0 0 [(0, k)] Λ sh g := by
  refine prP.q (v := (0, cntR g k)) (Nat.le_of_ble_eq_true rfl) hR (c_Desk_count hR.1.1 hR.1.2 hR k hk) (fun g1 hR1 he e179 => ?_)
  have hx := hR1.1.1
  have hf := hR1.1.2
  exact (c_Model_count hx hf k hk hR1.ro hR1.lw).mono (fun y s2 g2 h => ⟨by rw [h.1, cntR_q he], h.2.1, h.2.2.qu⟩)
