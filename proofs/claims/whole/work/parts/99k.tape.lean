/-! ===== the tape, what was heard, images, weeks ===== -/
def fdU2 (g : gM) (a b c d e : Int) (i : Int) (g1 : gM) : Prop := (∀ x k, x ≠ 184 → g1 x k = fdM g a b c d e x k) ∧ (∀ j, 0 ≤ j → j < i → g1 184 (g 177 13 + j) = fdB a b c d e j) ∧ ∀ j, (j < g 177 13 ∨ g 177 13 + i ≤ j) → g1 184 j = g 184 j
theorem fdU2.step {g g1 : gM} {a b c d e i v : Int} (h : fdU2 g a b c d e i g1) (hi : 0 ≤ i) (hv : v = fdB a b c d e i) : fdU2 g a b c d e (i + 1) (gup g1 184 (g 177 13 + i) v) := by
  refine ⟨fun x k hx => (gup_a _ _ _ _ _ hx).trans (h.1 x k hx), fun j j0 j1 => ?_, fun j hj => ?_⟩
  · by_cases z : j = i
    · rw [z, gup_s, hv]
    · rw [gup_k _ _ _ _ (by omega)]; exact h.2.1 j j0 (by omega)
  · rw [gup_k _ _ _ _ (by omega)]; exact h.2.2 j (by omega)
def fdQ2 (g : gM) (a b c d e : Int) (r : Option gV) (g2 : gM) : Prop := (400 < g 177 13 + 20 ∧ r = some (0, -1) ∧ g2 = g) ∨ (¬ 400 < g 177 13 + 20 ∧ r = some (0, g 177 13 + 20) ∧ g2 177 13 = g 177 13 + 20 ∧ (∀ j, 0 ≤ j → j < 20 → g2 184 (g 177 13 + j) = fdB a b c d e j) ∧ (∀ j, (j < g 177 13 ∨ g 177 13 + 20 ≤ j) → g2 184 j = g 184 j) ∧ ∀ x k, x ≠ 184 → x ≠ 185 → ¬ (x = 177 ∧ k = 13) → g2 x k = g x k)
theorem tk4 {g : gM} {n : Int} (h : g 149 1 = n) (v : Int) : tkM g v 4 149 1 = n + 4 ∧ (∀ j, tkM g v 4 150 j = if n ≤ j ∧ j < n + 4 then gand (gshr v (24 - 8 * (j - n))) 255 else g 150 j) ∧ ∀ x k, ¬ (x = 149 ∧ k = 1) → x ≠ 150 → tkM g v 4 x k = g x k := by
  have key : ∀ m : Nat, tkM g v m 149 1 = n + m ∧ (∀ j, tkM g v m 150 j = if n ≤ j ∧ j < n + m then gand (gshr v (24 - 8 * (j - n))) 255 else g 150 j) ∧ ∀ x k, ¬ (x = 149 ∧ k = 1) → x ≠ 150 → tkM g v m x k = g x k := by
    intro m
    induction m with
    | zero => exact ⟨by show g 149 1 = n + ((0 : Nat) : Int); omega, fun j => (if_neg (by omega)).symm, fun _ _ _ _ => rfl⟩
    | succ m ih =>
      obtain ⟨i1, i2, i3⟩ := ih
      unfold tkM
      rw [h]
      refine ⟨by rw [gup_s]; omega, fun j => ?_, fun x k z z2 => ?_⟩
      · rw [gup_a _ _ _ _ _ (by decide)]
        by_cases z : j = n + m
        · subst z
          rw [gup_s, if_pos (by omega), show n + (m : Int) - n = m by omega]
        · rw [gup_k _ _ _ _ z, i2]
          by_cases y : n ≤ j ∧ j < n + m
          · rw [if_pos y, if_pos (by omega)]
          · rw [if_neg y, if_neg (by omega)]
      · by_cases e : x = 149
        · subst e; rw [gup_k _ _ _ _ (fun q => z ⟨rfl, q⟩), gup_a _ _ _ _ _ z2]; exact i3 _ _ z z2
        · rw [gup_a _ _ _ _ _ e, gup_a _ _ _ _ _ z2]; exact i3 _ _ z z2
  have := key 4
  exact this
/-- what feed leaves at the desk -/
def fdD (g : gM) (a b c d e : Int) (x : Option gV) (g1 : gM) : Prop := (400 < g 149 1 + 20 ∧ x = some (0, -1) ∧ g1 = g) ∨ (¬ 400 < g 149 1 + 20 ∧ x = some (0, g 149 1 + 20) ∧ g1 149 1 = g 149 1 + 20 ∧ (∀ j, 0 ≤ j → j < 20 → g1 150 (g 149 1 + j) = gand (gshr (fdV a b c d e (j / 4)) (24 - 8 * (j % 4))) 255) ∧ (∀ j, (j < g 149 1 ∨ g 149 1 + 20 ≤ j) → g1 150 j = g 150 j) ∧ (∀ x k, ¬ (x = 149 ∧ k = 1) → x ≠ 150 → g1 x k = g x k) ∧ gFin g1)
theorem relR.core {Λ : Int → List PC} {sh : gS} {g g0 G : gM} {σ : OS} (h : relR Λ sh g) (hC : clI Λ sh σ g0) (hT : bdT sh g0 1) (hf0 : gFin g0) (hF0 : ∀ a k, ¬ cS1 a k → g0 a k = g a k) (hM : mdW g0 G) (eo : osM G = σ) (eM : ∀ a k, (a = 178 ∨ a = 180 ∨ a = 181 ∨ a = 183 ∨ a = 184 ∨ a = 200 ∨ (a = 177 ∧ (k = 0 ∨ k = 6 ∨ k = 13 ∨ k = 14 ∨ k = 41 ∨ k = 49))) → G a k = g a k) : relR Λ sh G := by
  have eX : ∀ a k, (a < 177 ∨ 201 ≤ a) → ¬ cS1 a k → G a k = g a k := fun a k z z4 => (hM a k (by omega)).trans (hF0 a k z4)
  have all : ∀ a k, ¬ cS1 a k → (a < 177 ∨ 201 ≤ a ∨ (a = 178 ∨ a = 180 ∨ a = 181 ∨ a = 183 ∨ a = 184 ∨ a = 200 ∨ (a = 177 ∧ (k = 0 ∨ k = 6 ∨ k = 13 ∨ k = 14 ∨ k = 41 ∨ k = 49)))) → G a k = g a k := fun a k z z2 => by
    by_cases e : a < 177 ∨ 201 ≤ a
    · exact eX a k e z
    · exact eM a k (by omega)
  obtain ⟨h1, h2, h3, h4, h5, h6, h7, h8, h9⟩ := h
  refine ⟨⟨h1.1, hM.fin hf0⟩, ⟨?_, hT.keep (fun k => hM _ k (by omega))⟩, h3.keep (fun a k z => all a k (by unfold cS1; omega) (by omega)), h4.keep (fun a k z => all a k (by unfold cS1; omega) (by omega)), h5.keep (fun a k z => all a k (by unfold cS1; omega) (by omega)), h6.keep (fun a k z => all a k (by unfold cS1; omega) (by omega)), h7.keep (fun a k z => all a k (by unfold cS1; omega) (by omega)), h8.keep (fun a k x y => all a k (by unfold cS1; omega) (by omega)), h9.keep (fun k => all _ k (by unfold cS1; omega) (by omega))⟩
  rw [eo]
  exact hC.of (fun a k z => hM a k (by omega))
/-- the tape alone has changed -/
theorem relR.tp {Λ : Int → List PC} {sh : gS} {g G : gM} (h : relR Λ sh g) (hf : gFin G) (ht : tpI G) (he : ∀ a k, ¬ ((a = 149 ∧ k = 1) ∨ a = 150 ∨ a = 184 ∨ a = 185 ∨ (a = 177 ∧ k = 13)) → G a k = g a k) : relR Λ sh G := by
  obtain ⟨h1, ⟨h2, h2b⟩, h3, h4, h5, h6, h7, h8, h9⟩ := h
  have eo : osM G = osM g := by
    unfold osM
    rw [show G 179 = g 179 from funext fun y => he _ _ (by omega), show G 190 = g 190 from funext fun y => he _ _ (by omega), he 177 33 (by omega)]
  refine ⟨⟨h1.1, hf⟩, ⟨?_, h2b.keep (fun k => he _ _ (by omega))⟩, ht, h4.keep (fun a k z => he a k (by omega)), h5.keep (fun a k z => he a k (by omega)), h6.keep (fun a k z => he a k (by omega)), h7.keep (fun a k z => he a k (by omega)), h8.keep (fun a k x y => he a k (by omega)), h9.keep (fun k => he _ _ (by omega))⟩
  rw [eo]
  exact h2.of (fun a k z => he a k (by omega))
theorem bdX.fg {Λ : Int → List PC} {sh : gS} {r : Int → Int} {g : gM} {b : Int} (hb : isBd b) (h : bdX Λ sh r g b) : bdX Λ sh (rPt r 42 0) (gup g b 4 0) b := by
  have hm0 := ro_many h.1.1
  obtain ⟨b1, b2, b3, b4, b5, b6, b7⟩ := h.2.1
  have k : ∀ x, x ≠ 42 → rPt r 42 0 x = r x := fun x hx => if_neg hx
  have ea : ∀ a y, a ≠ b → gup g b 4 0 a y = g a y := fun a y q => gup_a _ _ _ _ _ q
  unfold isBd at hb
  refine h.gen (h.1.1.set (by omega)) ⟨?_, ?_, ?_, ?_, fun i c d => ?_, ?_, fun j c d => ?_⟩ (k 43 (by decide)) (fun y hy => k y (by omega)) (fun y => ea _ _ (by omega)) (fun x y hx => ea x y (by omega))
  · rw [gup_k _ _ _ _ (by decide), k 41 (by decide)]; exact b1
  · rw [gup_s]; exact (if_pos rfl).symm
  · rw [gup_k _ _ _ _ (by decide), k 43 (by decide)]; exact b3
  · rw [gup_k _ _ _ _ (by decide), k 44 (by decide)]; exact b4
  · rw [k 41 (by decide)] at d
    rw [ea _ _ (by omega), ea _ _ (by omega), k _ (by omega), k _ (by omega)]; exact b5 i c d
  · rw [ea _ _ (by omega), ea _ _ (by omega), ea _ _ (by omega), ea _ _ (by omega), ea _ _ (by omega), k 24 (by decide), k 37 (by decide), k 38 (by decide), k 39 (by decide), k 40 (by decide)]
    exact b6
  · have d : j < 0 := d
    omega
theorem wkF_ok : ∀ (m : Nat) (ρ : Int → Int) (l s : Int), rowOK ρ → 0 < ρ 41 → sLow ρ (wkF m ρ l s).1 ∧ s ≤ (wkF m ρ l s).2 ∧ (wkF m ρ l s).2 ≤ s + 12 * m
  | 0, ρ, l, s, _, _ => ⟨fun _ _ => rfl, Int.le_refl s, by show s ≤ s + 12 * ((0 : Nat) : Int); omega⟩
  | m + 1, ρ, l, s, ho, h0 => by
    unfold wkF
    split
    · next z =>
      have o1 := drA_ok ho h0 l
      have l1 := drA_low ho h0 l
      have e24 := drA_24 ho h0 l
      have o2 := rDa_ok o1 (by omega)
      have e41 : rDa (drA ρ l) 41 = ρ 41 := (rDa_low (drA ρ l) 41 (by omega)).trans (l1 41 (by omega))
      have ih := wkF_ok m (rDa (drA ρ l)) (dr (dr (dr l))) (s + allN (drA ρ l) 2) o2 (by omega)
      have ha := allN_bd2 o1
      exact ⟨l1.tr ((rDa_low _).tr ih.1), by omega, by omega⟩
    · exact ⟨fun _ _ => rfl, Int.le_refl s, by omega⟩
set_option maxHeartbeats 1000000 in
theorem c_Model_feed2 {sh : gS} {g : gM} (hx : gFix sh) (hf : gFin g) (a b c d e : Int) (ht : tapeOK g) : gTri f_Model_feed 0 0 0 [(2, 177), (0, a), (0, b), (0, c), (0, d), (0, e)] sh g (fun r s2 g2 => s2 = sh ∧ fdQ2 g a b c d e r g2) := by
  have ht1 := ht.1
  have hf0 := hf
  refine gTri.of (by decide +kernel) rfl ?_
  show gWP f_Model_feed _ _ _ 0 [(2, 177), (0, a), (0, b), (0, c), (0, d), (0, e), (9, 0)] [] sh g _
  refine gw_aload_n (gc k_Model_feed_0 0 rfl) rfl rfl ?_
  refine gw_getf 13 rfl (gc k_Model_feed_0 1 rfl) fl_Model_154 (gAt hx rfl rfl) ?_
  refine gw_bipush (gc k_Model_feed_0 2 rfl) (by decide) ?_
  refine gw_iadd (gc k_Model_feed_0 3 rfl) ?_
  refine gw_sipush (gc k_Model_feed_0 4 rfl) (by decide) ?_
  refine gw_icmp_le (tgt := 15) (gc k_Model_feed_0 5 rfl) rfl (by omega) (fun c10 => ?_) (fun c10 => ?_)
  · refine gw_aload_n (gc k_Model_feed_0 8 rfl) rfl rfl ?_
    refine gw_getref (gc k_Model_feed_0 9 rfl) fl_Model_48 (gAt hx rfl rfl) (gRf hf rfl rfl) ?_
    refine gw_iconst (gc k_Model_feed_0 10 rfl) ?_
    refine gw_iload_n (gc k_Model_feed_0 11 rfl) rfl ?_
    refine gw_iastF (gc k_Model_feed_0 12 rfl) (gAt hx rfl rfl) (by omega) hf rfl (fun hf => ?_)
    refine gw_aload_n (gc k_Model_feed_0 13 rfl) rfl rfl ?_
    refine gw_getref (gc k_Model_feed_0 14 rfl) fl_Model_48 (gAt hx rfl rfl) (gRf hf rfl rfl) ?_
    refine gw_iconst (gc k_Model_feed_0 15 rfl) ?_
    refine gw_iload_n (gc k_Model_feed_0 16 rfl) rfl ?_
    refine gw_iastF (gc k_Model_feed_0 17 rfl) (gAt hx rfl rfl) (by omega) hf rfl (fun hf => ?_)
    refine gw_aload_n (gc k_Model_feed_0 18 rfl) rfl rfl ?_
    refine gw_getref (gc k_Model_feed_0 19 rfl) fl_Model_48 (gAt hx rfl rfl) (gRf hf rfl rfl) ?_
    refine gw_iconst (gc k_Model_feed_0 20 rfl) ?_
    refine gw_iload_n (gc k_Model_feed_0 21 rfl) rfl ?_
    refine gw_iastF (gc k_Model_feed_0 22 rfl) (gAt hx rfl rfl) (by omega) hf rfl (fun hf => ?_)
    refine gw_aload_n (gc k_Model_feed_0 23 rfl) rfl rfl ?_
    refine gw_getref (gc k_Model_feed_0 24 rfl) fl_Model_48 (gAt hx rfl rfl) (gRf hf rfl rfl) ?_
    refine gw_iconst (gc k_Model_feed_0 25 rfl) ?_
    refine gw_iload (gc k_Model_feed_0 26 rfl) rfl ?_
    refine gw_iastF (gc k_Model_feed_0 27 rfl) (gAt hx rfl rfl) (by omega) hf rfl (fun hf => ?_)
    refine gw_aload_n (gc k_Model_feed_0 28 rfl) rfl rfl ?_
    refine gw_getref (gc k_Model_feed_0 29 rfl) fl_Model_48 (gAt hx rfl rfl) (gRf hf rfl rfl) ?_
    refine gw_iconst (gc k_Model_feed_0 30 rfl) ?_
    refine gw_iload (gc k_Model_feed_0 31 rfl) rfl ?_
    refine gw_iastF (gc k_Model_feed_0 32 rfl) (gAt hx rfl rfl) (by omega) hf rfl (fun hf => ?_)
    refine gw_iconst (gc k_Model_feed_0 33 rfl) ?_
    refine gw_istore_6 (gc k_Model_feed_0 34 rfl) rfl rfl ?_
    refine gwloop (σ := Int × gM) (fun zs => (0 ≤ (zs.1) ∧ (zs.1) ≤ 20) ∧ fdU2 g a b c d e (zs.1) (zs.2)) (fun zs => (20 - (zs.1)).toNat) (fun zs => [(2, 177), (0, a), (0, b), (0, c), (0, d), (0, e), (0, (zs.1))]) (fun zs => (zs.2)) (0, fdM g a b c d e) (show (0 ≤ (0 : Int) ∧ (0 : Int) ≤ 20) ∧ fdU2 g a b c d e (0 : Int) (fdM g a b c d e) from ⟨by omega, fun _ _ _ => rfl, fun j h1 h2 => by omega, fun j _ => congrFun (fdM_fn g a b c d e (by decide)) j⟩) rfl rfl (fun zs hI ih => ?_)
    obtain ⟨i, g1⟩ := zs
    replace hI : (0 ≤ i ∧ i ≤ 20) ∧ fdU2 g a b c d e i g1 := hI
    obtain ⟨hi, hU⟩ := hI
    show gWP _ _ _ _ _ [(2, 177), (0, a), (0, b), (0, c), (0, d), (0, e), (0, i)] [] _ (g1) _
    have hf : gFin g1 := hf0.of (fun x k z => by
      rcases (show (x : Int) = 184 ∨ (x : Int) = 185 ∨ ((x : Int) ≠ 184 ∧ (x : Int) ≠ 185) by omega) with q | q | q
      · obtain rfl : x = 184 := by omega
        exact absurd rfl z
      · obtain rfl : x = 185 := by omega
        exact absurd rfl z
      · rw [hU.1 _ _ q.1, fdM_fn _ _ _ _ _ _ q.2])
    have e13 : g1 177 13 = g 177 13 := (hU.1 177 13 (by decide)).trans (congrFun (fdM_fn g a b c d e (by decide)) 13)
    refine gw_iload (gc k_Model_feed_0 35 rfl) rfl ?_
    refine gw_bipush (gc k_Model_feed_0 36 rfl) (by decide) ?_
    refine gw_icmp_ge (tgt := 101) (gc k_Model_feed_0 37 rfl) rfl (by omega) (fun c59 => ?_) (fun c59 => ?_)
    · refine gw_aload_n (gc k_Model_feed_1 22 rfl) rfl rfl ?_
      refine gw_dup (gc k_Model_feed_1 23 rfl) rfl ?_
      refine gw_getf 13 rfl (gc k_Model_feed_1 24 rfl) fl_Model_154 (gAt hx rfl rfl) ?_
      refine gw_bipush (gc k_Model_feed_1 25 rfl) (by decide) ?_
      refine gw_iadd (gc k_Model_feed_1 26 rfl) ?_
      refine gw_putIK 13 rfl (gc k_Model_feed_1 27 rfl) fl_Model_154 (gAt hx rfl rfl) hf rfl (fun hf => ?_)
      refine gw_aload_n (gc k_Model_feed_1 28 rfl) rfl rfl ?_
      refine gw_getf 13 rfl (gc k_Model_feed_1 29 rfl) fl_Model_154 (gAt hx rfl rfl) ?_
      refine gw_ireturn (gc k_Model_feed_1 30 rfl) rfl ?_
      obtain rfl : i = 20 := by omega
      refine ⟨rfl, Or.inr ⟨by omega, by rw [gup_s, e13], by rw [gup_s, e13], fun j h1 h2 => ?_, fun j hj => ?_, fun x k h1 h2 h3 => ?_⟩⟩
      · rw [gup_fn _ _ _ _ (by decide)]; exact hU.2.1 j h1 h2
      · rw [gup_fn _ _ _ _ (by decide)]; exact hU.2.2 j hj
      · have q := (hU.1 x k h1).trans (congrFun (fdM_fn g a b c d e h2) k)
        by_cases z : x = 177
        · subst z; rw [gup_k _ _ _ _ (fun z2 => h3 ⟨rfl, z2⟩)]; exact q
        · rw [gup_a _ _ _ _ _ z]; exact q
    · refine gw_aload_n (gc k_Model_feed_0 38 rfl) rfl rfl ?_
      refine gw_getref (gc k_Model_feed_0 39 rfl) fl_Model_45 (gAt hx rfl rfl) (gRf hf rfl rfl) ?_
      refine gw_aload_n (gc k_Model_feed_1 0 rfl) rfl rfl ?_
      refine gw_getf 13 rfl (gc k_Model_feed_1 1 rfl) fl_Model_154 (gAt hx rfl rfl) ?_
      rw [e13]
      refine gw_iload (gc k_Model_feed_1 2 rfl) rfl ?_
      refine gw_iadd (gc k_Model_feed_1 3 rfl) ?_
      refine gw_aload_n (gc k_Model_feed_1 4 rfl) rfl rfl ?_
      refine gw_getref (gc k_Model_feed_1 5 rfl) fl_Model_48 (gAt hx rfl rfl) (gRf hf rfl rfl) ?_
      refine gw_iload (gc k_Model_feed_1 6 rfl) rfl ?_
      refine gw_iconst (gc k_Model_feed_1 7 rfl) ?_
      refine gw_idivN (gc k_Model_feed_1 8 rfl) (by omega) ?_
      refine gw_iald (gc k_Model_feed_1 9 rfl) (gAt hx rfl rfl) (by omega) ?_
      refine gw_bipush (gc k_Model_feed_1 10 rfl) (by decide) ?_
      refine gw_bipush (gc k_Model_feed_1 11 rfl) (by decide) ?_
      refine gw_iload (gc k_Model_feed_1 12 rfl) rfl ?_
      refine gw_iconst (gc k_Model_feed_1 13 rfl) ?_
      refine gw_iremN (gc k_Model_feed_1 14 rfl) (by omega) ?_
      refine gw_imul (gc k_Model_feed_1 15 rfl) ?_
      refine gw_isub (gc k_Model_feed_1 16 rfl) ?_
      refine gw_ishr (gc k_Model_feed_1 17 rfl) ?_
      refine gw_i2b (gc k_Model_feed_1 18 rfl) ?_
      refine gw_bastF (gc k_Model_feed_1 19 rfl) (gAt hx rfl rfl) (by omega) (gi2b_bd _) hf rfl (fun hf => ?_)
      refine gw_iinc_6 (gc k_Model_feed_1 20 rfl) rfl rfl ?_
      refine gw_goto (tgt := 55) (gc k_Model_feed_1 21 rfl) rfl ?_
      refine ih (i + 1, gup g1 184 (g 177 13 + i) (gi2b (gshr (g1 185 (i / 4)) (24 - 8 * (i % 4))))) (show (0 ≤ (i + 1) ∧ (i + 1) ≤ 20) ∧ fdU2 g a b c d e (i + 1) (gup g1 184 (g 177 13 + i) (gi2b (gshr (g1 185 (i / 4)) (24 - 8 * (i % 4))))) from ⟨by omega, hU.step (by omega) (by rw [hU.1 _ _ (by decide), fdM_at _ _ _ _ _ _ _ (by omega)]; rfl)⟩) (show (20 - (i + 1)).toNat < (20 - i).toNat from by omega)
  · refine gw_iconst (gc k_Model_feed_0 6 rfl) ?_
    refine gw_ireturn (gc k_Model_feed_0 7 rfl) rfl ?_
    exact ⟨rfl, Or.inl ⟨by omega, rfl, rfl⟩⟩
set_option maxHeartbeats 4000000 in
theorem c_Desk_feed {sh : gS} {g : gM} (hx : gFix sh) (hf : gFin g) {Λ : Int → List PC} (hR : relR Λ sh g) (a b c d e : Int) : gTri f_Desk_feed 1 0 0 [(2, 0), (0, a), (0, b), (0, c), (0, d), (0, e)] sh g (fun x s1 g1 => s1 = sh ∧ fdD g a b c d e x g1) := by
  obtain ⟨n, hn⟩ : ∃ n, g 149 1 = n := ⟨_, rfl⟩
  have htp := hR.2.2.1
  have hnb : 0 ≤ n ∧ n ≤ 400 := by rw [← hn, htp.2.1]; exact htp.1.1
  unfold fdD
  rw [hn]
  refine gTri.of (by decide +kernel) rfl ?_
  show gWP f_Desk_feed _ _ _ 0 [(2, 0), (0, a), (0, b), (0, c), (0, d), (0, e)] [] sh g _
  refine gw_aload_n (gc k_Desk_feed_0 0 rfl) rfl rfl ?_
  refine gw_getref (gc k_Desk_feed_0 1 rfl) fl_Desk_51 (by first | exact gAt hx rfl rfl) (by first | exact gRf hf rfl rfl) ?_
  refine gw_getf 1 rfl (gc k_Desk_feed_0 2 rfl) fl_Desk_132 (by first | exact gAt hx rfl rfl) ?_
  rw [hn]
  refine gw_bipush (gc k_Desk_feed_0 3 rfl) (by decide) ?_
  refine gw_iadd (gc k_Desk_feed_0 4 rfl) ?_
  refine gw_sipush (gc k_Desk_feed_0 5 rfl) (by decide) ?_
  refine gw_icmp_le (tgt := 18) (gc k_Desk_feed_0 6 rfl) rfl (by omega) (fun c13 => ?_) (fun c13 => ?_)
  · refine gw_aload_n (gc k_Desk_feed_0 9 rfl) rfl rfl ?_
    refine gw_getref (gc k_Desk_feed_0 10 rfl) fl_Desk_51 (by first | exact gAt hx rfl rfl) (by first | exact gRf hf rfl rfl) ?_
    refine gw_iload_n (gc k_Desk_feed_0 11 rfl) rfl ?_
    refine gw_cV0 (gc k_Desk_feed_0 12 rfl) y_Tape_take ln_Desk_133 (c_Tape_take hx hf a (by omega)) rfl rfl (by first | exact gAt hx rfl rfl) rfl rfl ?_
    obtain ⟨m1, hm1⟩ : ∃ M, M = tkM g a 4 := ⟨_, rfl⟩
    rw [← hm1]
    obtain ⟨k11, k12, k13, hf⟩ : m1 149 1 = n + 4 ∧ (∀ j, m1 150 j = if n ≤ j ∧ j < n + 4 then gand (gshr a (24 - 8 * (j - (n)))) 255 else g 150 j) ∧ (∀ x k, ¬ (x = 149 ∧ k = 1) → x ≠ 150 → m1 x k = g x k) ∧ gFin m1 := by
      have q := tk4 (g := g) (n := n) hn a
      rw [hm1]
      refine ⟨by rw [q.1]; try omega, fun j => ?_, q.2.2, tkM_fin hf a 4⟩
      rw [q.2.1 j, show n + 4 = n + 4 by omega]
    refine gw_aload_n (gc k_Desk_feed_0 13 rfl) rfl rfl ?_
    refine gw_getref (gc k_Desk_feed_0 14 rfl) fl_Desk_51 (by first | exact gAt hx rfl rfl) (by first | exact gRf hf rfl rfl) ?_
    refine gw_iload_n (gc k_Desk_feed_0 15 rfl) rfl ?_
    refine gw_cV0 (gc k_Desk_feed_0 16 rfl) y_Tape_take ln_Desk_133 (c_Tape_take hx hf b (by omega)) rfl rfl (by first | exact gAt hx rfl rfl) rfl rfl ?_
    obtain ⟨m2, hm2⟩ : ∃ M, M = tkM m1 b 4 := ⟨_, rfl⟩
    rw [← hm2]
    obtain ⟨k21, k22, k23, hf⟩ : m2 149 1 = n + 8 ∧ (∀ j, m2 150 j = if n + 4 ≤ j ∧ j < n + 8 then gand (gshr b (24 - 8 * (j - (n + 4)))) 255 else m1 150 j) ∧ (∀ x k, ¬ (x = 149 ∧ k = 1) → x ≠ 150 → m2 x k = m1 x k) ∧ gFin m2 := by
      have q := tk4 (g := m1) (n := n + 4) k11 b
      rw [hm2]
      refine ⟨by rw [q.1]; try omega, fun j => ?_, q.2.2, tkM_fin hf b 4⟩
      rw [q.2.1 j, show n + 4 + 4 = n + 8 by omega]
    refine gw_aload_n (gc k_Desk_feed_0 17 rfl) rfl rfl ?_
    refine gw_getref (gc k_Desk_feed_0 18 rfl) fl_Desk_51 (by first | exact gAt hx rfl rfl) (by first | exact gRf hf rfl rfl) ?_
    refine gw_iload_n (gc k_Desk_feed_0 19 rfl) rfl ?_
    refine gw_cV0 (gc k_Desk_feed_0 20 rfl) y_Tape_take ln_Desk_133 (c_Tape_take hx hf c (by omega)) rfl rfl (by first | exact gAt hx rfl rfl) rfl rfl ?_
    obtain ⟨m3, hm3⟩ : ∃ M, M = tkM m2 c 4 := ⟨_, rfl⟩
    rw [← hm3]
    obtain ⟨k31, k32, k33, hf⟩ : m3 149 1 = n + 12 ∧ (∀ j, m3 150 j = if n + 8 ≤ j ∧ j < n + 12 then gand (gshr c (24 - 8 * (j - (n + 8)))) 255 else m2 150 j) ∧ (∀ x k, ¬ (x = 149 ∧ k = 1) → x ≠ 150 → m3 x k = m2 x k) ∧ gFin m3 := by
      have q := tk4 (g := m2) (n := n + 8) k21 c
      rw [hm3]
      refine ⟨by rw [q.1]; try omega, fun j => ?_, q.2.2, tkM_fin hf c 4⟩
      rw [q.2.1 j, show n + 8 + 4 = n + 12 by omega]
    refine gw_aload_n (gc k_Desk_feed_0 21 rfl) rfl rfl ?_
    refine gw_getref (gc k_Desk_feed_0 22 rfl) fl_Desk_51 (by first | exact gAt hx rfl rfl) (by first | exact gRf hf rfl rfl) ?_
    refine gw_iload (gc k_Desk_feed_0 23 rfl) rfl ?_
    refine gw_cV0 (gc k_Desk_feed_0 24 rfl) y_Tape_take ln_Desk_133 (c_Tape_take hx hf d (by omega)) rfl rfl (by first | exact gAt hx rfl rfl) rfl rfl ?_
    obtain ⟨m4, hm4⟩ : ∃ M, M = tkM m3 d 4 := ⟨_, rfl⟩
    rw [← hm4]
    obtain ⟨k41, k42, k43, hf⟩ : m4 149 1 = n + 16 ∧ (∀ j, m4 150 j = if n + 12 ≤ j ∧ j < n + 16 then gand (gshr d (24 - 8 * (j - (n + 12)))) 255 else m3 150 j) ∧ (∀ x k, ¬ (x = 149 ∧ k = 1) → x ≠ 150 → m4 x k = m3 x k) ∧ gFin m4 := by
      have q := tk4 (g := m3) (n := n + 12) k31 d
      rw [hm4]
      refine ⟨by rw [q.1]; try omega, fun j => ?_, q.2.2, tkM_fin hf d 4⟩
      rw [q.2.1 j, show n + 12 + 4 = n + 16 by omega]
    refine gw_aload_n (gc k_Desk_feed_0 25 rfl) rfl rfl ?_
    refine gw_getref (gc k_Desk_feed_0 26 rfl) fl_Desk_51 (by first | exact gAt hx rfl rfl) (by first | exact gRf hf rfl rfl) ?_
    refine gw_iload (gc k_Desk_feed_0 27 rfl) rfl ?_
    refine gw_cV0 (gc k_Desk_feed_0 28 rfl) y_Tape_take ln_Desk_133 (c_Tape_take hx hf e (by omega)) rfl rfl (by first | exact gAt hx rfl rfl) rfl rfl ?_
    obtain ⟨m5, hm5⟩ : ∃ M, M = tkM m4 e 4 := ⟨_, rfl⟩
    rw [← hm5]
    obtain ⟨k51, k52, k53, hf⟩ : m5 149 1 = n + 20 ∧ (∀ j, m5 150 j = if n + 16 ≤ j ∧ j < n + 20 then gand (gshr e (24 - 8 * (j - (n + 16)))) 255 else m4 150 j) ∧ (∀ x k, ¬ (x = 149 ∧ k = 1) → x ≠ 150 → m5 x k = m4 x k) ∧ gFin m5 := by
      have q := tk4 (g := m4) (n := n + 16) k41 e
      rw [hm5]
      refine ⟨by rw [q.1]; try omega, fun j => ?_, q.2.2, tkM_fin hf e 4⟩
      rw [q.2.1 j, show n + 16 + 4 = n + 20 by omega]
    refine gw_aload_n (gc k_Desk_feed_0 29 rfl) rfl rfl ?_
    refine gw_getref (gc k_Desk_feed_0 30 rfl) fl_Desk_51 (by first | exact gAt hx rfl rfl) (by first | exact gRf hf rfl rfl) ?_
    refine gw_getf 1 rfl (gc k_Desk_feed_0 31 rfl) fl_Desk_132 (by first | exact gAt hx rfl rfl) ?_
    rw [k51]
    refine gw_ireturn (gc k_Desk_feed_0 32 rfl) rfl ?_
    refine ⟨rfl, Or.inr ⟨by omega, rfl, k51, fun j h0 h1 => ?_, fun j hj => ?_, fun x k z1 z2 => ?_, hf⟩⟩
    · rcases (show j / 4 = 0 ∨ j / 4 = 1 ∨ j / 4 = 2 ∨ j / 4 = 3 ∨ j / 4 = 4 by omega) with q | q | q | q | q
      · rw [k52, if_neg (by omega), k42, if_neg (by omega), k32, if_neg (by omega), k22, if_neg (by omega), k12, if_pos (by omega)]
        unfold fdV
        rw [if_pos (by omega)]
        congr 2; omega
      · rw [k52, if_neg (by omega), k42, if_neg (by omega), k32, if_neg (by omega), k22, if_pos (by omega)]
        unfold fdV
        rw [if_neg (by omega), if_pos (by omega)]
        congr 2; omega
      · rw [k52, if_neg (by omega), k42, if_neg (by omega), k32, if_pos (by omega)]
        unfold fdV
        rw [if_neg (by omega), if_neg (by omega), if_pos (by omega)]
        congr 2; omega
      · rw [k52, if_neg (by omega), k42, if_pos (by omega)]
        unfold fdV
        rw [if_neg (by omega), if_neg (by omega), if_neg (by omega), if_pos (by omega)]
        congr 2; omega
      · rw [k52, if_pos (by omega)]
        unfold fdV
        rw [if_neg (by omega), if_neg (by omega), if_neg (by omega), if_neg (by omega)]
        congr 2; omega
    · rw [k52, if_neg (by omega), k42, if_neg (by omega), k32, if_neg (by omega), k22, if_neg (by omega), k12, if_neg (by omega)]
    · rw [k53 x k z1 z2, k43 x k z1 z2, k33 x k z1 z2, k23 x k z1 z2, k13 x k z1 z2]
  · refine gw_iconst (gc k_Desk_feed_0 7 rfl) ?_
    refine gw_ireturn (gc k_Desk_feed_0 8 rfl) rfl ?_
    exact ⟨rfl, Or.inl ⟨by omega, rfl, rfl⟩⟩
set_option maxHeartbeats 2000000 in
theorem c_Desk_end {sh : gS} {g : gM} (hx : gFix sh) (hf : gFin g) {Λ : Int → List PC} (hR : relR Λ sh g) (n : Int) (hn : (-2147483648 ≤ n ∧ n ≤ 2147483647)) : gTri f_Desk_end 0 0 0 [(2, 0), (0, n)] sh g (fun x s1 g1 => s1 = sh ∧ ((¬ (0 ≤ n ∧ n ≤ g 149 1) ∧ x = some (0, -1) ∧ g1 = g) ∨ ((0 ≤ n ∧ n ≤ g 149 1) ∧ x = some (0, n) ∧ g1 = gup g 149 1 n ∧ gFin g1))) := by
  have hro := hR.ro
  have hm := ro_many hro
  have h0 := hR.X.nums.1.1
  have hX := hR.X
  have htp := hR.2.2.1
  have hnb : 0 ≤ g 149 1 ∧ g 149 1 ≤ 400 := by rw [htp.2.1]; exact htp.1.1
  refine gTri.of (by decide +kernel) rfl ?_
  show gWP f_Desk_end _ _ _ 0 [(2, 0), (0, n)] [] sh g _
  refine gw_iload_n (gc k_Desk_end_0 0 rfl) rfl ?_
  refine gw_if_lt (tgt := 15) (gc k_Desk_end_0 1 rfl) rfl (by omega) (fun c1 => ?_) (fun c1 => ?_)
  · refine gw_iconst (gc k_Desk_end_0 7 rfl) ?_
    refine gw_ireturn (gc k_Desk_end_0 8 rfl) rfl ?_
    exact ⟨rfl, Or.inl ⟨by omega, rfl, rfl⟩⟩
  · refine gw_iload_n (gc k_Desk_end_0 2 rfl) rfl ?_
    refine gw_aload_n (gc k_Desk_end_0 3 rfl) rfl rfl ?_
    refine gw_getref (gc k_Desk_end_0 4 rfl) fl_Desk_51 (by first | exact gAt hx rfl rfl) (by first | exact gRf hf rfl rfl) ?_
    refine gw_getf 1 rfl (gc k_Desk_end_0 5 rfl) fl_Desk_132 (by first | exact gAt hx rfl rfl) ?_
    refine gw_icmp_le (tgt := 17) (gc k_Desk_end_0 6 rfl) rfl (by omega) (fun c12 => ?_) (fun c12 => ?_)
    · refine gw_aload_n (gc k_Desk_end_0 9 rfl) rfl rfl ?_
      refine gw_getref (gc k_Desk_end_0 10 rfl) fl_Desk_51 (by first | exact gAt hx rfl rfl) (by first | exact gRf hf rfl rfl) ?_
      refine gw_iload_n (gc k_Desk_end_0 11 rfl) rfl ?_
      refine gw_putIK 1 rfl (gc k_Desk_end_0 12 rfl) fl_Desk_132 (by first | exact gAt hx rfl rfl) hf (by rfl) (fun hf => ?_)
      refine gw_iload_n (gc k_Desk_end_0 13 rfl) rfl ?_
      refine gw_ireturn (gc k_Desk_end_0 14 rfl) rfl ?_
      exact ⟨rfl, Or.inr ⟨by omega, rfl, rfl, hf⟩⟩
    · refine gw_iconst (gc k_Desk_end_0 7 rfl) ?_
      refine gw_ireturn (gc k_Desk_end_0 8 rfl) rfl ?_
      exact ⟨rfl, Or.inl ⟨by omega, rfl, rfl⟩⟩
set_option maxHeartbeats 2000000 in
theorem c_Desk_forget {sh : gS} {g : gM} (hx : gFix sh) (hf : gFin g) {Λ : Int → List PC} (hR : relR Λ sh g) : gTri f_Desk_forget 0 0 0 [(2, 0)] sh g (fun x s1 g1 => x = some (0, g 179 42) ∧ s1 = sh ∧ g1 = gup g 1 4 0 ∧ gFin g1) := by
  have hro := hR.ro
  have hm := ro_many hro
  have h0 := hR.X.nums.1.1
  have hX := hR.X
  have h4 : g 1 4 = g 179 42 := hX.nums.2.1.1
  refine gTri.of (by decide +kernel) rfl ?_
  show gWP f_Desk_forget _ _ _ 0 [(2, 0), (9, 0)] [] sh g _
  refine gw_aload_n (gc k_Desk_forget_0 0 rfl) rfl rfl ?_
  refine gw_getref (gc k_Desk_forget_0 1 rfl) fl_Desk_12 (by first | exact gAt hx rfl rfl) (by first | exact gRf hf rfl rfl) ?_
  refine gw_getf 4 rfl (gc k_Desk_forget_0 2 rfl) fl_Desk_237 (by first | exact gAt hx rfl rfl) ?_
  rw [h4]
  refine gw_istore_1 (gc k_Desk_forget_0 3 rfl) rfl rfl ?_
  refine gw_aload_n (gc k_Desk_forget_0 4 rfl) rfl rfl ?_
  refine gw_getref (gc k_Desk_forget_0 5 rfl) fl_Desk_12 (by first | exact gAt hx rfl rfl) (by first | exact gRf hf rfl rfl) ?_
  refine gw_iconst (gc k_Desk_forget_0 6 rfl) ?_
  refine gw_putIK 4 rfl (gc k_Desk_forget_0 7 rfl) fl_Desk_237 (by first | exact gAt hx rfl rfl) hf (by rfl) (fun hf => ?_)
  refine gw_iload_n (gc k_Desk_forget_0 8 rfl) rfl ?_
  refine gw_ireturn (gc k_Desk_forget_0 9 rfl) rfl ?_
  exact ⟨rfl, rfl, rfl, hf⟩
set_option maxHeartbeats 2000000 in
theorem c_Desk_image {sh : gS} {g : gM} (hx : gFix sh) (hf : gFin g) {Λ : Int → List PC} (hR : relR Λ sh g) (k : Int) (hk : (-2147483648 ≤ k ∧ k ≤ 2147483647)) : gTri f_Desk_image 4 0 0 [(2, 0), (0, k)] sh g (fun x s1 g1 => s1 = sh ∧ ((¬ (0 ≤ k ∧ k ≤ 1) ∧ x = some (0, -1) ∧ g1 = ansM g (-1)) ∨ ((0 ≤ k ∧ k ≤ 1) ∧ x = some (0, 0) ∧ ∃ M, cpS g (160 + 7 * k) 1 6 M ∧ g1 = ansM (gup M 174 k 1) 0 ∧ gFin g1))) := by
  have hro := hR.ro
  have hm := ro_many hro
  have h0 := hR.X.nums.1.1
  have hX := hR.X
  refine gTri.of (by decide +kernel) rfl ?_
  show gWP f_Desk_image _ _ _ 0 [(2, 0), (0, k)] [] sh g _
  refine gw_iload_n (gc k_Desk_image_0 0 rfl) rfl ?_
  refine gw_if_lt (tgt := 9) (gc k_Desk_image_0 1 rfl) rfl (by omega) (fun c1 => ?_) (fun c1 => ?_)
  · refine gw_aload_n (gc k_Desk_image_0 5 rfl) rfl rfl ?_
    refine gw_iconst (gc k_Desk_image_0 6 rfl) ?_
    refine gw_cV1 (gc k_Desk_image_0 7 rfl) y_Desk_answer ln_Desk_86 (c_Desk_answer hx hf (-1) (by decide)) rfl rfl (by first | exact gAt hx rfl rfl) rfl rfl ?_
    refine gw_ireturn (gc k_Desk_image_0 8 rfl) rfl ?_
    exact ⟨rfl, Or.inl ⟨by omega, rfl, rfl⟩⟩
  · refine gw_iload_n (gc k_Desk_image_0 2 rfl) rfl ?_
    refine gw_iconst (gc k_Desk_image_0 3 rfl) ?_
    refine gw_icmp_lt (tgt := 15) (gc k_Desk_image_0 4 rfl) rfl (by omega) (fun c6 => ?_) (fun c6 => ?_)
    · have hk2 : 0 ≤ k ∧ k ≤ 1 := by omega
      have hiI := iIm hk2
      refine gw_aload_n (gc k_Desk_image_0 9 rfl) rfl rfl ?_
      refine gw_getref (gc k_Desk_image_0 10 rfl) fl_Desk_62 (by first | exact gAt hx rfl rfl) (by first | exact gRf hf rfl rfl) ?_
      refine gw_iload_n (gc k_Desk_image_0 11 rfl) rfl ?_
      refine gw_aald_Board (gc k_Desk_image_0 12 rfl) (by first | exact gAt hx rfl rfl) (by omega) ?_
      rw [show g 159 k = 160 + 7 * k from by
        rcases (show k = 0 ∨ k = 1 by omega) with rfl | rfl
        · exact gRf hf rfl rfl
        · exact gRf hf rfl rfl]
      refine gw_aload_n (gc k_Desk_image_0 13 rfl) rfl rfl ?_
      refine gw_getref (gc k_Desk_image_0 14 rfl) fl_Desk_12 (by first | exact gAt hx rfl rfl) (by first | exact gRf hf rfl rfl) ?_
      refine gw_xV1 (gc k_Desk_image_0 15 rfl) y_Board_copyFrom ln_Desk_270 (c_Board_copyFrom hx hf hiI i1 (by omega) hR.2.1.2) rfl rfl (bs hx hiI).1 rfl rfl (fun r25 sh2 g25 hq25 => ?_)
      obtain ⟨rfl, hsh, hcp⟩ := hq25
      subst sh2
      have hf := cpS.fin hiI (by decide) hcp hf
      refine gw_aload_n (gc k_Desk_image_0 16 rfl) rfl rfl ?_
      refine gw_getref (gc k_Desk_image_0 17 rfl) fl_Desk_66 (by first | exact gAt hx rfl rfl) (by first | exact gRf hf rfl rfl) ?_
      refine gw_iload_n (gc k_Desk_image_0 18 rfl) rfl ?_
      refine gw_iconst (gc k_Desk_image_0 19 rfl) ?_
      refine gw_zastF (gc k_Desk_image_0 20 rfl) (by first | exact gAt hx rfl rfl) (by omega) (by omega) hf (by rfl) (fun hf => ?_)
      refine gw_aload_n (gc k_Desk_image_0 21 rfl) rfl rfl ?_
      refine gw_iconst (gc k_Desk_image_0 22 rfl) ?_
      refine gw_cV1 (gc k_Desk_image_0 23 rfl) y_Desk_answer ln_Desk_86 (c_Desk_answer hx hf 0 (by decide)) rfl rfl (by first | exact gAt hx rfl rfl) rfl rfl ?_
      refine gw_ireturn (gc k_Desk_image_0 24 rfl) rfl ?_
      exact ⟨rfl, Or.inr ⟨hk2, rfl, g25, hcp, rfl, ansM_fin hf 0⟩⟩
    · refine gw_aload_n (gc k_Desk_image_0 5 rfl) rfl rfl ?_
      refine gw_iconst (gc k_Desk_image_0 6 rfl) ?_
      refine gw_cV1 (gc k_Desk_image_0 7 rfl) y_Desk_answer ln_Desk_86 (c_Desk_answer hx hf (-1) (by decide)) rfl rfl (by first | exact gAt hx rfl rfl) rfl rfl ?_
      refine gw_ireturn (gc k_Desk_image_0 8 rfl) rfl ?_
      exact ⟨rfl, Or.inl ⟨by omega, rfl, rfl⟩⟩
set_option maxHeartbeats 2000000 in
theorem c_Desk_weeks {sh : gS} {g : gM} (hx : gFix sh) (hf : gFin g) {Λ : Int → List PC} (hR : relR Λ sh g) (s : Int) (n : Int) (hs : (-2147483648 ≤ s ∧ s ≤ 2147483647)) (hn : (-2147483648 ≤ n ∧ n ≤ 2147483647)) : gTri f_Desk_weeks 6 0 0 [(2, 0), (0, s), (0, n)] sh g (fun x s1 g1 => s1 = sh ∧ ((¬ ((0 ≤ s ∧ s ≤ 1000000) ∧ 1 ≤ n ∧ n ≤ 60) ∧ x = some (0, -1) ∧ g1 = ansM g (-1)) ∨ (((0 ≤ s ∧ s ≤ 1000000) ∧ 1 ≤ n ∧ n ≤ 60) ∧ g 179 41 = 0 ∧ x = some (0, -3) ∧ g1 = ansM g (-3)) ∨ (((0 ≤ s ∧ s ≤ 1000000) ∧ 1 ≤ n ∧ n ≤ 60) ∧ ¬ g 179 41 = 0 ∧ x = some (0, (wkF n.toNat (g 179) s 0).2) ∧ ∃ M, g1 = ansM M 0 ∧ bdX Λ sh (wkF n.toNat (g 179) s 0).1 M 142 ∧ M 141 1 = 1 ∧ dwF g M ∧ gFin M))) := by
  have hro := hR.ro
  have hm := ro_many hro
  have h0 := hR.X.nums.1.1
  have hX := hR.X
  refine gTri.of (by decide +kernel) rfl ?_
  show gWP f_Desk_weeks _ _ _ 0 [(2, 0), (0, s), (0, n)] [] sh g _
  refine gw_iload_n (gc k_Desk_weeks_0 0 rfl) rfl ?_
  refine gw_if_lt (tgt := 22) (gc k_Desk_weeks_0 1 rfl) rfl (by omega) (fun c1 => ?_) (fun c1 => ?_)
  · refine gw_aload_n (gc k_Desk_weeks_0 11 rfl) rfl rfl ?_
    refine gw_iconst (gc k_Desk_weeks_0 12 rfl) ?_
    refine gw_cV1 (gc k_Desk_weeks_0 13 rfl) y_Desk_answer ln_Desk_86 (c_Desk_answer hx hf (-1) (by decide)) rfl rfl (by first | exact gAt hx rfl rfl) rfl rfl ?_
    refine gw_ireturn (gc k_Desk_weeks_0 14 rfl) rfl ?_
    exact ⟨rfl, Or.inl ⟨by omega, rfl, rfl⟩⟩
  · refine gw_iload_n (gc k_Desk_weeks_0 2 rfl) rfl ?_
    refine gw_ldcw (gc k_Desk_weeks_0 3 rfl) cn_Desk_259 ?_
    refine gw_icmp_gt (tgt := 22) (gc k_Desk_weeks_0 4 rfl) rfl (by omega) (fun c8 => ?_) (fun c8 => ?_)
    · refine gw_aload_n (gc k_Desk_weeks_0 11 rfl) rfl rfl ?_
      refine gw_iconst (gc k_Desk_weeks_0 12 rfl) ?_
      refine gw_cV1 (gc k_Desk_weeks_0 13 rfl) y_Desk_answer ln_Desk_86 (c_Desk_answer hx hf (-1) (by decide)) rfl rfl (by first | exact gAt hx rfl rfl) rfl rfl ?_
      refine gw_ireturn (gc k_Desk_weeks_0 14 rfl) rfl ?_
      exact ⟨rfl, Or.inl ⟨by omega, rfl, rfl⟩⟩
    · refine gw_iload_n (gc k_Desk_weeks_0 5 rfl) rfl ?_
      refine gw_iconst (gc k_Desk_weeks_0 6 rfl) ?_
      refine gw_icmp_lt (tgt := 22) (gc k_Desk_weeks_0 7 rfl) rfl (by omega) (fun c13 => ?_) (fun c13 => ?_)
      · refine gw_aload_n (gc k_Desk_weeks_0 11 rfl) rfl rfl ?_
        refine gw_iconst (gc k_Desk_weeks_0 12 rfl) ?_
        refine gw_cV1 (gc k_Desk_weeks_0 13 rfl) y_Desk_answer ln_Desk_86 (c_Desk_answer hx hf (-1) (by decide)) rfl rfl (by first | exact gAt hx rfl rfl) rfl rfl ?_
        refine gw_ireturn (gc k_Desk_weeks_0 14 rfl) rfl ?_
        exact ⟨rfl, Or.inl ⟨by omega, rfl, rfl⟩⟩
      · refine gw_iload_n (gc k_Desk_weeks_0 8 rfl) rfl ?_
        refine gw_bipush (gc k_Desk_weeks_0 9 rfl) (by decide) ?_
        refine gw_icmp_le (tgt := 28) (gc k_Desk_weeks_0 10 rfl) rfl (by omega) (fun c19 => ?_) (fun c19 => ?_)
        · refine gw_aload_n (gc k_Desk_weeks_0 15 rfl) rfl rfl ?_
          refine gw_getref (gc k_Desk_weeks_0 16 rfl) fl_Desk_12 (by first | exact gAt hx rfl rfl) (by first | exact gRf hf rfl rfl) ?_
          refine gw_getf 0 rfl (gc k_Desk_weeks_0 17 rfl) fl_Desk_103 (by first | exact gAt hx rfl rfl) ?_
          rw [h0]
          refine gw_if_ne (tgt := 45) (gc k_Desk_weeks_0 18 rfl) rfl (by omega) (fun c35 => ?_) (fun c35 => ?_)
          · have hwk := wkF_ok n.toNat (g 179) s 0 hro (by omega)
            refine gw_aload_n (gc k_Desk_weeks_0 23 rfl) rfl rfl ?_
            refine gw_aload_n (gc k_Desk_weeks_0 24 rfl) rfl rfl ?_
            refine gw_getref (gc k_Desk_weeks_0 25 rfl) fl_Desk_44 (by first | exact gAt hx rfl rfl) (by first | exact gRf hf rfl rfl) ?_
            refine gw_aload_n (gc k_Desk_weeks_0 26 rfl) rfl rfl ?_
            refine gw_getref (gc k_Desk_weeks_0 27 rfl) fl_Desk_12 (by first | exact gAt hx rfl rfl) (by first | exact gRf hf rfl rfl) ?_
            refine gw_aload_n (gc k_Desk_weeks_0 28 rfl) rfl rfl ?_
            refine gw_getref (gc k_Desk_weeks_0 29 rfl) fl_Desk_19 (by first | exact gAt hx rfl rfl) (by first | exact gRf hf rfl rfl) ?_
            refine gw_iload_n (gc k_Desk_weeks_0 30 rfl) rfl ?_
            refine gw_iload_n (gc k_Desk_weeks_0 31 rfl) rfl ?_
            refine gw_xV1 (gc k_Desk_weeks_0 32 rfl) y_Draws_live ln_Desk_260 (c_Draws_live hx hf i1 (by decide) hX hR.2.1.2 s n (by omega) (by omega) (by omega)) rfl rfl (by first | exact gAt hx rfl rfl) rfl rfl (fun r60 sh2 g60 hq60 => ?_)
            obtain ⟨rfl, hsh, hXd, hTd, hk1, hdF, hf⟩ := hq60
            subst sh2
            refine gw_cV1 (gc k_Desk_weeks_0 33 rfl) y_Desk_answer ln_Desk_86 (c_Desk_answer hx hf (wkF n.toNat (g 179) s 0).2 (by omega)) rfl rfl (by first | exact gAt hx rfl rfl) rfl rfl ?_
            refine gw_ireturn (gc k_Desk_weeks_0 34 rfl) rfl ?_
            exact ⟨rfl, Or.inr (Or.inr ⟨by omega, by omega, rfl, g60, ansM_nn _ (by omega), hXd, hk1, hdF, hf⟩)⟩
          · refine gw_aload_n (gc k_Desk_weeks_0 19 rfl) rfl rfl ?_
            refine gw_bipush (gc k_Desk_weeks_0 20 rfl) (by decide) ?_
            refine gw_cV1 (gc k_Desk_weeks_0 21 rfl) y_Desk_answer ln_Desk_86 (c_Desk_answer hx hf (-3) (by decide)) rfl rfl (by first | exact gAt hx rfl rfl) rfl rfl ?_
            refine gw_ireturn (gc k_Desk_weeks_0 22 rfl) rfl ?_
            exact ⟨rfl, Or.inr (Or.inl ⟨by omega, by omega, rfl, rfl⟩)⟩
        · refine gw_aload_n (gc k_Desk_weeks_0 11 rfl) rfl rfl ?_
          refine gw_iconst (gc k_Desk_weeks_0 12 rfl) ?_
          refine gw_cV1 (gc k_Desk_weeks_0 13 rfl) y_Desk_answer ln_Desk_86 (c_Desk_answer hx hf (-1) (by decide)) rfl rfl (by first | exact gAt hx rfl rfl) rfl rfl ?_
          refine gw_ireturn (gc k_Desk_weeks_0 14 rfl) rfl ?_
          exact ⟨rfl, Or.inl ⟨by omega, rfl, rfl⟩⟩
