/-! ===== the reference: images, terms, the tape, undo, moves ===== -/
def keepN (g : gM) : Int := if g 177 33 = 16 then 15 else g 177 33
def keepF (g : gM) (what : Int) : Int → Int := fun y => if y = 26 * keepN g + 25 then what else cpF (if g 177 33 = 16 then cpF (g 190) (g 190) 0 26 390 else g 190) (g 179) (26 * keepN g) 0 25 y
def keepM (g : gM) (what : Int) : gM := gup (gfr g 190 (keepF g what)) 177 33 (keepN g + 1)
theorem gFin.keep {g : gM} (h : gFin g) (w : Int) : gFin (keepM g w) := (h.fr (fun _ => rfl)).up rfl
def exF (r : Int → Int) (i : Int) : Int → Int := fun y => if 0 ≤ y ∧ y < i then r (12 + y) else if 12 ≤ y ∧ y < 12 + i then r (y - 12) else r y
def exM (g : gM) : gM := gfr g 179 (exF (g 179) (g 179 41))
theorem gFin.ex {g : gM} (h : gFin g) : gFin (exM g) := h.fr (fun _ => rfl)
def argF (a b c d e : Int) : Int → Int := fun j => if j = 0 then a else if j = 1 then b else if j = 2 then c else if j = 3 then d else e
/-- what a note or a day moved, or why not -/
def mvQ (g : gM) (what voice n p v : Int) (g1 : gM) : Prop := (¬ (0 ≤ p ∧ p ≤ 24) ∧ v = -1 ∧ g1 = g) ∨ ((0 ≤ p ∧ p ≤ 24) ∧ ¬ (0 ≤ n ∧ n ≤ g 179 41 - 1) ∧ v = -2 ∧ g1 = g) ∨ ((0 ≤ p ∧ p ≤ 24) ∧ (0 ≤ n ∧ n ≤ g 179 41 - 1) ∧ g 179 (voice + n) = p ∧ v = -3 ∧ g1 = g) ∨ ((0 ≤ p ∧ p ≤ 24) ∧ (0 ≤ n ∧ n ≤ g 179 41 - 1) ∧ ¬ g 179 (voice + n) = p ∧ v = g 179 (voice + n) ∧ g1 = gup (keepM g what) 179 (voice + n) p)
def swQ (g : gM) (v : Int) (g1 : gM) : Prop := (g 179 41 = 0 ∧ v = -3 ∧ g1 = g) ∨ (0 < g 179 41 ∧ v = g 179 41 ∧ g1 = exM (keepM g 2))
set_option maxHeartbeats 1000000 in
theorem c_Model_image {sh : gS} {g : gM} (hx : gFix sh) (hf : gFin g) (k : Int) (h : (-2147483648 ≤ k ∧ k ≤ 2147483647)) : gTri f_Model_image 1 0 0 [(2, 177), (0, k)] sh g (fun r s2 g2 => s2 = sh ∧ ((¬ (0 ≤ k ∧ k ≤ 1) ∧ r = some (0, -1) ∧ g2 = refM g (-1)) ∨ ((0 ≤ k ∧ k ≤ 1) ∧ r = some (0, 0) ∧ g2 = goodM (gup (gfr g 180 (cpF (g 180) (g 179) (5652 * k) 0 5652)) 181 k 1)))) := by
  refine gTri.of (by decide +kernel) rfl ?_
  show gWP f_Model_image _ _ _ 0 [(2, 177), (0, k), (9, 0)] [] sh g _
  refine gw_iload_n (gc k_Model_image_0 0 rfl) rfl ?_
  refine gw_iconst (gc k_Model_image_0 1 rfl) ?_
  refine gw_iconst (gc k_Model_image_0 2 rfl) ?_
  refine gw_cS1 (gc k_Model_image_0 3 rfl) y_Model_lies ln_Model_18 (c_Model_lies k 0 1 ⟨h, by omega, by omega⟩) rfl rfl rfl rfl ?_
  refine gw_bne (tgt := 15) (gc k_Model_image_0 4 rfl) rfl (fun c6 => ?_) (fun c6 => ?_)
  · refine gw_iconst (gc k_Model_image_0 9 rfl) ?_
    refine gw_istore_2 (gc k_Model_image_0 10 rfl) rfl rfl ?_
    refine cp_start 180 (5652 * k) (0) (g 179) ?_
    refine gloop (σ := Int) (I := fun i => 0 ≤ i ∧ i ≤ 5652) (μ := fun i => (5652 - i).toNat) (P := fun i => gWP f_Model_image _ _ _ 17 [(2, 177), (0, k), (0, i)] [] sh (gfr g 180 (cpF (g 180) (g 179) (5652 * k) (0) i)) _) (fun i hI ih => ?_) 0 (by omega)
    have hf := hf.fr (a := 180) (f := cpF (g 180) (g 179) (5652 * k) (0) i) (fun _ => rfl)
    refine gw_iload_n (gc k_Model_image_0 11 rfl) rfl ?_
    refine gw_sipush (gc k_Model_image_0 12 rfl) (by decide) ?_
    refine gw_icmp_ge (tgt := 48) (gc k_Model_image_0 13 rfl) rfl (by omega) (fun c21 => ?_) (fun c21 => ?_)
    · refine gw_aload_n (gc k_Model_image_0 28 rfl) rfl rfl ?_
      refine gw_getref (gc k_Model_image_0 29 rfl) fl_Model_34 (gAt hx rfl rfl) (gRf hf rfl rfl) ?_
      refine gw_iload_n (gc k_Model_image_0 30 rfl) rfl ?_
      refine gw_iconst (gc k_Model_image_0 31 rfl) ?_
      refine gw_zastF (gc k_Model_image_0 32 rfl) (gAt hx rfl rfl) (by omega) (by omega) hf rfl (fun hf => ?_)
      refine gw_aload_n (gc k_Model_image_0 33 rfl) rfl rfl ?_
      refine gw_iconst (gc k_Model_image_0 34 rfl) ?_
      refine gw_cV1 (gc k_Model_image_0 35 rfl) y_Model_good ln_Model_14 (c_Model_good hx hf 0) rfl rfl (gAt hx rfl rfl) rfl rfl ?_
      refine gw_ireturn (gc k_Model_image_0 36 rfl) rfl ?_
      have hi2 : i = 5652 := by omega
      subst hi2
      exact ⟨rfl, Or.inr ⟨by assumption, rfl, rfl⟩⟩
    · refine gw_aload_n (gc k_Model_image_0 14 rfl) rfl rfl ?_
      refine gw_getref (gc k_Model_image_0 15 rfl) fl_Model_31 (gAt hx rfl rfl) (gRf hf rfl rfl) ?_
      refine gw_sipush (gc k_Model_image_0 16 rfl) (by decide) ?_
      refine gw_iload_n (gc k_Model_image_0 17 rfl) rfl ?_
      refine gw_imul (gc k_Model_image_0 18 rfl) ?_
      refine gw_iload_n (gc k_Model_image_0 19 rfl) rfl ?_
      refine gw_iadd (gc k_Model_image_0 20 rfl) ?_
      refine gw_aload_n (gc k_Model_image_0 21 rfl) rfl rfl ?_
      refine gw_getref (gc k_Model_image_0 22 rfl) fl_Model_28 (gAt hx rfl rfl) (gRf hf rfl rfl) ?_
      refine gw_iload_n (gc k_Model_image_0 23 rfl) rfl ?_
      refine gw_iald (gc k_Model_image_0 24 rfl) (gAt hx rfl rfl) (by omega) ?_
      refine gw_iastF (gc k_Model_image_0 25 rfl) (gAt hx rfl rfl) (by omega) hf rfl (fun hf => ?_)
      refine gw_iinc_2 (gc k_Model_image_0 26 rfl) rfl rfl ?_
      refine gw_goto (tgt := 17) (gc k_Model_image_0 27 rfl) rfl ?_
      refine cp_step (by omega) (ih (i + 1) (by omega) (by omega)) ?_
      first | rfl | exact (gfr_a _ _ _ _ (by decide)).trans (congrArg _ (by omega)) | exact congrArg _ (by omega)
  · refine gw_aload_n (gc k_Model_image_0 5 rfl) rfl rfl ?_
    refine gw_iconst (gc k_Model_image_0 6 rfl) ?_
    refine gw_cV1 (gc k_Model_image_0 7 rfl) y_Model_refuses ln_Model_106 (c_refuses hx hf (-1) (by omega)) rfl rfl (gAt hx rfl rfl) rfl rfl ?_
    refine gw_ireturn (gc k_Model_image_0 8 rfl) rfl ?_
    exact ⟨rfl, Or.inl ⟨by assumption, rfl, rfl⟩⟩
set_option maxHeartbeats 1000000 in
theorem c_Model_back {sh : gS} {g : gM} (hx : gFix sh) (hf : gFin g) (k : Int) (h : (-2147483648 ≤ k ∧ k ≤ 2147483647)) (hb : ∀ k, 0 ≤ k → k ≤ 1 → g 181 k = 0 ∨ g 181 k = 1) : gTri f_Model_back 2 0 0 [(2, 177), (0, k)] sh g (fun r s2 g2 => s2 = sh ∧ ((¬ (0 ≤ k ∧ k ≤ 1) ∧ r = some (0, -1) ∧ g2 = refM g (-1)) ∨ ((0 ≤ k ∧ k ≤ 1) ∧ g 181 k = 0 ∧ r = some (0, -2) ∧ g2 = refM g (-2)) ∨ ((0 ≤ k ∧ k ≤ 1) ∧ g 181 k = 1 ∧ r = some (0, 0) ∧ g2 = setM (gfr g 179 (cpF (g 179) (g 180) 0 (5652 * k) 5652))))) := by
  refine gTri.of (by decide +kernel) rfl ?_
  show gWP f_Model_back _ _ _ 0 [(2, 177), (0, k), (9, 0)] [] sh g _
  refine gw_iload_n (gc k_Model_back_0 0 rfl) rfl ?_
  refine gw_iconst (gc k_Model_back_0 1 rfl) ?_
  refine gw_iconst (gc k_Model_back_0 2 rfl) ?_
  refine gw_cS1 (gc k_Model_back_0 3 rfl) y_Model_lies ln_Model_18 (c_Model_lies k 0 1 ⟨h, by omega, by omega⟩) rfl rfl rfl rfl ?_
  refine gw_bne (tgt := 15) (gc k_Model_back_0 4 rfl) rfl (fun c6 => ?_) (fun c6 => ?_)
  · have hk := hb k (by omega) (by omega)
    refine gw_aload_n (gc k_Model_back_0 9 rfl) rfl rfl ?_
    refine gw_getref (gc k_Model_back_0 10 rfl) fl_Model_34 (gAt hx rfl rfl) (gRf hf rfl rfl) ?_
    refine gw_iload_n (gc k_Model_back_0 11 rfl) rfl ?_
    refine gw_zald (gc k_Model_back_0 12 rfl) (gAt hx rfl rfl) (by omega) ?_
    refine gw_if_ne (tgt := 31) (gc k_Model_back_0 13 rfl) rfl (by omega) (fun c21 => ?_) (fun c21 => ?_)
    · refine gw_iconst (gc k_Model_back_0 18 rfl) ?_
      refine gw_istore_2 (gc k_Model_back_0 19 rfl) rfl rfl ?_
      refine cp_start 179 (0) (5652 * k) (g 180) ?_
      refine gloop (σ := Int) (I := fun i => 0 ≤ i ∧ i ≤ 5652) (μ := fun i => (5652 - i).toNat) (P := fun i => gWP f_Model_back _ _ _ 33 [(2, 177), (0, k), (0, i)] [] sh (gfr g 179 (cpF (g 179) (g 180) (0) (5652 * k) i)) _) (fun i hI ih => ?_) 0 (by omega)
      have hf := hf.fr (a := 179) (f := cpF (g 179) (g 180) (0) (5652 * k) i) (fun _ => rfl)
      refine gw_iload_n (gc k_Model_back_0 20 rfl) rfl ?_
      refine gw_sipush (gc k_Model_back_0 21 rfl) (by decide) ?_
      refine gw_icmp_ge (tgt := 64) (gc k_Model_back_0 22 rfl) rfl (by omega) (fun c37 => ?_) (fun c37 => ?_)
      · refine gw_aload_n (gc k_Model_back_0 37 rfl) rfl rfl ?_
        refine gw_iconst (gc k_Model_back_0 38 rfl) ?_
        refine gw_cV1 (gc k_Model_back_0 39 rfl) y_Model_settled ln_Model_109 (c_Model_settled hx hf 0) rfl rfl (gAt hx rfl rfl) rfl rfl ?_
        refine gw_ireturn (gc k_Model_back_1 0 rfl) rfl ?_
        have hi2 : i = 5652 := by omega
        subst hi2
        exact ⟨rfl, Or.inr (Or.inr ⟨by assumption, by omega, rfl, rfl⟩)⟩
      · refine gw_aload_n (gc k_Model_back_0 23 rfl) rfl rfl ?_
        refine gw_getref (gc k_Model_back_0 24 rfl) fl_Model_28 (gAt hx rfl rfl) (gRf hf rfl rfl) ?_
        refine gw_iload_n (gc k_Model_back_0 25 rfl) rfl ?_
        refine gw_aload_n (gc k_Model_back_0 26 rfl) rfl rfl ?_
        refine gw_getref (gc k_Model_back_0 27 rfl) fl_Model_31 (gAt hx rfl rfl) (gRf hf rfl rfl) ?_
        refine gw_sipush (gc k_Model_back_0 28 rfl) (by decide) ?_
        refine gw_iload_n (gc k_Model_back_0 29 rfl) rfl ?_
        refine gw_imul (gc k_Model_back_0 30 rfl) ?_
        refine gw_iload_n (gc k_Model_back_0 31 rfl) rfl ?_
        refine gw_iadd (gc k_Model_back_0 32 rfl) ?_
        refine gw_iald (gc k_Model_back_0 33 rfl) (gAt hx rfl rfl) (by omega) ?_
        refine gw_iastF (gc k_Model_back_0 34 rfl) (gAt hx rfl rfl) (by omega) hf rfl (fun hf => ?_)
        refine gw_iinc_2 (gc k_Model_back_0 35 rfl) rfl rfl ?_
        refine gw_goto (tgt := 33) (gc k_Model_back_0 36 rfl) rfl ?_
        refine cp_step0 (by omega) (ih (i + 1) (by omega) (by omega)) ?_
        first | rfl | exact (gfr_a _ _ _ _ (by decide)).trans (congrArg _ (by omega)) | exact congrArg _ (by omega)
    · refine gw_aload_n (gc k_Model_back_0 14 rfl) rfl rfl ?_
      refine gw_bipush (gc k_Model_back_0 15 rfl) (by decide) ?_
      refine gw_cV1 (gc k_Model_back_0 16 rfl) y_Model_refuses ln_Model_106 (c_refuses hx hf (-2) (by omega)) rfl rfl (gAt hx rfl rfl) rfl rfl ?_
      refine gw_ireturn (gc k_Model_back_0 17 rfl) rfl ?_
      exact ⟨rfl, Or.inr (Or.inl ⟨by assumption, by assumption, rfl, rfl⟩)⟩
  · refine gw_aload_n (gc k_Model_back_0 5 rfl) rfl rfl ?_
    refine gw_iconst (gc k_Model_back_0 6 rfl) ?_
    refine gw_cV1 (gc k_Model_back_0 7 rfl) y_Model_refuses ln_Model_106 (c_refuses hx hf (-1) (by omega)) rfl rfl (gAt hx rfl rfl) rfl rfl ?_
    refine gw_ireturn (gc k_Model_back_0 8 rfl) rfl ?_
    exact ⟨rfl, Or.inl ⟨by assumption, rfl, rfl⟩⟩
set_option maxHeartbeats 1000000 in
theorem c_Model_terms {sh : gS} {g : gM} (hx : gFix sh) (hf : gFin g) (w v : Int) (h : (-2147483648 ≤ w ∧ w ≤ 2147483647) ∧ (-2147483648 ≤ v ∧ v ≤ 2147483647)) : gTri f_Model_terms 3 0 0 [(2, 177), (0, w), (0, v)] sh g (fun r s2 g2 => s2 = sh ∧ ((¬ (0 ≤ v ∧ ((w = 0 ∧ v ≤ 999) ∨ (w = 1 ∧ v ≤ 10) ∨ (w = 2 ∧ v ≤ 9) ∨ (w = 3 ∧ v ≤ 24) ∨ (w = 4 ∧ v ≤ 24))) ∧ r = some (0, -1) ∧ g2 = refM g (-1)) ∨ ((0 ≤ v ∧ ((w = 0 ∧ v ≤ 999) ∨ (w = 1 ∧ v ≤ 10) ∨ (w = 2 ∧ v ≤ 9) ∨ (w = 3 ∧ v ≤ 24) ∨ (w = 4 ∧ v ≤ 24))) ∧ r = some (0, g 179 (if w = 0 then 24 else 36 + w)) ∧ g2 = setM (gup g 179 (if w = 0 then 24 else 36 + w) v)))) := by
  refine gTri.of (by decide +kernel) rfl ?_
  show gWP f_Model_terms _ _ _ 0 [(2, 177), (0, w), (0, v), (9, 0)] [] sh g _
  refine gw_iload_n (gc k_Model_terms_0 0 rfl) rfl ?_
  refine gw_iload_n (gc k_Model_terms_0 1 rfl) rfl ?_
  refine gw_cS1 (gc k_Model_terms_0 2 rfl) y_Model_isTerm ln_Model_147 (c_Model_isTerm w v h) rfl rfl rfl rfl ?_
  refine gw_bne (tgt := 14) (gc k_Model_terms_0 3 rfl) rfl (fun c5 => ?_) (fun c5 => ?_)
  · have ht : 0 ≤ (if w = 0 then 24 else 36 + w) ∧ (if w = 0 then 24 else 36 + w) < 50 := by split <;> omega
    refine gw_aload_n (gc k_Model_terms_0 8 rfl) rfl rfl ?_
    refine gw_getref (gc k_Model_terms_0 9 rfl) fl_Model_28 (gAt hx rfl rfl) (gRf hf rfl rfl) ?_
    refine gw_iload_n (gc k_Model_terms_0 10 rfl) rfl ?_
    refine gw_cS1 (gc k_Model_terms_0 11 rfl) y_Model_termAt ln_Model_151 (c_Model_termAt w (by omega)) rfl rfl rfl rfl ?_
    refine gw_iald (gc k_Model_terms_0 12 rfl) (gAt hx rfl rfl) (by omega) ?_
    refine gw_istore_3 (gc k_Model_terms_0 13 rfl) rfl rfl ?_
    refine gw_aload_n (gc k_Model_terms_0 14 rfl) rfl rfl ?_
    refine gw_getref (gc k_Model_terms_0 15 rfl) fl_Model_28 (gAt hx rfl rfl) (gRf hf rfl rfl) ?_
    refine gw_iload_n (gc k_Model_terms_0 16 rfl) rfl ?_
    refine gw_cS1 (gc k_Model_terms_0 17 rfl) y_Model_termAt ln_Model_151 (c_Model_termAt w (by omega)) rfl rfl rfl rfl ?_
    refine gw_iload_n (gc k_Model_terms_0 18 rfl) rfl ?_
    refine gw_iastF (gc k_Model_terms_0 19 rfl) (gAt hx rfl rfl) (by omega) hf rfl (fun hf => ?_)
    refine gw_aload_n (gc k_Model_terms_0 20 rfl) rfl rfl ?_
    refine gw_iload_n (gc k_Model_terms_0 21 rfl) rfl ?_
    refine gw_cV1 (gc k_Model_terms_0 22 rfl) y_Model_settled ln_Model_109 (c_Model_settled hx hf _) rfl rfl (gAt hx rfl rfl) rfl rfl ?_
    refine gw_ireturn (gc k_Model_terms_0 23 rfl) rfl ?_
    exact ⟨rfl, Or.inr ⟨by assumption, rfl, rfl⟩⟩
  · refine gw_aload_n (gc k_Model_terms_0 4 rfl) rfl rfl ?_
    refine gw_iconst (gc k_Model_terms_0 5 rfl) ?_
    refine gw_cV1 (gc k_Model_terms_0 6 rfl) y_Model_refuses ln_Model_106 (c_refuses hx hf (-1) (by omega)) rfl rfl (gAt hx rfl rfl) rfl rfl ?_
    refine gw_ireturn (gc k_Model_terms_0 7 rfl) rfl ?_
    exact ⟨rfl, Or.inl ⟨by assumption, rfl, rfl⟩⟩
set_option maxHeartbeats 1000000 in
theorem c_Model_blots {sh : gS} {g : gM} (hx : gFix sh) (hf : gFin g) : gTri f_Model_blots 0 0 0 [(2, 177)] sh g (gR (some (0, g 177 6)) sh g) := by
  refine gTri.of (by decide +kernel) rfl ?_
  show gWP f_Model_blots _ _ _ 0 [(2, 177)] [] sh g _
  refine gw_aload_n (gc k_Model_blots_0 0 rfl) rfl rfl ?_
  refine gw_getf 6 rfl (gc k_Model_blots_0 1 rfl) fl_Model_157 (gAt hx rfl rfl) ?_
  refine gw_ireturn (gc k_Model_blots_0 2 rfl) rfl ?_
  exact ⟨rfl, rfl, rfl⟩
set_option maxHeartbeats 1000000 in
theorem c_Model_fault {sh : gS} {g : gM} (hx : gFix sh) (hf : gFin g) : gTri f_Model_fault 0 0 0 [(2, 177)] sh g (gR (some (0, g 177 14)) sh g) := by
  refine gTri.of (by decide +kernel) rfl ?_
  show gWP f_Model_fault _ _ _ 0 [(2, 177)] [] sh g _
  refine gw_aload_n (gc k_Model_fault_0 0 rfl) rfl rfl ?_
  refine gw_getf 14 rfl (gc k_Model_fault_0 1 rfl) fl_Model_51 (gAt hx rfl rfl) ?_
  refine gw_ireturn (gc k_Model_fault_0 2 rfl) rfl ?_
  exact ⟨rfl, rfl, rfl⟩
set_option maxHeartbeats 1000000 in
theorem c_Model_stopped {sh : gS} {g : gM} (hx : gFix sh) (hf : gFin g) : gTri f_Model_stopped 0 0 0 [(2, 177)] sh g (gR (some (0, g 177 41)) sh g) := by
  refine gTri.of (by decide +kernel) rfl ?_
  show gWP f_Model_stopped _ _ _ 0 [(2, 177)] [] sh g _
  refine gw_aload_n (gc k_Model_stopped_0 0 rfl) rfl rfl ?_
  refine gw_getf 41 rfl (gc k_Model_stopped_0 1 rfl) fl_Model_94 (gAt hx rfl rfl) ?_
  refine gw_ireturn (gc k_Model_stopped_0 2 rfl) rfl ?_
  exact ⟨rfl, rfl, rfl⟩
set_option maxHeartbeats 1000000 in
theorem c_Model_status {sh : gS} {g : gM} (hx : gFix sh) (hf : gFin g) : gTri f_Model_status 0 0 0 [(2, 177)] sh g (gR (some (0, g 177 0)) sh g) := by
  refine gTri.of (by decide +kernel) rfl ?_
  show gWP f_Model_status _ _ _ 0 [(2, 177)] [] sh g _
  refine gw_aload_n (gc k_Model_status_0 0 rfl) rfl rfl ?_
  refine gw_getf 0 rfl (gc k_Model_status_0 1 rfl) fl_Model_3 (gAt hx rfl rfl) ?_
  refine gw_ireturn (gc k_Model_status_0 2 rfl) rfl ?_
  exact ⟨rfl, rfl, rfl⟩
set_option maxHeartbeats 1000000 in
theorem c_Model_end {sh : gS} {g : gM} (hx : gFix sh) (hf : gFin g) (n : Int) (h : (-2147483648 ≤ n ∧ n ≤ 2147483647)) (ht : 0 ≤ g 177 13 ∧ g 177 13 ≤ 400) : gTri f_Model_end 1 0 0 [(2, 177), (0, n)] sh g (fun r s2 g2 => s2 = sh ∧ ((¬ (0 ≤ n ∧ n ≤ g 177 13) ∧ r = some (0, -1) ∧ g2 = g) ∨ ((0 ≤ n ∧ n ≤ g 177 13) ∧ r = some (0, n) ∧ g2 = gup g 177 13 n))) := by
  refine gTri.of (by decide +kernel) rfl ?_
  show gWP f_Model_end _ _ _ 0 [(2, 177), (0, n)] [] sh g _
  refine gw_iload_n (gc k_Model_end_0 0 rfl) rfl ?_
  refine gw_iconst (gc k_Model_end_0 1 rfl) ?_
  refine gw_aload_n (gc k_Model_end_0 2 rfl) rfl rfl ?_
  refine gw_getf 13 rfl (gc k_Model_end_0 3 rfl) fl_Model_154 (gAt hx rfl rfl) ?_
  refine gw_cS1 (gc k_Model_end_0 4 rfl) y_Model_lies ln_Model_18 (c_Model_lies n 0 (g 177 13) ⟨h, by omega, by omega⟩) rfl rfl rfl rfl ?_
  refine gw_bne (tgt := 14) (gc k_Model_end_0 5 rfl) rfl (fun c9 => ?_) (fun c9 => ?_)
  · refine gw_aload_n (gc k_Model_end_0 8 rfl) rfl rfl ?_
    refine gw_iload_n (gc k_Model_end_0 9 rfl) rfl ?_
    refine gw_putIK 13 rfl (gc k_Model_end_0 10 rfl) fl_Model_154 (gAt hx rfl rfl) hf rfl (fun hf => ?_)
    refine gw_iload_n (gc k_Model_end_0 11 rfl) rfl ?_
    refine gw_ireturn (gc k_Model_end_0 12 rfl) rfl ?_
    exact ⟨rfl, Or.inr ⟨by assumption, rfl, rfl⟩⟩
  · refine gw_iconst (gc k_Model_end_0 6 rfl) ?_
    refine gw_ireturn (gc k_Model_end_0 7 rfl) rfl ?_
    exact ⟨rfl, Or.inl ⟨by assumption, rfl, rfl⟩⟩
set_option maxHeartbeats 1000000 in
theorem c_Model_isSmall {sh : gS} {g : gM} (b : Int) (h : (-2147483648 ≤ b ∧ b ≤ 2147483647)) : gTri f_Model_isSmall 0 0 0 [(0, b)] sh g (gR (some (0, bi (97 ≤ b ∧ b ≤ 122))) sh g) := by
  refine gTri.of (by decide +kernel) rfl ?_
  show gWP f_Model_isSmall _ _ _ 0 [(0, b)] [] sh g _
  refine gw_iload_n (gc k_Model_isSmall_0 0 rfl) rfl ?_
  refine gw_bipush (gc k_Model_isSmall_0 1 rfl) (by decide) ?_
  refine gw_icmp_lt (tgt := 16) (gc k_Model_isSmall_0 2 rfl) rfl (by omega) (fun c3 => ?_) (fun c3 => ?_)
  · refine gw_iconst (gc k_Model_isSmall_0 8 rfl) ?_
    refine gw_zreturn (gc k_Model_isSmall_0 9 rfl) rfl (by omega) ?_
    first | exact ⟨bi_t (by omega), rfl, rfl⟩ | exact ⟨bi_f (by omega), rfl, rfl⟩
  · refine gw_iload_n (gc k_Model_isSmall_0 3 rfl) rfl ?_
    refine gw_bipush (gc k_Model_isSmall_0 4 rfl) (by decide) ?_
    refine gw_icmp_gt (tgt := 16) (gc k_Model_isSmall_0 5 rfl) rfl (by omega) (fun c9 => ?_) (fun c9 => ?_)
    · refine gw_iconst (gc k_Model_isSmall_0 8 rfl) ?_
      refine gw_zreturn (gc k_Model_isSmall_0 9 rfl) rfl (by omega) ?_
      first | exact ⟨bi_t (by omega), rfl, rfl⟩ | exact ⟨bi_f (by omega), rfl, rfl⟩
    · refine gw_iconst (gc k_Model_isSmall_0 6 rfl) ?_
      refine gw_goto (tgt := 17) (gc k_Model_isSmall_0 7 rfl) rfl ?_
      refine gw_zreturn (gc k_Model_isSmall_0 9 rfl) rfl (by omega) ?_
      first | exact ⟨bi_t (by omega), rfl, rfl⟩ | exact ⟨bi_f (by omega), rfl, rfl⟩
set_option maxHeartbeats 1000000 in
theorem c_Model_isDigit {sh : gS} {g : gM} (b : Int) (h : (-2147483648 ≤ b ∧ b ≤ 2147483647)) : gTri f_Model_isDigit 0 0 0 [(0, b)] sh g (gR (some (0, bi (48 ≤ b ∧ b ≤ 57))) sh g) := by
  refine gTri.of (by decide +kernel) rfl ?_
  show gWP f_Model_isDigit _ _ _ 0 [(0, b)] [] sh g _
  refine gw_iload_n (gc k_Model_isDigit_0 0 rfl) rfl ?_
  refine gw_bipush (gc k_Model_isDigit_0 1 rfl) (by decide) ?_
  refine gw_icmp_lt (tgt := 16) (gc k_Model_isDigit_0 2 rfl) rfl (by omega) (fun c3 => ?_) (fun c3 => ?_)
  · refine gw_iconst (gc k_Model_isDigit_0 8 rfl) ?_
    refine gw_zreturn (gc k_Model_isDigit_0 9 rfl) rfl (by omega) ?_
    first | exact ⟨bi_t (by omega), rfl, rfl⟩ | exact ⟨bi_f (by omega), rfl, rfl⟩
  · refine gw_iload_n (gc k_Model_isDigit_0 3 rfl) rfl ?_
    refine gw_bipush (gc k_Model_isDigit_0 4 rfl) (by decide) ?_
    refine gw_icmp_gt (tgt := 16) (gc k_Model_isDigit_0 5 rfl) rfl (by omega) (fun c9 => ?_) (fun c9 => ?_)
    · refine gw_iconst (gc k_Model_isDigit_0 8 rfl) ?_
      refine gw_zreturn (gc k_Model_isDigit_0 9 rfl) rfl (by omega) ?_
      first | exact ⟨bi_t (by omega), rfl, rfl⟩ | exact ⟨bi_f (by omega), rfl, rfl⟩
    · refine gw_iconst (gc k_Model_isDigit_0 6 rfl) ?_
      refine gw_goto (tgt := 17) (gc k_Model_isDigit_0 7 rfl) rfl ?_
      refine gw_zreturn (gc k_Model_isDigit_0 9 rfl) rfl (by omega) ?_
      first | exact ⟨bi_t (by omega), rfl, rfl⟩ | exact ⟨bi_f (by omega), rfl, rfl⟩
set_option maxHeartbeats 1000000 in
theorem c_Model_isLaw {sh : gS} {g : gM} (hx : gFix sh) (hf : gFin g) (n : Int) (h : (-2147483648 ≤ n ∧ n ≤ 2147483647)) (ho : 0 ≤ g 179 43 ∧ g 179 43 ≤ 6) : gTri f_Model_isLaw 1 0 0 [(2, 177), (0, n)] sh g (gR (some (0, bi (-1 ≤ n ∧ n ≤ g 179 43 - 1))) sh g) := by
  refine gTri.of (by decide +kernel) rfl ?_
  show gWP f_Model_isLaw _ _ _ 0 [(2, 177), (0, n)] [] sh g _
  refine gw_iload_n (gc k_Model_isLaw_0 0 rfl) rfl ?_
  refine gw_iconst (gc k_Model_isLaw_0 1 rfl) ?_
  refine gw_aload_n (gc k_Model_isLaw_0 2 rfl) rfl rfl ?_
  refine gw_getref (gc k_Model_isLaw_0 3 rfl) fl_Model_28 (gAt hx rfl rfl) (gRf hf rfl rfl) ?_
  refine gw_bipush (gc k_Model_isLaw_0 4 rfl) (by decide) ?_
  refine gw_iald (gc k_Model_isLaw_0 5 rfl) (gAt hx rfl rfl) (by omega) ?_
  refine gw_iconst (gc k_Model_isLaw_0 6 rfl) ?_
  refine gw_isub (gc k_Model_isLaw_0 7 rfl) ?_
  refine gw_cS1 (gc k_Model_isLaw_0 8 rfl) y_Model_lies ln_Model_18 (c_Model_lies n (-1) (g 179 43 - 1) ⟨h, by omega, by omega⟩) rfl rfl rfl rfl ?_
  refine gw_zreturn (gc k_Model_isLaw_0 9 rfl) rfl (bi_01 _) ?_
  exact ⟨rfl, rfl, rfl⟩
set_option maxHeartbeats 1000000 in
theorem c_Model_force {sh : gS} {g : gM} (hx : gFix sh) (hf : gFin g) (n : Int) (h : (-2147483648 ≤ n ∧ n ≤ 2147483647)) (ho : 0 ≤ g 179 43 ∧ g 179 43 ≤ 6) : gTri f_Model_force 2 0 0 [(2, 177), (0, n)] sh g (fun r s2 g2 => s2 = sh ∧ ((¬ (-1 ≤ n ∧ n ≤ g 179 43 - 1) ∧ r = some (0, -2) ∧ g2 = refM g (-2)) ∨ ((-1 ≤ n ∧ n ≤ g 179 43 - 1) ∧ r = some (0, g 179 44) ∧ g2 = goodM (gup g 179 44 n)))) := by
  refine gTri.of (by decide +kernel) rfl ?_
  show gWP f_Model_force _ _ _ 0 [(2, 177), (0, n), (9, 0)] [] sh g _
  refine gw_aload_n (gc k_Model_force_0 0 rfl) rfl rfl ?_
  refine gw_iload_n (gc k_Model_force_0 1 rfl) rfl ?_
  refine gw_cV1 (gc k_Model_force_0 2 rfl) y_Model_isLaw ln_Model_255 (c_Model_isLaw hx hf n h ho) rfl rfl (gAt hx rfl rfl) rfl rfl ?_
  refine gw_bne (tgt := 15) (gc k_Model_force_0 3 rfl) rfl (fun c5 => ?_) (fun c5 => ?_)
  · refine gw_aload_n (gc k_Model_force_0 8 rfl) rfl rfl ?_
    refine gw_getref (gc k_Model_force_0 9 rfl) fl_Model_28 (gAt hx rfl rfl) (gRf hf rfl rfl) ?_
    refine gw_bipush (gc k_Model_force_0 10 rfl) (by decide) ?_
    refine gw_iald (gc k_Model_force_0 11 rfl) (gAt hx rfl rfl) (by omega) ?_
    refine gw_istore_2 (gc k_Model_force_0 12 rfl) rfl rfl ?_
    refine gw_aload_n (gc k_Model_force_0 13 rfl) rfl rfl ?_
    refine gw_getref (gc k_Model_force_0 14 rfl) fl_Model_28 (gAt hx rfl rfl) (gRf hf rfl rfl) ?_
    refine gw_bipush (gc k_Model_force_0 15 rfl) (by decide) ?_
    refine gw_iload_n (gc k_Model_force_0 16 rfl) rfl ?_
    refine gw_iastF (gc k_Model_force_0 17 rfl) (gAt hx rfl rfl) (by omega) hf rfl (fun hf => ?_)
    refine gw_aload_n (gc k_Model_force_0 18 rfl) rfl rfl ?_
    refine gw_iload_n (gc k_Model_force_0 19 rfl) rfl ?_
    refine gw_cV1 (gc k_Model_force_0 20 rfl) y_Model_good ln_Model_14 (c_Model_good hx hf _) rfl rfl (gAt hx rfl rfl) rfl rfl ?_
    refine gw_ireturn (gc k_Model_force_0 21 rfl) rfl ?_
    exact ⟨rfl, Or.inr ⟨by assumption, rfl, rfl⟩⟩
  · refine gw_aload_n (gc k_Model_force_0 4 rfl) rfl rfl ?_
    refine gw_bipush (gc k_Model_force_0 5 rfl) (by decide) ?_
    refine gw_cV1 (gc k_Model_force_0 6 rfl) y_Model_refuses ln_Model_106 (c_refuses hx hf (-2) (by omega)) rfl rfl (gAt hx rfl rfl) rfl rfl ?_
    refine gw_ireturn (gc k_Model_force_0 7 rfl) rfl ?_
    exact ⟨rfl, Or.inl ⟨by assumption, rfl, rfl⟩⟩
set_option maxHeartbeats 1000000 in
theorem keeps_tail {sh : gS} {g : gM} {d mc ms : Nat} {Q : gQ} {x3 : gV} (hx : gFix sh) (hf : gFin g) (what m : Int) (hm : 0 ≤ m ∧ m ≤ 15) (he : g 177 33 = m) (k : gFin (gup (gfr g 190 (fun y => if y = 26 * m + 25 then what else cpF (g 190) (g 179) (26 * m) 0 25 y)) 177 33 (m + 1)) → gWP f_Model_keeps d mc ms 110 [(2, 177), (0, what), (0, 26), (0, 25)] [] sh (gup (gfr g 190 (fun y => if y = 26 * m + 25 then what else cpF (g 190) (g 179) (26 * m) 0 25 y)) 177 33 (m + 1)) Q) : gWP f_Model_keeps d mc ms 52 [(2, 177), (0, what), (0, 26), x3] [] sh g Q := by
  refine gw_iconst (gc k_Model_keeps_0 31 rfl) ?_
  refine gw_istore_3 (gc k_Model_keeps_0 32 rfl) rfl rfl ?_
  refine cp_start 190 (26 * m) 0 (g 179) ?_
  refine gloop (σ := Int) (I := fun i => 0 ≤ i ∧ i ≤ 25) (μ := fun i => (25 - i).toNat) (P := fun i => gWP f_Model_keeps _ _ _ 54 [(2, 177), (0, what), (0, 26), (0, i)] [] sh (gfr g 190 (cpF (g 190) (g 179) (26 * m) 0 i)) _) (fun i hI ih => ?_) 0 (by omega)
  have hf := hf.fr (a := 190) (f := cpF (g 190) (g 179) (26 * m) 0 i) (fun _ => rfl)
  have e33 : gfr g 190 (cpF (g 190) (g 179) (26 * m) 0 i) 177 33 = m := by rw [gfr_a _ _ _ _ (by decide)]; exact he
  refine gw_iload_n (gc k_Model_keeps_0 33 rfl) rfl ?_
  refine gw_bipush (gc k_Model_keeps_0 34 rfl) (by decide) ?_
  refine gw_icmp_ge (tgt := 85) (gc k_Model_keeps_0 35 rfl) rfl (by omega) (fun c57 => ?_) (fun c57 => ?_)
  · refine gw_aload_n (gc k_Model_keeps_1 11 rfl) rfl rfl ?_
    refine gw_getref (gc k_Model_keeps_1 12 rfl) fl_Model_66 (gAt hx rfl rfl) (gRf hf rfl rfl) ?_
    refine gw_iload_n (gc k_Model_keeps_1 13 rfl) rfl ?_
    refine gw_aload_n (gc k_Model_keeps_1 14 rfl) rfl rfl ?_
    refine gw_getf 33 rfl (gc k_Model_keeps_1 15 rfl) fl_Model_11 (gAt hx rfl rfl) ?_
    rw [e33]
    refine gw_imul (gc k_Model_keeps_1 16 rfl) ?_
    refine gw_bipush (gc k_Model_keeps_1 17 rfl) (by decide) ?_
    refine gw_iadd (gc k_Model_keeps_1 18 rfl) ?_
    refine gw_iload_n (gc k_Model_keeps_1 19 rfl) rfl ?_
    refine gw_iastF (gc k_Model_keeps_1 20 rfl) (gAt hx rfl rfl) (by omega) hf rfl (fun hf => ?_)
    refine gw_aload_n (gc k_Model_keeps_1 21 rfl) rfl rfl ?_
    refine gw_dup (gc k_Model_keeps_1 22 rfl) rfl ?_
    refine gw_getf 33 rfl (gc k_Model_keeps_1 23 rfl) fl_Model_11 (gAt hx rfl rfl) ?_
    refine gw_iconst (gc k_Model_keeps_1 24 rfl) ?_
    refine gw_iadd (gc k_Model_keeps_1 25 rfl) ?_
    refine gw_putIK 33 rfl (gc k_Model_keeps_1 26 rfl) fl_Model_11 (gAt hx rfl rfl) hf rfl (fun hf => ?_)
    have hi2 : i = 25 := by omega
    subst hi2
    rw [gup_a _ _ _ _ _ (show (177 : Int) ≠ 190 by decide), e33, gup_gfr] at *
    exact k hf
  · refine gw_aload_n (gc k_Model_keeps_0 36 rfl) rfl rfl ?_
    refine gw_getref (gc k_Model_keeps_0 37 rfl) fl_Model_66 (gAt hx rfl rfl) (gRf hf rfl rfl) ?_
    refine gw_iload_n (gc k_Model_keeps_0 38 rfl) rfl ?_
    refine gw_aload_n (gc k_Model_keeps_0 39 rfl) rfl rfl ?_
    refine gw_getf 33 rfl (gc k_Model_keeps_1 0 rfl) fl_Model_11 (gAt hx rfl rfl) ?_
    rw [e33]
    refine gw_imul (gc k_Model_keeps_1 1 rfl) ?_
    refine gw_iload_n (gc k_Model_keeps_1 2 rfl) rfl ?_
    refine gw_iadd (gc k_Model_keeps_1 3 rfl) ?_
    refine gw_aload_n (gc k_Model_keeps_1 4 rfl) rfl rfl ?_
    refine gw_getref (gc k_Model_keeps_1 5 rfl) fl_Model_28 (gAt hx rfl rfl) (gRf hf rfl rfl) ?_
    refine gw_iload_n (gc k_Model_keeps_1 6 rfl) rfl ?_
    refine gw_iald (gc k_Model_keeps_1 7 rfl) (gAt hx rfl rfl) (by omega) ?_
    refine gw_iastF (gc k_Model_keeps_1 8 rfl) (gAt hx rfl rfl) (by omega) hf rfl (fun hf => ?_)
    refine gw_iinc_3 (gc k_Model_keeps_1 9 rfl) rfl rfl ?_
    refine gw_goto (tgt := 54) (gc k_Model_keeps_1 10 rfl) rfl ?_
    refine cp_step (by omega) (ih (i + 1) (by omega) (by omega)) ?_
    rw [gfr_a _ _ _ _ (by decide)]
    exact congrArg _ (by omega)
set_option maxHeartbeats 1000000 in
theorem c_Model_keeps {sh : gS} {g : gM} (hx : gFix sh) (hf : gFin g) (what : Int) (hu : 0 ≤ g 177 33 ∧ g 177 33 ≤ 16) : gTri f_Model_keeps 0 0 0 [(2, 177), (0, what)] sh g (gR none sh (keepM g what)) := by
  refine gTri.of (by decide +kernel) rfl ?_
  show gWP f_Model_keeps _ _ _ 0 [(2, 177), (0, what), (9, 0), (9, 0)] [] sh g _
  refine gw_bipush (gc k_Model_keeps_0 0 rfl) (by decide) ?_
  refine gw_istore_2 (gc k_Model_keeps_0 1 rfl) rfl rfl ?_
  refine gw_aload_n (gc k_Model_keeps_0 2 rfl) rfl rfl ?_
  refine gw_getf 33 rfl (gc k_Model_keeps_0 3 rfl) fl_Model_11 (gAt hx rfl rfl) ?_
  refine gw_bipush (gc k_Model_keeps_0 4 rfl) (by decide) ?_
  refine gw_icmp_ne (tgt := 52) (gc k_Model_keeps_0 5 rfl) rfl (by omega) (fun c9 => ?_) (fun c9 => ?_)
  · have hN : keepN g = g 177 33 := if_neg (by omega)
    refine keeps_tail hx hf what (g 177 33) (by omega) rfl (fun hf => ?_)
    refine gw_return (gc k_Model_keeps_1 27 rfl) rfl ?_
    refine ⟨rfl, rfl, ?_⟩
    unfold keepM keepF
    rw [hN, if_neg (by omega)]
  · refine gw_iconst (gc k_Model_keeps_0 6 rfl) ?_
    refine gw_istore_3 (gc k_Model_keeps_0 7 rfl) rfl rfl ?_
    refine cp_start 190 0 26 (g 190) ?_
    refine gloop (σ := Int) (I := fun i => 0 ≤ i ∧ i ≤ 390) (μ := fun i => (390 - i).toNat) (P := fun i => gWP f_Model_keeps _ _ _ 14 [(2, 177), (0, what), (0, 26), (0, i)] [] sh (gfr g 190 (cpF (g 190) (g 190) 0 26 i)) _) (fun i hI ih => ?_) 0 (by omega)
    have hf := hf.fr (a := 190) (f := cpF (g 190) (g 190) 0 26 i) (fun _ => rfl)
    refine gw_iload_n (gc k_Model_keeps_0 8 rfl) rfl ?_
    refine gw_bipush (gc k_Model_keeps_0 9 rfl) (by decide) ?_
    refine gw_iload_n (gc k_Model_keeps_0 10 rfl) rfl ?_
    refine gw_imul (gc k_Model_keeps_0 11 rfl) ?_
    refine gw_icmp_ge (tgt := 42) (gc k_Model_keeps_0 12 rfl) rfl (by omega) (fun c19 => ?_) (fun c19 => ?_)
    · refine gw_aload_n (gc k_Model_keeps_0 25 rfl) rfl rfl ?_
      refine gw_dup (gc k_Model_keeps_0 26 rfl) rfl ?_
      refine gw_getf 33 rfl (gc k_Model_keeps_0 27 rfl) fl_Model_11 (gAt hx rfl rfl) ?_
      refine gw_iconst (gc k_Model_keeps_0 28 rfl) ?_
      refine gw_isub (gc k_Model_keeps_0 29 rfl) ?_
      refine gw_putIK 33 rfl (gc k_Model_keeps_0 30 rfl) fl_Model_11 (gAt hx rfl rfl) hf rfl (fun hf => ?_)
      have hi2 : i = 390 := by omega
      subst hi2
      have e33 : gfr g 190 (cpF (g 190) (g 190) 0 26 390) 177 33 - 1 = 15 := by rw [gfr_a _ _ _ _ (by decide)]; omega
      have hN : keepN g = 15 := if_pos (by omega)
      refine keeps_tail hx hf what 15 (by omega) (by rw [gup_s]; exact e33) (fun hf => ?_)
      refine gw_return (gc k_Model_keeps_1 27 rfl) rfl ?_
      refine ⟨rfl, rfl, ?_⟩
      unfold keepM keepF
      rw [hN]
      funext x y
      by_cases h1 : x = 190
      · subst h1
        simp only [gup_a _ _ _ _ _ (show (190 : Int) ≠ 177 by decide), gfr_s]
        rw [if_pos (show g 177 33 = 16 by omega)]
        simp only [cpF, gup_a _ _ _ _ _ (show (190 : Int) ≠ 177 by decide), gup_a _ _ _ _ _ (show (179 : Int) ≠ 177 by decide), gfr_s, gfr_a _ _ _ _ (show (179 : Int) ≠ 190 by decide)]
      · by_cases h2 : x = 177
        · subst h2
          by_cases h3 : y = 33
          · subst h3; rw [gup_s, gup_s]
          · simp only [gup_k _ _ _ _ h3, gfr_a _ _ _ _ h1]
        · simp only [gup_a _ _ _ _ _ h2, gfr_a _ _ _ _ h1]
    · refine gw_aload_n (gc k_Model_keeps_0 13 rfl) rfl rfl ?_
      refine gw_getref (gc k_Model_keeps_0 14 rfl) fl_Model_66 (gAt hx rfl rfl) (gRf hf rfl rfl) ?_
      refine gw_iload_n (gc k_Model_keeps_0 15 rfl) rfl ?_
      refine gw_aload_n (gc k_Model_keeps_0 16 rfl) rfl rfl ?_
      refine gw_getref (gc k_Model_keeps_0 17 rfl) fl_Model_66 (gAt hx rfl rfl) (gRf hf rfl rfl) ?_
      refine gw_iload_n (gc k_Model_keeps_0 18 rfl) rfl ?_
      refine gw_iload_n (gc k_Model_keeps_0 19 rfl) rfl ?_
      refine gw_iadd (gc k_Model_keeps_0 20 rfl) ?_
      refine gw_iald (gc k_Model_keeps_0 21 rfl) (gAt hx rfl rfl) (by omega) ?_
      refine gw_iastF (gc k_Model_keeps_0 22 rfl) (gAt hx rfl rfl) (by omega) hf rfl (fun hf => ?_)
      refine gw_iinc_3 (gc k_Model_keeps_0 23 rfl) rfl rfl ?_
      refine gw_goto (tgt := 14) (gc k_Model_keeps_0 24 rfl) rfl ?_
      refine cp_step0 (by omega) (ih (i + 1) (by omega) (by omega)) ?_
      rw [gfr_s, cpF_out _ _ (by omega)]
      exact congrArg _ (by omega)
