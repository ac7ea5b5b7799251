/-! ===== the reference: what keeps and moves ===== -/
def refM (g : gM) (k : Int) : gM := gup (gup g 177 0 k) 178 (-k) (g 178 (-k) + 1)
def goodM (g : gM) : gM := gup g 177 0 0
def setM (g : gM) : gM := gup (gup g 177 33 0) 177 0 0
def addM (g : gM) (u h : Int) : gM := gup (gup (gup g 179 (12 + g 179 41) u) 179 (g 179 41) h) 179 41 (g 179 41 + 1)
theorem gFin.ref {g : gM} (h : gFin g) (k : Int) : gFin (refM g k) := (h.up rfl).up rfl
theorem gFin.good {g : gM} (h : gFin g) : gFin (goodM g) := h.up rfl
theorem gFin.set {g : gM} (h : gFin g) : gFin (setM g) := (h.up rfl).up rfl
theorem gFin.add {g : gM} (h : gFin g) (u v : Int) : gFin (addM g u v) := ((h.up rfl).up rfl).up rfl
theorem c_refuses {sh : gS} {g : gM} (hx : gFix sh) (hf : gFin g) (k : Int) (h : -6 ≤ k ∧ k ≤ -1) : gTri f_Model_refuses 0 0 0 [(2, 177), (0, k)] sh g (gR (some (0, k)) sh (refM g k)) := by
  have := c_Model_refuses hx hf k h
  rwa [gup_a _ _ _ _ _ (show (178 : Int) ≠ 177 by decide)] at this
set_option maxHeartbeats 1000000 in
theorem c_Model_takesNow {sh : gS} {g : gM} (hx : gFix sh) (hf : gFin g) (n : Int) (hn : 0 ≤ n ∧ n < 12) (ho : rowOK (g 179)) : gTri f_Model_takesNow 2 0 0 [(2, 177), (0, n)] sh g (gR none sh (gfr g 189 (fun y => if 0 ≤ y ∧ y < 10 then askM (g 179) n (g 179 n) (0 < n) (if 0 < n then g 179 (n - 1) else 0) y else g 189 y))) := by
  refine gTri.of (by decide +kernel) rfl ?_
  show gWP f_Model_takesNow _ _ _ 0 [(2, 177), (0, n)] [] sh g _
  refine gw_aload_n (gc k_Model_takesNow_0 0 rfl) rfl rfl ?_
  refine gw_iload_n (gc k_Model_takesNow_0 1 rfl) rfl ?_
  refine gw_aload_n (gc k_Model_takesNow_0 2 rfl) rfl rfl ?_
  refine gw_getref (gc k_Model_takesNow_0 3 rfl) fl_Model_28 (gAt hx rfl rfl) (gRf hf rfl rfl) ?_
  refine gw_iconst (gc k_Model_takesNow_0 4 rfl) ?_
  refine gw_iload_n (gc k_Model_takesNow_0 5 rfl) rfl ?_
  refine gw_iadd (gc k_Model_takesNow_0 6 rfl) ?_
  refine gw_iald (gc k_Model_takesNow_0 7 rfl) (gAt hx rfl rfl) (by omega) ?_
  refine gw_iload_n (gc k_Model_takesNow_0 8 rfl) rfl ?_
  refine gw_join1 19 (fun v => v = bi (0 < n)) (fun v11 hv11 => ?_) (fun kj11 => ?_)
  · refine gw_iload_n (gc k_Model_takesNow_0 13 rfl) rfl ?_
    refine gw_join1 37 (fun v => v = if 0 < n then g 179 (n - 1) else 0) (fun v20 hv20 => ?_) (fun kj20 => ?_)
    · subst hv11; subst hv20
      rw [Int.zero_add]
      refine gw_cV0 (gc k_Model_takesNow_0 25 rfl) y_Model_takesNote ln_Model_321 (c_Model_takesNote hx hf n _ _ (0 < n) hn (fun z => z) (ro_many ho)) rfl rfl (gAt hx rfl rfl) rfl rfl ?_
      refine gw_return (gc k_Model_takesNow_0 26 rfl) rfl ?_
      exact ⟨rfl, rfl, rfl⟩
    · refine gw_if_le (tgt := 36) (gc k_Model_takesNow_0 14 rfl) rfl (by omega) (fun c20 => ?_) (fun c20 => ?_)
      · refine gw_iconst (gc k_Model_takesNow_0 24 rfl) ?_
        exact kj20 _ (by first | rw [if_pos (by omega), Int.zero_add] | rw [if_neg (by omega)])
      · refine gw_aload_n (gc k_Model_takesNow_0 15 rfl) rfl rfl ?_
        refine gw_getref (gc k_Model_takesNow_0 16 rfl) fl_Model_28 (gAt hx rfl rfl) (gRf hf rfl rfl) ?_
        refine gw_iconst (gc k_Model_takesNow_0 17 rfl) ?_
        refine gw_iload_n (gc k_Model_takesNow_0 18 rfl) rfl ?_
        refine gw_iadd (gc k_Model_takesNow_0 19 rfl) ?_
        refine gw_iconst (gc k_Model_takesNow_0 20 rfl) ?_
        refine gw_isub (gc k_Model_takesNow_0 21 rfl) ?_
        refine gw_iald (gc k_Model_takesNow_0 22 rfl) (gAt hx rfl rfl) (by omega) ?_
        refine gw_goto (tgt := 37) (gc k_Model_takesNow_0 23 rfl) rfl ?_
        exact kj20 _ (by first | rw [if_pos (by omega), Int.zero_add] | rw [if_neg (by omega)])
  · refine gw_if_le (tgt := 18) (gc k_Model_takesNow_0 9 rfl) rfl (by omega) (fun c11 => ?_) (fun c11 => ?_)
    · refine gw_iconst (gc k_Model_takesNow_0 12 rfl) ?_
      exact kj11 _ (by first | exact (bi_1 (by omega)).symm | exact (bi_0 (by omega)).symm)
    · refine gw_iconst (gc k_Model_takesNow_0 10 rfl) ?_
      refine gw_goto (tgt := 19) (gc k_Model_takesNow_0 11 rfl) rfl ?_
      exact kj11 _ (by first | exact (bi_1 (by omega)).symm | exact (bi_0 (by omega)).symm)
set_option maxHeartbeats 1000000 in
theorem c_Model_note {sh : gS} {g : gM} (hx : gFix sh) (hf : gFin g) (u h : Int) (hb : (-2147483648 ≤ u ∧ u ≤ 2147483647) ∧ (-2147483648 ≤ h ∧ h ≤ 2147483647)) (ho : rowOK (g 179)) : gTri f_Model_note 2 0 0 [(2, 177), (0, u), (0, h)] sh g (fun r s2 g2 => s2 = sh ∧ ((¬ ((0 ≤ u ∧ u ≤ 24) ∧ 0 ≤ h ∧ h ≤ 24) ∧ r = some (0, -1) ∧ g2 = refM g (-1)) ∨ (((0 ≤ u ∧ u ≤ 24) ∧ 0 ≤ h ∧ h ≤ 24) ∧ g 179 41 = 12 ∧ r = some (0, -5) ∧ g2 = refM g (-5)) ∨ (((0 ≤ u ∧ u ≤ 24) ∧ 0 ≤ h ∧ h ≤ 24) ∧ g 179 41 < 12 ∧ r = some (0, g 179 41) ∧ g2 = setM (addM g u h)))) := by
  refine gTri.of (by decide +kernel) rfl ?_
  show gWP f_Model_note _ _ _ 0 [(2, 177), (0, u), (0, h)] [] sh g _
  have hm := ro_many ho
  refine gw_iload_n (gc k_Model_note_0 0 rfl) rfl ?_
  refine gw_cS1 (gc k_Model_note_0 1 rfl) y_Model_isPitch ln_Model_116 (c_Model_isPitch u hb.1) rfl rfl rfl rfl ?_
  refine gw_beq (tgt := 14) (gc k_Model_note_0 2 rfl) rfl (fun c4 => ?_) (fun c4 => ?_)
  · refine gw_aload_n (gc k_Model_note_0 6 rfl) rfl rfl ?_
    refine gw_iconst (gc k_Model_note_0 7 rfl) ?_
    refine gw_cV1 (gc k_Model_note_0 8 rfl) y_Model_refuses ln_Model_106 (c_refuses hx hf (-1) (by omega)) rfl rfl (gAt hx rfl rfl) rfl rfl ?_
    refine gw_ireturn (gc k_Model_note_0 9 rfl) rfl ?_
    exact ⟨rfl, Or.inl ⟨by omega, rfl, rfl⟩⟩
  · refine gw_iload_n (gc k_Model_note_0 3 rfl) rfl ?_
    refine gw_cS1 (gc k_Model_note_0 4 rfl) y_Model_isPitch ln_Model_116 (c_Model_isPitch h hb.2) rfl rfl rfl rfl ?_
    refine gw_bne (tgt := 20) (gc k_Model_note_0 5 rfl) rfl (fun c11 => ?_) (fun c11 => ?_)
    · refine gw_aload_n (gc k_Model_note_0 10 rfl) rfl rfl ?_
      refine gw_cV1 (gc k_Model_note_0 11 rfl) y_Model_noteMany ln_Model_112 (c_Model_noteMany hx hf) rfl rfl (gAt hx rfl rfl) rfl rfl ?_
      refine gw_bipush (gc k_Model_note_0 12 rfl) (by decide) ?_
      refine gw_icmp_ne (tgt := 36) (gc k_Model_note_0 13 rfl) rfl (by omega) (fun c26 => ?_) (fun c26 => ?_)
      · refine gw_aload_n (gc k_Model_note_0 18 rfl) rfl rfl ?_
        refine gw_iload_n (gc k_Model_note_0 19 rfl) rfl ?_
        refine gw_iload_n (gc k_Model_note_0 20 rfl) rfl ?_
        refine gw_cV0 (gc k_Model_note_0 21 rfl) y_Model_adds ln_Model_120 (c_Model_adds hx hf u h (by omega)) rfl rfl (gAt hx rfl rfl) rfl rfl ?_
        have hf := hf.add u h
        refine gw_aload_n (gc k_Model_note_0 22 rfl) rfl rfl ?_
        refine gw_aload_n (gc k_Model_note_0 23 rfl) rfl rfl ?_
        refine gw_cV1 (gc k_Model_note_0 24 rfl) y_Model_noteMany ln_Model_112 (c_Model_noteMany hx hf) rfl rfl (gAt hx rfl rfl) rfl rfl ?_
        refine gw_iconst (gc k_Model_note_0 25 rfl) ?_
        refine gw_isub (gc k_Model_note_0 26 rfl) ?_
        refine gw_cV1 (gc k_Model_note_0 27 rfl) y_Model_settled ln_Model_109 (c_Model_settled hx hf _) rfl rfl (gAt hx rfl rfl) rfl rfl ?_
        refine gw_ireturn (gc k_Model_note_0 28 rfl) rfl ?_
        refine ⟨rfl, Or.inr (Or.inr ⟨by omega, by omega, gsi ?_, rfl⟩)⟩
        show addM g u h 179 41 - 1 = g 179 41
        unfold addM
        rw [gup_s]; omega
      · refine gw_aload_n (gc k_Model_note_0 14 rfl) rfl rfl ?_
        refine gw_bipush (gc k_Model_note_0 15 rfl) (by decide) ?_
        refine gw_cV1 (gc k_Model_note_0 16 rfl) y_Model_refuses ln_Model_106 (c_refuses hx hf (-5) (by omega)) rfl rfl (gAt hx rfl rfl) rfl rfl ?_
        refine gw_ireturn (gc k_Model_note_0 17 rfl) rfl ?_
        exact ⟨rfl, Or.inr (Or.inl ⟨by omega, by omega, rfl, rfl⟩)⟩
    · refine gw_aload_n (gc k_Model_note_0 6 rfl) rfl rfl ?_
      refine gw_iconst (gc k_Model_note_0 7 rfl) ?_
      refine gw_cV1 (gc k_Model_note_0 8 rfl) y_Model_refuses ln_Model_106 (c_refuses hx hf (-1) (by omega)) rfl rfl (gAt hx rfl rfl) rfl rfl ?_
      refine gw_ireturn (gc k_Model_note_0 9 rfl) rfl ?_
      exact ⟨rfl, Or.inl ⟨by omega, rfl, rfl⟩⟩
set_option maxHeartbeats 1000000 in
theorem c_Model_laysAside {sh : gS} {g : gM} (hx : gFix sh) (hf : gFin g) (k : Int) (hk : 0 ≤ k ∧ k ≤ 1) : gTri f_Model_laysAside 0 0 0 [(2, 177), (0, k)] sh g (gR none sh (gfr g 182 (cpF (g 182) (g 179) (25 * k) 0 25))) := by
  refine gTri.of (by decide +kernel) rfl ?_
  show gWP f_Model_laysAside _ _ _ 0 [(2, 177), (0, k), (9, 0)] [] sh g _
  refine gw_iconst (gc k_Model_laysAside_0 0 rfl) ?_
  refine gw_istore_2 (gc k_Model_laysAside_0 1 rfl) rfl rfl ?_
  refine cp_start 182 (25 * k) (0) (g 179) ?_
  refine gloop (σ := Int) (I := fun i => 0 ≤ i ∧ i ≤ 25) (μ := fun i => (25 - i).toNat) (P := fun i => gWP f_Model_laysAside _ _ _ 2 [(2, 177), (0, k), (0, i)] [] sh (gfr g 182 (cpF (g 182) (g 179) (25 * k) (0) i)) _) (fun i hI ih => ?_) 0 (by omega)
  have hf := hf.fr (a := 182) (f := cpF (g 182) (g 179) (25 * k) (0) i) (fun _ => rfl)
  refine gw_iload_n (gc k_Model_laysAside_0 2 rfl) rfl ?_
  refine gw_bipush (gc k_Model_laysAside_0 3 rfl) (by decide) ?_
  refine gw_icmp_ge (tgt := 31) (gc k_Model_laysAside_0 4 rfl) rfl (by omega) (fun c5 => ?_) (fun c5 => ?_)
  · refine gw_return (gc k_Model_laysAside_0 19 rfl) rfl ?_
    have hi25 : i = 25 := by omega
    subst hi25
    exact ⟨rfl, rfl, rfl⟩
  · refine gw_aload_n (gc k_Model_laysAside_0 5 rfl) rfl rfl ?_
    refine gw_getref (gc k_Model_laysAside_0 6 rfl) fl_Model_38 (gAt hx rfl rfl) (gRf hf rfl rfl) ?_
    refine gw_bipush (gc k_Model_laysAside_0 7 rfl) (by decide) ?_
    refine gw_iload_n (gc k_Model_laysAside_0 8 rfl) rfl ?_
    refine gw_imul (gc k_Model_laysAside_0 9 rfl) ?_
    refine gw_iload_n (gc k_Model_laysAside_0 10 rfl) rfl ?_
    refine gw_iadd (gc k_Model_laysAside_0 11 rfl) ?_
    refine gw_aload_n (gc k_Model_laysAside_0 12 rfl) rfl rfl ?_
    refine gw_getref (gc k_Model_laysAside_0 13 rfl) fl_Model_28 (gAt hx rfl rfl) (gRf hf rfl rfl) ?_
    refine gw_iload_n (gc k_Model_laysAside_0 14 rfl) rfl ?_
    refine gw_iald (gc k_Model_laysAside_0 15 rfl) (gAt hx rfl rfl) (by omega) ?_
    refine gw_iastF (gc k_Model_laysAside_0 16 rfl) (gAt hx rfl rfl) (by omega) hf rfl (fun hf => ?_)
    refine gw_iinc_2 (gc k_Model_laysAside_0 17 rfl) rfl rfl ?_
    refine gw_goto (tgt := 2) (gc k_Model_laysAside_0 18 rfl) rfl ?_
    refine cp_step (by omega) (ih (i + 1) (by omega) (by omega)) ?_
    first | rfl | exact (gfr_a _ _ _ _ (by decide)).trans (congrArg _ (by omega)) | exact congrArg _ (by omega)
set_option maxHeartbeats 1000000 in
theorem c_Model_takesBack {sh : gS} {g : gM} (hx : gFix sh) (hf : gFin g) (k : Int) (hk : 0 ≤ k ∧ k ≤ 1) : gTri f_Model_takesBack 0 0 0 [(2, 177), (0, k)] sh g (gR none sh (gfr g 179 (cpF (g 179) (g 182) 0 (25 * k) 25))) := by
  refine gTri.of (by decide +kernel) rfl ?_
  show gWP f_Model_takesBack _ _ _ 0 [(2, 177), (0, k), (9, 0)] [] sh g _
  refine gw_iconst (gc k_Model_takesBack_0 0 rfl) ?_
  refine gw_istore_2 (gc k_Model_takesBack_0 1 rfl) rfl rfl ?_
  refine cp_start 179 (0) (25 * k) (g 182) ?_
  refine gloop (σ := Int) (I := fun i => 0 ≤ i ∧ i ≤ 25) (μ := fun i => (25 - i).toNat) (P := fun i => gWP f_Model_takesBack _ _ _ 2 [(2, 177), (0, k), (0, i)] [] sh (gfr g 179 (cpF (g 179) (g 182) (0) (25 * k) i)) _) (fun i hI ih => ?_) 0 (by omega)
  have hf := hf.fr (a := 179) (f := cpF (g 179) (g 182) (0) (25 * k) i) (fun _ => rfl)
  refine gw_iload_n (gc k_Model_takesBack_0 2 rfl) rfl ?_
  refine gw_bipush (gc k_Model_takesBack_0 3 rfl) (by decide) ?_
  refine gw_icmp_ge (tgt := 31) (gc k_Model_takesBack_0 4 rfl) rfl (by omega) (fun c5 => ?_) (fun c5 => ?_)
  · refine gw_return (gc k_Model_takesBack_0 19 rfl) rfl ?_
    have hi25 : i = 25 := by omega
    subst hi25
    exact ⟨rfl, rfl, rfl⟩
  · refine gw_aload_n (gc k_Model_takesBack_0 5 rfl) rfl rfl ?_
    refine gw_getref (gc k_Model_takesBack_0 6 rfl) fl_Model_28 (gAt hx rfl rfl) (gRf hf rfl rfl) ?_
    refine gw_iload_n (gc k_Model_takesBack_0 7 rfl) rfl ?_
    refine gw_aload_n (gc k_Model_takesBack_0 8 rfl) rfl rfl ?_
    refine gw_getref (gc k_Model_takesBack_0 9 rfl) fl_Model_38 (gAt hx rfl rfl) (gRf hf rfl rfl) ?_
    refine gw_bipush (gc k_Model_takesBack_0 10 rfl) (by decide) ?_
    refine gw_iload_n (gc k_Model_takesBack_0 11 rfl) rfl ?_
    refine gw_imul (gc k_Model_takesBack_0 12 rfl) ?_
    refine gw_iload_n (gc k_Model_takesBack_0 13 rfl) rfl ?_
    refine gw_iadd (gc k_Model_takesBack_0 14 rfl) ?_
    refine gw_iald (gc k_Model_takesBack_0 15 rfl) (gAt hx rfl rfl) (by omega) ?_
    refine gw_iastF (gc k_Model_takesBack_0 16 rfl) (gAt hx rfl rfl) (by omega) hf rfl (fun hf => ?_)
    refine gw_iinc_2 (gc k_Model_takesBack_0 17 rfl) rfl rfl ?_
    refine gw_goto (tgt := 2) (gc k_Model_takesBack_0 18 rfl) rfl ?_
    refine cp_step0 (by omega) (ih (i + 1) (by omega) (by omega)) ?_
    first | rfl | exact (gfr_a _ _ _ _ (by decide)).trans (congrArg _ (by omega)) | exact congrArg _ (by omega)
