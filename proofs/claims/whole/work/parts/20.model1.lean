/-! ===== the reference: small methods ===== -/
set_option maxHeartbeats 1000000 in
theorem c_Model_lies {sh : gS} {g : gM} (v lo hi : Int) (h : (-2147483648 ≤ v ∧ v ≤ 2147483647) ∧ (-2147483648 ≤ lo ∧ lo ≤ 2147483647) ∧ (-2147483648 ≤ hi ∧ hi ≤ 2147483647)) : gTri f_Model_lies 0 0 0 [(0, v), (0, lo), (0, hi)] sh g (gR (some (0, bi (lo ≤ v ∧ v ≤ hi))) sh g) := by
  refine gTri.of (by decide +kernel) rfl ?_
  show gWP f_Model_lies _ _ _ 0 [(0, v), (0, lo), (0, hi)] [] sh g _
  refine gw_iload_n (gc k_Model_lies_0 0 rfl) rfl ?_
  refine gw_iload_n (gc k_Model_lies_0 1 rfl) rfl ?_
  refine gw_icmp_lt (tgt := 14) (gc k_Model_lies_0 2 rfl) rfl (by omega) (fun c2 => ?_) (fun c2 => ?_)
  · refine gw_iconst (gc k_Model_lies_0 8 rfl) ?_
    refine gw_zreturn (gc k_Model_lies_0 9 rfl) rfl (by omega) ?_
    first | exact ⟨bi_t (by omega), rfl, rfl⟩ | exact ⟨bi_f (by omega), rfl, rfl⟩
  · refine gw_iload_n (gc k_Model_lies_0 3 rfl) rfl ?_
    refine gw_iload_n (gc k_Model_lies_0 4 rfl) rfl ?_
    refine gw_icmp_gt (tgt := 14) (gc k_Model_lies_0 5 rfl) rfl (by omega) (fun c7 => ?_) (fun c7 => ?_)
    · refine gw_iconst (gc k_Model_lies_0 8 rfl) ?_
      refine gw_zreturn (gc k_Model_lies_0 9 rfl) rfl (by omega) ?_
      first | exact ⟨bi_t (by omega), rfl, rfl⟩ | exact ⟨bi_f (by omega), rfl, rfl⟩
    · refine gw_iconst (gc k_Model_lies_0 6 rfl) ?_
      refine gw_goto (tgt := 15) (gc k_Model_lies_0 7 rfl) rfl ?_
      refine gw_zreturn (gc k_Model_lies_0 9 rfl) rfl (by omega) ?_
      first | exact ⟨bi_t (by omega), rfl, rfl⟩ | exact ⟨bi_f (by omega), rfl, rfl⟩
set_option maxHeartbeats 1000000 in
theorem c_Model_lesser {sh : gS} {g : gM} (a b : Int) (h : (-2147483648 ≤ a ∧ a ≤ 2147483647) ∧ (-2147483648 ≤ b ∧ b ≤ 2147483647)) : gTri f_Model_lesser 0 0 0 [(0, a), (0, b)] sh g (gR (some (0, if a < b then a else b)) sh g) := by
  refine gTri.of (by decide +kernel) rfl ?_
  show gWP f_Model_lesser _ _ _ 0 [(0, a), (0, b)] [] sh g _
  refine gw_iload_n (gc k_Model_lesser_0 0 rfl) rfl ?_
  refine gw_iload_n (gc k_Model_lesser_0 1 rfl) rfl ?_
  refine gw_icmp_ge (tgt := 9) (gc k_Model_lesser_0 2 rfl) rfl (by omega) (fun c2 => ?_) (fun c2 => ?_)
  · refine gw_iload_n (gc k_Model_lesser_0 5 rfl) rfl ?_
    refine gw_ireturn (gc k_Model_lesser_0 6 rfl) rfl ?_
    first | exact ⟨gsi (by rw [if_pos (by omega)]), rfl, rfl⟩ | exact ⟨gsi (by rw [if_neg (by omega)]), rfl, rfl⟩
  · refine gw_iload_n (gc k_Model_lesser_0 3 rfl) rfl ?_
    refine gw_goto (tgt := 10) (gc k_Model_lesser_0 4 rfl) rfl ?_
    refine gw_ireturn (gc k_Model_lesser_0 6 rfl) rfl ?_
    first | exact ⟨gsi (by rw [if_pos (by omega)]), rfl, rfl⟩ | exact ⟨gsi (by rw [if_neg (by omega)]), rfl, rfl⟩
set_option maxHeartbeats 1000000 in
theorem c_Model_greater {sh : gS} {g : gM} (a b : Int) (h : (-2147483648 ≤ a ∧ a ≤ 2147483647) ∧ (-2147483648 ≤ b ∧ b ≤ 2147483647)) : gTri f_Model_greater 0 0 0 [(0, a), (0, b)] sh g (gR (some (0, if b < a then a else b)) sh g) := by
  refine gTri.of (by decide +kernel) rfl ?_
  show gWP f_Model_greater _ _ _ 0 [(0, a), (0, b)] [] sh g _
  refine gw_iload_n (gc k_Model_greater_0 0 rfl) rfl ?_
  refine gw_iload_n (gc k_Model_greater_0 1 rfl) rfl ?_
  refine gw_icmp_le (tgt := 9) (gc k_Model_greater_0 2 rfl) rfl (by omega) (fun c2 => ?_) (fun c2 => ?_)
  · refine gw_iload_n (gc k_Model_greater_0 5 rfl) rfl ?_
    refine gw_ireturn (gc k_Model_greater_0 6 rfl) rfl ?_
    first | exact ⟨gsi (by rw [if_pos (by omega)]), rfl, rfl⟩ | exact ⟨gsi (by rw [if_neg (by omega)]), rfl, rfl⟩
  · refine gw_iload_n (gc k_Model_greater_0 3 rfl) rfl ?_
    refine gw_goto (tgt := 10) (gc k_Model_greater_0 4 rfl) rfl ?_
    refine gw_ireturn (gc k_Model_greater_0 6 rfl) rfl ?_
    first | exact ⟨gsi (by rw [if_pos (by omega)]), rfl, rfl⟩ | exact ⟨gsi (by rw [if_neg (by omega)]), rfl, rfl⟩
set_option maxHeartbeats 1000000 in
theorem c_Model_bare {sh : gS} {g : gM} (a : Int) (h : (-2147483648 ≤ a ∧ a ≤ 2147483647)) : gTri f_Model_bare 0 0 0 [(0, a)] sh g (gR (some (0, if a < 0 then -a else a)) sh g) := by
  refine gTri.of (by decide +kernel) rfl ?_
  show gWP f_Model_bare _ _ _ 0 [(0, a)] [] sh g _
  refine gw_iload_n (gc k_Model_bare_0 0 rfl) rfl ?_
  refine gw_if_ge (tgt := 9) (gc k_Model_bare_0 1 rfl) rfl (by omega) (fun c1 => ?_) (fun c1 => ?_)
  · refine gw_iload_n (gc k_Model_bare_0 5 rfl) rfl ?_
    refine gw_ireturn (gc k_Model_bare_0 6 rfl) rfl ?_
    first | exact ⟨gsi (by rw [if_pos (by omega)]), rfl, rfl⟩ | exact ⟨gsi (by rw [if_neg (by omega)]), rfl, rfl⟩
  · refine gw_iload_n (gc k_Model_bare_0 2 rfl) rfl ?_
    refine gw_ineg (gc k_Model_bare_0 3 rfl) ?_
    refine gw_goto (tgt := 10) (gc k_Model_bare_0 4 rfl) rfl ?_
    refine gw_ireturn (gc k_Model_bare_0 6 rfl) rfl ?_
    first | exact ⟨gsi (by rw [if_pos (by omega)]), rfl, rfl⟩ | exact ⟨gsi (by rw [if_neg (by omega)]), rfl, rfl⟩
set_option maxHeartbeats 1000000 in
theorem c_Model_good {sh : gS} {g : gM} (hx : gFix sh) (hf : gFin g) (v : Int) : gTri f_Model_good 0 0 0 [(2, 177), (0, v)] sh g (gR (some (0, v)) sh (gup g 177 0 0)) := by
  refine gTri.of (by decide +kernel) rfl ?_
  show gWP f_Model_good _ _ _ 0 [(2, 177), (0, v)] [] sh g _
  refine gw_aload_n (gc k_Model_good_0 0 rfl) rfl rfl ?_
  refine gw_iconst (gc k_Model_good_0 1 rfl) ?_
  refine gw_putIK 0 rfl (gc k_Model_good_0 2 rfl) fl_Model_3 (gAt hx rfl rfl) hf rfl (fun hf => ?_)
  refine gw_iload_n (gc k_Model_good_0 3 rfl) rfl ?_
  refine gw_ireturn (gc k_Model_good_0 4 rfl) rfl ?_
  exact ⟨rfl, rfl, rfl⟩
set_option maxHeartbeats 1000000 in
theorem c_Model_settled {sh : gS} {g : gM} (hx : gFix sh) (hf : gFin g) (v : Int) : gTri f_Model_settled 1 0 0 [(2, 177), (0, v)] sh g (gR (some (0, v)) sh (gup (gup g 177 33 0) 177 0 0)) := by
  refine gTri.of (by decide +kernel) rfl ?_
  show gWP f_Model_settled _ _ _ 0 [(2, 177), (0, v)] [] sh g _
  refine gw_aload_n (gc k_Model_settled_0 0 rfl) rfl rfl ?_
  refine gw_iconst (gc k_Model_settled_0 1 rfl) ?_
  refine gw_putIK 33 rfl (gc k_Model_settled_0 2 rfl) fl_Model_11 (gAt hx rfl rfl) hf rfl (fun hf => ?_)
  refine gw_aload_n (gc k_Model_settled_0 3 rfl) rfl rfl ?_
  refine gw_iload_n (gc k_Model_settled_0 4 rfl) rfl ?_
  refine gw_cV1 (gc k_Model_settled_0 5 rfl) y_Model_good ln_Model_14 (c_Model_good hx hf v) rfl rfl (gAt hx rfl rfl) rfl rfl ?_
  refine gw_ireturn (gc k_Model_settled_0 6 rfl) rfl ?_
  exact ⟨rfl, rfl, rfl⟩
set_option maxHeartbeats 1000000 in
theorem c_Model_refuses {sh : gS} {g : gM} (hx : gFix sh) (hf : gFin g) (k : Int) (h : -6 ≤ k ∧ k ≤ -1) : gTri f_Model_refuses 0 0 0 [(2, 177), (0, k)] sh g (gR (some (0, k)) sh (gup (gup g 177 0 k) 178 (-k) (gup g 177 0 k 178 (-k) + 1))) := by
  refine gTri.of (by decide +kernel) rfl ?_
  show gWP f_Model_refuses _ _ _ 0 [(2, 177), (0, k)] [] sh g _
  refine gw_aload_n (gc k_Model_refuses_0 0 rfl) rfl rfl ?_
  refine gw_iload_n (gc k_Model_refuses_0 1 rfl) rfl ?_
  refine gw_putIK 0 rfl (gc k_Model_refuses_0 2 rfl) fl_Model_3 (gAt hx rfl rfl) hf rfl (fun hf => ?_)
  refine gw_aload_n (gc k_Model_refuses_0 3 rfl) rfl rfl ?_
  refine gw_getref (gc k_Model_refuses_0 4 rfl) fl_Model_7 (gAt hx rfl rfl) (gRf hf rfl rfl) ?_
  refine gw_iload_n (gc k_Model_refuses_0 5 rfl) rfl ?_
  refine gw_ineg (gc k_Model_refuses_0 6 rfl) ?_
  refine gw_dup2 (gc k_Model_refuses_0 7 rfl) rfl ?_
  refine gw_iald (gc k_Model_refuses_0 8 rfl) (gAt hx rfl rfl) (by omega) ?_
  refine gw_iconst (gc k_Model_refuses_0 9 rfl) ?_
  refine gw_iadd (gc k_Model_refuses_0 10 rfl) ?_
  refine gw_iastF (gc k_Model_refuses_0 11 rfl) (gAt hx rfl rfl) (by omega) hf rfl (fun hf => ?_)
  refine gw_iload_n (gc k_Model_refuses_0 12 rfl) rfl ?_
  refine gw_ireturn (gc k_Model_refuses_0 13 rfl) rfl ?_
  exact ⟨rfl, rfl, rfl⟩
set_option maxHeartbeats 1000000 in
theorem c_Model_isPitch {sh : gS} {g : gM} (v : Int) (h : (-2147483648 ≤ v ∧ v ≤ 2147483647)) : gTri f_Model_isPitch 1 0 0 [(0, v)] sh g (gR (some (0, bi (0 ≤ v ∧ v ≤ 24))) sh g) := by
  refine gTri.of (by decide +kernel) rfl ?_
  show gWP f_Model_isPitch _ _ _ 0 [(0, v)] [] sh g _
  refine gw_iload_n (gc k_Model_isPitch_0 0 rfl) rfl ?_
  refine gw_iconst (gc k_Model_isPitch_0 1 rfl) ?_
  refine gw_bipush (gc k_Model_isPitch_0 2 rfl) (by decide) ?_
  refine gw_cS1 (gc k_Model_isPitch_0 3 rfl) y_Model_lies ln_Model_18 (c_Model_lies v 0 24 ⟨h, by omega, by omega⟩) rfl rfl rfl rfl ?_
  refine gw_zreturn (gc k_Model_isPitch_0 4 rfl) rfl (bi_01 _) ?_
  exact ⟨rfl, rfl, rfl⟩
set_option maxHeartbeats 1000000 in
theorem c_Model_noteMany {sh : gS} {g : gM} (hx : gFix sh) (hf : gFin g) : gTri f_Model_noteMany 0 0 0 [(2, 177)] sh g (gR (some (0, g 179 41)) sh g) := by
  refine gTri.of (by decide +kernel) rfl ?_
  show gWP f_Model_noteMany _ _ _ 0 [(2, 177)] [] sh g _
  refine gw_aload_n (gc k_Model_noteMany_0 0 rfl) rfl rfl ?_
  refine gw_getref (gc k_Model_noteMany_0 1 rfl) fl_Model_28 (gAt hx rfl rfl) (gRf hf rfl rfl) ?_
  refine gw_bipush (gc k_Model_noteMany_0 2 rfl) (by decide) ?_
  refine gw_iald (gc k_Model_noteMany_0 3 rfl) (gAt hx rfl rfl) (by omega) ?_
  refine gw_ireturn (gc k_Model_noteMany_0 4 rfl) rfl ?_
  exact ⟨rfl, rfl, rfl⟩
set_option maxHeartbeats 1000000 in
theorem c_Model_isNote {sh : gS} {g : gM} (hx : gFix sh) (hf : gFin g) (n : Int) (h : (-2147483648 ≤ n ∧ n ≤ 2147483647)) (hm : 0 ≤ g 179 41 ∧ g 179 41 ≤ 12) : gTri f_Model_isNote 1 0 0 [(2, 177), (0, n)] sh g (gR (some (0, bi (0 ≤ n ∧ n ≤ g 179 41 - 1))) sh g) := by
  refine gTri.of (by decide +kernel) rfl ?_
  show gWP f_Model_isNote _ _ _ 0 [(2, 177), (0, n)] [] sh g _
  refine gw_iload_n (gc k_Model_isNote_0 0 rfl) rfl ?_
  refine gw_iconst (gc k_Model_isNote_0 1 rfl) ?_
  refine gw_aload_n (gc k_Model_isNote_0 2 rfl) rfl rfl ?_
  refine gw_cV1 (gc k_Model_isNote_0 3 rfl) y_Model_noteMany ln_Model_112 (c_Model_noteMany hx hf) rfl rfl (gAt hx rfl rfl) rfl rfl ?_
  refine gw_iconst (gc k_Model_isNote_0 4 rfl) ?_
  refine gw_isub (gc k_Model_isNote_0 5 rfl) ?_
  refine gw_cS1 (gc k_Model_isNote_0 6 rfl) y_Model_lies ln_Model_18 (c_Model_lies n 0 (g 179 41 - 1) ⟨h, by omega, by omega⟩) rfl rfl rfl rfl ?_
  refine gw_zreturn (gc k_Model_isNote_0 7 rfl) rfl (bi_01 _) ?_
  exact ⟨rfl, rfl, rfl⟩
