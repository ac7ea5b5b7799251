def cntR (g : gM) (k : Int) : Int := if 6 ≤ k ∧ k ≤ 10 then g 178 (if k - 6 < 3 then k - 6 + 1 else k - 6 + 2) else if 12 ≤ k ∧ k ≤ 16 then g 179 (if k - 12 = 0 then 24 else 36 + (k - 12)) else if k = 0 then g 179 41 else if k = 1 then allN (g 179) 2 else if k = 2 then g 179 42 else if k = 3 then g 179 43 else if k = 4 then g 177 33 else if k = 5 then g 177 13 else if k = 11 then g 179 44 else -1
set_option maxHeartbeats 1000000 in
theorem c_Model_count {sh : gS} {g : gM} (hx : gFix sh) (hf : gFin g) (k : Int) (hb : -2147483648 ≤ k ∧ k ≤ 2147483647) (ho : rowOK (g 179)) (hl : lawsOK (g 179)) : gTri f_Model_count 45 0 0 [(2, 177), (0, k)] sh g (fun r s2 g2 => r = some (0, cntR g k) ∧ s2 = sh ∧ gSk g g2) := by
  refine gTri.of (by decide +kernel) rfl ?_
  show gWP f_Model_count _ _ _ 0 [(2, 177), (0, k)] [] sh g _
  refine gw_iload_n (gc k_Model_count_0 0 rfl) rfl ?_
  refine gw_bipush (gc k_Model_count_0 1 rfl) (by decide) ?_
  refine gw_bipush (gc k_Model_count_0 2 rfl) (by decide) ?_
  refine gw_cS1 (gc k_Model_count_0 3 rfl) y_Model_lies ln_Model_18 (c_Model_lies _ _ _ (by omega)) rfl rfl rfl rfl ?_
  refine gw_beq (tgt := 20) (gc k_Model_count_0 4 rfl) rfl (fun c8 => ?_) (fun c8 => ?_)
  · refine gw_iload_n (gc k_Model_count_0 11 rfl) rfl ?_
    refine gw_bipush (gc k_Model_count_0 12 rfl) (by decide) ?_
    refine gw_bipush (gc k_Model_count_0 13 rfl) (by decide) ?_
    refine gw_cS1 (gc k_Model_count_0 14 rfl) y_Model_lies ln_Model_18 (c_Model_lies _ _ _ (by omega)) rfl rfl rfl rfl ?_
    refine gw_beq (tgt := 44) (gc k_Model_count_0 15 rfl) rfl (fun c28 => ?_) (fun c28 => ?_)
    · refine gw_iload_n (gc k_Model_count_0 24 rfl) rfl ?_
      rcases (show k = 0 ∨ k = 1 ∨ k = 2 ∨ k = 3 ∨ k = 4 ∨ k = 5 ∨ k = 6 ∨ k = 7 ∨ k = 8 ∨ k = 9 ∨ k = 10 ∨ k = 11 ∨ (k < 0 ∨ 11 < k) by omega) with hs45 | hs45 | hs45 | hs45 | hs45 | hs45 | hs45 | hs45 | hs45 | hs45 | hs45 | hs45 | hs45
      · refine gw_tableIn (tgt := 108) (gc k_Model_count_0 25 rfl) (by omega) (by omega) (by rw [hs45]; rfl) rfl ?_
        refine gw_aload_n (gc k_Model_count_0 26 rfl) rfl rfl ?_
        refine gw_cV1 (gc k_Model_count_0 27 rfl) y_Model_noteMany ln_Model_112 (c_Model_noteMany hx hf) rfl rfl (gAt hx rfl rfl) rfl rfl ?_
        refine gw_ireturn (gc k_Model_count_0 28 rfl) rfl ?_
        refine ⟨?_, rfl, by first | exact hq | exact gSk.rf g⟩
        unfold cntR
        rw [if_neg c8, if_neg c28]
        first | (subst hs45; rfl) | exact absurd (show 6 ≤ k ∧ k ≤ 10 by omega) c8 | rw [if_neg (by omega), if_neg (by omega), if_neg (by omega), if_neg (by omega), if_neg (by omega), if_neg (by omega), if_neg (by omega)]
      · refine gw_tableIn (tgt := 113) (gc k_Model_count_0 25 rfl) (by omega) (by omega) (by rw [hs45]; rfl) rfl ?_
        refine gw_aload_n (gc k_Model_count_0 29 rfl) rfl rfl ?_
        refine gw_iconst (gc k_Model_count_0 30 rfl) ?_
        refine gw_xV1 (gc k_Model_count_0 31 rfl) y_Model_allOf ln_Model_332 (c_Model_allOf hx hf 2 (by omega) ho hl) rfl rfl (gAt hx rfl rfl) rfl rfl (fun r115 sh2 g115 hq115 => ?_)
        obtain ⟨rfl, rfl, hq⟩ := hq115
        refine gw_ireturn (gc k_Model_count_0 32 rfl) rfl ?_
        refine ⟨?_, rfl, by first | exact hq | exact gSk.rf g⟩
        unfold cntR
        rw [if_neg c8, if_neg c28]
        first | (subst hs45; rfl) | exact absurd (show 6 ≤ k ∧ k ≤ 10 by omega) c8 | rw [if_neg (by omega), if_neg (by omega), if_neg (by omega), if_neg (by omega), if_neg (by omega), if_neg (by omega), if_neg (by omega)]
      · refine gw_tableIn (tgt := 119) (gc k_Model_count_0 25 rfl) (by omega) (by omega) (by rw [hs45]; rfl) rfl ?_
        refine gw_aload_n (gc k_Model_count_0 33 rfl) rfl rfl ?_
        refine gw_getref (gc k_Model_count_0 34 rfl) fl_Model_28 (gAt hx rfl rfl) (gRf hf rfl rfl) ?_
        refine gw_bipush (gc k_Model_count_0 35 rfl) (by decide) ?_
        refine gw_iald (gc k_Model_count_0 36 rfl) (gAt hx rfl rfl) (by omega) ?_
        refine gw_ireturn (gc k_Model_count_0 37 rfl) rfl ?_
        refine ⟨?_, rfl, by first | exact hq | exact gSk.rf g⟩
        unfold cntR
        rw [if_neg c8, if_neg c28]
        first | (subst hs45; rfl) | exact absurd (show 6 ≤ k ∧ k ≤ 10 by omega) c8 | rw [if_neg (by omega), if_neg (by omega), if_neg (by omega), if_neg (by omega), if_neg (by omega), if_neg (by omega), if_neg (by omega)]
      · refine gw_tableIn (tgt := 127) (gc k_Model_count_0 25 rfl) (by omega) (by omega) (by rw [hs45]; rfl) rfl ?_
        refine gw_aload_n (gc k_Model_count_0 38 rfl) rfl rfl ?_
        refine gw_getref (gc k_Model_count_0 39 rfl) fl_Model_28 (gAt hx rfl rfl) (gRf hf rfl rfl) ?_
        refine gw_bipush (gc k_Model_count_1 0 rfl) (by decide) ?_
        refine gw_iald (gc k_Model_count_1 1 rfl) (gAt hx rfl rfl) (by omega) ?_
        refine gw_ireturn (gc k_Model_count_1 2 rfl) rfl ?_
        refine ⟨?_, rfl, by first | exact hq | exact gSk.rf g⟩
        unfold cntR
        rw [if_neg c8, if_neg c28]
        first | (subst hs45; rfl) | exact absurd (show 6 ≤ k ∧ k ≤ 10 by omega) c8 | rw [if_neg (by omega), if_neg (by omega), if_neg (by omega), if_neg (by omega), if_neg (by omega), if_neg (by omega), if_neg (by omega)]
      · refine gw_tableIn (tgt := 135) (gc k_Model_count_0 25 rfl) (by omega) (by omega) (by rw [hs45]; rfl) rfl ?_
        refine gw_aload_n (gc k_Model_count_1 3 rfl) rfl rfl ?_
        refine gw_getf 33 rfl (gc k_Model_count_1 4 rfl) fl_Model_11 (gAt hx rfl rfl) ?_
        refine gw_ireturn (gc k_Model_count_1 5 rfl) rfl ?_
        refine ⟨?_, rfl, by first | exact hq | exact gSk.rf g⟩
        unfold cntR
        rw [if_neg c8, if_neg c28]
        first | (subst hs45; rfl) | exact absurd (show 6 ≤ k ∧ k ≤ 10 by omega) c8 | rw [if_neg (by omega), if_neg (by omega), if_neg (by omega), if_neg (by omega), if_neg (by omega), if_neg (by omega), if_neg (by omega)]
      · refine gw_tableIn (tgt := 140) (gc k_Model_count_0 25 rfl) (by omega) (by omega) (by rw [hs45]; rfl) rfl ?_
        refine gw_aload_n (gc k_Model_count_1 6 rfl) rfl rfl ?_
        refine gw_getf 13 rfl (gc k_Model_count_1 7 rfl) fl_Model_154 (gAt hx rfl rfl) ?_
        refine gw_ireturn (gc k_Model_count_1 8 rfl) rfl ?_
        refine ⟨?_, rfl, by first | exact hq | exact gSk.rf g⟩
        unfold cntR
        rw [if_neg c8, if_neg c28]
        first | (subst hs45; rfl) | exact absurd (show 6 ≤ k ∧ k ≤ 10 by omega) c8 | rw [if_neg (by omega), if_neg (by omega), if_neg (by omega), if_neg (by omega), if_neg (by omega), if_neg (by omega), if_neg (by omega)]
      · refine gw_tableIn (tgt := 153) (gc k_Model_count_0 25 rfl) (by omega) (by omega) (by rw [hs45]; rfl) rfl ?_
        refine gw_iconst (gc k_Model_count_1 14 rfl) ?_
        refine gw_ireturn (gc k_Model_count_1 15 rfl) rfl ?_
        refine ⟨?_, rfl, by first | exact hq | exact gSk.rf g⟩
        unfold cntR
        rw [if_neg c8, if_neg c28]
        first | (subst hs45; rfl) | exact absurd (show 6 ≤ k ∧ k ≤ 10 by omega) c8 | rw [if_neg (by omega), if_neg (by omega), if_neg (by omega), if_neg (by omega), if_neg (by omega), if_neg (by omega), if_neg (by omega)]
      · refine gw_tableIn (tgt := 153) (gc k_Model_count_0 25 rfl) (by omega) (by omega) (by rw [hs45]; rfl) rfl ?_
        refine gw_iconst (gc k_Model_count_1 14 rfl) ?_
        refine gw_ireturn (gc k_Model_count_1 15 rfl) rfl ?_
        refine ⟨?_, rfl, by first | exact hq | exact gSk.rf g⟩
        unfold cntR
        rw [if_neg c8, if_neg c28]
        first | (subst hs45; rfl) | exact absurd (show 6 ≤ k ∧ k ≤ 10 by omega) c8 | rw [if_neg (by omega), if_neg (by omega), if_neg (by omega), if_neg (by omega), if_neg (by omega), if_neg (by omega), if_neg (by omega)]
      · refine gw_tableIn (tgt := 153) (gc k_Model_count_0 25 rfl) (by omega) (by omega) (by rw [hs45]; rfl) rfl ?_
        refine gw_iconst (gc k_Model_count_1 14 rfl) ?_
        refine gw_ireturn (gc k_Model_count_1 15 rfl) rfl ?_
        refine ⟨?_, rfl, by first | exact hq | exact gSk.rf g⟩
        unfold cntR
        rw [if_neg c8, if_neg c28]
        first | (subst hs45; rfl) | exact absurd (show 6 ≤ k ∧ k ≤ 10 by omega) c8 | rw [if_neg (by omega), if_neg (by omega), if_neg (by omega), if_neg (by omega), if_neg (by omega), if_neg (by omega), if_neg (by omega)]
      · refine gw_tableIn (tgt := 153) (gc k_Model_count_0 25 rfl) (by omega) (by omega) (by rw [hs45]; rfl) rfl ?_
        refine gw_iconst (gc k_Model_count_1 14 rfl) ?_
        refine gw_ireturn (gc k_Model_count_1 15 rfl) rfl ?_
        refine ⟨?_, rfl, by first | exact hq | exact gSk.rf g⟩
        unfold cntR
        rw [if_neg c8, if_neg c28]
        first | (subst hs45; rfl) | exact absurd (show 6 ≤ k ∧ k ≤ 10 by omega) c8 | rw [if_neg (by omega), if_neg (by omega), if_neg (by omega), if_neg (by omega), if_neg (by omega), if_neg (by omega), if_neg (by omega)]
      · refine gw_tableIn (tgt := 153) (gc k_Model_count_0 25 rfl) (by omega) (by omega) (by rw [hs45]; rfl) rfl ?_
        refine gw_iconst (gc k_Model_count_1 14 rfl) ?_
        refine gw_ireturn (gc k_Model_count_1 15 rfl) rfl ?_
        refine ⟨?_, rfl, by first | exact hq | exact gSk.rf g⟩
        unfold cntR
        rw [if_neg c8, if_neg c28]
        first | (subst hs45; rfl) | exact absurd (show 6 ≤ k ∧ k ≤ 10 by omega) c8 | rw [if_neg (by omega), if_neg (by omega), if_neg (by omega), if_neg (by omega), if_neg (by omega), if_neg (by omega), if_neg (by omega)]
      · refine gw_tableIn (tgt := 145) (gc k_Model_count_0 25 rfl) (by omega) (by omega) (by rw [hs45]; rfl) rfl ?_
        refine gw_aload_n (gc k_Model_count_1 9 rfl) rfl rfl ?_
        refine gw_getref (gc k_Model_count_1 10 rfl) fl_Model_28 (gAt hx rfl rfl) (gRf hf rfl rfl) ?_
        refine gw_bipush (gc k_Model_count_1 11 rfl) (by decide) ?_
        refine gw_iald (gc k_Model_count_1 12 rfl) (gAt hx rfl rfl) (by omega) ?_
        refine gw_ireturn (gc k_Model_count_1 13 rfl) rfl ?_
        refine ⟨?_, rfl, by first | exact hq | exact gSk.rf g⟩
        unfold cntR
        rw [if_neg c8, if_neg c28]
        first | (subst hs45; rfl) | exact absurd (show 6 ≤ k ∧ k ≤ 10 by omega) c8 | rw [if_neg (by omega), if_neg (by omega), if_neg (by omega), if_neg (by omega), if_neg (by omega), if_neg (by omega), if_neg (by omega)]
      · refine gw_tableOut (tgt := 153) (gc k_Model_count_0 25 rfl) (by omega) (by omega) rfl ?_
        refine gw_iconst (gc k_Model_count_1 14 rfl) ?_
        refine gw_ireturn (gc k_Model_count_1 15 rfl) rfl ?_
        refine ⟨?_, rfl, by first | exact hq | exact gSk.rf g⟩
        unfold cntR
        rw [if_neg c8, if_neg c28]
        first | (subst hs45; rfl) | exact absurd (show 6 ≤ k ∧ k ≤ 10 by omega) c8 | rw [if_neg (by omega), if_neg (by omega), if_neg (by omega), if_neg (by omega), if_neg (by omega), if_neg (by omega), if_neg (by omega)]
    · refine gw_aload_n (gc k_Model_count_0 16 rfl) rfl rfl ?_
      refine gw_getref (gc k_Model_count_0 17 rfl) fl_Model_28 (gAt hx rfl rfl) (gRf hf rfl rfl) ?_
      refine gw_iload_n (gc k_Model_count_0 18 rfl) rfl ?_
      refine gw_bipush (gc k_Model_count_0 19 rfl) (by decide) ?_
      refine gw_isub (gc k_Model_count_0 20 rfl) ?_
      refine gw_cS1 (gc k_Model_count_0 21 rfl) y_Model_termAt ln_Model_151 (c_Model_termAt _ (by omega)) rfl rfl rfl rfl ?_
      refine gw_iald (gc k_Model_count_0 22 rfl) (gAt hx rfl rfl) (by split <;> omega) ?_
      refine gw_ireturn (gc k_Model_count_0 23 rfl) rfl ?_
      exact ⟨by unfold cntR; rw [if_neg c8, if_pos c28], rfl, gSk.rf g⟩
  · refine gw_aload_n (gc k_Model_count_0 5 rfl) rfl rfl ?_
    refine gw_iload_n (gc k_Model_count_0 6 rfl) rfl ?_
    refine gw_bipush (gc k_Model_count_0 7 rfl) (by decide) ?_
    refine gw_isub (gc k_Model_count_0 8 rfl) ?_
    refine gw_cV1 (gc k_Model_count_0 9 rfl) y_Model_refusals ln_Model_495 (c_Model_refusals hx hf _ (by omega)) rfl rfl (gAt hx rfl rfl) rfl rfl ?_
    refine gw_ireturn (gc k_Model_count_0 10 rfl) rfl ?_
    exact ⟨by unfold cntR; rw [if_pos c8], rfl, gSk.rf g⟩
theorem keepM_179 (g : gM) (w : Int) : keepM g w 179 = g 179 := by
  unfold keepM
  rw [gup_fn _ _ _ _ (by decide), gfr_fn _ _ _ (by decide)]
theorem smN_pos {f : Int → Int} (hb : ∀ i : Int, 0 ≤ f i) : ∀ n : Nat, 0 ≤ smN f n
  | 0 => Int.le_refl _
  | n + 1 => by
    have h1 := smN_pos hb n
    have h2 := hb n
    unfold smN
    omega
theorem allN_pos {r : Int → Int} (_ho : rowOK r) : 0 ≤ allN r 2 := smN_pos (fun i => (barN_bd r i).1) _
abbrev parP (r : Int → Int) (a n : Int) : Prop := ivM r n = a ∧ ivM r (n - 1) = a ∧ ¬ r n = r (n - 1)
def parN (r : Int → Int) (a : Int) : Nat → Int
  | 0 => 0
  | n + 1 => gor (parN r a n) (if parP r a (n + 1) then gshl 1 (n + 1) else 0)
set_option maxHeartbeats 2000000 in
theorem par_step {sh : gS} {g : gM} (hx : gFix sh) (hf : gFin g) (a : Int) (ha : 0 ≤ a ∧ a ≤ 11) (ho : rowOK (g 179)) (acc i : Int) (hi : 1 ≤ i ∧ i ≤ 12) (hlt : i < g 179 41) {Q : gQ} (K : gWP f_Model_parallels 3 0 0 16 [(2, 177), (0, a), (0, gor acc (if parP (g 179) a i then gshl 1 i else 0)), (0, i + 1)] [] sh g Q) : gWP f_Model_parallels 3 0 0 16 [(2, 177), (0, a), (0, acc), (0, i)] [] sh g Q := by
  have hm := ro_many ho
  show gWP f_Model_parallels _ _ _ 16 [(2, 177), (0, a), (0, acc), (0, i)] [] sh g _
  skip
  refine gw_iload_n (gc k_Model_parallels_0 11 rfl) rfl ?_
  refine gw_aload_n (gc k_Model_parallels_0 12 rfl) rfl rfl ?_
  refine gw_cV1 (gc k_Model_parallels_0 13 rfl) y_Model_noteMany ln_Model_112 (c_Model_noteMany hx hf) rfl rfl (gAt hx rfl rfl) rfl rfl ?_
  refine gw_icmp_ge (tgt := 49) (gc k_Model_parallels_0 14 rfl) rfl (by omega) (fun c21 => ?_) (fun c21 => ?_)
  · exact absurd c21 (by omega)
  · refine gw_iload_n (gc k_Model_parallels_0 15 rfl) rfl ?_
    refine gw_aload_n (gc k_Model_parallels_0 16 rfl) rfl rfl ?_
    refine gw_iload_n (gc k_Model_parallels_0 17 rfl) rfl ?_
    refine gw_iload_n (gc k_Model_parallels_0 18 rfl) rfl ?_
    refine gw_cV1 (gc k_Model_parallels_0 19 rfl) y_Model_isParallel ln_Model_416 (c_Model_isParallel hx hf i a (by omega) (by omega) ho) rfl rfl (gAt hx rfl rfl) rfl rfl ?_
    refine gw_beq (tgt := 40) (gc k_Model_parallels_0 20 rfl) rfl (fun c31 => ?_) (fun c31 => ?_)
    · rw [if_neg (show ¬ parP (g 179) a i from c31)] at K
      refine gw_iconst (gc k_Model_parallels_0 25 rfl) ?_
      refine gw_ior (gc k_Model_parallels_0 26 rfl) ?_
      refine gw_istore_2 (gc k_Model_parallels_0 27 rfl) rfl rfl ?_
      refine gw_iinc_3 (gc k_Model_parallels_0 28 rfl) rfl rfl ?_
      refine gw_goto (tgt := 16) (gc k_Model_parallels_0 29 rfl) rfl ?_
      exact K
    · rw [if_pos (show parP (g 179) a i from c31)] at K
      refine gw_iconst (gc k_Model_parallels_0 21 rfl) ?_
      refine gw_iload_n (gc k_Model_parallels_0 22 rfl) rfl ?_
      refine gw_ishl (gc k_Model_parallels_0 23 rfl) ?_
      refine gw_goto (tgt := 41) (gc k_Model_parallels_0 24 rfl) rfl ?_
      refine gw_ior (gc k_Model_parallels_0 26 rfl) ?_
      refine gw_istore_2 (gc k_Model_parallels_0 27 rfl) rfl rfl ?_
      refine gw_iinc_3 (gc k_Model_parallels_0 28 rfl) rfl rfl ?_
      refine gw_goto (tgt := 16) (gc k_Model_parallels_0 29 rfl) rfl ?_
      exact K
set_option maxHeartbeats 2000000 in
theorem par_exit {sh : gS} {g : gM} (hx : gFix sh) (hf : gFin g) (a : Int) (ha : 0 ≤ a ∧ a ≤ 11) (ho : rowOK (g 179)) (acc i : Int) (hi : 1 ≤ i ∧ i ≤ 12) (hlt : ¬ i < g 179 41) : gWP f_Model_parallels 3 0 0 16 [(2, 177), (0, a), (0, acc), (0, i)] [] sh g (gR (some (0, acc)) sh g) := by
  have hm := ro_many ho
  show gWP f_Model_parallels _ _ _ 16 [(2, 177), (0, a), (0, acc), (0, i)] [] sh g _
  refine gw_iload_n (gc k_Model_parallels_0 11 rfl) rfl ?_
  refine gw_aload_n (gc k_Model_parallels_0 12 rfl) rfl rfl ?_
  refine gw_cV1 (gc k_Model_parallels_0 13 rfl) y_Model_noteMany ln_Model_112 (c_Model_noteMany hx hf) rfl rfl (gAt hx rfl rfl) rfl rfl ?_
  refine gw_icmp_ge (tgt := 49) (gc k_Model_parallels_0 14 rfl) rfl (by omega) (fun c21 => ?_) (fun c21 => ?_)
  · refine gw_iload_n (gc k_Model_parallels_0 30 rfl) rfl ?_
    refine gw_ireturn (gc k_Model_parallels_0 31 rfl) rfl ?_
    exact ⟨rfl, rfl, rfl⟩
  · exact absurd c21 (by omega)
def parR (r : Int → Int) (a : Int) : Int := if 0 ≤ a ∧ a ≤ 11 then parN r a (r 41 - 1).toNat else -1
theorem par_loop {sh : gS} {g : gM} (hx : gFix sh) (hf : gFin g) (a : Int) (ha : 0 ≤ a ∧ a ≤ 11) (ho : rowOK (g 179)) : ∀ (m i : Nat), i + m = (g 179 41 - 1).toNat → gWP f_Model_parallels 3 0 0 16 [(2, 177), (0, a), (0, parN (g 179) a i), (0, (i : Int) + 1)] [] sh g (gR (some (0, parN (g 179) a (g 179 41 - 1).toNat)) sh g)
  | 0, i, e => by
    have hm := ro_many ho
    rw [show (g 179 41 - 1).toNat = i by omega]
    exact par_exit hx hf a ha ho _ _ (by omega) (by omega)
  | m + 1, i, e => by
    have hm := ro_many ho
    exact par_step hx hf a ha ho _ _ (by omega) (by omega) (par_loop hx hf a ha ho m (i + 1) (by omega))
set_option maxHeartbeats 1000000 in
theorem c_Model_parallels {sh : gS} {g : gM} (hx : gFix sh) (hf : gFin g) (a : Int) (hb : -2147483648 ≤ a ∧ a ≤ 2147483647) (ho : rowOK (g 179)) : gTri f_Model_parallels 3 0 0 [(2, 177), (0, a)] sh g (gR (some (0, parR (g 179) a)) sh g) := by
  refine gTri.of (by decide +kernel) rfl ?_
  show gWP f_Model_parallels _ _ _ 0 [(2, 177), (0, a), (9, 0), (9, 0)] [] sh g _
  refine gw_iload_n (gc k_Model_parallels_0 0 rfl) rfl ?_
  refine gw_iconst (gc k_Model_parallels_0 1 rfl) ?_
  refine gw_bipush (gc k_Model_parallels_0 2 rfl) (by decide) ?_
  refine gw_cS1 (gc k_Model_parallels_0 3 rfl) y_Model_lies ln_Model_18 (c_Model_lies _ _ _ (by omega)) rfl rfl rfl rfl ?_
  refine gw_bne (tgt := 12) (gc k_Model_parallels_0 4 rfl) rfl (fun c7 => ?_) (fun c7 => ?_)
  · refine gw_iconst (gc k_Model_parallels_0 7 rfl) ?_
    refine gw_istore_2 (gc k_Model_parallels_0 8 rfl) rfl rfl ?_
    refine gw_iconst (gc k_Model_parallels_0 9 rfl) ?_
    refine gw_istore_3 (gc k_Model_parallels_0 10 rfl) rfl rfl ?_
    unfold parR
    rw [if_pos c7]
    exact par_loop hx hf a c7 ho _ 0 (Nat.zero_add _)
  · refine gw_iconst (gc k_Model_parallels_0 5 rfl) ?_
    refine gw_ireturn (gc k_Model_parallels_0 6 rfl) rfl ?_
    exact ⟨by unfold parR; rw [if_neg c7], rfl, rfl⟩
set_option maxHeartbeats 1000000 in
theorem c_Model_passesKept {sh : gS} {g : gM} (hx : gFix sh) (hf : gFin g) (ho : rowOK (g 179)) (hl : lawsOK (g 179)) (hu : 0 ≤ g 177 33 ∧ g 177 33 ≤ 16) : gTri f_Model_passesKept 45 0 0 [(2, 177)] sh g (fun r s2 g2 => s2 = sh ∧ ((g 179 24 = 999 ∧ r = some (0, -3) ∧ g2 = g) ∨ (¬ g 179 24 = 999 ∧ r = some (0, allN (g 179) 2) ∧ ∃ g1, gSk g g1 ∧ g2 = gup (keepM g1 3) 179 24 (g 179 24 + 1)))) := by
  have hm := ro_day ho
  refine gTri.of (by decide +kernel) rfl ?_
  show gWP f_Model_passesKept _ _ _ 0 [(2, 177), (9, 0)] [] sh g _
  refine gw_aload_n (gc k_Model_passesKept_0 0 rfl) rfl rfl ?_
  refine gw_getref (gc k_Model_passesKept_0 1 rfl) fl_Model_28 (gAt hx rfl rfl) (gRf hf rfl rfl) ?_
  refine gw_bipush (gc k_Model_passesKept_0 2 rfl) (by decide) ?_
  refine gw_iald (gc k_Model_passesKept_0 3 rfl) (gAt hx rfl rfl) (by omega) ?_
  refine gw_sipush (gc k_Model_passesKept_0 4 rfl) (by decide) ?_
  refine gw_icmp_ne (tgt := 16) (gc k_Model_passesKept_0 5 rfl) rfl (by omega) (fun c10 => ?_) (fun c10 => ?_)
  · refine gw_aload_n (gc k_Model_passesKept_0 8 rfl) rfl rfl ?_
    refine gw_iconst (gc k_Model_passesKept_0 9 rfl) ?_
    refine gw_xV1 (gc k_Model_passesKept_0 10 rfl) y_Model_allOf ln_Model_332 (c_Model_allOf hx hf 2 (by omega) ho hl) rfl rfl (gAt hx rfl rfl) rfl rfl (fun r18 sh2 g18 hq18 => ?_)
    obtain ⟨rfl, rfl, hq⟩ := hq18
    have hf := hf.sk hq
    refine gw_istore_1 (gc k_Model_passesKept_0 11 rfl) rfl rfl ?_
    refine gw_aload_n (gc k_Model_passesKept_0 12 rfl) rfl rfl ?_
    refine gw_iconst (gc k_Model_passesKept_0 13 rfl) ?_
    refine gw_cV0 (gc k_Model_passesKept_0 14 rfl) y_Model_keeps ln_Model_335 (c_Model_keeps hx hf 3 (by rw [hq.fl (by decide)]; exact hu)) rfl rfl (gAt hx rfl rfl) rfl rfl ?_
    have hf := hf.keep 3
    have e24 : keepM g18 3 179 24 = g 179 24 := by
      rw [show keepM g18 3 179 = g18 179 from keepM_179 _ _, hq.fn (by decide) (by decide)]
    refine gw_aload_n (gc k_Model_passesKept_0 15 rfl) rfl rfl ?_
    refine gw_getref (gc k_Model_passesKept_0 16 rfl) fl_Model_28 (gAt hx rfl rfl) (gRf hf rfl rfl) ?_
    refine gw_bipush (gc k_Model_passesKept_0 17 rfl) (by decide) ?_
    refine gw_dup2 (gc k_Model_passesKept_0 18 rfl) rfl ?_
    refine gw_iald (gc k_Model_passesKept_0 19 rfl) (gAt hx rfl rfl) (by omega) ?_
    rw [e24]
    refine gw_iconst (gc k_Model_passesKept_0 20 rfl) ?_
    refine gw_iadd (gc k_Model_passesKept_0 21 rfl) ?_
    refine gw_iastF (gc k_Model_passesKept_0 22 rfl) (gAt hx rfl rfl) (by omega) hf rfl (fun hf => ?_)
    refine gw_iload_n (gc k_Model_passesKept_0 23 rfl) rfl ?_
    refine gw_ireturn (gc k_Model_passesKept_0 24 rfl) rfl ?_
    exact ⟨rfl, Or.inr ⟨by omega, rfl, _, hq, rfl⟩⟩
  · refine gw_bipush (gc k_Model_passesKept_0 6 rfl) (by decide) ?_
    refine gw_ireturn (gc k_Model_passesKept_0 7 rfl) rfl ?_
    exact ⟨rfl, Or.inl ⟨by omega, rfl, rfl⟩⟩
set_option maxHeartbeats 1000000 in
theorem c_Model_pass {sh : gS} {g : gM} (hx : gFix sh) (hf : gFin g) (ho : rowOK (g 179)) (hl : lawsOK (g 179)) (hu : 0 ≤ g 177 33 ∧ g 177 33 ≤ 16) : gTri f_Model_pass 46 0 0 [(2, 177)] sh g (fun r s2 g2 => s2 = sh ∧ ((g 179 24 = 999 ∧ r = some (0, -3) ∧ g2 = refM g (-3)) ∨ (¬ g 179 24 = 999 ∧ r = some (0, allN (g 179) 2) ∧ ∃ g1, gSk g g1 ∧ g2 = goodM (gup (keepM g1 3) 179 24 (g 179 24 + 1))))) := by
  refine gTri.of (by decide +kernel) rfl ?_
  show gWP f_Model_pass _ _ _ 0 [(2, 177)] [] sh g _
  refine gw_aload_n (gc k_Model_pass_0 0 rfl) rfl rfl ?_
  refine gw_aload_n (gc k_Model_pass_0 1 rfl) rfl rfl ?_
  refine gw_xV1 (gc k_Model_pass_0 2 rfl) y_Model_passesKept ln_Model_351 (c_Model_passesKept hx hf ho hl hu) rfl rfl (gAt hx rfl rfl) rfl rfl (fun r2 sh2 g2 hq2 => ?_)
  obtain ⟨rfl, ⟨h9, rfl, rfl⟩ | ⟨h9, rfl, g1, hs, rfl⟩⟩ := hq2
  · refine gw_cV1 (gc k_Model_pass_0 3 rfl) y_Model_goodOr ln_Model_345 (c_Model_goodOr hx hf (-3) (by omega)) rfl rfl (gAt hx rfl rfl) rfl rfl ?_
    refine gw_ireturn (gc k_Model_pass_0 4 rfl) rfl ?_
    exact ⟨rfl, Or.inl ⟨h9, rfl, rfl⟩⟩
  · have hp := allN_pos ho
    have hp2 := allN_bd ho 2
    have hf1 : gFin (gup (keepM g1 3) 179 24 (g 179 24 + 1)) := ((hf.sk hs).keep 3).up rfl
    refine gw_cV1 (gc k_Model_pass_0 3 rfl) y_Model_goodOr ln_Model_345 (c_Model_goodOr hx hf1 _ (by omega)) rfl rfl (gAt hx rfl rfl) rfl rfl ?_
    refine gw_ireturn (gc k_Model_pass_0 4 rfl) rfl ?_
    exact ⟨rfl, Or.inr ⟨h9, rfl, g1, hs, if_neg (by omega)⟩⟩
