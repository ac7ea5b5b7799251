theorem back_end {r : Int → Int} {n p : Int} {g g4 : gM} (ho : rowOK r) (hn : 0 ≤ n ∧ n < r 41) (hr : g 179 = r) (hv : vLaid (rSh r n p) g4) (hV : gVo (gup g 179 (12 + n) p) g4) : gVo g (gup g4 179 (12 + n) (g 179 (12 + n))) ∧ vLdX r n (gup g4 179 (12 + n) (g 179 (12 + n))) := by
  have hm := ro_many ho
  have hfo := ro_force ho
  refine ⟨fun a k h1 h2 => ?_, ?_, fun m a q b1 b2 z2 z1 b3 b4 b5 b6 => ?_⟩
  · by_cases z : a = 179 ∧ k = 12 + n
    · rw [z.1, z.2, gup_s]
    · have e : ∀ (G : gM) (v : Int), gup G 179 (12 + n) v a k = G a k := fun G v => by
        by_cases z1 : a = 179
        · rw [z1]; exact gup_k _ _ _ _ (fun z2 => z ⟨z1, z2⟩)
        · exact gup_a _ _ _ _ _ z1
      rw [e, hV a k h1 h2, e]
  · funext y
    rw [hr]
    by_cases z : y = 12 + n
    · rw [z, gup_s]
    · rw [gup_k _ _ _ _ z, hv.1, rSh_k _ _ _ z]
  · rw [gup_fn _ _ _ _ (by decide), gup_fn _ _ _ _ (by decide), gup_fn _ _ _ _ (by decide)]
    have q2 := v_eq (rSh_law r (n := n) (by omega) p) (rSh_k _ _ _ (by omega)) (by omega) (rSh_ask r (by omega) (by omega) z2 z1 p) a q
    have q3 := hv.2 m a q b1 (by rw [rSh_k _ _ _ (by omega)]; exact b2) b3 b4 b5 b6
    rw [q2.1, q2.2.1, q2.2.2] at q3
    exact q3
theorem gVo.rw {r : Int → Int} {g g2 : gM} (h : gVo g g2) : g2 179 = g 179 := h.fn (by decide) (by omega)
/-- another law in force -/
def rFo (r : Int → Int) (v : Int) : Int → Int := fun y => if y = 44 then v else r y
theorem rFo_k (r : Int → Int) (v : Int) {y : Int} (h : y ≠ 44) : rFo r v y = r y := if_neg h
theorem rFo_s (r : Int → Int) (v : Int) : rFo r v 44 = v := rfl
theorem rFo_ok {r : Int → Int} (h : rowOK r) {v : Int} (hv : -1 ≤ v ∧ v ≤ r 43 - 1) : rowOK (rFo r v) := by
  obtain ⟨h1, h2, h3, h4, h5, h6, h7, h8, h9, h10, h11, h12, h13, h14⟩ := h
  have k : ∀ y, y ≠ 44 → rFo r v y = r y := fun y hy => rFo_k _ _ hy
  refine ⟨by rw [k _ (by omega)]; exact h1, fun i a b => by rw [k _ (by omega)]; exact h2 i a b, by rw [k _ (by omega)]; exact h3, by rw [k _ (by omega)]; exact h4, by rw [k _ (by omega)]; exact h5, by rw [k _ (by omega)]; exact h6, by rw [k _ (by omega)]; exact h7, by rw [k _ (by omega)]; exact h8, by rw [k _ (by omega)]; exact h9, by rw [rFo_s, k 43 (by omega)]; omega, fun j a b => by rw [k _ (by omega), k _ (by omega)]; exact h11 j a b, fun i a b => by rw [k _ (by omega)]; exact h12 i a b, fun i a b => by rw [k _ (by omega)]; exact h13 i a b, fun i a b => by rw [k _ (by omega)]; exact h14 i a b⟩
theorem rFo_laws {r : Int → Int} (h : lawsOK r) (v : Int) : lawsOK (rFo r v) := lawsOK_eq (fun y hy => rFo_k _ _ (by omega)) (rFo_k _ _ (by omega)) h
theorem rFo_up (g : gM) (v : Int) : gup g 179 44 v 179 = rFo (g 179) v := by
  funext y
  unfold gup rFo
  rw [if_pos rfl]
theorem fo_back {g g2 : gM} {v : Int} (h : gVo (gup g 179 44 v) g2) : gVo g (gup g2 179 44 (g 179 44)) := fun a k h1 h2 => by
  by_cases z : a = 179 ∧ k = 44
  · rw [z.1, z.2, gup_s]
  · have e : ∀ (G : gM) (v : Int), gup G 179 44 v a k = G a k := fun G v => by
      by_cases z1 : a = 179
      · rw [z1]; exact gup_k _ _ _ _ (fun z2 => z ⟨z1, z2⟩)
      · exact gup_a _ _ _ _ _ z1
    rw [e, h a k h1 h2, e]
def cmR (r : Int → Int) (law : Int) : Int := if -1 ≤ law ∧ law ≤ r 43 - 1 then voR (rFo r law) 0 (-1) else -1
set_option maxHeartbeats 1000000 in
theorem c_Model_leastShifted {sh : gS} {g : gM} (hx : gFix sh) (hf : gFin g) (n p : Int) (hn : 0 ≤ n ∧ n < g 179 41) (hp : 0 ≤ p ∧ p ≤ 24) (ho : rowOK (g 179)) (hl : lawsOK (g 179)) (hX : vLdX (g 179) n g) : gTri f_Model_leastShifted 45 0 0 [(2, 177), (0, n), (0, p)] sh g (fun x s2 g2 => x = some (0, loF (rSh (g 179) n p) 0) ∧ s2 = sh ∧ gVo g g2 ∧ vLdX (g 179) n g2) := by
  have hm := ro_many ho
  have hok := rSh_ok ho (n := n) (p := p) (by omega) hp
  have hlk := rSh_laws hl (n := n) (by omega) p
  have e41 : rSh (g 179) n p 41 = g 179 41 := rSh_k _ _ _ (by omega)
  refine gTri.of (by decide +kernel) rfl ?_
  show gWP f_Model_leastShifted _ _ _ 0 [(2, 177), (0, n), (0, p), (9, 0), (9, 0)] [] sh g _
  refine gw_aload_n (gc k_Model_leastShifted_0 0 rfl) rfl rfl ?_
  refine gw_getref (gc k_Model_leastShifted_0 1 rfl) fl_Model_28 (gAt hx rfl rfl) (gRf hf rfl rfl) ?_
  refine gw_bipush (gc k_Model_leastShifted_0 2 rfl) (by decide) ?_
  refine gw_iload_n (gc k_Model_leastShifted_0 3 rfl) rfl ?_
  refine gw_iadd (gc k_Model_leastShifted_0 4 rfl) ?_
  refine gw_iald (gc k_Model_leastShifted_0 5 rfl) (gAt hx rfl rfl) (by omega) ?_
  refine gw_istore_3 (gc k_Model_leastShifted_0 6 rfl) rfl rfl ?_
  refine gw_aload_n (gc k_Model_leastShifted_0 7 rfl) rfl rfl ?_
  refine gw_getref (gc k_Model_leastShifted_0 8 rfl) fl_Model_28 (gAt hx rfl rfl) (gRf hf rfl rfl) ?_
  refine gw_bipush (gc k_Model_leastShifted_0 9 rfl) (by decide) ?_
  refine gw_iload_n (gc k_Model_leastShifted_0 10 rfl) rfl ?_
  refine gw_iadd (gc k_Model_leastShifted_0 11 rfl) ?_
  refine gw_iload_n (gc k_Model_leastShifted_0 12 rfl) rfl ?_
  refine gw_iastF (gc k_Model_leastShifted_0 13 rfl) (gAt hx rfl rfl) (by omega) hf rfl (fun hf => ?_)
  refine gw_aload_n (gc k_Model_leastShifted_0 14 rfl) rfl rfl ?_
  refine gw_iload_n (gc k_Model_leastShifted_0 15 rfl) rfl ?_
  refine gw_xV1 (gc k_Model_leastShifted_0 16 rfl) y_Model_laysNote ln_Model_357 (c_Model_laysNote hx hf n (by omega) (by rw [rSh_up]; exact hok) (by rw [rSh_up]; exact hlk)) rfl rfl (gAt hx rfl rfl) rfl rfl (fun r22 sh2 g22 hq22 => ?_)
  obtain ⟨rfl, rfl, hq22⟩ := hq22
  have hf := hq22.fin hf
  have e2 := hq22.row.trans (rSh_up g n p)
  have hV2 := hq22.vo
  refine gw_iload_n (gc k_Model_leastShifted_0 17 rfl) rfl ?_
  refine gw_iconst (gc k_Model_leastShifted_0 18 rfl) ?_
  refine gw_iadd (gc k_Model_leastShifted_0 19 rfl) ?_
  refine gw_aload_n (gc k_Model_leastShifted_0 20 rfl) rfl rfl ?_
  refine gw_cV1 (gc k_Model_leastShifted_0 21 rfl) y_Model_noteMany ln_Model_112 (c_Model_noteMany hx hf) rfl rfl (gAt hx rfl rfl) rfl rfl ?_
  rw [e2, e41]
  refine gw_icmp_ge (tgt := 42) (gc k_Model_leastShifted_0 22 rfl) rfl (by omega) (fun c32 => ?_) (fun c32 => ?_)
  · refine gw_aload_n (gc k_Model_leastShifted_0 28 rfl) rfl rfl ?_
    refine gw_iconst (gc k_Model_leastShifted_0 29 rfl) ?_
    refine gw_xV1 (gc k_Model_leastShifted_0 30 rfl) y_Model_leastOf ln_Model_379 (c_Model_leastOf hx hf hok (by first | exact hX.lay ho hn hq22 (Or.inl ⟨by omega, hq39⟩) | exact hX.lay ho hn hq22 (Or.inr ⟨by omega, rfl⟩)) 0 (Or.inl rfl)) rfl rfl (gAt hx rfl rfl) rfl rfl (fun r44 sh2 g44 hq44 => ?_)
    have hL := (by first | exact hX.lay ho hn hq22 (Or.inl ⟨by omega, hq39⟩) | exact hX.lay ho hn hq22 (Or.inr ⟨by omega, rfl⟩))
    obtain ⟨rfl, rfl, hq44⟩ := hq44
    have hf := hq44.fin hf
    refine gw_istore_4 (gc k_Model_leastShifted_0 31 rfl) rfl rfl ?_
    refine gw_aload_n (gc k_Model_leastShifted_0 32 rfl) rfl rfl ?_
    refine gw_getref (gc k_Model_leastShifted_0 33 rfl) fl_Model_28 (gAt hx rfl rfl) (gRf hf rfl rfl) ?_
    refine gw_bipush (gc k_Model_leastShifted_0 34 rfl) (by decide) ?_
    refine gw_iload_n (gc k_Model_leastShifted_0 35 rfl) rfl ?_
    refine gw_iadd (gc k_Model_leastShifted_0 36 rfl) ?_
    refine gw_iload_n (gc k_Model_leastShifted_0 37 rfl) rfl ?_
    refine gw_iastF (gc k_Model_leastShifted_0 38 rfl) (gAt hx rfl rfl) (by omega) hf rfl (fun hf => ?_)
    refine gw_iload (gc k_Model_leastShifted_0 39 rfl) rfl ?_
    refine gw_ireturn (gc k_Model_leastShifted_1 0 rfl) rfl ?_
    have hB := back_end ho hn rfl (hL.eq hq44.1) (hV2.tr (by first | exact hV3.tr hq44.vo | exact hq44.vo))
    exact ⟨rfl, rfl, hB.1, hB.2⟩
  · refine gw_aload_n (gc k_Model_leastShifted_0 23 rfl) rfl rfl ?_
    refine gw_iload_n (gc k_Model_leastShifted_0 24 rfl) rfl ?_
    refine gw_iconst (gc k_Model_leastShifted_0 25 rfl) ?_
    refine gw_iadd (gc k_Model_leastShifted_0 26 rfl) ?_
    refine gw_xV1 (gc k_Model_leastShifted_0 27 rfl) y_Model_laysNote ln_Model_357 (c_Model_laysNote hx hf (n + 1) (by omega) (by rw [e2]; exact hok) (by rw [e2]; exact hlk)) rfl rfl (gAt hx rfl rfl) rfl rfl (fun r39 sh2 g39 hq39 => ?_)
    obtain ⟨rfl, rfl, hq39⟩ := hq39
    have hf := hq39.fin hf
    have hV3 := hq39.vo
    refine gw_aload_n (gc k_Model_leastShifted_0 28 rfl) rfl rfl ?_
    refine gw_iconst (gc k_Model_leastShifted_0 29 rfl) ?_
    refine gw_xV1 (gc k_Model_leastShifted_0 30 rfl) y_Model_leastOf ln_Model_379 (c_Model_leastOf hx hf hok (by first | exact hX.lay ho hn hq22 (Or.inl ⟨by omega, hq39⟩) | exact hX.lay ho hn hq22 (Or.inr ⟨by omega, rfl⟩)) 0 (Or.inl rfl)) rfl rfl (gAt hx rfl rfl) rfl rfl (fun r44 sh2 g44 hq44 => ?_)
    have hL := (by first | exact hX.lay ho hn hq22 (Or.inl ⟨by omega, hq39⟩) | exact hX.lay ho hn hq22 (Or.inr ⟨by omega, rfl⟩))
    obtain ⟨rfl, rfl, hq44⟩ := hq44
    have hf := hq44.fin hf
    refine gw_istore_4 (gc k_Model_leastShifted_0 31 rfl) rfl rfl ?_
    refine gw_aload_n (gc k_Model_leastShifted_0 32 rfl) rfl rfl ?_
    refine gw_getref (gc k_Model_leastShifted_0 33 rfl) fl_Model_28 (gAt hx rfl rfl) (gRf hf rfl rfl) ?_
    refine gw_bipush (gc k_Model_leastShifted_0 34 rfl) (by decide) ?_
    refine gw_iload_n (gc k_Model_leastShifted_0 35 rfl) rfl ?_
    refine gw_iadd (gc k_Model_leastShifted_0 36 rfl) ?_
    refine gw_iload_n (gc k_Model_leastShifted_0 37 rfl) rfl ?_
    refine gw_iastF (gc k_Model_leastShifted_0 38 rfl) (gAt hx rfl rfl) (by omega) hf rfl (fun hf => ?_)
    refine gw_iload (gc k_Model_leastShifted_0 39 rfl) rfl ?_
    refine gw_ireturn (gc k_Model_leastShifted_1 0 rfl) rfl ?_
    have hB := back_end ho hn rfl (hL.eq hq44.1) (hV2.tr (by first | exact hV3.tr hq44.vo | exact hq44.vo))
    exact ⟨rfl, rfl, hB.1, hB.2⟩
set_option maxHeartbeats 1000000 in
theorem c_Model_cheapest {sh : gS} {g : gM} (hx : gFix sh) (hf : gFin g) (n k : Int) (hb : (-2147483648 ≤ n ∧ n ≤ 2147483647) ∧ (-2147483648 ≤ k ∧ k ≤ 2147483647)) (ho : rowOK (g 179)) (hl : lawsOK (g 179)) : gTri f_Model_cheapest 46 0 0 [(2, 177), (0, n), (0, k)] sh g (fun x s2 g2 => x = some (0, chR (g 179) n k) ∧ s2 = sh ∧ gVo g g2) := by
  have hm := ro_many ho
  have hf0 := hf
  refine gTri.of (by decide +kernel) rfl ?_
  show gWP f_Model_cheapest _ _ _ 0 [(2, 177), (0, n), (0, k), (9, 0), (9, 0), (9, 0), (9, 0)] [] sh g _
  refine gw_aload_n (gc k_Model_cheapest_0 0 rfl) rfl rfl ?_
  refine gw_iload_n (gc k_Model_cheapest_0 1 rfl) rfl ?_
  refine gw_cV1 (gc k_Model_cheapest_0 2 rfl) y_Model_isNote ln_Model_124 (c_Model_isNote hx hf n hb.1 hm) rfl rfl (gAt hx rfl rfl) rfl rfl ?_
  refine gw_beq (tgt := 17) (gc k_Model_cheapest_0 3 rfl) rfl (fun c5 => ?_) (fun c5 => ?_)
  · refine gw_iconst (gc k_Model_cheapest_0 9 rfl) ?_
    refine gw_ireturn (gc k_Model_cheapest_0 10 rfl) rfl ?_
    exact ⟨by unfold chR; rw [if_neg (by omega)], rfl, gVo.rf g⟩
  · refine gw_iload_n (gc k_Model_cheapest_0 4 rfl) rfl ?_
    refine gw_iconst (gc k_Model_cheapest_0 5 rfl) ?_
    refine gw_iconst (gc k_Model_cheapest_0 6 rfl) ?_
    refine gw_cS1 (gc k_Model_cheapest_0 7 rfl) y_Model_lies ln_Model_18 (c_Model_lies k 0 1 (by omega)) rfl rfl rfl rfl ?_
    refine gw_bne (tgt := 19) (gc k_Model_cheapest_0 8 rfl) rfl (fun c14 => ?_) (fun c14 => ?_)
    · refine gw_aload_n (gc k_Model_cheapest_0 11 rfl) rfl rfl ?_
      refine gw_xV1 (gc k_Model_cheapest_0 12 rfl) y_Model_laysNotes ln_Model_376 (c_Model_laysNotes hx hf ho hl) rfl rfl (gAt hx rfl rfl) rfl rfl (fun r20 sh2 g20 hq20 => ?_)
      obtain ⟨rfl, rfl, hq20⟩ := hq20
      refine gw_iconst (gc k_Model_cheapest_0 13 rfl) ?_
      refine gw_istore_3 (gc k_Model_cheapest_0 14 rfl) rfl rfl ?_
      refine gw_ldcw (gc k_Model_cheapest_0 15 rfl) cn_Model_364 ?_
      refine gw_istore_4 (gc k_Model_cheapest_0 16 rfl) rfl rfl ?_
      refine gw_iconst (gc k_Model_cheapest_0 17 rfl) ?_
      refine gw_istore_5 (gc k_Model_cheapest_0 18 rfl) rfl rfl ?_
      refine gwloop (σ := Nat × gV × gM) (fun zs => (zs.1) ≤ 25 ∧ gVo g (zs.2.2) ∧ vLdX (g 179) n (zs.2.2)) (fun zs => 25 - (zs.1)) (fun zs => [(2, 177), (0, n), (0, k), (0, (chF (chT (g 179) n) (zs.1)).1), (0, (chF (chT (g 179) n) (zs.1)).2), (0, ((zs.1) : Int)), (zs.2.1)]) (fun zs => (zs.2.2)) (0, (9, 0), g20) (show (0 : Nat) ≤ 25 ∧ gVo g g20 ∧ vLdX (g 179) n g20 from ⟨by omega, hq20.vo, hq20.laid.x n⟩) rfl rfl (fun zs hI ih => ?_)
      obtain ⟨m, x, g1⟩ := zs
      replace hI : m ≤ 25 ∧ gVo g g1 ∧ vLdX (g 179) n g1 := hI
      obtain ⟨hm25, hV, hX⟩ := hI
      show gWP _ _ _ _ _ [(2, 177), (0, n), (0, k), (0, (chF (chT (g 179) n) m).1), (0, (chF (chT (g 179) n) m).2), (0, (m : Int)), x] [] _ (g1) _
      have hf := hf0.vo hV
      have e1 : g1 179 = g 179 := hX.1
      have hbd := chF_bd (chT_bd (g 179) n) m
      have hbt := chT_bd (g 179) n m
      refine gw_iload (gc k_Model_cheapest_0 19 rfl) rfl ?_
      refine gw_bipush (gc k_Model_cheapest_0 20 rfl) (by decide) ?_
      refine gw_icmp_ge (tgt := 96) (gc k_Model_cheapest_0 21 rfl) rfl (by omega) (fun c37 => ?_) (fun c37 => ?_)
      · refine gw_iload_n (gc k_Model_cheapest_1 10 rfl) rfl ?_
        refine gw_iconst (gc k_Model_cheapest_1 11 rfl) ?_
        refine gw_icmp_eq (tgt := 105) (gc k_Model_cheapest_1 12 rfl) rfl (by omega) (fun c98 => ?_) (fun c98 => ?_)
        · refine gw_iload_n (gc k_Model_cheapest_1 15 rfl) rfl ?_
          refine gw_goto (tgt := 111) (gc k_Model_cheapest_1 16 rfl) rfl ?_
          refine gw_ireturn (gc k_Model_cheapest_1 18 rfl) rfl ?_
          obtain rfl : m = 25 := by omega
          exact ⟨by unfold chR; rw [if_pos (by omega)]; first | rw [if_pos (by omega)] | rw [if_neg (by omega)], rfl, hV⟩
        · refine gw_iload_n (gc k_Model_cheapest_1 13 rfl) rfl ?_
          refine gw_if_ne (tgt := 109) (gc k_Model_cheapest_1 14 rfl) rfl (by omega) (fun c102 => ?_) (fun c102 => ?_)
          · refine gw_iload (gc k_Model_cheapest_1 17 rfl) rfl ?_
            refine gw_ireturn (gc k_Model_cheapest_1 18 rfl) rfl ?_
            obtain rfl : m = 25 := by omega
            exact ⟨by unfold chR; rw [if_pos (by omega)]; first | rw [if_pos (by omega)] | rw [if_neg (by omega)], rfl, hV⟩
          · refine gw_iload_n (gc k_Model_cheapest_1 15 rfl) rfl ?_
            refine gw_goto (tgt := 111) (gc k_Model_cheapest_1 16 rfl) rfl ?_
            refine gw_ireturn (gc k_Model_cheapest_1 18 rfl) rfl ?_
            obtain rfl : m = 25 := by omega
            exact ⟨by unfold chR; rw [if_pos (by omega)]; first | rw [if_pos (by omega)] | rw [if_neg (by omega)], rfl, hV⟩
      · refine gw_iload (gc k_Model_cheapest_0 22 rfl) rfl ?_
        refine gw_aload_n (gc k_Model_cheapest_0 23 rfl) rfl rfl ?_
        refine gw_getref (gc k_Model_cheapest_0 24 rfl) fl_Model_28 (gAt hx rfl rfl) (gRf hf rfl rfl) ?_
        refine gw_bipush (gc k_Model_cheapest_0 25 rfl) (by decide) ?_
        refine gw_iload_n (gc k_Model_cheapest_0 26 rfl) rfl ?_
        refine gw_iadd (gc k_Model_cheapest_0 27 rfl) ?_
        refine gw_iald (gc k_Model_cheapest_0 28 rfl) (gAt hx rfl rfl) (by omega) ?_
        rw [e1]
        refine gw_icmp_ne (tgt := 58) (gc k_Model_cheapest_0 29 rfl) rfl (by have := ro_pitch ho (12 + n) (by omega); omega) (fun c51 => ?_) (fun c51 => ?_)
        · refine gw_aload_n (gc k_Model_cheapest_0 32 rfl) rfl rfl ?_
          refine gw_iload_n (gc k_Model_cheapest_0 33 rfl) rfl ?_
          refine gw_iload (gc k_Model_cheapest_0 34 rfl) rfl ?_
          refine gw_xV1 (gc k_Model_cheapest_0 35 rfl) y_Model_leastShifted ln_Model_407 (c_Model_leastShifted hx hf n m (by rw [e1]; omega) (by omega) (by rw [e1]; exact ho) (by rw [e1]; exact hl) (by rw [e1]; exact hX)) rfl rfl (gAt hx rfl rfl) rfl rfl (fun r62 sh2 g62 hq62 => ?_)
          rw [e1] at hq62
          obtain ⟨rfl, rfl, hq62⟩ := hq62
          have hT : chT (g 179) n m = loF (rSh (g 179) n m) 0 := if_neg (by omega)
          refine gw_istore_6 (gc k_Model_cheapest_0 36 rfl) rfl rfl ?_
          refine gw_iload (gc k_Model_cheapest_0 37 rfl) rfl ?_
          refine gw_iconst (gc k_Model_cheapest_0 38 rfl) ?_
          refine gw_icmp_eq (tgt := 90) (gc k_Model_cheapest_0 39 rfl) rfl (by omega) (fun c70 => ?_) (fun c70 => ?_)
          · refine gw_iinc_5 (gc k_Model_cheapest_1 8 rfl) rfl rfl ?_
            refine gw_goto (tgt := 33) (gc k_Model_cheapest_1 9 rfl) rfl ?_
            refine gWP.eqs ?_ rfl (ih (m + 1, ((0, loF (rSh (g 179) n m) 0) : gV), g62) (show (m + 1) ≤ 25 ∧ gVo g g62 ∧ vLdX (g 179) n g62 from ⟨by omega, hV.tr hq62.1, hq62.2⟩) (show 25 - (m + 1) < 25 - m from by omega))
            show [(2, 177), (0, n), (0, k), (0, (chF (chT (g 179) n) (m + 1)).1), (0, (chF (chT (g 179) n) (m + 1)).2), (0, ((m + 1) : Int)), (((0, loF (rSh (g 179) n m) 0) : gV))] = _
            rw [chF_0 (Or.inl (by omega))] <;> rfl
          · refine gw_iload (gc k_Model_cheapest_1 0 rfl) rfl ?_
            refine gw_iload (gc k_Model_cheapest_1 1 rfl) rfl ?_
            refine gw_icmp_lt (tgt := 83) (gc k_Model_cheapest_1 2 rfl) rfl (by omega) (fun c77 => ?_) (fun c77 => ?_)
            · refine gw_iload (gc k_Model_cheapest_1 4 rfl) rfl ?_
              refine gw_istore_4 (gc k_Model_cheapest_1 5 rfl) rfl rfl ?_
              refine gw_iload (gc k_Model_cheapest_1 6 rfl) rfl ?_
              refine gw_istore_3 (gc k_Model_cheapest_1 7 rfl) rfl rfl ?_
              refine gw_iinc_5 (gc k_Model_cheapest_1 8 rfl) rfl rfl ?_
              refine gw_goto (tgt := 33) (gc k_Model_cheapest_1 9 rfl) rfl ?_
              refine gWP.eqs ?_ rfl (ih (m + 1, ((0, loF (rSh (g 179) n m) 0) : gV), g62) (show (m + 1) ≤ 25 ∧ gVo g g62 ∧ vLdX (g 179) n g62 from ⟨by omega, hV.tr hq62.1, hq62.2⟩) (show 25 - (m + 1) < 25 - m from by omega))
              show [(2, 177), (0, n), (0, k), (0, (chF (chT (g 179) n) (m + 1)).1), (0, (chF (chT (g 179) n) (m + 1)).2), (0, ((m + 1) : Int)), (((0, loF (rSh (g 179) n m) 0) : gV))] = _
              rw [chF_1 (by omega), hT] <;> rfl
            · refine gw_goto (tgt := 90) (gc k_Model_cheapest_1 3 rfl) rfl ?_
              refine gw_iinc_5 (gc k_Model_cheapest_1 8 rfl) rfl rfl ?_
              refine gw_goto (tgt := 33) (gc k_Model_cheapest_1 9 rfl) rfl ?_
              refine gWP.eqs ?_ rfl (ih (m + 1, ((0, loF (rSh (g 179) n m) 0) : gV), g62) (show (m + 1) ≤ 25 ∧ gVo g g62 ∧ vLdX (g 179) n g62 from ⟨by omega, hV.tr hq62.1, hq62.2⟩) (show 25 - (m + 1) < 25 - m from by omega))
              show [(2, 177), (0, n), (0, k), (0, (chF (chT (g 179) n) (m + 1)).1), (0, (chF (chT (g 179) n) (m + 1)).2), (0, ((m + 1) : Int)), (((0, loF (rSh (g 179) n m) 0) : gV))] = _
              rw [chF_0 (Or.inr (by omega))] <;> rfl
        · refine gw_iconst (gc k_Model_cheapest_0 30 rfl) ?_
          refine gw_goto (tgt := 65) (gc k_Model_cheapest_0 31 rfl) rfl ?_
          refine gw_istore_6 (gc k_Model_cheapest_0 36 rfl) rfl rfl ?_
          refine gw_iload (gc k_Model_cheapest_0 37 rfl) rfl ?_
          refine gw_iconst (gc k_Model_cheapest_0 38 rfl) ?_
          refine gw_icmp_eq (tgt := 90) (gc k_Model_cheapest_0 39 rfl) rfl (by omega) (fun c70 => ?_) (fun c70 => ?_)
          · refine gw_iinc_5 (gc k_Model_cheapest_1 8 rfl) rfl rfl ?_
            refine gw_goto (tgt := 33) (gc k_Model_cheapest_1 9 rfl) rfl ?_
            have hT : chT (g 179) n m = -1 := if_pos (by omega)
            refine gWP.eqs ?_ rfl (ih (m + 1, (0, -1), g1) (show (m + 1) ≤ 25 ∧ gVo g g1 ∧ vLdX (g 179) n g1 from ⟨by omega, hV, hX⟩) (show 25 - (m + 1) < 25 - m from by omega))
            show [(2, 177), (0, n), (0, k), (0, (chF (chT (g 179) n) (m + 1)).1), (0, (chF (chT (g 179) n) (m + 1)).2), (0, ((m + 1) : Int)), (((0, -1) : gV))] = _
            rw [chF_0 (Or.inl hT)] <;> rfl
          · refine gw_iload (gc k_Model_cheapest_1 0 rfl) rfl ?_
            refine gw_iload (gc k_Model_cheapest_1 1 rfl) rfl ?_
            refine gw_icmp_lt (tgt := 83) (gc k_Model_cheapest_1 2 rfl) rfl (by omega) (fun c77 => ?_) (fun c77 => ?_)
            · refine gw_iload (gc k_Model_cheapest_1 4 rfl) rfl ?_
              refine gw_istore_4 (gc k_Model_cheapest_1 5 rfl) rfl rfl ?_
              refine gw_iload (gc k_Model_cheapest_1 6 rfl) rfl ?_
              refine gw_istore_3 (gc k_Model_cheapest_1 7 rfl) rfl rfl ?_
              refine gw_iinc_5 (gc k_Model_cheapest_1 8 rfl) rfl rfl ?_
              refine gw_goto (tgt := 33) (gc k_Model_cheapest_1 9 rfl) rfl ?_
              exact absurd rfl c70
            · refine gw_goto (tgt := 90) (gc k_Model_cheapest_1 3 rfl) rfl ?_
              refine gw_iinc_5 (gc k_Model_cheapest_1 8 rfl) rfl rfl ?_
              refine gw_goto (tgt := 33) (gc k_Model_cheapest_1 9 rfl) rfl ?_
              exact absurd rfl c70
    · refine gw_iconst (gc k_Model_cheapest_0 9 rfl) ?_
      refine gw_ireturn (gc k_Model_cheapest_0 10 rfl) rfl ?_
      exact ⟨by unfold chR; rw [if_neg (by omega)], rfl, gVo.rf g⟩
set_option maxHeartbeats 1000000 in
theorem c_Model_compare {sh : gS} {g : gM} (hx : gFix sh) (hf : gFin g) (law : Int) (hb : -2147483648 ≤ law ∧ law ≤ 2147483647) (ho : rowOK (g 179)) (hl : lawsOK (g 179)) : gTri f_Model_compare 47 0 0 [(2, 177), (0, law)] sh g (fun x s2 g2 => x = some (0, cmR (g 179) law) ∧ s2 = sh ∧ gVo g g2) := by
  have hm := ro_told ho
  refine gTri.of (by decide +kernel) rfl ?_
  show gWP f_Model_compare _ _ _ 0 [(2, 177), (0, law), (9, 0), (9, 0)] [] sh g _
  refine gw_aload_n (gc k_Model_compare_0 0 rfl) rfl rfl ?_
  refine gw_iload_n (gc k_Model_compare_0 1 rfl) rfl ?_
  refine gw_cV1 (gc k_Model_compare_0 2 rfl) y_Model_isLaw ln_Model_255 (c_Model_isLaw hx hf law hb hm) rfl rfl (gAt hx rfl rfl) rfl rfl ?_
  refine gw_bne (tgt := 10) (gc k_Model_compare_0 3 rfl) rfl (fun c5 => ?_) (fun c5 => ?_)
  · refine gw_aload_n (gc k_Model_compare_0 6 rfl) rfl rfl ?_
    refine gw_getref (gc k_Model_compare_0 7 rfl) fl_Model_28 (gAt hx rfl rfl) (gRf hf rfl rfl) ?_
    refine gw_bipush (gc k_Model_compare_0 8 rfl) (by decide) ?_
    refine gw_iald (gc k_Model_compare_0 9 rfl) (gAt hx rfl rfl) (by omega) ?_
    refine gw_istore_2 (gc k_Model_compare_0 10 rfl) rfl rfl ?_
    refine gw_aload_n (gc k_Model_compare_0 11 rfl) rfl rfl ?_
    refine gw_getref (gc k_Model_compare_0 12 rfl) fl_Model_28 (gAt hx rfl rfl) (gRf hf rfl rfl) ?_
    refine gw_bipush (gc k_Model_compare_0 13 rfl) (by decide) ?_
    refine gw_iload_n (gc k_Model_compare_0 14 rfl) rfl ?_
    refine gw_iastF (gc k_Model_compare_0 15 rfl) (gAt hx rfl rfl) (by omega) hf rfl (fun hf => ?_)
    refine gw_aload_n (gc k_Model_compare_0 16 rfl) rfl rfl ?_
    refine gw_iconst (gc k_Model_compare_0 17 rfl) ?_
    refine gw_iconst (gc k_Model_compare_0 18 rfl) ?_
    refine gw_xV1 (gc k_Model_compare_0 19 rfl) y_Model_voiceOf ln_Model_387 (c_Model_voiceOf hx hf (-1) 0 (by omega) (Or.inl rfl) (by rw [rFo_up]; exact rFo_ok ho (by omega)) (by rw [rFo_up]; exact rFo_laws hl _)) rfl rfl (gAt hx rfl rfl) rfl rfl (fun r29 sh2 g29 hq29 => ?_)
    rw [rFo_up] at hq29
    obtain ⟨rfl, rfl, hq29⟩ := hq29
    have hf := hf.vo hq29
    refine gw_istore_3 (gc k_Model_compare_0 20 rfl) rfl rfl ?_
    refine gw_aload_n (gc k_Model_compare_0 21 rfl) rfl rfl ?_
    refine gw_getref (gc k_Model_compare_0 22 rfl) fl_Model_28 (gAt hx rfl rfl) (gRf hf rfl rfl) ?_
    refine gw_bipush (gc k_Model_compare_0 23 rfl) (by decide) ?_
    refine gw_iload_n (gc k_Model_compare_0 24 rfl) rfl ?_
    refine gw_iastF (gc k_Model_compare_0 25 rfl) (gAt hx rfl rfl) (by omega) hf rfl (fun hf => ?_)
    refine gw_iload_n (gc k_Model_compare_0 26 rfl) rfl ?_
    refine gw_ireturn (gc k_Model_compare_0 27 rfl) rfl ?_
    exact ⟨by unfold cmR; rw [if_pos (by omega)], rfl, fo_back hq29⟩
  · refine gw_iconst (gc k_Model_compare_0 4 rfl) ?_
    refine gw_ireturn (gc k_Model_compare_0 5 rfl) rfl ?_
    exact ⟨by unfold cmR; rw [if_neg (by omega)], rfl, gVo.rf g⟩
