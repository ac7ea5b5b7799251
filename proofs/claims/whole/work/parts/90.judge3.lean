/-! ===== the judge's questions ===== -/
theorem sgF_0 {r : Int → Int} {n : Int} : ∀ (d m : Nat), soF r n m = 0 → soF r n (m + d) = 0
  | 0, m, h => h
  | d + 1, m, h => by
    have := sgF_0 d m h
    show (if soF r n (m + d) = 1 ∧ _ then (1 : Int) else 0) = 0
    rw [if_neg (fun z => by have := z.1; omega)]
theorem seF_s (f : Int → Int) (m : Nat) (h : f m = 1) : seF f (m + 1) = gor (seF f m) (gshl 1 m) := by
  show gor (seF f m) (if f m = 1 then gshl 1 m else 0) = _
  rw [if_pos h]
theorem seF_n (f : Int → Int) {m : Nat} (hm : m < 12) (h : ¬ f m = 1) : seF f (m + 1) = seF f m := by
  show gor (seF f m) (if f m = 1 then gshl 1 m else 0) = _
  have hb := seF_bd f m (by omega)
  have p2 : 2 ^ m ≤ 2 ^ 12 := Nat.pow_le_pow_right (by decide) (by omega)
  have p3 : (2 ^ 12 : Nat) = 4096 := rfl
  rw [if_neg h, gor_0 (by omega)]
set_option maxHeartbeats 4000000 in
theorem c_Judge_weigh {sh : gS} {g : gM} (hx : gFix sh) (hf : gFin g) {Λ : Int → List PC} {r : Int → Int} {b : Int} (hb : isBd b) (hX : bdX Λ sh r g b) (n k : Int) (hn : 0 ≤ n ∧ n < r 41) (hk : 0 ≤ k ∧ k ≤ 2) : gTri f_Judge_weigh 4 0 0 [(2, 8), (2, b), (0, n), (0, k)] sh g (fun x s2 g2 => x = some (0, jN r (nowW r n) k) ∧ s2 = sh ∧ jgF g g2) := by
  have hbx := hb
  unfold isBd at hbx
  have hnm := hX.nums
  have hpn := hX.note hn
  refine gTri.of (by decide +kernel) rfl ?_
  show gWP f_Judge_weigh _ _ _ 0 [(2, 8), (2, b), (0, n), (0, k)] [] sh g _
  refine gw_aload_n (gc k_Judge_weigh_0 0 rfl) rfl rfl ?_
  refine gw_aload_n (gc k_Judge_weigh_0 1 rfl) rfl rfl ?_
  refine gw_iload_n (gc k_Judge_weigh_0 2 rfl) rfl ?_
  refine gw_iconst (gc k_Judge_weigh_0 3 rfl) ?_
  refine gw_cV0 (gc k_Judge_weigh_0 4 rfl) y_Judge_place ln_Judge_71 (c_Judge_place hx hf hb (n) (0) (by omega) (by omega) (by have := hX.nums.1; omega)) rfl rfl (by first | exact gAt hx rfl rfl | exact (bs hx hb).1 | exact (bs hx hb).2.1 | exact (bs hx hb).2.2.1 | exact (bs hx hb).2.2.2.1 | exact (bs hx hb).2.2.2.2.1 | exact (bs hx hb).2.2.2.2.2.1 | exact (bs hx hb).2.2.2.2.2.2) rfl rfl ?_
  obtain ⟨p4, hp4⟩ : ∃ M, M = plM g b (n) (0) := ⟨_, rfl⟩
  rw [← hp4]
  have jp4 : jgF g p4 := by rw [hp4]; exact plM_jg _ _ _ _
  have hf := jp4.fin hf
  have hXp4 := hX.jg hb jp4
  refine gw_aload_n (gc k_Judge_weigh_0 5 rfl) rfl rfl ?_
  refine gw_aload_n (gc k_Judge_weigh_0 6 rfl) rfl rfl ?_
  refine gw_getref (gc k_Judge_weigh_0 7 rfl) fl_Judge_75 (by first | exact gAt hx rfl rfl | exact (bs hx hb).1 | exact (bs hx hb).2.1 | exact (bs hx hb).2.2.1 | exact (bs hx hb).2.2.2.1 | exact (bs hx hb).2.2.2.2.1 | exact (bs hx hb).2.2.2.2.2.1 | exact (bs hx hb).2.2.2.2.2.2) (by first | exact gRf hf rfl rfl | exact (br hf hb).1 | exact (br hf hb).2.1 | exact (br hf hb).2.2.1 | exact (br hf hb).2.2.2.1 | exact (br hf hb).2.2.2.2.1 | exact (br hf hb).2.2.2.2.2) ?_
  refine gw_iload_n (gc k_Judge_weigh_0 8 rfl) rfl ?_
  refine gw_iald (gc k_Judge_weigh_0 9 rfl) (by first | exact gAt hx rfl rfl | exact (bs hx hb).1 | exact (bs hx hb).2.1 | exact (bs hx hb).2.2.1 | exact (bs hx hb).2.2.2.1 | exact (bs hx hb).2.2.2.2.1 | exact (bs hx hb).2.2.2.2.2.1 | exact (bs hx hb).2.2.2.2.2.2) (by omega) ?_
  rw [(hXp4.note (i := n) (by omega)).2.1]
  refine gw_join0 30 (fun v => v = if 0 < n then r (n - 1) else 0) (fun v14 hv14 => ?_) (fun kj14 => ?_)
  · obtain ⟨v, hv⟩ : ∃ v, v = v14 := ⟨_, rfl⟩
    rw [← hv]
    have hvb : 0 ≤ v ∧ v ≤ 24 := by
      rw [hv, hv14]; split
      · exact (hX.note (i := n - 1) (by omega)).2.2
      · omega
    refine gw_cV0 (gc k_Judge_weigh_0 20 rfl) y_Judge_sound ln_Judge_78 (c_Judge_sound hx hf (r n) (v) (by rw [hp4, pl_82]; exact bi_01 _)) rfl rfl (by first | exact gAt hx rfl rfl | exact (bs hx hb).1 | exact (bs hx hb).2.1 | exact (bs hx hb).2.2.1 | exact (bs hx hb).2.2.2.1 | exact (bs hx hb).2.2.2.2.1 | exact (bs hx hb).2.2.2.2.2.1 | exact (bs hx hb).2.2.2.2.2.2) rfl rfl ?_
    obtain ⟨s4, hs4⟩ : ∃ M, M = soM p4 (r n) (v) := ⟨_, rfl⟩
    rw [← hs4]
    have hj4 : jwI r (n) (r n) (0) (v) s4 := by rw [hs4, hp4]; exact jw_of hb hX (by omega) (by omega) _ _
    have js4 : jgF p4 s4 := by rw [hs4]; exact soM_jg _ _ _
    have hf := js4.fin hf
    have hXs4 := hXp4.jg hb js4
    have hw4 := hj4.bd hX.1.1 (by omega) (by omega) (by omega) (by omega)
    have hl4 := hXs4.law
    refine gw_aload_n (gc k_Judge_weigh_0 21 rfl) rfl rfl ?_
    refine gw_aload_n (gc k_Judge_weigh_0 22 rfl) rfl rfl ?_
    refine gw_aload_n (gc k_Judge_weigh_0 23 rfl) rfl rfl ?_
    refine gw_cV1 (gc k_Judge_weigh_0 24 rfl) y_Board_lawInForce ln_Judge_82 (c_Board_lawInForce hx hf hb (by have := hXs4.nums.2.2.1; omega) (by have := hXs4.nums.2.2.2; omega)) rfl rfl (by first | exact gAt hx rfl rfl | exact (bs hx hb).1 | exact (bs hx hb).2.1 | exact (bs hx hb).2.2.1 | exact (bs hx hb).2.2.2.1 | exact (bs hx hb).2.2.2.2.1 | exact (bs hx hb).2.2.2.2.2.1 | exact (bs hx hb).2.2.2.2.2.2) rfl rfl ?_
    refine gw_iload_n (gc k_Judge_weigh_0 25 rfl) rfl ?_
    refine gw_xV1 (gc k_Judge_weigh_0 26 rfl) y_Judge_told ln_Judge_86 (c_Judge_told hx hf hl4.1 hl4.2.1 (fun y ya yb => by have := hw4 y ya yb; unfold bd9; omega) (k) (by omega)) rfl rfl (by first | exact gAt hx rfl rfl | exact (bs hx hb).1 | exact (bs hx hb).2.1 | exact (bs hx hb).2.2.1 | exact (bs hx hb).2.2.2.1 | exact (bs hx hb).2.2.2.2.1 | exact (bs hx hb).2.2.2.2.2.1 | exact (bs hx hb).2.2.2.2.2.2) rfl rfl (fun r40 sh2 g40 hq40 => ?_)
    obtain ⟨rfl, rfl, jt4⟩ := hq40
    have hf := jt4.fin (Or.inl rfl) hf
    have h54 : g40 11 = s4 11 := jt4.fn (by decide)
    refine gw_iload_n (gc k_Judge_weigh_0 27 rfl) rfl ?_
    refine gw_cV1 (gc k_Judge_weigh_0 28 rfl) y_Judge_orElse ln_Judge_90 (c_Judge_orElse hx hf _ (k) (by have := tl_rg (w := s4 11) (k := k + 1) (topK_nn (k)).1 (Λ (bdF s4 b)); have := topK_nn (k); omega) (by omega) (by rw [h54]; exact hw4 5 (by decide) (by decide))) rfl rfl (by first | exact gAt hx rfl rfl | exact (bs hx hb).1 | exact (bs hx hb).2.1 | exact (bs hx hb).2.2.1 | exact (bs hx hb).2.2.2.1 | exact (bs hx hb).2.2.2.2.1 | exact (bs hx hb).2.2.2.2.2.1 | exact (bs hx hb).2.2.2.2.2.2) rfl rfl ?_
    refine gw_ireturn (gc k_Judge_weigh_0 29 rfl) rfl ?_
    rw [h54]
    exact ⟨by rw [jq_val (W := nowW r n) hl4.2.2.1 hl4.2.2.2 (fun i a c => (hj4 i a c).trans (by rw [hv, hv14]; rfl)) k hk], rfl, (jp4.tr js4).tr jt4.jg⟩
  · refine gw_iload_n (gc k_Judge_weigh_0 10 rfl) rfl ?_
    refine gw_if_le (tgt := 29) (gc k_Judge_weigh_0 11 rfl) rfl (by omega) (fun c15 => ?_) (fun c15 => ?_)
    · refine gw_iconst (gc k_Judge_weigh_0 19 rfl) ?_
      exact kj14 _ ((by first | (rw [if_pos (by omega)]; exact (hXp4.note (i := n - 1) (by omega)).2.1) | rw [if_neg (by omega)]))
    · refine gw_aload_n (gc k_Judge_weigh_0 12 rfl) rfl rfl ?_
      refine gw_getref (gc k_Judge_weigh_0 13 rfl) fl_Judge_75 (by first | exact gAt hx rfl rfl | exact (bs hx hb).1 | exact (bs hx hb).2.1 | exact (bs hx hb).2.2.1 | exact (bs hx hb).2.2.2.1 | exact (bs hx hb).2.2.2.2.1 | exact (bs hx hb).2.2.2.2.2.1 | exact (bs hx hb).2.2.2.2.2.2) (by first | exact gRf hf rfl rfl | exact (br hf hb).1 | exact (br hf hb).2.1 | exact (br hf hb).2.2.1 | exact (br hf hb).2.2.2.1 | exact (br hf hb).2.2.2.2.1 | exact (br hf hb).2.2.2.2.2) ?_
      refine gw_iload_n (gc k_Judge_weigh_0 14 rfl) rfl ?_
      refine gw_iconst (gc k_Judge_weigh_0 15 rfl) ?_
      refine gw_isub (gc k_Judge_weigh_0 16 rfl) ?_
      refine gw_iald (gc k_Judge_weigh_0 17 rfl) (by first | exact gAt hx rfl rfl | exact (bs hx hb).1 | exact (bs hx hb).2.1 | exact (bs hx hb).2.2.1 | exact (bs hx hb).2.2.2.1 | exact (bs hx hb).2.2.2.2.1 | exact (bs hx hb).2.2.2.2.2.1 | exact (bs hx hb).2.2.2.2.2.2) (by omega) ?_
      refine gw_goto (tgt := 30) (gc k_Judge_weigh_0 18 rfl) rfl ?_
      exact kj14 _ ((by first | (rw [if_pos (by omega)]; exact (hXp4.note (i := n - 1) (by omega)).2.1) | rw [if_neg (by omega)]))
set_option maxHeartbeats 4000000 in
theorem c_Judge_total {sh : gS} {g : gM} (hx : gFix sh) (hf : gFin g) {Λ : Int → List PC} {r : Int → Int} {b : Int} (hb : isBd b) (hX : bdX Λ sh r g b) (k : Int) (hk : 0 ≤ k ∧ k ≤ 2) : gTri f_Judge_total 4 0 0 [(2, 8), (2, b), (0, k)] sh g (fun x s2 g2 => x = some (0, allN r k) ∧ s2 = sh ∧ jgF g g2) := by
  have hbx := hb
  unfold isBd at hbx
  have hnm := hX.nums
  refine gTri.of (by decide +kernel) rfl ?_
  show gWP f_Judge_total _ _ _ 0 [(2, 8), (2, b), (0, k), (9, 0), (9, 0), (9, 0)] [] sh g _
  refine gw_aload_n (gc k_Judge_total_0 0 rfl) rfl rfl ?_
  refine gw_cV1 (gc k_Judge_total_0 1 rfl) y_Board_lawInForce ln_Judge_82 (c_Board_lawInForce hx hf hb (by omega) (by omega)) rfl rfl (by first | exact gAt hx rfl rfl | exact (bs hx hb).1 | exact (bs hx hb).2.1 | exact (bs hx hb).2.2.1 | exact (bs hx hb).2.2.2.1 | exact (bs hx hb).2.2.2.2.1 | exact (bs hx hb).2.2.2.2.2.1 | exact (bs hx hb).2.2.2.2.2.2) rfl rfl ?_
  refine gw_astore_3 (gc k_Judge_total_0 2 rfl) rfl rfl rfl ?_
  refine gw_iconst (gc k_Judge_total_0 3 rfl) ?_
  refine gw_istore_4 (gc k_Judge_total_0 4 rfl) rfl rfl ?_
  refine gw_iconst (gc k_Judge_total_0 5 rfl) ?_
  refine gw_istore_5 (gc k_Judge_total_0 6 rfl) rfl rfl ?_
  refine gwloop (σ := Int × gM) (fun zs => (0 ≤ (zs.1) ∧ (zs.1) ≤ r 41) ∧ jgF g (zs.2)) (fun zs => (r 41 - (zs.1)).toNat) (fun zs => [(2, 8), (2, b), (0, k), (2, bdF g b), (0, smN (allV r k) (zs.1).toNat), (0, (zs.1))]) (fun zs => (zs.2)) (0, g) (show (0 ≤ (0 : Int) ∧ (0 : Int) ≤ r 41) ∧ jgF g g from ⟨⟨by omega, by omega⟩, jgF.rf g⟩) rfl rfl (fun zs hI ih => ?_)
  obtain ⟨i, g1⟩ := zs
  replace hI : (0 ≤ i ∧ i ≤ r 41) ∧ jgF g g1 := hI
  obtain ⟨hi, hF⟩ := hI
  show gWP _ _ _ _ _ [(2, 8), (2, b), (0, k), (2, bdF g b), (0, smN (allV r k) i.toNat), (0, i)] [] _ (g1) _
  have hf := hF.fin hf
  have hX1 := hX.jg hb hF
  have hnm1 := hX1.nums
  have hb0 : bdF g1 b = bdF g b := by unfold bdF; rw [hnm.2.2.2.1, hnm1.2.2.2.1, hnm.2.2.1.1, hnm1.2.2.1.1, hF (b + 6) _ (by omega) (by omega) (by omega)]
  refine gw_iload (gc k_Judge_total_0 7 rfl) rfl ?_
  refine gw_aload_n (gc k_Judge_total_0 8 rfl) rfl rfl ?_
  refine gw_getf 0 rfl (gc k_Judge_total_0 9 rfl) fl_Judge_35 (by first | exact gAt hx rfl rfl | exact (bs hx hb).1 | exact (bs hx hb).2.1 | exact (bs hx hb).2.2.1 | exact (bs hx hb).2.2.2.1 | exact (bs hx hb).2.2.2.2.1 | exact (bs hx hb).2.2.2.2.2.1 | exact (bs hx hb).2.2.2.2.2.2) ?_
  rw [hnm1.1.1]
  refine gw_icmp_ge (tgt := 79) (gc k_Judge_total_0 10 rfl) rfl (by omega) (fun c17 => ?_) (fun c17 => ?_)
  · refine gw_iload (gc k_Judge_total_1 4 rfl) rfl ?_
    refine gw_ireturn (gc k_Judge_total_1 5 rfl) rfl ?_
    refine ⟨?_, rfl, hF⟩
    obtain rfl : i = r 41 := by omega
    rfl
  · have hpn := hX.note (i := i) (by omega)
    refine gw_aload_n (gc k_Judge_total_0 11 rfl) rfl rfl ?_
    refine gw_aload_n (gc k_Judge_total_0 12 rfl) rfl rfl ?_
    refine gw_iload (gc k_Judge_total_0 13 rfl) rfl ?_
    refine gw_iconst (gc k_Judge_total_0 14 rfl) ?_
    refine gw_cV0 (gc k_Judge_total_0 15 rfl) y_Judge_place ln_Judge_71 (c_Judge_place hx hf hb (i) (0) (by omega) (by omega) (by have := hX1.nums.1; omega)) rfl rfl (by first | exact gAt hx rfl rfl | exact (bs hx hb).1 | exact (bs hx hb).2.1 | exact (bs hx hb).2.2.1 | exact (bs hx hb).2.2.2.1 | exact (bs hx hb).2.2.2.2.1 | exact (bs hx hb).2.2.2.2.2.1 | exact (bs hx hb).2.2.2.2.2.2) rfl rfl ?_
    obtain ⟨p4, hp4⟩ : ∃ M, M = plM g1 b (i) (0) := ⟨_, rfl⟩
    rw [← hp4]
    have jp4 : jgF g1 p4 := by rw [hp4]; exact plM_jg _ _ _ _
    have hf := jp4.fin hf
    have hXp4 := hX1.jg hb jp4
    refine gw_aload_n (gc k_Judge_total_0 16 rfl) rfl rfl ?_
    refine gw_aload_n (gc k_Judge_total_0 17 rfl) rfl rfl ?_
    refine gw_getref (gc k_Judge_total_0 18 rfl) fl_Judge_75 (by first | exact gAt hx rfl rfl | exact (bs hx hb).1 | exact (bs hx hb).2.1 | exact (bs hx hb).2.2.1 | exact (bs hx hb).2.2.2.1 | exact (bs hx hb).2.2.2.2.1 | exact (bs hx hb).2.2.2.2.2.1 | exact (bs hx hb).2.2.2.2.2.2) (by first | exact gRf hf rfl rfl | exact (br hf hb).1 | exact (br hf hb).2.1 | exact (br hf hb).2.2.1 | exact (br hf hb).2.2.2.1 | exact (br hf hb).2.2.2.2.1 | exact (br hf hb).2.2.2.2.2) ?_
    refine gw_iload (gc k_Judge_total_0 19 rfl) rfl ?_
    refine gw_iald (gc k_Judge_total_0 20 rfl) (by first | exact gAt hx rfl rfl | exact (bs hx hb).1 | exact (bs hx hb).2.1 | exact (bs hx hb).2.2.1 | exact (bs hx hb).2.2.2.1 | exact (bs hx hb).2.2.2.2.1 | exact (bs hx hb).2.2.2.2.2.1 | exact (bs hx hb).2.2.2.2.2.2) (by omega) ?_
    rw [(hXp4.note (i := i) (by omega)).2.1]
    refine gw_join0 54 (fun v => v = if 0 < i then r (i - 1) else 0) (fun v36 hv36 => ?_) (fun kj36 => ?_)
    · obtain ⟨v, hv⟩ : ∃ v, v = v36 := ⟨_, rfl⟩
      rw [← hv]
      have hvb : 0 ≤ v ∧ v ≤ 24 := by
        rw [hv, hv36]; split
        · exact (hX.note (i := i - 1) (by omega)).2.2
        · omega
      refine gw_cV0 (gc k_Judge_total_0 31 rfl) y_Judge_sound ln_Judge_78 (c_Judge_sound hx hf (r i) (v) (by rw [hp4, pl_82]; exact bi_01 _)) rfl rfl (by first | exact gAt hx rfl rfl | exact (bs hx hb).1 | exact (bs hx hb).2.1 | exact (bs hx hb).2.2.1 | exact (bs hx hb).2.2.2.1 | exact (bs hx hb).2.2.2.2.1 | exact (bs hx hb).2.2.2.2.2.1 | exact (bs hx hb).2.2.2.2.2.2) rfl rfl ?_
      obtain ⟨s4, hs4⟩ : ∃ M, M = soM p4 (r i) (v) := ⟨_, rfl⟩
      rw [← hs4]
      have hj4 : jwI r (i) (r i) (0) (v) s4 := by rw [hs4, hp4]; exact jw_of hb hX1 (by omega) (by omega) _ _
      have js4 : jgF p4 s4 := by rw [hs4]; exact soM_jg _ _ _
      have hf := js4.fin hf
      have hXs4 := hXp4.jg hb js4
      have hw4 := hj4.bd hX.1.1 (by omega) (by omega) (by omega) (by omega)
      have hl4 := hXs4.law
      have hbs : bdF s4 b = bdF g b := by have hns := hXs4.nums; unfold bdF; rw [hnm.2.2.2.1, hns.2.2.2.1, hnm.2.2.1.1, hns.2.2.1.1, ((hF.tr jp4).tr js4) (b + 6) _ (by omega) (by omega) (by omega)]
      refine gw_iload (gc k_Judge_total_0 32 rfl) rfl ?_
      refine gw_aload_n (gc k_Judge_total_0 33 rfl) rfl rfl ?_
      refine gw_aload_n (gc k_Judge_total_0 34 rfl) rfl rfl ?_
      refine gw_aload_n (gc k_Judge_total_0 35 rfl) rfl rfl ?_
      refine gw_iload_n (gc k_Judge_total_0 36 rfl) rfl ?_
      refine gw_xV1 (gc k_Judge_total_0 37 rfl) y_Judge_told ln_Judge_86 (c_Judge_told hx hf (hbs ▸ hl4.1) (hbs ▸ hl4.2.1) (fun y ya yb => by have := hw4 y ya yb; unfold bd9; omega) k (by omega)) rfl rfl (by first | exact gAt hx rfl rfl | exact (bs hx hb).1 | exact (bs hx hb).2.1 | exact (bs hx hb).2.2.1 | exact (bs hx hb).2.2.2.1 | exact (bs hx hb).2.2.2.2.1 | exact (bs hx hb).2.2.2.2.2.1 | exact (bs hx hb).2.2.2.2.2.2) rfl rfl (fun r63 sh2 g63 hq63 => ?_)
      obtain ⟨rfl, rfl, jt4⟩ := hq63
      have hf := jt4.fin (Or.inl rfl) hf
      have h54 : g63 11 = s4 11 := jt4.fn (by decide)
      rw [hbs] at hl4
      refine gw_iload_n (gc k_Judge_total_0 38 rfl) rfl ?_
      refine gw_cV1 (gc k_Judge_total_0 39 rfl) y_Judge_orElse ln_Judge_90 (c_Judge_orElse hx hf _ (k) (by have := tl_rg (w := s4 11) (k := k + 1) (topK_nn (k)).1 (Λ (bdF g b)); have := topK_nn (k); omega) (by omega) (by rw [h54]; exact hw4 5 (by decide) (by decide))) rfl rfl (by first | exact gAt hx rfl rfl | exact (bs hx hb).1 | exact (bs hx hb).2.1 | exact (bs hx hb).2.2.1 | exact (bs hx hb).2.2.2.1 | exact (bs hx hb).2.2.2.2.1 | exact (bs hx hb).2.2.2.2.2.1 | exact (bs hx hb).2.2.2.2.2.2) rfl rfl ?_
      refine gw_iadd (gc k_Judge_total_1 0 rfl) ?_
      refine gw_istore_4 (gc k_Judge_total_1 1 rfl) rfl rfl ?_
      refine gw_iinc_5 (gc k_Judge_total_1 2 rfl) rfl rfl ?_
      refine gw_goto (tgt := 11) (gc k_Judge_total_1 3 rfl) rfl ?_
      have hnew : (0 ≤ i + 1 ∧ i + 1 ≤ r 41) ∧ jgF g g63 := ⟨by omega, ((hF.tr jp4).tr js4).tr jt4.jg⟩
      rw [h54, jq_val (W := nowW r i) hl4.2.2.1 hl4.2.2.2 (fun j a c => (hj4 j a c).trans (by rw [hv, hv36]; rfl)) k hk, ← allV_j]
      have hs : smN (allV r k) i.toNat + allV r k i = smN (allV r k) (i + 1).toNat := by
        obtain ⟨m, rfl⟩ : ∃ m : Nat, i = m := ⟨i.toNat, by omega⟩
        rw [show ((m : Int) + 1).toNat = m + 1 by omega, Int.toNat_natCast]
        rfl
      rw [hs]
      exact ih (i + 1, g63) hnew (by show (r 41 - (i + 1)).toNat < (r 41 - i).toNat; omega)
    · refine gw_iload (gc k_Judge_total_0 21 rfl) rfl ?_
      refine gw_if_le (tgt := 53) (gc k_Judge_total_0 22 rfl) rfl (by omega) (fun c38 => ?_) (fun c38 => ?_)
      · refine gw_iconst (gc k_Judge_total_0 30 rfl) ?_
        exact kj36 _ ((by first | (rw [if_pos (by omega)]; exact (hXp4.note (i := i - 1) (by omega)).2.1) | rw [if_neg (by omega)]))
      · refine gw_aload_n (gc k_Judge_total_0 23 rfl) rfl rfl ?_
        refine gw_getref (gc k_Judge_total_0 24 rfl) fl_Judge_75 (by first | exact gAt hx rfl rfl | exact (bs hx hb).1 | exact (bs hx hb).2.1 | exact (bs hx hb).2.2.1 | exact (bs hx hb).2.2.2.1 | exact (bs hx hb).2.2.2.2.1 | exact (bs hx hb).2.2.2.2.2.1 | exact (bs hx hb).2.2.2.2.2.2) (by first | exact gRf hf rfl rfl | exact (br hf hb).1 | exact (br hf hb).2.1 | exact (br hf hb).2.2.1 | exact (br hf hb).2.2.2.1 | exact (br hf hb).2.2.2.2.1 | exact (br hf hb).2.2.2.2.2) ?_
        refine gw_iload (gc k_Judge_total_0 25 rfl) rfl ?_
        refine gw_iconst (gc k_Judge_total_0 26 rfl) ?_
        refine gw_isub (gc k_Judge_total_0 27 rfl) ?_
        refine gw_iald (gc k_Judge_total_0 28 rfl) (by first | exact gAt hx rfl rfl | exact (bs hx hb).1 | exact (bs hx hb).2.1 | exact (bs hx hb).2.2.1 | exact (bs hx hb).2.2.2.1 | exact (bs hx hb).2.2.2.2.1 | exact (bs hx hb).2.2.2.2.2.1 | exact (bs hx hb).2.2.2.2.2.2) (by omega) ?_
        refine gw_goto (tgt := 54) (gc k_Judge_total_0 29 rfl) rfl ?_
        exact kj36 _ ((by first | (rw [if_pos (by omega)]; exact (hXp4.note (i := i - 1) (by omega)).2.1) | rw [if_neg (by omega)]))
set_option maxHeartbeats 2000000 in
theorem c_Judge_fact {sh : gS} {g : gM} (hx : gFix sh) (hf : gFin g) {Λ : Int → List PC} {r : Int → Int} {b : Int} (hb : isBd b) (hX : bdX Λ sh r g b) (n f : Int) (hn : 0 ≤ n ∧ n < r 41) (hk : 0 ≤ f ∧ f ≤ 3) : gTri f_Judge_fact 5 0 0 [(2, 8), (2, b), (0, n), (0, f)] sh g (fun x s2 g2 => x = some (0, factN r n f) ∧ s2 = sh ∧ jgF g g2) := by
  have hbx := hb
  unfold isBd at hbx
  have hnm := hX.nums
  have hpn := hX.note hn
  refine gTri.of (by decide +kernel) rfl ?_
  show gWP f_Judge_fact _ _ _ 0 [(2, 8), (2, b), (0, n), (0, f)] [] sh g _
  refine gw_iload_n (gc k_Judge_fact_0 0 rfl) rfl ?_
  refine gw_if_ne (tgt := 18) (gc k_Judge_fact_0 1 rfl) rfl (by omega) (fun c1 => ?_) (fun c1 => ?_)
  · refine gw_iload_n (gc k_Judge_fact_0 12 rfl) rfl ?_
    refine gw_iconst (gc k_Judge_fact_0 13 rfl) ?_
    refine gw_icmp_ne (tgt := 47) (gc k_Judge_fact_0 14 rfl) rfl (by omega) (fun c20 => ?_) (fun c20 => ?_)
    · refine gw_aload_n (gc k_Judge_fact_0 31 rfl) rfl rfl ?_
      refine gw_aload_n (gc k_Judge_fact_0 32 rfl) rfl rfl ?_
      refine gw_iload_n (gc k_Judge_fact_0 33 rfl) rfl ?_
      refine gw_join0 60 (fun v => v = if f = 2 then 0 else 1) (fun v50 hv50 => ?_) (fun kj50 => ?_)
      · have hv50b : 0 ≤ v50 ∧ v50 ≤ 2 := by rw [hv50]; split <;> decide
        refine gw_xV1 (gc k_Judge_fact_1 0 rfl) y_Judge_weigh ln_Judge_93 (c_Judge_weigh hx hf hb hX n v50 hn (by omega)) rfl rfl (by first | exact gAt hx rfl rfl | exact (bs hx hb).1 | exact (bs hx hb).2.1 | exact (bs hx hb).2.2.1 | exact (bs hx hb).2.2.2.1 | exact (bs hx hb).2.2.2.2.1 | exact (bs hx hb).2.2.2.2.2.1 | exact (bs hx hb).2.2.2.2.2.2) rfl rfl (fun r60 sh2 g60 hq60 => ?_)
        obtain ⟨rfl, rfl, hjF⟩ := hq60
        refine gw_ireturn (gc k_Judge_fact_1 1 rfl) rfl ?_
        refine ⟨?_, rfl, hjF⟩
        unfold factN
        rw [if_neg (by omega), if_neg (by omega), hv50]
        by_cases z : f = 2
        · rw [if_pos z, if_pos z]; exact congrArg (fun y => some (0, y)) (allV_j r 0 n).symm
        · rw [if_neg z, if_neg z]; exact congrArg (fun y => some (0, y)) (allV_j r 1 n).symm
      · refine gw_iload_n (gc k_Judge_fact_0 34 rfl) rfl ?_
        refine gw_iconst (gc k_Judge_fact_0 35 rfl) ?_
        refine gw_icmp_ne (tgt := 59) (gc k_Judge_fact_0 36 rfl) rfl (by omega) (fun c52 => ?_) (fun c52 => ?_)
        · refine gw_iconst (gc k_Judge_fact_0 39 rfl) ?_
          exact kj50 _ ((by first | rw [if_pos (by omega)] | rw [if_neg (by omega)]))
        · refine gw_iconst (gc k_Judge_fact_0 37 rfl) ?_
          refine gw_goto (tgt := 60) (gc k_Judge_fact_0 38 rfl) rfl ?_
          exact kj50 _ ((by first | rw [if_pos (by omega)] | rw [if_neg (by omega)]))
    · refine gw_iload_n (gc k_Judge_fact_0 15 rfl) rfl ?_
      refine gw_if_le (tgt := 45) (gc k_Judge_fact_0 16 rfl) rfl (by omega) (fun c24 => ?_) (fun c24 => ?_)
      · refine gw_iconst (gc k_Judge_fact_0 29 rfl) ?_
        refine gw_ireturn (gc k_Judge_fact_0 30 rfl) rfl ?_
        refine ⟨?_, rfl, jgF.rf g⟩
        unfold factN leapN
        rw [if_neg (by omega), if_pos (by omega)]
        rw [if_neg (by omega)]
      · refine gw_aload_n (gc k_Judge_fact_0 17 rfl) rfl rfl ?_
        refine gw_getref (gc k_Judge_fact_0 18 rfl) fl_Judge_75 (by first | exact gAt hx rfl rfl | exact (bs hx hb).1 | exact (bs hx hb).2.1 | exact (bs hx hb).2.2.1 | exact (bs hx hb).2.2.2.1 | exact (bs hx hb).2.2.2.2.1 | exact (bs hx hb).2.2.2.2.2.1 | exact (bs hx hb).2.2.2.2.2.2) (by first | exact gRf hf rfl rfl | exact (br hf hb).1 | exact (br hf hb).2.1 | exact (br hf hb).2.2.1 | exact (br hf hb).2.2.2.1 | exact (br hf hb).2.2.2.2.1 | exact (br hf hb).2.2.2.2.2) ?_
        refine gw_iload_n (gc k_Judge_fact_0 19 rfl) rfl ?_
        refine gw_iald (gc k_Judge_fact_0 20 rfl) (by first | exact gAt hx rfl rfl | exact (bs hx hb).1 | exact (bs hx hb).2.1 | exact (bs hx hb).2.2.1 | exact (bs hx hb).2.2.2.1 | exact (bs hx hb).2.2.2.2.1 | exact (bs hx hb).2.2.2.2.2.1 | exact (bs hx hb).2.2.2.2.2.2) (by omega) ?_
        refine gw_aload_n (gc k_Judge_fact_0 21 rfl) rfl rfl ?_
        refine gw_getref (gc k_Judge_fact_0 22 rfl) fl_Judge_75 (by first | exact gAt hx rfl rfl | exact (bs hx hb).1 | exact (bs hx hb).2.1 | exact (bs hx hb).2.2.1 | exact (bs hx hb).2.2.2.1 | exact (bs hx hb).2.2.2.2.1 | exact (bs hx hb).2.2.2.2.2.1 | exact (bs hx hb).2.2.2.2.2.2) (by first | exact gRf hf rfl rfl | exact (br hf hb).1 | exact (br hf hb).2.1 | exact (br hf hb).2.2.1 | exact (br hf hb).2.2.2.1 | exact (br hf hb).2.2.2.2.1 | exact (br hf hb).2.2.2.2.2) ?_
        refine gw_iload_n (gc k_Judge_fact_0 23 rfl) rfl ?_
        refine gw_iconst (gc k_Judge_fact_0 24 rfl) ?_
        refine gw_isub (gc k_Judge_fact_0 25 rfl) ?_
        refine gw_iald (gc k_Judge_fact_0 26 rfl) (by first | exact gAt hx rfl rfl | exact (bs hx hb).1 | exact (bs hx hb).2.1 | exact (bs hx hb).2.2.1 | exact (bs hx hb).2.2.2.1 | exact (bs hx hb).2.2.2.2.1 | exact (bs hx hb).2.2.2.2.2.1 | exact (bs hx hb).2.2.2.2.2.2) (by omega) ?_
        refine gw_isub (gc k_Judge_fact_0 27 rfl) ?_
        refine gw_goto (tgt := 46) (gc k_Judge_fact_0 28 rfl) rfl ?_
        refine gw_ireturn (gc k_Judge_fact_0 30 rfl) rfl ?_
        refine ⟨?_, rfl, jgF.rf g⟩
        unfold factN leapN
        rw [if_neg (by omega), if_pos (by omega)]
        rw [if_pos (by omega), hpn.2.1, (hX.note (i := n - 1) (by omega)).2.1]
  · refine gw_aload_n (gc k_Judge_fact_0 2 rfl) rfl rfl ?_
    refine gw_getref (gc k_Judge_fact_0 3 rfl) fl_Judge_75 (by first | exact gAt hx rfl rfl | exact (bs hx hb).1 | exact (bs hx hb).2.1 | exact (bs hx hb).2.2.1 | exact (bs hx hb).2.2.2.1 | exact (bs hx hb).2.2.2.2.1 | exact (bs hx hb).2.2.2.2.2.1 | exact (bs hx hb).2.2.2.2.2.2) (by first | exact gRf hf rfl rfl | exact (br hf hb).1 | exact (br hf hb).2.1 | exact (br hf hb).2.2.1 | exact (br hf hb).2.2.2.1 | exact (br hf hb).2.2.2.2.1 | exact (br hf hb).2.2.2.2.2) ?_
    refine gw_iload_n (gc k_Judge_fact_0 4 rfl) rfl ?_
    refine gw_iald (gc k_Judge_fact_0 5 rfl) (by first | exact gAt hx rfl rfl | exact (bs hx hb).1 | exact (bs hx hb).2.1 | exact (bs hx hb).2.2.1 | exact (bs hx hb).2.2.2.1 | exact (bs hx hb).2.2.2.2.1 | exact (bs hx hb).2.2.2.2.2.1 | exact (bs hx hb).2.2.2.2.2.2) (by omega) ?_
    refine gw_aload_n (gc k_Judge_fact_0 6 rfl) rfl rfl ?_
    refine gw_getref (gc k_Judge_fact_0 7 rfl) fl_Judge_26 (by first | exact gAt hx rfl rfl | exact (bs hx hb).1 | exact (bs hx hb).2.1 | exact (bs hx hb).2.2.1 | exact (bs hx hb).2.2.2.1 | exact (bs hx hb).2.2.2.2.1 | exact (bs hx hb).2.2.2.2.2.1 | exact (bs hx hb).2.2.2.2.2.2) (by first | exact gRf hf rfl rfl | exact (br hf hb).1 | exact (br hf hb).2.1 | exact (br hf hb).2.2.1 | exact (br hf hb).2.2.2.1 | exact (br hf hb).2.2.2.2.1 | exact (br hf hb).2.2.2.2.2) ?_
    refine gw_iload_n (gc k_Judge_fact_0 8 rfl) rfl ?_
    refine gw_iald (gc k_Judge_fact_0 9 rfl) (by first | exact gAt hx rfl rfl | exact (bs hx hb).1 | exact (bs hx hb).2.1 | exact (bs hx hb).2.2.1 | exact (bs hx hb).2.2.2.1 | exact (bs hx hb).2.2.2.2.1 | exact (bs hx hb).2.2.2.2.2.1 | exact (bs hx hb).2.2.2.2.2.2) (by omega) ?_
    refine gw_isub (gc k_Judge_fact_0 10 rfl) ?_
    refine gw_ireturn (gc k_Judge_fact_0 11 rfl) rfl ?_
    refine ⟨?_, rfl, jgF.rf g⟩
    unfold factN
    rw [if_pos (by omega), hpn.1.1, hpn.2.1]
set_option maxHeartbeats 4000000 in
theorem c_Judge_candidates {sh : gS} {g : gM} (hx : gFix sh) (hf : gFin g) {Λ : Int → List PC} {r : Int → Int} {b : Int} (hb : isBd b) (hX : bdX Λ sh r g b) : gTri f_Judge_candidates 6 0 0 [(2, 8), (2, b)] sh g (fun x s2 g2 => x = some (0, cbR r) ∧ s2 = sh ∧ jgF g g2) := by
  have hbx := hb
  unfold isBd at hbx
  have hnm := hX.nums
  have hfg := hf
  refine gTri.of (by decide +kernel) rfl ?_
  show gWP f_Judge_candidates _ _ _ 0 [(2, 8), (2, b), (9, 0), (9, 0), (9, 0), (9, 0)] [] sh g _
  refine gw_iconst (gc k_Judge_candidates_0 0 rfl) ?_
  refine gw_istore_2 (gc k_Judge_candidates_0 1 rfl) rfl rfl ?_
  refine gw_iconst (gc k_Judge_candidates_0 2 rfl) ?_
  refine gw_istore_3 (gc k_Judge_candidates_0 3 rfl) rfl rfl ?_
  refine gwloop (σ := Int × gV × gV × gM) (fun zs => (0 ≤ (zs.1) ∧ (zs.1) ≤ r 41) ∧ jgF g (zs.2.2.2)) (fun zs => (r 41 - (zs.1)).toNat) (fun zs => [(2, 8), (2, b), (0, seF (soR r) (zs.1).toNat), (0, (zs.1)), (zs.2.1), (zs.2.2.1)]) (fun zs => (zs.2.2.2)) (0, (9, 0), (9, 0), g) (show (0 ≤ (0 : Int) ∧ (0 : Int) ≤ r 41) ∧ jgF g g from ⟨⟨by omega, by omega⟩, jgF.rf g⟩) rfl rfl (fun zs hI ih => ?_)
  obtain ⟨i, x4, x5, g1⟩ := zs
  replace hI : (0 ≤ i ∧ i ≤ r 41) ∧ jgF g g1 := hI
  obtain ⟨hi, hF⟩ := hI
  show gWP _ _ _ _ _ [(2, 8), (2, b), (0, seF (soR r) i.toNat), (0, i), x4, x5] [] _ (g1) _
  have hf := hF.fin hf
  have hX1 := hX.jg hb hF
  have hnm1 := hX1.nums
  refine gw_iload_n (gc k_Judge_candidates_0 4 rfl) rfl ?_
  refine gw_aload_n (gc k_Judge_candidates_0 5 rfl) rfl rfl ?_
  refine gw_getf 0 rfl (gc k_Judge_candidates_0 6 rfl) fl_Judge_35 (by first | exact gAt hx rfl rfl | exact (bs hx hb).1 | exact (bs hx hb).2.1 | exact (bs hx hb).2.2.1 | exact (bs hx hb).2.2.2.1 | exact (bs hx hb).2.2.2.2.1 | exact (bs hx hb).2.2.2.2.2.1 | exact (bs hx hb).2.2.2.2.2.2) ?_
  rw [hnm1.1.1]
  refine gw_icmp_ge (tgt := 85) (gc k_Judge_candidates_0 7 rfl) rfl (by omega) (fun c9 => ?_) (fun c9 => ?_)
  · refine gw_iload_n (gc k_Judge_candidates_1 7 rfl) rfl ?_
    refine gw_ireturn (gc k_Judge_candidates_1 8 rfl) rfl ?_
    refine ⟨?_, rfl, hF⟩
    obtain rfl : i = r 41 := by omega
    rfl
  · refine gw_iconst (gc k_Judge_candidates_0 8 rfl) ?_
    refine gw_istore_4 (gc k_Judge_candidates_0 9 rfl) rfl rfl ?_
    refine gw_iconst (gc k_Judge_candidates_0 10 rfl) ?_
    refine gw_istore_5 (gc k_Judge_candidates_0 11 rfl) rfl rfl ?_
    refine gwloop (σ := Int × gM) (fun zs => (0 ≤ (zs.1) ∧ (zs.1) ≤ r 42) ∧ jgF g (zs.2)) (fun zs => (r 42 - (zs.1)).toNat) (fun zs => [(2, 8), (2, b), (0, seF (soR r) i.toNat), (0, i), (0, soF r i (zs.1).toNat), (0, (zs.1))]) (fun zs => (zs.2)) (0, g1) (show (0 ≤ (0 : Int) ∧ (0 : Int) ≤ r 42) ∧ jgF g g1 from ⟨⟨by omega, by omega⟩, hF⟩) rfl rfl (fun zs hI ih2 => ?_)
    obtain ⟨k, g2⟩ := zs
    replace hI : (0 ≤ k ∧ k ≤ r 42) ∧ jgF g g2 := hI
    obtain ⟨hk, hF2⟩ := hI
    show gWP _ _ _ _ _ [(2, 8), (2, b), (0, seF (soR r) i.toNat), (0, i), (0, soF r i k.toNat), (0, k)] [] _ (g2) _
    have hf := hF2.fin hfg
    have hX2 := hX.jg hb hF2
    have hnm2 := hX2.nums
    have h01 := soF_01 r i k.toNat
    refine gw_iload (gc k_Judge_candidates_0 12 rfl) rfl ?_
    refine gw_aload_n (gc k_Judge_candidates_0 13 rfl) rfl rfl ?_
    refine gw_getf 4 rfl (gc k_Judge_candidates_0 14 rfl) fl_Judge_97 (by first | exact gAt hx rfl rfl | exact (bs hx hb).1 | exact (bs hx hb).2.1 | exact (bs hx hb).2.2.1 | exact (bs hx hb).2.2.2.1 | exact (bs hx hb).2.2.2.2.1 | exact (bs hx hb).2.2.2.2.2.1 | exact (bs hx hb).2.2.2.2.2.2) ?_
    rw [hnm2.2.1.1]
    refine gw_icmp_ge (tgt := 68) (gc k_Judge_candidates_0 15 rfl) rfl (by omega) (fun c24 => ?_) (fun c24 => ?_)
    · refine gw_iload (gc k_Judge_candidates_0 37 rfl) rfl ?_
      refine gw_if_eq (tgt := 79) (gc k_Judge_candidates_0 38 rfl) rfl (by omega) (fun c70 => ?_) (fun c70 => ?_)
      · refine gw_iinc_3 (gc k_Judge_candidates_1 5 rfl) rfl rfl ?_
        refine gw_goto (tgt := 4) (gc k_Judge_candidates_1 6 rfl) rfl ?_
        have hnew : (0 ≤ i + 1 ∧ i + 1 ≤ r 41) ∧ jgF g g2 := ⟨by omega, hF2⟩
        have hso : soR r i = soF r i k.toNat := by
          unfold soR
          by_cases z : k = r 42
          · rw [z]
          · obtain ⟨d, hd⟩ : ∃ d : Nat, (r 42).toNat = k.toNat + d := ⟨(r 42 - k).toNat, by omega⟩
            have c0 : soF r i k.toNat = 0 := by omega
            rw [hd, c0]; exact sgF_0 d _ c0
        have hs : seF (soR r) (i + 1).toNat = seF (soR r) i.toNat := by
          obtain ⟨m, rfl⟩ : ∃ m : Nat, i = m := ⟨i.toNat, by omega⟩
          rw [show ((m : Int) + 1).toNat = m + 1 by omega, Int.toNat_natCast]
          exact seF_n _ (by omega) (by omega)
        rw [← hs]
        exact ih (i + 1, _, _, g2) hnew (by show (r 41 - (i + 1)).toNat < (r 41 - i).toNat; omega)
      · refine gw_iload_n (gc k_Judge_candidates_0 39 rfl) rfl ?_
        refine gw_iconst (gc k_Judge_candidates_1 0 rfl) ?_
        refine gw_iload_n (gc k_Judge_candidates_1 1 rfl) rfl ?_
        refine gw_ishl (gc k_Judge_candidates_1 2 rfl) ?_
        refine gw_ior (gc k_Judge_candidates_1 3 rfl) ?_
        refine gw_istore_2 (gc k_Judge_candidates_1 4 rfl) rfl rfl ?_
        refine gw_iinc_3 (gc k_Judge_candidates_1 5 rfl) rfl rfl ?_
        refine gw_goto (tgt := 4) (gc k_Judge_candidates_1 6 rfl) rfl ?_
        have hnew : (0 ≤ i + 1 ∧ i + 1 ≤ r 41) ∧ jgF g g2 := ⟨by omega, hF2⟩
        have hso : soR r i = soF r i k.toNat := by
          unfold soR
          by_cases z : k = r 42
          · rw [z]
          · obtain ⟨d, hd⟩ : ∃ d : Nat, (r 42).toNat = k.toNat + d := ⟨(r 42 - k).toNat, by omega⟩
            have c0 : soF r i k.toNat = 0 := by omega
            rw [hd, c0]; exact sgF_0 d _ c0
        have hs : seF (soR r) (i + 1).toNat = gor (seF (soR r) i.toNat) (gshl 1 i) := by
          obtain ⟨m, rfl⟩ : ∃ m : Nat, i = m := ⟨i.toNat, by omega⟩
          rw [show ((m : Int) + 1).toNat = m + 1 by omega, Int.toNat_natCast]
          exact seF_s _ m (by omega)
        rw [← hs]
        exact ih (i + 1, _, _, g2) hnew (by show (r 41 - (i + 1)).toNat < (r 41 - i).toNat; omega)
    · refine gw_iload (gc k_Judge_candidates_0 16 rfl) rfl ?_
      refine gw_if_eq (tgt := 68) (gc k_Judge_candidates_0 17 rfl) rfl (by omega) (fun c29 => ?_) (fun c29 => ?_)
      · refine gw_iload (gc k_Judge_candidates_0 37 rfl) rfl ?_
        refine gw_if_eq (tgt := 79) (gc k_Judge_candidates_0 38 rfl) rfl (by omega) (fun c70 => ?_) (fun c70 => ?_)
        · refine gw_iinc_3 (gc k_Judge_candidates_1 5 rfl) rfl rfl ?_
          refine gw_goto (tgt := 4) (gc k_Judge_candidates_1 6 rfl) rfl ?_
          have hnew : (0 ≤ i + 1 ∧ i + 1 ≤ r 41) ∧ jgF g g2 := ⟨by omega, hF2⟩
          have hso : soR r i = soF r i k.toNat := by
            unfold soR
            by_cases z : k = r 42
            · rw [z]
            · obtain ⟨d, hd⟩ : ∃ d : Nat, (r 42).toNat = k.toNat + d := ⟨(r 42 - k).toNat, by omega⟩
              have c0 : soF r i k.toNat = 0 := by omega
              rw [hd, c0]; exact sgF_0 d _ c0
          have hs : seF (soR r) (i + 1).toNat = seF (soR r) i.toNat := by
            obtain ⟨m, rfl⟩ : ∃ m : Nat, i = m := ⟨i.toNat, by omega⟩
            rw [show ((m : Int) + 1).toNat = m + 1 by omega, Int.toNat_natCast]
            exact seF_n _ (by omega) (by omega)
          rw [← hs]
          exact ih (i + 1, _, _, g2) hnew (by show (r 41 - (i + 1)).toNat < (r 41 - i).toNat; omega)
        · refine gw_iload_n (gc k_Judge_candidates_0 39 rfl) rfl ?_
          refine gw_iconst (gc k_Judge_candidates_1 0 rfl) ?_
          refine gw_iload_n (gc k_Judge_candidates_1 1 rfl) rfl ?_
          refine gw_ishl (gc k_Judge_candidates_1 2 rfl) ?_
          refine gw_ior (gc k_Judge_candidates_1 3 rfl) ?_
          refine gw_istore_2 (gc k_Judge_candidates_1 4 rfl) rfl rfl ?_
          refine gw_iinc_3 (gc k_Judge_candidates_1 5 rfl) rfl rfl ?_
          refine gw_goto (tgt := 4) (gc k_Judge_candidates_1 6 rfl) rfl ?_
          have hnew : (0 ≤ i + 1 ∧ i + 1 ≤ r 41) ∧ jgF g g2 := ⟨by omega, hF2⟩
          have hso : soR r i = soF r i k.toNat := by
            unfold soR
            by_cases z : k = r 42
            · rw [z]
            · obtain ⟨d, hd⟩ : ∃ d : Nat, (r 42).toNat = k.toNat + d := ⟨(r 42 - k).toNat, by omega⟩
              have c0 : soF r i k.toNat = 0 := by omega
              rw [hd, c0]; exact sgF_0 d _ c0
          have hs : seF (soR r) (i + 1).toNat = gor (seF (soR r) i.toNat) (gshl 1 i) := by
            obtain ⟨m, rfl⟩ : ∃ m : Nat, i = m := ⟨i.toNat, by omega⟩
            rw [show ((m : Int) + 1).toNat = m + 1 by omega, Int.toNat_natCast]
            exact seF_s _ m (by omega)
          rw [← hs]
          exact ih (i + 1, _, _, g2) hnew (by show (r 41 - (i + 1)).toNat < (r 41 - i).toNat; omega)
      · refine gw_aload_n (gc k_Judge_candidates_0 18 rfl) rfl rfl ?_
        refine gw_aload_n (gc k_Judge_candidates_0 19 rfl) rfl rfl ?_
        refine gw_iload_n (gc k_Judge_candidates_0 20 rfl) rfl ?_
        refine gw_aload_n (gc k_Judge_candidates_0 21 rfl) rfl rfl ?_
        refine gw_getref (gc k_Judge_candidates_0 22 rfl) fl_Judge_100 (by first | exact gAt hx rfl rfl | exact (bs hx hb).1 | exact (bs hx hb).2.1 | exact (bs hx hb).2.2.1 | exact (bs hx hb).2.2.2.1 | exact (bs hx hb).2.2.2.2.1 | exact (bs hx hb).2.2.2.2.2.1 | exact (bs hx hb).2.2.2.2.2.2) (by first | exact gRf hf rfl rfl | exact (br hf hb).1 | exact (br hf hb).2.1 | exact (br hf hb).2.2.1 | exact (br hf hb).2.2.2.1 | exact (br hf hb).2.2.2.2.1 | exact (br hf hb).2.2.2.2.2) ?_
        refine gw_iload (gc k_Judge_candidates_0 23 rfl) rfl ?_
        refine gw_iald (gc k_Judge_candidates_0 24 rfl) (by first | exact gAt hx rfl rfl | exact (bs hx hb).1 | exact (bs hx hb).2.1 | exact (bs hx hb).2.2.1 | exact (bs hx hb).2.2.2.1 | exact (bs hx hb).2.2.2.2.1 | exact (bs hx hb).2.2.2.2.2.1 | exact (bs hx hb).2.2.2.2.2.2) (by omega) ?_
        rw [(hX2.2.1.2.2.2.2.2.2 k (by omega) (by omega)).1]
        refine gw_xV1 (gc k_Judge_candidates_0 25 rfl) y_Judge_fact ln_Judge_103 (c_Judge_fact hx hf hb hX2 i _ (by omega) (ro_heard hX.1.1 k (by omega)).1) rfl rfl (by first | exact gAt hx rfl rfl | exact (bs hx hb).1 | exact (bs hx hb).2.1 | exact (bs hx hb).2.2.1 | exact (bs hx hb).2.2.2.1 | exact (bs hx hb).2.2.2.2.1 | exact (bs hx hb).2.2.2.2.2.1 | exact (bs hx hb).2.2.2.2.2.2) rfl rfl (fun r42 sh2 g42 hq42 => ?_)
        obtain ⟨rfl, rfl, hj42⟩ := hq42
        have hf := hj42.fin hf
        have hX3 := hX2.jg hb hj42
        refine gw_join1 60 (fun v => v = bi (factN r i (r (25 + 2 * k)) = r (25 + 2 * k + 1))) (fun v45 hv45 => ?_) (fun kj45 => ?_)
        · refine gw_istore_4 (gc k_Judge_candidates_0 34 rfl) rfl rfl ?_
          refine gw_iinc_5 (gc k_Judge_candidates_0 35 rfl) rfl rfl ?_
          refine gw_goto (tgt := 18) (gc k_Judge_candidates_0 36 rfl) rfl ?_
          have hnew : (0 ≤ k + 1 ∧ k + 1 ≤ r 42) ∧ jgF g g42 := ⟨by omega, hF2.tr hj42⟩
          have hs : soF r i (k + 1).toNat = v45 := by
            rw [hv45]
            obtain ⟨m, rfl⟩ : ∃ m : Nat, k = m := ⟨k.toNat, by omega⟩
            rw [show ((m : Int) + 1).toNat = m + 1 by omega]
            rw [Int.toNat_natCast] at h01 c29
            show (if soF r i m = 1 ∧ _ then (1 : Int) else 0) = _
            by_cases z : factN r i (r (25 + 2 * (m : Int))) = r (25 + 2 * (m : Int) + 1)
            · rw [if_pos ⟨by omega, z⟩, bi_1 z]
            · rw [if_neg (fun y => z y.2), bi_0 z]
          rw [← hs]
          exact ih2 (k + 1, g42) hnew (by show (r 42 - (k + 1)).toNat < (r 42 - k).toNat; omega)
        · refine gw_aload_n (gc k_Judge_candidates_0 26 rfl) rfl rfl ?_
          refine gw_getref (gc k_Judge_candidates_0 27 rfl) fl_Judge_106 (by first | exact gAt hx rfl rfl | exact (bs hx hb).1 | exact (bs hx hb).2.1 | exact (bs hx hb).2.2.1 | exact (bs hx hb).2.2.2.1 | exact (bs hx hb).2.2.2.2.1 | exact (bs hx hb).2.2.2.2.2.1 | exact (bs hx hb).2.2.2.2.2.2) (by first | exact gRf hf rfl rfl | exact (br hf hb).1 | exact (br hf hb).2.1 | exact (br hf hb).2.2.1 | exact (br hf hb).2.2.2.1 | exact (br hf hb).2.2.2.2.1 | exact (br hf hb).2.2.2.2.2) ?_
          refine gw_iload (gc k_Judge_candidates_0 28 rfl) rfl ?_
          refine gw_iald (gc k_Judge_candidates_0 29 rfl) (by first | exact gAt hx rfl rfl | exact (bs hx hb).1 | exact (bs hx hb).2.1 | exact (bs hx hb).2.2.1 | exact (bs hx hb).2.2.2.1 | exact (bs hx hb).2.2.2.2.1 | exact (bs hx hb).2.2.2.2.2.1 | exact (bs hx hb).2.2.2.2.2.2) (by omega) ?_
          rw [(hX3.2.1.2.2.2.2.2.2 k (by omega) (by omega)).2]
          have hfb := factN_bd hX.1.1 i (r (25 + 2 * k)) (by omega)
          have hhb := (ro_heard hX.1.1 k (by omega)).2
          refine gw_icmp_ne (tgt := 59) (gc k_Judge_candidates_0 30 rfl) rfl (by omega) (fun c52 => ?_) (fun c52 => ?_)
          · refine gw_iconst (gc k_Judge_candidates_0 33 rfl) ?_
            exact kj45 _ ((by first | exact (bi_1 (by omega)).symm | exact (bi_0 (by omega)).symm))
          · refine gw_iconst (gc k_Judge_candidates_0 31 rfl) ?_
            refine gw_goto (tgt := 60) (gc k_Judge_candidates_0 32 rfl) rfl ?_
            exact kj45 _ ((by first | exact (bi_1 (by omega)).symm | exact (bi_0 (by omega)).symm))
set_option maxHeartbeats 4000000 in
theorem c_Judge_mostAlike {sh : gS} {g : gM} (hx : gFix sh) (hf : gFin g) {Λ : Int → List PC} {r : Int → Int} {b : Int} (hb : isBd b) (hX : bdX Λ sh r g b) (s f : Int) (hk : 0 ≤ f ∧ f ≤ 3) : gTri f_Judge_mostAlike 6 0 0 [(2, 8), (2, b), (0, s), (0, f)] sh g (fun x s2 g2 => x = some (0, mlR r s f) ∧ s2 = sh ∧ jgF g g2) := by
  have hbx := hb
  unfold isBd at hbx
  have hnm := hX.nums
  have hfg := hf
  refine gTri.of (by decide +kernel) rfl ?_
  show gWP f_Judge_mostAlike _ _ _ 0 [(2, 8), (2, b), (0, s), (0, f), (9, 0), (9, 0), (9, 0), (9, 0), (9, 0)] [] sh g _
  refine gw_iconst (gc k_Judge_mostAlike_0 0 rfl) ?_
  refine gw_istore_4 (gc k_Judge_mostAlike_0 1 rfl) rfl rfl ?_
  refine gw_iconst (gc k_Judge_mostAlike_0 2 rfl) ?_
  refine gw_istore_5 (gc k_Judge_mostAlike_0 3 rfl) rfl rfl ?_
  refine gwloop (σ := Int × gV × gV × gV × gM) (fun zs => (0 ≤ (zs.1) ∧ (zs.1) ≤ r 41) ∧ jgF g (zs.2.2.2.2)) (fun zs => (r 41 - (zs.1)).toNat) (fun zs => [(2, 8), (2, b), (0, s), (0, f), (0, mlM r s f (zs.1).toNat), (0, (zs.1)), (zs.2.1), (zs.2.2.1), (zs.2.2.2.1)]) (fun zs => (zs.2.2.2.2)) (0, (9, 0), (9, 0), (9, 0), g) (show (0 ≤ (0 : Int) ∧ (0 : Int) ≤ r 41) ∧ jgF g g from ⟨⟨by omega, by omega⟩, jgF.rf g⟩) rfl rfl (fun zs hI ih => ?_)
  obtain ⟨i, x6, x7, x8, g1⟩ := zs
  replace hI : (0 ≤ i ∧ i ≤ r 41) ∧ jgF g g1 := hI
  obtain ⟨hi, hF⟩ := hI
  show gWP _ _ _ _ _ [(2, 8), (2, b), (0, s), (0, f), (0, mlM r s f i.toNat), (0, i), x6, x7, x8] [] _ (g1) _
  have hf := hF.fin hfg
  have hX1 := hX.jg hb hF
  have hnm1 := hX1.nums
  have hmb := mlM_bd hX.1.1 s f i.toNat
  refine gw_iload (gc k_Judge_mostAlike_0 4 rfl) rfl ?_
  refine gw_aload_n (gc k_Judge_mostAlike_0 5 rfl) rfl rfl ?_
  refine gw_getf 0 rfl (gc k_Judge_mostAlike_0 6 rfl) fl_Judge_35 (by first | exact gAt hx rfl rfl | exact (bs hx hb).1 | exact (bs hx hb).2.1 | exact (bs hx hb).2.2.1 | exact (bs hx hb).2.2.2.1 | exact (bs hx hb).2.2.2.2.1 | exact (bs hx hb).2.2.2.2.2.1 | exact (bs hx hb).2.2.2.2.2.2) ?_
  rw [hnm1.1.1]
  refine gw_icmp_ge (tgt := 99) (gc k_Judge_mostAlike_0 7 rfl) rfl (by omega) (fun c12 => ?_) (fun c12 => ?_)
  · refine gw_iload (gc k_Judge_mostAlike_1 12 rfl) rfl ?_
    refine gw_ireturn (gc k_Judge_mostAlike_1 13 rfl) rfl ?_
    refine ⟨?_, rfl, hF⟩
    obtain rfl : i = r 41 := by omega
    rfl
  · refine gw_iload_n (gc k_Judge_mostAlike_0 8 rfl) rfl ?_
    refine gw_iload (gc k_Judge_mostAlike_0 9 rfl) rfl ?_
    refine gw_ishr (gc k_Judge_mostAlike_0 10 rfl) ?_
    refine gw_iconst (gc k_Judge_mostAlike_0 11 rfl) ?_
    refine gw_iand (gc k_Judge_mostAlike_0 12 rfl) ?_
    have hb01 : gand (gshr s i) 1 = 0 ∨ gand (gshr s i) 1 = 1 := bitI_01 s i
    refine gw_if_ne (tgt := 27) (gc k_Judge_mostAlike_0 13 rfl) rfl (by omega) (fun c21 => ?_) (fun c21 => ?_)
    · refine gw_iconst (gc k_Judge_mostAlike_0 15 rfl) ?_
      refine gw_istore_6 (gc k_Judge_mostAlike_0 16 rfl) rfl rfl ?_
      refine gw_aload_n (gc k_Judge_mostAlike_0 17 rfl) rfl rfl ?_
      refine gw_aload_n (gc k_Judge_mostAlike_0 18 rfl) rfl rfl ?_
      refine gw_iload (gc k_Judge_mostAlike_0 19 rfl) rfl ?_
      refine gw_iload_n (gc k_Judge_mostAlike_0 20 rfl) rfl ?_
      refine gw_xV1 (gc k_Judge_mostAlike_0 21 rfl) y_Judge_fact ln_Judge_103 (c_Judge_fact hx hf hb hX1 i f (by omega) hk) rfl rfl (by first | exact gAt hx rfl rfl | exact (bs hx hb).1 | exact (bs hx hb).2.1 | exact (bs hx hb).2.2.1 | exact (bs hx hb).2.2.2.1 | exact (bs hx hb).2.2.2.2.1 | exact (bs hx hb).2.2.2.2.2.1 | exact (bs hx hb).2.2.2.2.2.2) rfl rfl (fun r35 sh2 g35 hq35 => ?_)
      obtain ⟨rfl, rfl, hj35⟩ := hq35
      have hF35 := hF.tr hj35
      have hf := hj35.fin hf
      refine gw_istore_7 (gc k_Judge_mostAlike_0 22 rfl) rfl rfl ?_
      refine gw_iconst (gc k_Judge_mostAlike_0 23 rfl) ?_
      refine gw_istore_8 (gc k_Judge_mostAlike_0 24 rfl) rfl rfl ?_
      refine gwloop (σ := Int × gM) (fun zs => (0 ≤ (zs.1) ∧ (zs.1) ≤ r 41) ∧ jgF g (zs.2)) (fun zs => (r 41 - (zs.1)).toNat) (fun zs => [(2, 8), (2, b), (0, s), (0, f), (0, mlM r s f i.toNat), (0, i), (0, mlC r s f i (zs.1).toNat), (0, factN r i f), (0, (zs.1))]) (fun zs => (zs.2)) (0, g35) (show (0 ≤ (0 : Int) ∧ (0 : Int) ≤ r 41) ∧ jgF g g35 from ⟨⟨by omega, by omega⟩, hF35⟩) rfl rfl (fun zs hI ih2 => ?_)
      obtain ⟨j, g2⟩ := zs
      replace hI : (0 ≤ j ∧ j ≤ r 41) ∧ jgF g g2 := hI
      obtain ⟨hj, hF2⟩ := hI
      show gWP _ _ _ _ _ [(2, 8), (2, b), (0, s), (0, f), (0, mlM r s f i.toNat), (0, i), (0, mlC r s f i j.toNat), (0, factN r i f), (0, j)] [] _ (g2) _
      have hf := hF2.fin hfg
      have hX2 := hX.jg hb hF2
      have hnm2 := hX2.nums
      have hmc := mlC_bd r s f i j.toNat
      refine gw_iload (gc k_Judge_mostAlike_0 25 rfl) rfl ?_
      refine gw_aload_n (gc k_Judge_mostAlike_0 26 rfl) rfl rfl ?_
      refine gw_getf 0 rfl (gc k_Judge_mostAlike_0 27 rfl) fl_Judge_35 (by first | exact gAt hx rfl rfl | exact (bs hx hb).1 | exact (bs hx hb).2.1 | exact (bs hx hb).2.2.1 | exact (bs hx hb).2.2.2.1 | exact (bs hx hb).2.2.2.2.1 | exact (bs hx hb).2.2.2.2.2.1 | exact (bs hx hb).2.2.2.2.2.2) ?_
      rw [hnm2.1.1]
      refine gw_icmp_ge (tgt := 84) (gc k_Judge_mostAlike_0 28 rfl) rfl (by omega) (fun c49 => ?_) (fun c49 => ?_)
      · refine gw_iload (gc k_Judge_mostAlike_1 6 rfl) rfl ?_
        refine gw_iload (gc k_Judge_mostAlike_1 7 rfl) rfl ?_
        refine gw_mmax (gc k_Judge_mostAlike_1 8 rfl) y_Math_max ln_Judge_64 (by omega) rfl rfl ?_
        refine gw_istore_4 (gc k_Judge_mostAlike_1 9 rfl) rfl rfl ?_
        refine gw_iinc_5 (gc k_Judge_mostAlike_1 10 rfl) rfl rfl ?_
        refine gw_goto (tgt := 6) (gc k_Judge_mostAlike_1 11 rfl) rfl ?_
        have hnew : (0 ≤ i + 1 ∧ i + 1 ≤ r 41) ∧ jgF g g2 := ⟨by omega, hF2⟩
        have hs : mlM r s f (i + 1).toNat = (if mlM r s f i.toNat < mlC r s f i j.toNat then mlC r s f i j.toNat else mlM r s f i.toNat) := by
          obtain ⟨m, rfl⟩ : ∃ m : Nat, i = m := ⟨i.toNat, by omega⟩
          rw [show ((m : Int) + 1).toNat = m + 1 by omega, Int.toNat_natCast]
          show (if bitI s m = 1 then (if mlC r s f m (r 41).toNat < mlM r s f m then mlM r s f m else mlC r s f m (r 41).toNat) else mlM r s f m) = _
          rw [if_pos (show bitI s m = 1 by show gand (gshr s m) 1 = 1; omega)]
          obtain rfl : j = r 41 := by omega
          rw [Int.toNat_natCast] at hmb
          (repeat' split) <;> omega
        rw [← hs]
        exact ih (i + 1, _, _, _, g2) hnew (by show (r 41 - (i + 1)).toNat < (r 41 - i).toNat; omega)
      · refine gw_iload_n (gc k_Judge_mostAlike_0 29 rfl) rfl ?_
        refine gw_iload (gc k_Judge_mostAlike_0 30 rfl) rfl ?_
        refine gw_ishr (gc k_Judge_mostAlike_0 31 rfl) ?_
        refine gw_iconst (gc k_Judge_mostAlike_0 32 rfl) ?_
        refine gw_iand (gc k_Judge_mostAlike_0 33 rfl) ?_
        have hb02 : gand (gshr s j) 1 = 0 ∨ gand (gshr s j) 1 = 1 := bitI_01 s j
        refine gw_iconst (gc k_Judge_mostAlike_0 34 rfl) ?_
        refine gw_icmp_ne (tgt := 78) (gc k_Judge_mostAlike_0 35 rfl) rfl (by omega) (fun c59 => ?_) (fun c59 => ?_)
        · refine gw_iinc_8 (gc k_Judge_mostAlike_1 4 rfl) rfl rfl ?_
          refine gw_goto (tgt := 43) (gc k_Judge_mostAlike_1 5 rfl) rfl ?_
          have hnew : (0 ≤ j + 1 ∧ j + 1 ≤ r 41) ∧ jgF g g2 := ⟨by omega, hF2⟩
          have hs : mlC r s f i (j + 1).toNat = mlC r s f i j.toNat := by
            obtain ⟨m, rfl⟩ : ∃ m : Nat, j = m := ⟨j.toNat, by omega⟩
            rw [show ((m : Int) + 1).toNat = m + 1 by omega, Int.toNat_natCast]
            show mlC r s f i m + (if bitI s m = 1 ∧ factN r i f = factN r m f then 1 else 0) = _
            rw [if_neg (fun z => c59 z.1), Int.add_zero]
          rw [← hs]
          exact ih2 (j + 1, g2) hnew (by show (r 41 - (j + 1)).toNat < (r 41 - j).toNat; omega)
        · refine gw_aload_n (gc k_Judge_mostAlike_0 36 rfl) rfl rfl ?_
          refine gw_aload_n (gc k_Judge_mostAlike_0 37 rfl) rfl rfl ?_
          refine gw_iload (gc k_Judge_mostAlike_0 38 rfl) rfl ?_
          refine gw_iload_n (gc k_Judge_mostAlike_0 39 rfl) rfl ?_
          refine gw_xV1 (gc k_Judge_mostAlike_1 0 rfl) y_Judge_fact ln_Judge_103 (c_Judge_fact hx hf hb hX2 j f (by omega) hk) rfl rfl (by first | exact gAt hx rfl rfl | exact (bs hx hb).1 | exact (bs hx hb).2.1 | exact (bs hx hb).2.2.1 | exact (bs hx hb).2.2.2.1 | exact (bs hx hb).2.2.2.2.1 | exact (bs hx hb).2.2.2.2.2.1 | exact (bs hx hb).2.2.2.2.2.2) rfl rfl (fun r67 sh2 g67 hq67 => ?_)
          obtain ⟨rfl, rfl, hj67⟩ := hq67
          have hf := hj67.fin hf
          have fb1 := factN_bd hX.1.1 i f (by omega)
          have fb2 := factN_bd hX.1.1 j f (by omega)
          refine gw_iload (gc k_Judge_mostAlike_1 1 rfl) rfl ?_
          refine gw_icmp_ne (tgt := 78) (gc k_Judge_mostAlike_1 2 rfl) rfl (by omega) (fun c72 => ?_) (fun c72 => ?_)
          · refine gw_iinc_8 (gc k_Judge_mostAlike_1 4 rfl) rfl rfl ?_
            refine gw_goto (tgt := 43) (gc k_Judge_mostAlike_1 5 rfl) rfl ?_
            have hnew : (0 ≤ j + 1 ∧ j + 1 ≤ r 41) ∧ jgF g g67 := ⟨by omega, (hF2.tr hj67)⟩
            have hs : mlC r s f i (j + 1).toNat = mlC r s f i j.toNat := by
              obtain ⟨m, rfl⟩ : ∃ m : Nat, j = m := ⟨j.toNat, by omega⟩
              rw [show ((m : Int) + 1).toNat = m + 1 by omega, Int.toNat_natCast]
              show mlC r s f i m + (if bitI s m = 1 ∧ factN r i f = factN r m f then 1 else 0) = _
              rw [if_neg (fun z => c72 z.2.symm), Int.add_zero]
            rw [← hs]
            exact ih2 (j + 1, g67) hnew (by show (r 41 - (j + 1)).toNat < (r 41 - j).toNat; omega)
          · refine gw_iinc_6 (gc k_Judge_mostAlike_1 3 rfl) rfl rfl ?_
            refine gw_iinc_8 (gc k_Judge_mostAlike_1 4 rfl) rfl rfl ?_
            refine gw_goto (tgt := 43) (gc k_Judge_mostAlike_1 5 rfl) rfl ?_
            have hnew : (0 ≤ j + 1 ∧ j + 1 ≤ r 41) ∧ jgF g g67 := ⟨by omega, (hF2.tr hj67)⟩
            have hs : mlC r s f i (j + 1).toNat = mlC r s f i j.toNat + 1 := by
              obtain ⟨m, rfl⟩ : ∃ m : Nat, j = m := ⟨j.toNat, by omega⟩
              rw [show ((m : Int) + 1).toNat = m + 1 by omega, Int.toNat_natCast]
              show mlC r s f i m + (if bitI s m = 1 ∧ factN r i f = factN r m f then 1 else 0) = _
              rw [if_pos ⟨c59, c72.symm⟩]
            rw [← hs]
            exact ih2 (j + 1, g67) hnew (by show (r 41 - (j + 1)).toNat < (r 41 - j).toNat; omega)
    · refine gw_goto (tgt := 93) (gc k_Judge_mostAlike_0 14 rfl) rfl ?_
      refine gw_iinc_5 (gc k_Judge_mostAlike_1 10 rfl) rfl rfl ?_
      refine gw_goto (tgt := 6) (gc k_Judge_mostAlike_1 11 rfl) rfl ?_
      have hnew : (0 ≤ i + 1 ∧ i + 1 ≤ r 41) ∧ jgF g g1 := ⟨by omega, hF⟩
      have hs : mlM r s f (i + 1).toNat = mlM r s f i.toNat := by
        obtain ⟨m, rfl⟩ : ∃ m : Nat, i = m := ⟨i.toNat, by omega⟩
        rw [show ((m : Int) + 1).toNat = m + 1 by omega, Int.toNat_natCast]
        show (if bitI s m = 1 then (if mlC r s f m (r 41).toNat < mlM r s f m then mlM r s f m else mlC r s f m (r 41).toNat) else mlM r s f m) = _
        rw [if_neg (by show ¬ gand (gshr s m) 1 = 1; omega)]
      rw [← hs]
      exact ih (i + 1, _, _, _, g1) hnew (by show (r 41 - (i + 1)).toNat < (r 41 - i).toNat; omega)
set_option maxHeartbeats 4000000 in
theorem c_Judge_goesWithItself {sh : gS} {g : gM} (hx : gFix sh) (hf : gFin g) {Λ : Int → List PC} {r : Int → Int} {b : Int} (hb : isBd b) (hX : bdX Λ sh r g b) (d h : Int) (hd : 1 ≤ d ∧ d < r 41) (hh : -24 ≤ h ∧ h ≤ 24) : gTri f_Judge_goesWithItself 4 0 0 [(2, 8), (2, b), (0, d), (0, h)] sh g (fun x s2 g2 => x = some (0, cnC r d h) ∧ s2 = sh ∧ jgF g g2) := by
  have hbx := hb
  unfold isBd at hbx
  have hnm := hX.nums
  refine gTri.of (by decide +kernel) rfl ?_
  show gWP f_Judge_goesWithItself _ _ _ 0 [(2, 8), (2, b), (0, d), (0, h), (9, 0), (9, 0), (9, 0), (9, 0)] [] sh g _
  refine gw_aload_n (gc k_Judge_goesWithItself_0 0 rfl) rfl rfl ?_
  refine gw_cV1 (gc k_Judge_goesWithItself_0 1 rfl) y_Board_lawInForce ln_Judge_82 (c_Board_lawInForce hx hf hb (by omega) (by omega)) rfl rfl (by first | exact gAt hx rfl rfl | exact (bs hx hb).1 | exact (bs hx hb).2.1 | exact (bs hx hb).2.2.1 | exact (bs hx hb).2.2.2.1 | exact (bs hx hb).2.2.2.2.1 | exact (bs hx hb).2.2.2.2.2.1 | exact (bs hx hb).2.2.2.2.2.2) rfl rfl ?_
  refine gw_astore_4 (gc k_Judge_goesWithItself_0 2 rfl) rfl rfl rfl ?_
  refine gw_iconst (gc k_Judge_goesWithItself_0 3 rfl) ?_
  refine gw_istore_5 (gc k_Judge_goesWithItself_0 4 rfl) rfl rfl ?_
  refine gw_iload_n (gc k_Judge_goesWithItself_0 5 rfl) rfl ?_
  refine gw_istore_6 (gc k_Judge_goesWithItself_0 6 rfl) rfl rfl ?_
  refine gwloop (σ := Int × gV × gM) (fun zs => (d ≤ (zs.1) ∧ (zs.1) ≤ r 41) ∧ jgF g (zs.2.2) ∧ cnC r d h = cnF r d h (r 41 - (zs.1)).toNat (zs.1)) (fun zs => (r 41 - (zs.1)).toNat) (fun zs => [(2, 8), (2, b), (0, d), (0, h), (2, bdF g b), (0, cnA r d h (zs.1)), (0, (zs.1)), (zs.2.1)]) (fun zs => (zs.2.2)) (d, (9, 0), g) (show (d ≤ d ∧ d ≤ r 41) ∧ jgF g g ∧ cnC r d h = cnF r d h (r 41 - d).toNat d from ⟨⟨by omega, by omega⟩, jgF.rf g, rfl⟩) (by show [_, _, _, _, _, ((0, cnA r d h d) : gV), _, _] = _; rw [show cnA r d h d = 0 from if_neg (by omega)]) rfl (fun zs hI ih => ?_)
  obtain ⟨i, x7, g1⟩ := zs
  replace hI : (d ≤ i ∧ i ≤ r 41) ∧ jgF g g1 ∧ cnC r d h = cnF r d h (r 41 - i).toNat i := hI
  obtain ⟨hi, hF, hC⟩ := hI
  show gWP _ _ _ _ _ [(2, 8), (2, b), (0, d), (0, h), (2, bdF g b), (0, cnA r d h i), (0, i), x7] [] _ (g1) _
  have hf := hF.fin hf
  have hX1 := hX.jg hb hF
  have hnm1 := hX1.nums
  refine gw_iload (gc k_Judge_goesWithItself_0 7 rfl) rfl ?_
  refine gw_aload_n (gc k_Judge_goesWithItself_0 8 rfl) rfl rfl ?_
  refine gw_getf 0 rfl (gc k_Judge_goesWithItself_0 9 rfl) fl_Judge_35 (by first | exact gAt hx rfl rfl | exact (bs hx hb).1 | exact (bs hx hb).2.1 | exact (bs hx hb).2.2.1 | exact (bs hx hb).2.2.2.1 | exact (bs hx hb).2.2.2.2.1 | exact (bs hx hb).2.2.2.2.2.1 | exact (bs hx hb).2.2.2.2.2.2) ?_
  rw [hnm1.1.1]
  refine gw_icmp_ge (tgt := 83) (gc k_Judge_goesWithItself_0 10 rfl) rfl (by omega) (fun c18 => ?_) (fun c18 => ?_)
  · refine gw_iconst (gc k_Judge_goesWithItself_1 6 rfl) ?_
    refine gw_zreturn (gc k_Judge_goesWithItself_1 7 rfl) rfl (by omega) ?_
    refine ⟨?_, rfl, hF⟩
    obtain rfl : i = r 41 := by omega
    rw [hC, show (r 41 - r 41).toNat = 0 by omega]
    rfl
  · refine gw_aload_n (gc k_Judge_goesWithItself_0 11 rfl) rfl rfl ?_
    refine gw_getref (gc k_Judge_goesWithItself_0 12 rfl) fl_Judge_26 (by first | exact gAt hx rfl rfl | exact (bs hx hb).1 | exact (bs hx hb).2.1 | exact (bs hx hb).2.2.1 | exact (bs hx hb).2.2.2.1 | exact (bs hx hb).2.2.2.2.1 | exact (bs hx hb).2.2.2.2.2.1 | exact (bs hx hb).2.2.2.2.2.2) (by first | exact gRf hf rfl rfl | exact (br hf hb).1 | exact (br hf hb).2.1 | exact (br hf hb).2.2.1 | exact (br hf hb).2.2.2.1 | exact (br hf hb).2.2.2.2.1 | exact (br hf hb).2.2.2.2.2) ?_
    refine gw_iload (gc k_Judge_goesWithItself_0 13 rfl) rfl ?_
    refine gw_iload_n (gc k_Judge_goesWithItself_0 14 rfl) rfl ?_
    refine gw_isub (gc k_Judge_goesWithItself_0 15 rfl) ?_
    refine gw_iald (gc k_Judge_goesWithItself_0 16 rfl) (by first | exact gAt hx rfl rfl | exact (bs hx hb).1 | exact (bs hx hb).2.1 | exact (bs hx hb).2.2.1 | exact (bs hx hb).2.2.2.1 | exact (bs hx hb).2.2.2.2.1 | exact (bs hx hb).2.2.2.2.2.1 | exact (bs hx hb).2.2.2.2.2.2) (by omega) ?_
    rw [(hX1.note (i := i - d) (by omega)).1.1, show 12 + (i - d) = 12 + i - d by omega]
    have hpp := ro_pitch hX.1.1 (12 + i - d) (by omega)
    have hca : -400 ≤ cnA r d h i ∧ cnA r d h i ≤ 400 := by
      unfold cnA
      split
      · have := ro_pitch hX.1.1 (12 + i - 1 - d) (by omega); omega
      · omega
    refine gw_iload_n (gc k_Judge_goesWithItself_0 17 rfl) rfl ?_
    refine gw_iadd (gc k_Judge_goesWithItself_0 18 rfl) ?_
    refine gw_istore_7 (gc k_Judge_goesWithItself_0 19 rfl) rfl rfl ?_
    refine gw_iload (gc k_Judge_goesWithItself_0 20 rfl) rfl ?_
    refine gw_cSN1 (gc k_Judge_goesWithItself_0 21 rfl) y_Desk_isPitch ln_Judge_109 (c_Desk_isPitch (r (12 + i - d) + h) (by omega)) rfl rfl rfl rfl ?_
    refine gw_bne (tgt := 44) (gc k_Judge_goesWithItself_0 22 rfl) rfl (fun c39 => ?_) (fun c39 => ?_)
    · refine gw_aload_n (gc k_Judge_goesWithItself_0 25 rfl) rfl rfl ?_
      refine gw_aload_n (gc k_Judge_goesWithItself_0 26 rfl) rfl rfl ?_
      refine gw_iload (gc k_Judge_goesWithItself_0 27 rfl) rfl ?_
      refine gw_iload_n (gc k_Judge_goesWithItself_0 28 rfl) rfl ?_
      refine gw_cV0 (gc k_Judge_goesWithItself_0 29 rfl) y_Judge_place ln_Judge_71 (c_Judge_place hx hf hb (i) (d) (by omega) (by omega) (by have := hX1.nums.1; omega)) rfl rfl (by first | exact gAt hx rfl rfl | exact (bs hx hb).1 | exact (bs hx hb).2.1 | exact (bs hx hb).2.2.1 | exact (bs hx hb).2.2.2.1 | exact (bs hx hb).2.2.2.2.1 | exact (bs hx hb).2.2.2.2.2.1 | exact (bs hx hb).2.2.2.2.2.2) rfl rfl ?_
      obtain ⟨p4, hp4⟩ : ∃ M, M = plM g1 b (i) (d) := ⟨_, rfl⟩
      rw [← hp4]
      have jp4 : jgF g1 p4 := by rw [hp4]; exact plM_jg _ _ _ _
      have hf := jp4.fin hf
      have hXp4 := hX1.jg hb jp4
      refine gw_aload_n (gc k_Judge_goesWithItself_0 30 rfl) rfl rfl ?_
      refine gw_iload (gc k_Judge_goesWithItself_0 31 rfl) rfl ?_
      refine gw_iload (gc k_Judge_goesWithItself_0 32 rfl) rfl ?_
      refine gw_cV0 (gc k_Judge_goesWithItself_0 33 rfl) y_Judge_sound ln_Judge_78 (c_Judge_sound hx hf (r (12 + i - d) + h) (cnA r d h i) (by rw [hp4, pl_82]; exact bi_01 _)) rfl rfl (by first | exact gAt hx rfl rfl | exact (bs hx hb).1 | exact (bs hx hb).2.1 | exact (bs hx hb).2.2.1 | exact (bs hx hb).2.2.2.1 | exact (bs hx hb).2.2.2.2.1 | exact (bs hx hb).2.2.2.2.2.1 | exact (bs hx hb).2.2.2.2.2.2) rfl rfl ?_
      obtain ⟨s4, hs4⟩ : ∃ M, M = soM p4 (r (12 + i - d) + h) (cnA r d h i) := ⟨_, rfl⟩
      rw [← hs4]
      have hj4 : jwI r (i) (r (12 + i - d) + h) (d) (cnA r d h i) s4 := by rw [hs4, hp4]; exact jw_of hb hX1 (by omega) (by omega) _ _
      have js4 : jgF p4 s4 := by rw [hs4]; exact soM_jg _ _ _
      have hf := js4.fin hf
      have hXs4 := hXp4.jg hb js4
      have hw4 := hj4.bd hX.1.1 (by omega) (by omega) (by omega) (by omega)
      have hl4 := hXs4.law
      have hbs : bdF s4 b = bdF g b := by have hns := hXs4.nums; unfold bdF; rw [hnm.2.2.2.1, hns.2.2.2.1, hnm.2.2.1.1, hns.2.2.1.1, ((hF.tr jp4).tr js4) (b + 6) _ (by omega) (by omega) (by omega)]
      refine gw_aload_n (gc k_Judge_goesWithItself_0 34 rfl) rfl rfl ?_
      refine gw_aload (gc k_Judge_goesWithItself_0 35 rfl) rfl rfl ?_
      refine gw_iconst (gc k_Judge_goesWithItself_0 36 rfl) ?_
      refine gw_xV1 (gc k_Judge_goesWithItself_0 37 rfl) y_Judge_told ln_Judge_86 (c_Judge_told hx hf (hbs ▸ hl4.1) (hbs ▸ hl4.2.1) (fun y ya yb => by have := hw4 y ya yb; unfold bd9; omega) 2 (by omega)) rfl rfl (by first | exact gAt hx rfl rfl | exact (bs hx hb).1 | exact (bs hx hb).2.1 | exact (bs hx hb).2.2.1 | exact (bs hx hb).2.2.2.1 | exact (bs hx hb).2.2.2.2.1 | exact (bs hx hb).2.2.2.2.2.1 | exact (bs hx hb).2.2.2.2.2.2) rfl rfl (fun r64 sh2 g64 hq64 => ?_)
      obtain ⟨rfl, rfl, jt4⟩ := hq64
      have hf := jt4.fin (Or.inl rfl) hf
      have h54 : g64 11 = s4 11 := jt4.fn (by decide)
      rw [hbs] at hl4
      have htr := tl_rg (w := s4 11) (k := 2 + 1) (topK_nn 2).1 (Λ (bdF g b))
      have htk := topK_nn 2
      refine gw_iconst (gc k_Judge_goesWithItself_0 38 rfl) ?_
      refine gw_icmp_eq (tgt := 73) (gc k_Judge_goesWithItself_0 39 rfl) rfl (by omega) (fun c68 => ?_) (fun c68 => ?_)
      · refine gw_iload (gc k_Judge_goesWithItself_1 2 rfl) rfl ?_
        refine gw_istore_5 (gc k_Judge_goesWithItself_1 3 rfl) rfl rfl ?_
        refine gw_iinc_6 (gc k_Judge_goesWithItself_1 4 rfl) rfl rfl ?_
        refine gw_goto (tgt := 12) (gc k_Judge_goesWithItself_1 5 rfl) rfl ?_
        have hnew : (d ≤ i + 1 ∧ i + 1 ≤ r 41) ∧ jgF g g64 ∧ cnC r d h = cnF r d h (r 41 - (i + 1)).toNat (i + 1) := ⟨by omega, ((hF.tr jp4).tr js4).tr jt4.jg, by rw [hC, (show (r 41 - i).toNat = (r 41 - (i + 1)).toNat + 1 by omega), cnF_c (by omega) ((jq_bar hl4.2.2.1 hl4.2.2.2 (fun j a c => hj4 j a c)).mp c68)]⟩
        have hs : cnA r d h (i + 1) = r (12 + i - d) + h := by unfold cnA; rw [if_pos (by omega), show 12 + (i + 1) - 1 - d = 12 + i - d by omega]
        rw [← hs]
        exact ih (i + 1, _, g64) hnew (by show (r 41 - (i + 1)).toNat < (r 41 - i).toNat; omega)
      · refine gw_iconst (gc k_Judge_goesWithItself_1 0 rfl) ?_
        refine gw_zreturn (gc k_Judge_goesWithItself_1 1 rfl) rfl (by omega) ?_
        refine ⟨?_, rfl, ((hF.tr jp4).tr js4).tr jt4.jg⟩
        rw [hC, (show (r 41 - i).toNat = (r 41 - (i + 1)).toNat + 1 by omega), cnF_b (by omega)]
        exact Decidable.byContradiction fun z => c68 ((jq_bar hl4.2.2.1 hl4.2.2.2 (fun j a c => hj4 j a c)).mpr z)
    · refine gw_iconst (gc k_Judge_goesWithItself_0 23 rfl) ?_
      refine gw_zreturn (gc k_Judge_goesWithItself_0 24 rfl) rfl (by omega) ?_
      refine ⟨?_, rfl, hF⟩
      rw [hC, (show (r 41 - i).toNat = (r 41 - (i + 1)).toNat + 1 by omega), cnF_a (by omega)]
