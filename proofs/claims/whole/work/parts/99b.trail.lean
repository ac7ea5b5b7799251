/-! ===== the trail ===== -/
def isTr (T : Int) : Prop := T = 13 ∨ T = 26
theorem ts {sh : gS} (hx : gFix sh) {T : Int} (h : isTr T) : gsz sh T 11 4 ∧ gsz sh (T + 1) 13 16 ∧ gsz sh (T + 2) 13 16 ∧ gsz sh (T + 3) 13 16 := by
  rcases h with rfl | rfl <;> exact ⟨gAt hx rfl rfl, gAt hx rfl rfl, gAt hx rfl rfl, gAt hx rfl rfl⟩
theorem tr {g : gM} (hf : gFin g) {T : Int} (h : isTr T) : g T 0 = T + 1 ∧ g T 1 = T + 2 ∧ g T 2 = T + 3 := by
  rcases h with rfl | rfl <;> exact ⟨gRf hf rfl rfl, gRf hf rfl rfl, gRf hf rfl rfl⟩
theorem tn {T : Int} (h : isTr T) {a : Int} {k : Nat} (ha : (a = T ∧ k = 3) ∨ (T + 1 ≤ a ∧ a ≤ T + 3)) : gref a.toNat k = none := by
  rcases ha with ⟨rfl, rfl⟩ | z
  · rcases h with rfl | rfl <;> rfl
  · rcases (show a = T + 1 ∨ a = T + 2 ∨ a = T + 3 by omega) with rfl | rfl | rfl <;> rcases h with rfl | rfl <;> rfl
/-- the trail's frame -/
def tfF (T : Int) (g g2 : gM) : Prop := ∀ a k, ¬ (a = T ∧ k = 3) → ¬ (T + 1 ≤ a ∧ a ≤ T + 3) → g2 a k = g a k
theorem tfF.fin {T : Int} (hT : isTr T) {g g2 : gM} (h : tfF T g g2) (hf : gFin g) : gFin g2 := hf.of (fun x y z => h _ _ (fun e => z (by
  have q := tn hT (a := (x : Int)) (k := y) (Or.inl ⟨e.1, by omega⟩)
  rw [Int.toNat_natCast] at q
  exact q)) (fun e => z (by
  have q := tn hT (a := (x : Int)) (k := y) (Or.inr e)
  rw [Int.toNat_natCast] at q
  exact q)))
/-- one copied from another -/
def tcS (T U : Int) (g g2 : gM) : Prop := tfF T g g2 ∧ g2 T 3 = g U 3 ∧ ∀ j y, 1 ≤ j → j ≤ 3 → 0 ≤ y → y < 16 → g2 (T + j) y = g (U + j) y
def doS (T : Int) (g g2 : gM) : Prop := tfF T g g2 ∧ g2 T 3 = 15 ∧ ∀ j y, 1 ≤ j → j ≤ 3 → 0 ≤ y → y < 15 → g2 (T + j) y = g (T + j) (y + 1)
def tkS (T kd n p : Int) (g g2 : gM) : Prop := tfF T g g2 ∧ g2 T 3 = kpN (g T 3) + 1 ∧ (∀ j y, 1 ≤ j → j ≤ 3 → 0 ≤ y → y < kpN (g T 3) → g2 (T + j) y = g (T + j) (if g T 3 = 16 then y + 1 else y)) ∧ g2 (T + 1) (kpN (g T 3)) = kd ∧ g2 (T + 2) (kpN (g T 3)) = n ∧ g2 (T + 3) (kpN (g T 3)) = p
/-- a change taken back -/
def unF (kd n p m : Int) (ρ : Int → Int) : Int → Int := if kd = 0 then (fun y => if y = n then p else ρ y) else if kd = 1 then (fun y => if y = 12 + n then p else ρ y) else if kd = 2 then exF ρ m else fun y => if y = 24 then ρ 24 - 1 else ρ y
theorem unF_congr {kd n p m : Int} (hm : 0 ≤ m ∧ m ≤ 12) {ρ ρ2 : Int → Int} (h : ∀ y, 0 ≤ y → y < 25 → ρ y = ρ2 y) {y : Int} (h0 : 0 ≤ y) (h1 : y < 25) : unF kd n p m ρ y = unF kd n p m ρ2 y := by
  have e := h y h0 h1
  unfold unF
  split
  · show (if y = n then p else ρ y) = if y = n then p else ρ2 y
    rw [e]
  · split
    · show (if y = 12 + n then p else ρ y) = if y = 12 + n then p else ρ2 y
      rw [e]
    · split
      · unfold exF
        split
        · exact h _ (by omega) (by omega)
        · split
          · exact h _ (by omega) (by omega)
          · exact e
      · show (if y = 24 then ρ 24 - 1 else ρ y) = if y = 24 then ρ2 24 - 1 else ρ2 y
        rw [e, h 24 (by decide) (by decide)]
def nxF (r L : Int → Int) (u j : Int) : Int → Int := if j + 1 < u then fun y => L (26 * (j + 1) + y) else r
/-- the trail tells what left0 keeps -/
def trI (r L : Int → Int) (u T : Int) (g : gM) : Prop := (0 ≤ u ∧ u ≤ 16) ∧ g T 3 = u ∧ ∀ j, 0 ≤ j → j < u → (g (T + 1) j = L (26 * j + 25) ∧ 0 ≤ g (T + 1) j ∧ g (T + 1) j ≤ 3) ∧ (g (T + 1) j < 2 → (0 ≤ g (T + 2) j ∧ g (T + 2) j < r 41) ∧ 0 ≤ g (T + 3) j ∧ g (T + 3) j ≤ 24) ∧ (∀ y, 0 ≤ y → y < 25 → L (26 * j + y) = unF (g (T + 1) j) (g (T + 2) j) (g (T + 3) j) (r 41) (nxF r L u j) y) ∧ (∀ y, 0 ≤ y → y < 24 → 0 ≤ L (26 * j + y) ∧ L (26 * j + y) ≤ 24) ∧ 0 ≤ L (26 * j + 24) ∧ L (26 * j + 24) ≤ 999
theorem trI.of {r L : Int → Int} {u T : Int} {g g2 : gM} (h : trI r L u T g) (he : ∀ a k, T ≤ a → a ≤ T + 3 → g2 a k = g a k) : trI r L u T g2 := by
  refine ⟨h.1, by rw [he _ _ (by omega) (by omega)]; exact h.2.1, fun j a b => ?_⟩
  rw [he _ _ (by omega) (by omega), he _ _ (by omega) (by omega), he _ _ (by omega) (by omega)]
  exact h.2.2 j a b
theorem trI.zero (r L : Int → Int) {T : Int} {g : gM} (h : g T 3 = 0) : trI r L 0 T g := ⟨⟨by decide, by decide⟩, h, fun j a b => by omega⟩
theorem trI.copy {r L : Int → Int} {u T U : Int} {g g2 : gM} (h : trI r L u U g) (hc : tcS T U g g2) : trI r L u T g2 := by
  refine ⟨h.1, hc.2.1.trans h.2.1, fun j a b => ?_⟩
  have hu := h.1
  rw [hc.2.2 1 j (by decide) (by decide) a (by omega), hc.2.2 2 j (by decide) (by decide) a (by omega), hc.2.2 3 j (by decide) (by decide) a (by omega)]
  exact h.2.2 j a b
/-- the row may change beyond its notes -/
theorem trI.row {r r2 L : Int → Int} {u T : Int} {g : gM} (h : trI r L u T g) (hm : 0 ≤ r 41 ∧ r 41 ≤ 12) (h0 : ∀ y, 0 ≤ y → y < 25 → r2 y = r y) (h1 : r2 41 = r 41) : trI r2 L u T g := by
  refine ⟨h.1, h.2.1, fun j a b => ?_⟩
  have q := h.2.2 j a b
  rw [h1]
  refine ⟨q.1, q.2.1, fun y c d => ?_, q.2.2.2⟩
  rw [q.2.2.1 y c d]
  refine unF_congr hm (fun z e f => ?_) c d
  unfold nxF
  split
  · rfl
  · exact (h0 z e f).symm
theorem kpN_b4 {u : Int} (h : 0 ≤ u ∧ u ≤ 16) : 0 ≤ kpN u ∧ kpN u ≤ 15 ∧ (u = 16 → kpN u = 15) ∧ (¬ u = 16 → kpN u = u) := by unfold kpN; split <;> omega
theorem kpF_old {ρ L : Int → Int} {u what : Int} (hu : 0 ≤ u ∧ u ≤ 16) {j y : Int} (hj : 0 ≤ j ∧ j < kpN u) (hy : 0 ≤ y ∧ y < 26) : kpF ρ L u what (26 * j + y) = L (26 * (if u = 16 then j + 1 else j) + y) := by
  have hk := kpN_b4 hu
  unfold kpF cpF
  rw [if_neg (by omega), if_neg (by omega)]
  by_cases z : u = 16
  · rw [if_pos z, if_pos z]
    show (if 0 ≤ 26 * j + y ∧ 26 * j + y < 0 + 390 then L (26 + (26 * j + y - 0)) else L (26 * j + y)) = _
    rw [if_pos (by omega)]
    congr 1; omega
  · rw [if_neg z, if_neg z]
theorem kpF_new {ρ L : Int → Int} {u what y : Int} (hy : 0 ≤ y ∧ y < 25) : kpF ρ L u what (26 * kpN u + y) = ρ y := by
  unfold kpF
  rw [if_neg (by omega)]
  unfold cpF
  rw [if_pos (by omega)]
  congr 1; omega
theorem kpF_kd {ρ L : Int → Int} {u what : Int} : kpF ρ L u what (26 * kpN u + 25) = what := if_pos rfl
theorem trI.keep {ρ ρ2 L : Int → Int} {u T kd n p : Int} {g g2 : gM} (h : trI ρ L u T g) (ho : rowOK ρ) (hk : tkS T kd n p g g2) (hkd : 0 ≤ kd ∧ kd ≤ 3) (hn : kd < 2 → (0 ≤ n ∧ n < ρ 41) ∧ 0 ≤ p ∧ p ≤ 24) (h41 : ρ2 41 = ρ 41) (hun : ∀ y, 0 ≤ y → y < 25 → ρ y = unF kd n p (ρ 41) ρ2 y) : trI ρ2 (kpF ρ L u kd) (kpN u + 1) T g2 := by
  have hu := h.1
  have hb := kpN_b4 hu
  have hm := ro_many ho
  obtain ⟨k1, k2, k3, k4, k5, k6⟩ := hk
  rw [h.2.1] at k2 k3 k4 k5 k6
  refine ⟨by omega, k2, fun j a b => ?_⟩
  rw [h41]
  by_cases z : j = kpN u
  · subst z
    rw [k4, k5, k6, kpF_kd]
    refine ⟨⟨rfl, hkd⟩, hn, fun y c d => ?_, fun y c d => ?_, ?_⟩
    · rw [kpF_new ⟨c, d⟩, hun y c d]
      unfold nxF
      rw [if_neg (by omega)]
    · rw [kpF_new ⟨c, by omega⟩]; exact ro_pitch ho y (by omega)
    · rw [kpF_new (by decide)]; exact ro_day ho
  · have hj : 0 ≤ j ∧ j < kpN u := by omega
    have q := h.2.2 (if u = 16 then j + 1 else j) (by split <;> omega) (by split <;> omega)
    rw [k3 1 j (by decide) (by decide) a hj.2, k3 2 j (by decide) (by decide) a hj.2, k3 3 j (by decide) (by decide) a hj.2, kpF_old hu hj (by decide)]
    refine ⟨q.1, q.2.1, fun y c d => ?_, fun y c d => ?_, ?_⟩
    · rw [kpF_old hu hj ⟨c, by omega⟩, q.2.2.1 y c d]
      refine unF_congr hm (fun x e f => ?_) c d
      unfold nxF
      rw [if_pos (show j + 1 < kpN u + 1 by omega)]
      by_cases w : j + 1 = kpN u
      · rw [if_neg (by split <;> omega)]
        show ρ x = kpF ρ L u kd (26 * (j + 1) + x)
        rw [w, kpF_new ⟨e, f⟩]
      · rw [if_pos (by split <;> omega)]
        show L (26 * ((if u = 16 then j + 1 else j) + 1) + x) = kpF ρ L u kd (26 * (j + 1) + x)
        rw [kpF_old hu (j := j + 1) (by omega) ⟨e, by omega⟩]
        congr 1
        split <;> omega
    · rw [kpF_old hu hj ⟨c, by omega⟩]; exact q.2.2.2.1 y c d
    · rw [kpF_old hu hj (by decide)]; exact q.2.2.2.2
/-- the latest change taken back: what stood -/
def bkR (r L : Int → Int) (u : Int) : Int → Int := cpF r L 0 (26 * (u - 1)) 25
theorem bkR_in {r L : Int → Int} {u y : Int} (h : 0 ≤ y ∧ y < 25) : bkR r L u y = L (26 * (u - 1) + y) := by
  unfold bkR cpF
  rw [if_pos (by omega)]
  congr 1; omega
theorem bkR_out {r L : Int → Int} {u y : Int} (h : y < 0 ∨ 25 ≤ y) : bkR r L u y = r y := by
  unfold bkR cpF
  rw [if_neg (by omega)]
theorem trI.back {r L : Int → Int} {u T : Int} {g g2 : gM} (h : trI r L u T g) (ho : rowOK r) (hu : 0 < u) (h3 : g2 T 3 = u - 1) (he : ∀ a k, T + 1 ≤ a → a ≤ T + 3 → g2 a k = g a k) : trI (bkR r L u) L (u - 1) T g2 ∧ rowOK (bkR r L u) ∧ sLow r (bkR r L u) := by
  have hb := h.1
  have hm := ro_many ho
  have q := h.2.2 (u - 1) (by omega) (by omega)
  have h41 : bkR r L u 41 = r 41 := bkR_out (by omega)
  refine ⟨⟨by omega, h3, fun j a b => ?_⟩, ?_, fun y hy => bkR_out hy⟩
  · rw [h41, he _ _ (by omega) (by omega), he _ _ (by omega) (by omega), he _ _ (by omega) (by omega)]
    have t := h.2.2 j a (by omega)
    refine ⟨t.1, t.2.1, fun y c d => ?_, t.2.2.2⟩
    rw [t.2.2.1 y c d]
    refine unF_congr hm (fun x e f => ?_) c d
    unfold nxF
    rw [if_pos (by omega)]
    by_cases w : j + 1 < u - 1
    · rw [if_pos w]
    · rw [if_neg w, bkR_in ⟨e, f⟩, show j + 1 = u - 1 by omega]
  · refine ho.low (fun y hy => bkR_out hy) (fun y c d => ?_) ?_
    · rw [bkR_in ⟨c, by omega⟩]; exact q.2.2.2.1 y c d
    · rw [bkR_in (by decide)]; exact q.2.2.2.2
set_option maxHeartbeats 1000000 in
theorem c_Trail_dropOldest {sh : gS} {g : gM} (hx : gFix sh) (hf : gFin g) {T : Int} (hT : isTr T) : gTri f_Trail_dropOldest 3 0 0 [(2, T)] sh g (fun x s2 g2 => x = none ∧ s2 = sh ∧ doS T g g2) := by
  have hTx := hT
  unfold isTr at hTx
  refine gTri.of (by decide +kernel) rfl ?_
  show gWP f_Trail_dropOldest _ _ _ 0 [(2, T)] [] sh g _
  refine gw_aload_n (gc k_Trail_dropOldest_0 0 rfl) rfl rfl ?_
  refine gw_bipush (gc k_Trail_dropOldest_0 1 rfl) (by decide) ?_
  refine gw_putIK 3 rfl (gc k_Trail_dropOldest_0 2 rfl) fl_Trail_21 (by first | exact (ts hx hT).1 | exact (ts hx hT).2.1 | exact (ts hx hT).2.2.1 | exact (ts hx hT).2.2.2) hf (by first | exact tn hT (Or.inl ⟨rfl, rfl⟩) | exact tn hT (Or.inr (by omega))) (fun hf => ?_)
  obtain ⟨m0, hm0⟩ : ∃ M, M = gup g T 3 15 := ⟨_, rfl⟩
  rw [← hm0]
  have hf : gFin m0 := by rw [hm0]; exact hf
  have h0 : m0 T 3 = 15 := by rw [hm0, gup_s]
  have e0 : ∀ a k, a ≠ T → m0 a k = g a k := fun a k z => by rw [hm0, gup_a _ _ _ _ _ z]
  refine gw_aload_n (gc k_Trail_dropOldest_0 3 rfl) rfl rfl ?_
  refine gw_getref (gc k_Trail_dropOldest_0 4 rfl) fl_Trail_9 (by first | exact (ts hx hT).1 | exact (ts hx hT).2.1 | exact (ts hx hT).2.2.1 | exact (ts hx hT).2.2.2) (by first | exact (tr hf hT).1 | exact (tr hf hT).2.1 | exact (tr hf hT).2.2) ?_
  refine gw_iconst (gc k_Trail_dropOldest_0 5 rfl) ?_
  refine gw_aload_n (gc k_Trail_dropOldest_0 6 rfl) rfl rfl ?_
  refine gw_getref (gc k_Trail_dropOldest_0 7 rfl) fl_Trail_9 (by first | exact (ts hx hT).1 | exact (ts hx hT).2.1 | exact (ts hx hT).2.2.1 | exact (ts hx hT).2.2.2) (by first | exact (tr hf hT).1 | exact (tr hf hT).2.1 | exact (tr hf hT).2.2) ?_
  refine gw_iconst (gc k_Trail_dropOldest_0 8 rfl) ?_
  refine gw_aload_n (gc k_Trail_dropOldest_0 9 rfl) rfl rfl ?_
  refine gw_getf 3 rfl (gc k_Trail_dropOldest_0 10 rfl) fl_Trail_21 (by first | exact (ts hx hT).1 | exact (ts hx hT).2.1 | exact (ts hx hT).2.2.1 | exact (ts hx hT).2.2.2) ?_
  rw [h0]
  refine gw_copy (gc k_Trail_dropOldest_0 11 rfl) ln_Trail_28 (gm3 90 rfl rfl) (gm3 89 rfl rfl) (gm1 15 rfl rfl) (by first | exact (ts hx hT).1 | exact (ts hx hT).2.1 | exact (ts hx hT).2.2.1 | exact (ts hx hT).2.2.2) (by first | exact (ts hx hT).1 | exact (ts hx hT).2.1 | exact (ts hx hT).2.2.1 | exact (ts hx hT).2.2.2) (by omega) rfl rfl ?_
  obtain ⟨m1, hm1⟩ : ∃ M, M = gfr m0 (T + 1) (fun y => if 0 ≤ y ∧ y < 0 + 15 then m0 (T + 1) (1 + (y - 0)) else m0 (T + 1) y) := ⟨_, rfl⟩
  rw [← hm1]
  have hf : gFin m1 := by rw [hm1]; exact hf.fr (fun k => tn hT (by omega))
  have em1 : ∀ a k, a ≠ T + 1 → m1 a k = m0 a k := fun a k z => by rw [hm1]; exact gfr_a _ _ _ _ z
  have fm1 : ∀ k, 0 ≤ k → k < 15 → m1 (T + 1) k = m0 (T + 1) (1 + k) := fun k a b => by
    rw [hm1, gfr_s]
    show (if 0 ≤ k ∧ k < 0 + 15 then m0 (T + 1) (1 + (k - 0)) else m0 (T + 1) k) = _
    rw [if_pos (by omega), Int.sub_zero]
  refine gw_aload_n (gc k_Trail_dropOldest_0 12 rfl) rfl rfl ?_
  refine gw_getref (gc k_Trail_dropOldest_0 13 rfl) fl_Trail_15 (by first | exact (ts hx hT).1 | exact (ts hx hT).2.1 | exact (ts hx hT).2.2.1 | exact (ts hx hT).2.2.2) (by first | exact (tr hf hT).1 | exact (tr hf hT).2.1 | exact (tr hf hT).2.2) ?_
  refine gw_iconst (gc k_Trail_dropOldest_0 14 rfl) ?_
  refine gw_aload_n (gc k_Trail_dropOldest_0 15 rfl) rfl rfl ?_
  refine gw_getref (gc k_Trail_dropOldest_0 16 rfl) fl_Trail_15 (by first | exact (ts hx hT).1 | exact (ts hx hT).2.1 | exact (ts hx hT).2.2.1 | exact (ts hx hT).2.2.2) (by first | exact (tr hf hT).1 | exact (tr hf hT).2.1 | exact (tr hf hT).2.2) ?_
  refine gw_iconst (gc k_Trail_dropOldest_0 17 rfl) ?_
  refine gw_aload_n (gc k_Trail_dropOldest_0 18 rfl) rfl rfl ?_
  refine gw_getf 3 rfl (gc k_Trail_dropOldest_0 19 rfl) fl_Trail_21 (by first | exact (ts hx hT).1 | exact (ts hx hT).2.1 | exact (ts hx hT).2.2.1 | exact (ts hx hT).2.2.2) ?_
  rw [em1 T 3 (by omega), h0]
  refine gw_copy (gc k_Trail_dropOldest_0 20 rfl) ln_Trail_28 (gm3 90 rfl rfl) (gm3 89 rfl rfl) (gm1 15 rfl rfl) (by first | exact (ts hx hT).1 | exact (ts hx hT).2.1 | exact (ts hx hT).2.2.1 | exact (ts hx hT).2.2.2) (by first | exact (ts hx hT).1 | exact (ts hx hT).2.1 | exact (ts hx hT).2.2.1 | exact (ts hx hT).2.2.2) (by omega) rfl rfl ?_
  obtain ⟨m2, hm2⟩ : ∃ M, M = gfr m1 (T + 2) (fun y => if 0 ≤ y ∧ y < 0 + 15 then m1 (T + 2) (1 + (y - 0)) else m1 (T + 2) y) := ⟨_, rfl⟩
  rw [← hm2]
  have hf : gFin m2 := by rw [hm2]; exact hf.fr (fun k => tn hT (by omega))
  have em2 : ∀ a k, a ≠ T + 2 → m2 a k = m1 a k := fun a k z => by rw [hm2]; exact gfr_a _ _ _ _ z
  have fm2 : ∀ k, 0 ≤ k → k < 15 → m2 (T + 2) k = m1 (T + 2) (1 + k) := fun k a b => by
    rw [hm2, gfr_s]
    show (if 0 ≤ k ∧ k < 0 + 15 then m1 (T + 2) (1 + (k - 0)) else m1 (T + 2) k) = _
    rw [if_pos (by omega), Int.sub_zero]
  refine gw_aload_n (gc k_Trail_dropOldest_0 21 rfl) rfl rfl ?_
  refine gw_getref (gc k_Trail_dropOldest_0 22 rfl) fl_Trail_18 (by first | exact (ts hx hT).1 | exact (ts hx hT).2.1 | exact (ts hx hT).2.2.1 | exact (ts hx hT).2.2.2) (by first | exact (tr hf hT).1 | exact (tr hf hT).2.1 | exact (tr hf hT).2.2) ?_
  refine gw_iconst (gc k_Trail_dropOldest_0 23 rfl) ?_
  refine gw_aload_n (gc k_Trail_dropOldest_0 24 rfl) rfl rfl ?_
  refine gw_getref (gc k_Trail_dropOldest_0 25 rfl) fl_Trail_18 (by first | exact (ts hx hT).1 | exact (ts hx hT).2.1 | exact (ts hx hT).2.2.1 | exact (ts hx hT).2.2.2) (by first | exact (tr hf hT).1 | exact (tr hf hT).2.1 | exact (tr hf hT).2.2) ?_
  refine gw_iconst (gc k_Trail_dropOldest_0 26 rfl) ?_
  refine gw_aload_n (gc k_Trail_dropOldest_0 27 rfl) rfl rfl ?_
  refine gw_getf 3 rfl (gc k_Trail_dropOldest_0 28 rfl) fl_Trail_21 (by first | exact (ts hx hT).1 | exact (ts hx hT).2.1 | exact (ts hx hT).2.2.1 | exact (ts hx hT).2.2.2) ?_
  rw [em2 T 3 (by omega), em1 T 3 (by omega), h0]
  refine gw_copy (gc k_Trail_dropOldest_0 29 rfl) ln_Trail_28 (gm3 90 rfl rfl) (gm3 89 rfl rfl) (gm1 15 rfl rfl) (by first | exact (ts hx hT).1 | exact (ts hx hT).2.1 | exact (ts hx hT).2.2.1 | exact (ts hx hT).2.2.2) (by first | exact (ts hx hT).1 | exact (ts hx hT).2.1 | exact (ts hx hT).2.2.1 | exact (ts hx hT).2.2.2) (by omega) rfl rfl ?_
  obtain ⟨m3, hm3⟩ : ∃ M, M = gfr m2 (T + 3) (fun y => if 0 ≤ y ∧ y < 0 + 15 then m2 (T + 3) (1 + (y - 0)) else m2 (T + 3) y) := ⟨_, rfl⟩
  rw [← hm3]
  have hf : gFin m3 := by rw [hm3]; exact hf.fr (fun k => tn hT (by omega))
  have em3 : ∀ a k, a ≠ T + 3 → m3 a k = m2 a k := fun a k z => by rw [hm3]; exact gfr_a _ _ _ _ z
  have fm3 : ∀ k, 0 ≤ k → k < 15 → m3 (T + 3) k = m2 (T + 3) (1 + k) := fun k a b => by
    rw [hm3, gfr_s]
    show (if 0 ≤ k ∧ k < 0 + 15 then m2 (T + 3) (1 + (k - 0)) else m2 (T + 3) k) = _
    rw [if_pos (by omega), Int.sub_zero]
  refine gw_return (gc k_Trail_dropOldest_0 30 rfl) rfl ?_
  refine ⟨rfl, rfl, fun a k z1 z2 => ?_, by rw [em3 T 3 (by omega), em2 T 3 (by omega), em1 T 3 (by omega), h0], fun j y a b c d => ?_⟩
  · rw [em3 a k (by omega), em2 a k (by omega), em1 a k (by omega), hm0]
    by_cases e : a = T
    · subst e; exact gup_k _ _ _ _ (by omega)
    · exact gup_a _ _ _ _ _ e
  · rcases (show j = 1 ∨ j = 2 ∨ j = 3 by omega) with rfl | rfl | rfl
    · rw [em3 _ _ (by omega), em2 _ _ (by omega), fm1 y c d, e0 _ _ (by omega), Int.add_comm 1 y]
    · rw [em3 _ _ (by omega), fm2 y c d, em1 _ _ (by omega), e0 _ _ (by omega), Int.add_comm 1 y]
    · rw [fm3 y c d, em2 _ _ (by omega), em1 _ _ (by omega), e0 _ _ (by omega), Int.add_comm 1 y]
set_option maxHeartbeats 1000000 in
theorem c_Trail_copyFrom {sh : gS} {g : gM} (hx : gFix sh) (hf : gFin g) {T U : Int} (hT : isTr T) (hU : isTr U) (hne : T ≠ U) : gTri f_Trail_copyFrom 3 0 0 [(2, T), (2, U)] sh g (fun x s2 g2 => x = none ∧ s2 = sh ∧ tcS T U g g2) := by
  have hTx := hT
  unfold isTr at hTx
  have hUx := hU
  unfold isTr at hUx
  refine gTri.of (by decide +kernel) rfl ?_
  show gWP f_Trail_copyFrom _ _ _ 0 [(2, T), (2, U)] [] sh g _
  refine gw_aload_n (gc k_Trail_copyFrom_0 0 rfl) rfl rfl ?_
  refine gw_aload_n (gc k_Trail_copyFrom_0 1 rfl) rfl rfl ?_
  refine gw_getf 3 rfl (gc k_Trail_copyFrom_0 2 rfl) fl_Trail_21 (by first | exact (ts hx hT).1 | exact (ts hx hT).2.1 | exact (ts hx hT).2.2.1 | exact (ts hx hT).2.2.2 | exact (ts hx hU).1 | exact (ts hx hU).2.1 | exact (ts hx hU).2.2.1 | exact (ts hx hU).2.2.2) ?_
  refine gw_putIK 3 rfl (gc k_Trail_copyFrom_0 3 rfl) fl_Trail_21 (by first | exact (ts hx hT).1 | exact (ts hx hT).2.1 | exact (ts hx hT).2.2.1 | exact (ts hx hT).2.2.2 | exact (ts hx hU).1 | exact (ts hx hU).2.1 | exact (ts hx hU).2.2.1 | exact (ts hx hU).2.2.2) hf (by first | exact tn hT (Or.inl ⟨rfl, rfl⟩) | exact tn hT (Or.inr (by omega))) (fun hf => ?_)
  obtain ⟨m0, hm0⟩ : ∃ M, M = gup g T 3 (g U 3) := ⟨_, rfl⟩
  rw [← hm0]
  have hf : gFin m0 := by rw [hm0]; exact hf
  have h0 : m0 T 3 = g U 3 := by rw [hm0, gup_s]
  have e0 : ∀ a k, a ≠ T → m0 a k = g a k := fun a k z => by rw [hm0, gup_a _ _ _ _ _ z]
  refine gw_aload_n (gc k_Trail_copyFrom_0 4 rfl) rfl rfl ?_
  refine gw_getref (gc k_Trail_copyFrom_0 5 rfl) fl_Trail_9 (by first | exact (ts hx hT).1 | exact (ts hx hT).2.1 | exact (ts hx hT).2.2.1 | exact (ts hx hT).2.2.2 | exact (ts hx hU).1 | exact (ts hx hU).2.1 | exact (ts hx hU).2.2.1 | exact (ts hx hU).2.2.2) (by first | exact (tr hf hT).1 | exact (tr hf hT).2.1 | exact (tr hf hT).2.2 | exact (tr hf hU).1 | exact (tr hf hU).2.1 | exact (tr hf hU).2.2) ?_
  refine gw_iconst (gc k_Trail_copyFrom_0 6 rfl) ?_
  refine gw_aload_n (gc k_Trail_copyFrom_0 7 rfl) rfl rfl ?_
  refine gw_getref (gc k_Trail_copyFrom_0 8 rfl) fl_Trail_9 (by first | exact (ts hx hT).1 | exact (ts hx hT).2.1 | exact (ts hx hT).2.2.1 | exact (ts hx hT).2.2.2 | exact (ts hx hU).1 | exact (ts hx hU).2.1 | exact (ts hx hU).2.2.1 | exact (ts hx hU).2.2.2) (by first | exact (tr hf hT).1 | exact (tr hf hT).2.1 | exact (tr hf hT).2.2 | exact (tr hf hU).1 | exact (tr hf hU).2.1 | exact (tr hf hU).2.2) ?_
  refine gw_iconst (gc k_Trail_copyFrom_0 9 rfl) ?_
  refine gw_bipush (gc k_Trail_copyFrom_0 10 rfl) (by decide) ?_
  refine gw_copy (gc k_Trail_copyFrom_0 11 rfl) ln_Trail_28 (gm3 90 rfl rfl) (gm3 89 rfl rfl) (gm1 15 rfl rfl) (by first | exact (ts hx hT).1 | exact (ts hx hT).2.1 | exact (ts hx hT).2.2.1 | exact (ts hx hT).2.2.2 | exact (ts hx hU).1 | exact (ts hx hU).2.1 | exact (ts hx hU).2.2.1 | exact (ts hx hU).2.2.2) (by first | exact (ts hx hT).1 | exact (ts hx hT).2.1 | exact (ts hx hT).2.2.1 | exact (ts hx hT).2.2.2 | exact (ts hx hU).1 | exact (ts hx hU).2.1 | exact (ts hx hU).2.2.1 | exact (ts hx hU).2.2.2) (by omega) rfl rfl ?_
  obtain ⟨m1, hm1⟩ : ∃ M, M = gfr m0 (T + 1) (fun y => if 0 ≤ y ∧ y < 0 + 16 then m0 (U + 1) (0 + (y - 0)) else m0 (T + 1) y) := ⟨_, rfl⟩
  rw [← hm1]
  have hf : gFin m1 := by rw [hm1]; exact hf.fr (fun k => tn hT (by omega))
  have em1 : ∀ a k, a ≠ T + 1 → m1 a k = m0 a k := fun a k z => by rw [hm1]; exact gfr_a _ _ _ _ z
  have fm1 : ∀ k, 0 ≤ k → k < 16 → m1 (T + 1) k = m0 (U + 1) (0 + k) := fun k a b => by
    rw [hm1, gfr_s]
    show (if 0 ≤ k ∧ k < 0 + 16 then m0 (U + 1) (0 + (k - 0)) else m0 (T + 1) k) = _
    rw [if_pos (by omega), Int.sub_zero]
  refine gw_aload_n (gc k_Trail_copyFrom_0 12 rfl) rfl rfl ?_
  refine gw_getref (gc k_Trail_copyFrom_0 13 rfl) fl_Trail_15 (by first | exact (ts hx hT).1 | exact (ts hx hT).2.1 | exact (ts hx hT).2.2.1 | exact (ts hx hT).2.2.2 | exact (ts hx hU).1 | exact (ts hx hU).2.1 | exact (ts hx hU).2.2.1 | exact (ts hx hU).2.2.2) (by first | exact (tr hf hT).1 | exact (tr hf hT).2.1 | exact (tr hf hT).2.2 | exact (tr hf hU).1 | exact (tr hf hU).2.1 | exact (tr hf hU).2.2) ?_
  refine gw_iconst (gc k_Trail_copyFrom_0 14 rfl) ?_
  refine gw_aload_n (gc k_Trail_copyFrom_0 15 rfl) rfl rfl ?_
  refine gw_getref (gc k_Trail_copyFrom_0 16 rfl) fl_Trail_15 (by first | exact (ts hx hT).1 | exact (ts hx hT).2.1 | exact (ts hx hT).2.2.1 | exact (ts hx hT).2.2.2 | exact (ts hx hU).1 | exact (ts hx hU).2.1 | exact (ts hx hU).2.2.1 | exact (ts hx hU).2.2.2) (by first | exact (tr hf hT).1 | exact (tr hf hT).2.1 | exact (tr hf hT).2.2 | exact (tr hf hU).1 | exact (tr hf hU).2.1 | exact (tr hf hU).2.2) ?_
  refine gw_iconst (gc k_Trail_copyFrom_0 17 rfl) ?_
  refine gw_bipush (gc k_Trail_copyFrom_0 18 rfl) (by decide) ?_
  refine gw_copy (gc k_Trail_copyFrom_0 19 rfl) ln_Trail_28 (gm3 90 rfl rfl) (gm3 89 rfl rfl) (gm1 15 rfl rfl) (by first | exact (ts hx hT).1 | exact (ts hx hT).2.1 | exact (ts hx hT).2.2.1 | exact (ts hx hT).2.2.2 | exact (ts hx hU).1 | exact (ts hx hU).2.1 | exact (ts hx hU).2.2.1 | exact (ts hx hU).2.2.2) (by first | exact (ts hx hT).1 | exact (ts hx hT).2.1 | exact (ts hx hT).2.2.1 | exact (ts hx hT).2.2.2 | exact (ts hx hU).1 | exact (ts hx hU).2.1 | exact (ts hx hU).2.2.1 | exact (ts hx hU).2.2.2) (by omega) rfl rfl ?_
  obtain ⟨m2, hm2⟩ : ∃ M, M = gfr m1 (T + 2) (fun y => if 0 ≤ y ∧ y < 0 + 16 then m1 (U + 2) (0 + (y - 0)) else m1 (T + 2) y) := ⟨_, rfl⟩
  rw [← hm2]
  have hf : gFin m2 := by rw [hm2]; exact hf.fr (fun k => tn hT (by omega))
  have em2 : ∀ a k, a ≠ T + 2 → m2 a k = m1 a k := fun a k z => by rw [hm2]; exact gfr_a _ _ _ _ z
  have fm2 : ∀ k, 0 ≤ k → k < 16 → m2 (T + 2) k = m1 (U + 2) (0 + k) := fun k a b => by
    rw [hm2, gfr_s]
    show (if 0 ≤ k ∧ k < 0 + 16 then m1 (U + 2) (0 + (k - 0)) else m1 (T + 2) k) = _
    rw [if_pos (by omega), Int.sub_zero]
  refine gw_aload_n (gc k_Trail_copyFrom_0 20 rfl) rfl rfl ?_
  refine gw_getref (gc k_Trail_copyFrom_0 21 rfl) fl_Trail_18 (by first | exact (ts hx hT).1 | exact (ts hx hT).2.1 | exact (ts hx hT).2.2.1 | exact (ts hx hT).2.2.2 | exact (ts hx hU).1 | exact (ts hx hU).2.1 | exact (ts hx hU).2.2.1 | exact (ts hx hU).2.2.2) (by first | exact (tr hf hT).1 | exact (tr hf hT).2.1 | exact (tr hf hT).2.2 | exact (tr hf hU).1 | exact (tr hf hU).2.1 | exact (tr hf hU).2.2) ?_
  refine gw_iconst (gc k_Trail_copyFrom_0 22 rfl) ?_
  refine gw_aload_n (gc k_Trail_copyFrom_0 23 rfl) rfl rfl ?_
  refine gw_getref (gc k_Trail_copyFrom_0 24 rfl) fl_Trail_18 (by first | exact (ts hx hT).1 | exact (ts hx hT).2.1 | exact (ts hx hT).2.2.1 | exact (ts hx hT).2.2.2 | exact (ts hx hU).1 | exact (ts hx hU).2.1 | exact (ts hx hU).2.2.1 | exact (ts hx hU).2.2.2) (by first | exact (tr hf hT).1 | exact (tr hf hT).2.1 | exact (tr hf hT).2.2 | exact (tr hf hU).1 | exact (tr hf hU).2.1 | exact (tr hf hU).2.2) ?_
  refine gw_iconst (gc k_Trail_copyFrom_0 25 rfl) ?_
  refine gw_bipush (gc k_Trail_copyFrom_0 26 rfl) (by decide) ?_
  refine gw_copy (gc k_Trail_copyFrom_0 27 rfl) ln_Trail_28 (gm3 90 rfl rfl) (gm3 89 rfl rfl) (gm1 15 rfl rfl) (by first | exact (ts hx hT).1 | exact (ts hx hT).2.1 | exact (ts hx hT).2.2.1 | exact (ts hx hT).2.2.2 | exact (ts hx hU).1 | exact (ts hx hU).2.1 | exact (ts hx hU).2.2.1 | exact (ts hx hU).2.2.2) (by first | exact (ts hx hT).1 | exact (ts hx hT).2.1 | exact (ts hx hT).2.2.1 | exact (ts hx hT).2.2.2 | exact (ts hx hU).1 | exact (ts hx hU).2.1 | exact (ts hx hU).2.2.1 | exact (ts hx hU).2.2.2) (by omega) rfl rfl ?_
  obtain ⟨m3, hm3⟩ : ∃ M, M = gfr m2 (T + 3) (fun y => if 0 ≤ y ∧ y < 0 + 16 then m2 (U + 3) (0 + (y - 0)) else m2 (T + 3) y) := ⟨_, rfl⟩
  rw [← hm3]
  have hf : gFin m3 := by rw [hm3]; exact hf.fr (fun k => tn hT (by omega))
  have em3 : ∀ a k, a ≠ T + 3 → m3 a k = m2 a k := fun a k z => by rw [hm3]; exact gfr_a _ _ _ _ z
  have fm3 : ∀ k, 0 ≤ k → k < 16 → m3 (T + 3) k = m2 (U + 3) (0 + k) := fun k a b => by
    rw [hm3, gfr_s]
    show (if 0 ≤ k ∧ k < 0 + 16 then m2 (U + 3) (0 + (k - 0)) else m2 (T + 3) k) = _
    rw [if_pos (by omega), Int.sub_zero]
  refine gw_return (gc k_Trail_copyFrom_0 28 rfl) rfl ?_
  refine ⟨rfl, rfl, fun a k z1 z2 => ?_, by rw [em3 T 3 (by omega), em2 T 3 (by omega), em1 T 3 (by omega), h0], fun j y a b c d => ?_⟩
  · rw [em3 a k (by omega), em2 a k (by omega), em1 a k (by omega), hm0]
    by_cases e : a = T
    · subst e; exact gup_k _ _ _ _ (by omega)
    · exact gup_a _ _ _ _ _ e
  · rcases (show j = 1 ∨ j = 2 ∨ j = 3 by omega) with rfl | rfl | rfl
    · rw [em3 _ _ (by omega), em2 _ _ (by omega), fm1 y c d, e0 _ _ (by omega), Int.zero_add]
    · rw [em3 _ _ (by omega), fm2 y c d, em1 _ _ (by omega), e0 _ _ (by omega), Int.zero_add]
    · rw [fm3 y c d, em2 _ _ (by omega), em1 _ _ (by omega), e0 _ _ (by omega), Int.zero_add]
set_option maxHeartbeats 2000000 in
theorem c_Trail_keep {sh : gS} {g : gM} (hx : gFix sh) (hf : gFin g) {T : Int} (hT : isTr T) (hl : 0 ≤ g T 3 ∧ g T 3 ≤ 16) (kd n p : Int) : gTri f_Trail_keep 4 0 0 [(2, T), (0, kd), (0, n), (0, p)] sh g (fun x s2 g2 => x = none ∧ s2 = sh ∧ tkS T kd n p g g2) := by
  have hTx := hT
  unfold isTr at hTx
  refine gTri.of (by decide +kernel) rfl ?_
  show gWP f_Trail_keep _ _ _ 0 [(2, T), (0, kd), (0, n), (0, p)] [] sh g _
  refine gw_aload_n (gc k_Trail_keep_0 0 rfl) rfl rfl ?_
  refine gw_getf 3 rfl (gc k_Trail_keep_0 1 rfl) fl_Trail_21 (by first | exact (ts hx hT).1 | exact (ts hx hT).2.1 | exact (ts hx hT).2.2.1 | exact (ts hx hT).2.2.2) ?_
  refine gw_bipush (gc k_Trail_keep_0 2 rfl) (by decide) ?_
  refine gw_icmp_lt (tgt := 13) (gc k_Trail_keep_0 3 rfl) rfl (by omega) (fun c6 => ?_) (fun c6 => ?_)
  · obtain ⟨u, hu2, m0, hm0⟩ : ∃ u, u = kpN (g T 3) ∧ ∃ M, M = g := ⟨_, rfl, _, rfl⟩
    rw [← hm0]
    have hu16 : ¬ g T 3 = 16 := by omega
    have hub : u = g T 3 := by rw [hu2]; exact (kpN_b4 hl).2.2.2 hu16
    have h0 : m0 T 3 = u := by rw [hm0, hub]
    have hf : gFin m0 := by rw [hm0]; exact hf
    have hF0 : tfF T g m0 := by rw [hm0]; exact fun _ _ _ _ => rfl
    have hO : ∀ j y, 1 ≤ j → j ≤ 3 → 0 ≤ y → y < u → m0 (T + j) y = g (T + j) (if g T 3 = 16 then y + 1 else y) := fun j y a b c d => by
      rw [if_neg hu16, hm0]
    refine gw_aload_n (gc k_Trail_keep_0 6 rfl) rfl rfl ?_
    refine gw_getref (gc k_Trail_keep_0 7 rfl) fl_Trail_9 (by first | exact (ts hx hT).1 | exact (ts hx hT).2.1 | exact (ts hx hT).2.2.1 | exact (ts hx hT).2.2.2) (by first | exact (tr hf hT).1 | exact (tr hf hT).2.1 | exact (tr hf hT).2.2) ?_
    refine gw_aload_n (gc k_Trail_keep_0 8 rfl) rfl rfl ?_
    refine gw_getf 3 rfl (gc k_Trail_keep_0 9 rfl) fl_Trail_21 (by first | exact (ts hx hT).1 | exact (ts hx hT).2.1 | exact (ts hx hT).2.2.1 | exact (ts hx hT).2.2.2) ?_
    rw [h0]
    refine gw_iload_n (gc k_Trail_keep_0 10 rfl) rfl ?_
    refine gw_iastF (gc k_Trail_keep_0 11 rfl) (by first | exact (ts hx hT).1 | exact (ts hx hT).2.1 | exact (ts hx hT).2.2.1 | exact (ts hx hT).2.2.2) (by omega) hf (by first | exact tn hT (Or.inl ⟨rfl, rfl⟩) | exact tn hT (Or.inr (by omega))) (fun hf => ?_)
    refine gw_aload_n (gc k_Trail_keep_0 12 rfl) rfl rfl ?_
    refine gw_getref (gc k_Trail_keep_0 13 rfl) fl_Trail_15 (by first | exact (ts hx hT).1 | exact (ts hx hT).2.1 | exact (ts hx hT).2.2.1 | exact (ts hx hT).2.2.2) (by first | exact (tr hf hT).1 | exact (tr hf hT).2.1 | exact (tr hf hT).2.2) ?_
    refine gw_aload_n (gc k_Trail_keep_0 14 rfl) rfl rfl ?_
    refine gw_getf 3 rfl (gc k_Trail_keep_0 15 rfl) fl_Trail_21 (by first | exact (ts hx hT).1 | exact (ts hx hT).2.1 | exact (ts hx hT).2.2.1 | exact (ts hx hT).2.2.2) ?_
    rw [gup_a _ _ _ _ _ (by omega), h0]
    refine gw_iload_n (gc k_Trail_keep_0 16 rfl) rfl ?_
    refine gw_iastF (gc k_Trail_keep_0 17 rfl) (by first | exact (ts hx hT).1 | exact (ts hx hT).2.1 | exact (ts hx hT).2.2.1 | exact (ts hx hT).2.2.2) (by omega) hf (by first | exact tn hT (Or.inl ⟨rfl, rfl⟩) | exact tn hT (Or.inr (by omega))) (fun hf => ?_)
    refine gw_aload_n (gc k_Trail_keep_0 18 rfl) rfl rfl ?_
    refine gw_getref (gc k_Trail_keep_0 19 rfl) fl_Trail_18 (by first | exact (ts hx hT).1 | exact (ts hx hT).2.1 | exact (ts hx hT).2.2.1 | exact (ts hx hT).2.2.2) (by first | exact (tr hf hT).1 | exact (tr hf hT).2.1 | exact (tr hf hT).2.2) ?_
    refine gw_aload_n (gc k_Trail_keep_0 20 rfl) rfl rfl ?_
    refine gw_getf 3 rfl (gc k_Trail_keep_0 21 rfl) fl_Trail_21 (by first | exact (ts hx hT).1 | exact (ts hx hT).2.1 | exact (ts hx hT).2.2.1 | exact (ts hx hT).2.2.2) ?_
    rw [gup_a _ _ _ _ _ (by omega), gup_a _ _ _ _ _ (by omega), h0]
    refine gw_iload_n (gc k_Trail_keep_0 22 rfl) rfl ?_
    refine gw_iastF (gc k_Trail_keep_0 23 rfl) (by first | exact (ts hx hT).1 | exact (ts hx hT).2.1 | exact (ts hx hT).2.2.1 | exact (ts hx hT).2.2.2) (by omega) hf (by first | exact tn hT (Or.inl ⟨rfl, rfl⟩) | exact tn hT (Or.inr (by omega))) (fun hf => ?_)
    refine gw_aload_n (gc k_Trail_keep_0 24 rfl) rfl rfl ?_
    refine gw_dup (gc k_Trail_keep_0 25 rfl) rfl ?_
    refine gw_getf 3 rfl (gc k_Trail_keep_0 26 rfl) fl_Trail_21 (by first | exact (ts hx hT).1 | exact (ts hx hT).2.1 | exact (ts hx hT).2.2.1 | exact (ts hx hT).2.2.2) ?_
    rw [gup_a _ _ _ _ _ (by omega), gup_a _ _ _ _ _ (by omega), gup_a _ _ _ _ _ (by omega), h0]
    refine gw_iconst (gc k_Trail_keep_0 27 rfl) ?_
    refine gw_iadd (gc k_Trail_keep_0 28 rfl) ?_
    refine gw_putIK 3 rfl (gc k_Trail_keep_0 29 rfl) fl_Trail_21 (by first | exact (ts hx hT).1 | exact (ts hx hT).2.1 | exact (ts hx hT).2.2.1 | exact (ts hx hT).2.2.2) hf (by first | exact tn hT (Or.inl ⟨rfl, rfl⟩) | exact tn hT (Or.inr (by omega))) (fun hf => ?_)
    refine gw_return (gc k_Trail_keep_0 30 rfl) rfl ?_
    rw [← hm0] at hu2 hF0 hO
    unfold tkS
    rw [← hu2]
    refine ⟨rfl, rfl, fun a k z1 z2 => ?_, by rw [gup_s], fun j y a b c d => ?_, ?_, ?_, ?_⟩
    · have e : a = T → ¬ k = 3 := fun e f => z1 ⟨e, f⟩
      by_cases e2 : a = T
      · subst e2
        rw [gup_k _ _ _ _ (e rfl), gup_a _ _ _ _ _ (by omega), gup_a _ _ _ _ _ (by omega), gup_a _ _ _ _ _ (by omega)]
        try exact hF0 _ _ z1 z2
      · rw [gup_a _ _ _ _ _ e2, gup_a _ _ _ _ _ (by omega), gup_a _ _ _ _ _ (by omega), gup_a _ _ _ _ _ (by omega)]
        try exact hF0 _ _ z1 z2
    · rw [← hO j y a b c d]
      rcases (show j = 1 ∨ j = 2 ∨ j = 3 by omega) with rfl | rfl | rfl <;> simp (disch := omega) only [gup_s, gup_k, gup_a]
    · simp (disch := omega) only [gup_s, gup_k, gup_a]
    · simp (disch := omega) only [gup_s, gup_k, gup_a]
    · simp (disch := omega) only [gup_s, gup_k, gup_a]
  · refine gw_aload_n (gc k_Trail_keep_0 4 rfl) rfl rfl ?_
    refine gw_xV1 (gc k_Trail_keep_0 5 rfl) y_Trail_dropOldest ln_Trail_25 (c_Trail_dropOldest hx hf hT) rfl rfl (by first | exact (ts hx hT).1 | exact (ts hx hT).2.1 | exact (ts hx hT).2.2.1 | exact (ts hx hT).2.2.2) rfl rfl (fun r10 sh2 g10 hq10 => ?_)
    obtain ⟨rfl, hsh, hd⟩ := hq10
    subst sh2
    obtain ⟨u, hu2, m0, hm0⟩ : ∃ u, u = kpN (g T 3) ∧ ∃ M, M = g10 := ⟨_, rfl, _, rfl⟩
    rw [← hm0]
    have hu16 : g T 3 = 16 := by omega
    have hub : u = 15 := by rw [hu2]; exact (kpN_b4 hl).2.2.1 hu16
    have h0 : m0 T 3 = u := by rw [hm0, hd.2.1, hub]
    have hf : gFin m0 := by rw [hm0]; exact hd.1.fin hT hf
    have hF0 : tfF T g m0 := by rw [hm0]; exact hd.1
    have hO : ∀ j y, 1 ≤ j → j ≤ 3 → 0 ≤ y → y < u → m0 (T + j) y = g (T + j) (if g T 3 = 16 then y + 1 else y) := fun j y a b c d => by
      rw [if_pos hu16, hm0]; exact hd.2.2 j y a b c (by omega)
    refine gw_aload_n (gc k_Trail_keep_0 6 rfl) rfl rfl ?_
    refine gw_getref (gc k_Trail_keep_0 7 rfl) fl_Trail_9 (by first | exact (ts hx hT).1 | exact (ts hx hT).2.1 | exact (ts hx hT).2.2.1 | exact (ts hx hT).2.2.2) (by first | exact (tr hf hT).1 | exact (tr hf hT).2.1 | exact (tr hf hT).2.2) ?_
    refine gw_aload_n (gc k_Trail_keep_0 8 rfl) rfl rfl ?_
    refine gw_getf 3 rfl (gc k_Trail_keep_0 9 rfl) fl_Trail_21 (by first | exact (ts hx hT).1 | exact (ts hx hT).2.1 | exact (ts hx hT).2.2.1 | exact (ts hx hT).2.2.2) ?_
    rw [h0]
    refine gw_iload_n (gc k_Trail_keep_0 10 rfl) rfl ?_
    refine gw_iastF (gc k_Trail_keep_0 11 rfl) (by first | exact (ts hx hT).1 | exact (ts hx hT).2.1 | exact (ts hx hT).2.2.1 | exact (ts hx hT).2.2.2) (by omega) hf (by first | exact tn hT (Or.inl ⟨rfl, rfl⟩) | exact tn hT (Or.inr (by omega))) (fun hf => ?_)
    refine gw_aload_n (gc k_Trail_keep_0 12 rfl) rfl rfl ?_
    refine gw_getref (gc k_Trail_keep_0 13 rfl) fl_Trail_15 (by first | exact (ts hx hT).1 | exact (ts hx hT).2.1 | exact (ts hx hT).2.2.1 | exact (ts hx hT).2.2.2) (by first | exact (tr hf hT).1 | exact (tr hf hT).2.1 | exact (tr hf hT).2.2) ?_
    refine gw_aload_n (gc k_Trail_keep_0 14 rfl) rfl rfl ?_
    refine gw_getf 3 rfl (gc k_Trail_keep_0 15 rfl) fl_Trail_21 (by first | exact (ts hx hT).1 | exact (ts hx hT).2.1 | exact (ts hx hT).2.2.1 | exact (ts hx hT).2.2.2) ?_
    rw [gup_a _ _ _ _ _ (by omega), h0]
    refine gw_iload_n (gc k_Trail_keep_0 16 rfl) rfl ?_
    refine gw_iastF (gc k_Trail_keep_0 17 rfl) (by first | exact (ts hx hT).1 | exact (ts hx hT).2.1 | exact (ts hx hT).2.2.1 | exact (ts hx hT).2.2.2) (by omega) hf (by first | exact tn hT (Or.inl ⟨rfl, rfl⟩) | exact tn hT (Or.inr (by omega))) (fun hf => ?_)
    refine gw_aload_n (gc k_Trail_keep_0 18 rfl) rfl rfl ?_
    refine gw_getref (gc k_Trail_keep_0 19 rfl) fl_Trail_18 (by first | exact (ts hx hT).1 | exact (ts hx hT).2.1 | exact (ts hx hT).2.2.1 | exact (ts hx hT).2.2.2) (by first | exact (tr hf hT).1 | exact (tr hf hT).2.1 | exact (tr hf hT).2.2) ?_
    refine gw_aload_n (gc k_Trail_keep_0 20 rfl) rfl rfl ?_
    refine gw_getf 3 rfl (gc k_Trail_keep_0 21 rfl) fl_Trail_21 (by first | exact (ts hx hT).1 | exact (ts hx hT).2.1 | exact (ts hx hT).2.2.1 | exact (ts hx hT).2.2.2) ?_
    rw [gup_a _ _ _ _ _ (by omega), gup_a _ _ _ _ _ (by omega), h0]
    refine gw_iload_n (gc k_Trail_keep_0 22 rfl) rfl ?_
    refine gw_iastF (gc k_Trail_keep_0 23 rfl) (by first | exact (ts hx hT).1 | exact (ts hx hT).2.1 | exact (ts hx hT).2.2.1 | exact (ts hx hT).2.2.2) (by omega) hf (by first | exact tn hT (Or.inl ⟨rfl, rfl⟩) | exact tn hT (Or.inr (by omega))) (fun hf => ?_)
    refine gw_aload_n (gc k_Trail_keep_0 24 rfl) rfl rfl ?_
    refine gw_dup (gc k_Trail_keep_0 25 rfl) rfl ?_
    refine gw_getf 3 rfl (gc k_Trail_keep_0 26 rfl) fl_Trail_21 (by first | exact (ts hx hT).1 | exact (ts hx hT).2.1 | exact (ts hx hT).2.2.1 | exact (ts hx hT).2.2.2) ?_
    rw [gup_a _ _ _ _ _ (by omega), gup_a _ _ _ _ _ (by omega), gup_a _ _ _ _ _ (by omega), h0]
    refine gw_iconst (gc k_Trail_keep_0 27 rfl) ?_
    refine gw_iadd (gc k_Trail_keep_0 28 rfl) ?_
    refine gw_putIK 3 rfl (gc k_Trail_keep_0 29 rfl) fl_Trail_21 (by first | exact (ts hx hT).1 | exact (ts hx hT).2.1 | exact (ts hx hT).2.2.1 | exact (ts hx hT).2.2.2) hf (by first | exact tn hT (Or.inl ⟨rfl, rfl⟩) | exact tn hT (Or.inr (by omega))) (fun hf => ?_)
    refine gw_return (gc k_Trail_keep_0 30 rfl) rfl ?_
    unfold tkS
    rw [← hu2]
    refine ⟨rfl, rfl, fun a k z1 z2 => ?_, by rw [gup_s], fun j y a b c d => ?_, ?_, ?_, ?_⟩
    · have e : a = T → ¬ k = 3 := fun e f => z1 ⟨e, f⟩
      by_cases e2 : a = T
      · subst e2
        rw [gup_k _ _ _ _ (e rfl), gup_a _ _ _ _ _ (by omega), gup_a _ _ _ _ _ (by omega), gup_a _ _ _ _ _ (by omega)]
        try exact hF0 _ _ z1 z2
      · rw [gup_a _ _ _ _ _ e2, gup_a _ _ _ _ _ (by omega), gup_a _ _ _ _ _ (by omega), gup_a _ _ _ _ _ (by omega)]
        try exact hF0 _ _ z1 z2
    · rw [← hO j y a b c d]
      rcases (show j = 1 ∨ j = 2 ∨ j = 3 by omega) with rfl | rfl | rfl <;> simp (disch := omega) only [gup_s, gup_k, gup_a]
    · simp (disch := omega) only [gup_s, gup_k, gup_a]
    · simp (disch := omega) only [gup_s, gup_k, gup_a]
    · simp (disch := omega) only [gup_s, gup_k, gup_a]
