theorem tlC_le {w : Int → Int} {h top v : Int} {c : PC} (ht : 0 ≤ top) (hv : v ≤ top) : tlC w h top v c ≤ top := by
  unfold tlC
  split
  · split
    · exact hv
    · split
      · omega
      · split <;> omega
  · exact hv
theorem tl_le {w : Int → Int} {h top : Int} (ht : 0 ≤ top) : ∀ (L : List PC) (v : Int), v ≤ top → tl w h top v L ≤ top
  | [], v, hv => hv
  | c :: L, v, hv => tl_le ht L _ (tlC_le ht hv)
theorem tlR_le {r w : Int → Int} {h top df : Int} (ht : 0 ≤ top) (hv : df ≤ top) : tlR r w h top df ≤ top := by
  unfold tlR
  split
  · exact hv
  · split
    · exact hv
    · exact tl_le ht _ _ hv
theorem vGain_bd (r : Int → Int) (n h p : Int) : 0 ≤ vGain r n h p ∧ vGain r n h p ≤ 99 := by
  unfold vGain
  split
  · decide
  · exact ⟨tlR_nn (by decide) (by decide), tlR_le (by decide) (by decide)⟩
def mxI (a b : Int) : Int := if b < a then a else b
def mxF (C P : Int → Int) (lo : Int) : Nat → Int
  | 0 => -100000000
  | k + 1 => if C (lo + k) = 1 then mxI (mxF C P lo k) (P (lo + k)) else mxF C P lo k
theorem mxF_bd {C P : Int → Int} {lo b : Int} (hb : 0 ≤ b) (hP : ∀ q, P q ≤ b) : ∀ k, -100000000 ≤ mxF C P lo k ∧ mxF C P lo k ≤ b
  | 0 => by unfold mxF; omega
  | k + 1 => by
    have h := mxF_bd (C := C) (lo := lo) hb hP k
    have h2 := hP (lo + k)
    unfold mxF mxI
    split
    · split <;> omega
    · exact h
def grF (r : Int → Int) (lo hi : Int) : Nat → Int → Int → Int
  | 0, _, _ => 0
  | m + 1, n, p => mxF (fun q => 1 - vBar r (n + 1) p q) (fun q => vGain r (n + 1) p q + grF r lo hi m (n + 1) q) lo (hi + 1 - lo).toNat
theorem grF_bd (r : Int → Int) (lo hi : Int) : ∀ (m : Nat) (n p : Int), -100000000 ≤ grF r lo hi m n p ∧ grF r lo hi m n p ≤ 100 * m
  | 0, _, _ => by unfold grF; omega
  | m + 1, n, p => by
    unfold grF
    have := mxF_bd (C := fun q => 1 - vBar r (n + 1) p q) (P := fun q => vGain r (n + 1) p q + grF r lo hi m (n + 1) q) (lo := lo) (b := 100 * (m + 1 : Nat)) (by omega) (fun q => by
      have h1 := vGain_bd r (n + 1) p q
      have h2 := grF_bd r lo hi m (n + 1) q
      show vGain r (n + 1) p q + grF r lo hi m (n + 1) q ≤ _
      omega) (hi + 1 - lo).toNat
    omega
def grR (r : Int → Int) (n p : Int) : Int := grF r (r 39) (r 40) (r 41 - 1 - n).toNat n p
def mxV (r : Int → Int) (n h : Int) : Int := mxF (fun q => 1 - vBar r n h q) (fun q => vGain r n h q + grR r n q) (r 39) (r 40 + 1 - r 39).toNat
theorem grR_last {r : Int → Int} {n p : Int} (h : n = r 41 - 1) : grR r n p = 0 := by
  unfold grR
  rw [show (r 41 - 1 - n).toNat = 0 by omega]
  rfl
theorem grR_step {r : Int → Int} {n p : Int} (h : n < r 41 - 1) : grR r n p = mxV r (n + 1) p := by
  unfold grR mxV grR
  rw [show (r 41 - 1 - n).toNat = (r 41 - 1 - (n + 1)).toNat + 1 by omega]
  rfl
/-- how many voices go on: by sums -/
def sgF (C P : Int → Int) (lo : Int) : Nat → Int
  | 0 => 0
  | k + 1 => sgF C P lo k + (if C (lo + k) = 1 then P (lo + k) else 0)
def wyF (r : Int → Int) (lo hi : Int) : Nat → Int → Int → Int
  | 0, _, _ => 1
  | m + 1, n, p => sgF (fun q => 1 - vBar r (n + 1) p q) (fun q => wyF r lo hi m (n + 1) q) lo (hi + 1 - lo).toNat
def wyR (r : Int → Int) (n p : Int) : Int := wyF r (r 39) (r 40) (r 41 - 1 - n).toNat n p
def wyV (r : Int → Int) (n h : Int) : Int := sgF (fun q => 1 - vBar r n h q) (fun q => wyR r n q) (r 39) (r 40 + 1 - r 39).toNat
theorem wyR_last {r : Int → Int} {n p : Int} (h : n = r 41 - 1) : wyR r n p = 1 := by
  unfold wyR
  rw [show (r 41 - 1 - n).toNat = 0 by omega]
  rfl
theorem wyR_step {r : Int → Int} {n p : Int} (h : n < r 41 - 1) : wyR r n p = wyV r (n + 1) p := by
  unfold wyR wyV wyR
  rw [show (r 41 - 1 - n).toNat = (r 41 - 1 - (n + 1)).toNat + 1 by omega]
  rfl
/-- laid down to note i, up to pitch j, in array a: by a function of note and pitch -/
def aUp (A : Int) (F : Int → Int → Int) (r : Int → Int) (g0 : gM) (i j : Int) (g : gM) : Prop := (∀ a k, a ≠ A → g a k = g0 a k) ∧ ∀ n q, 0 ≤ n → n < r 41 → r 39 ≤ q → q ≤ r 40 → (i < n ∨ (n = i ∧ q < j)) → g A (25 * n + q) = F n q
theorem aUp.fin {A : Int} {F : Int → Int → Int} {r : Int → Int} {i j : Int} {g0 g : gM} (h : aUp A F r g0 i j g) (hA : A = 195 ∨ A = 196) (hf : gFin g0) : gFin g := hf.of fun a k z => h.1 _ _ (fun q => z (gref_vo (by omega)))
theorem aUp.vo {A : Int} {F : Int → Int → Int} {r : Int → Int} {i j : Int} {g0 g : gM} (h : aUp A F r g0 i j g) (hA : A = 195 ∨ A = 196) : gVo g0 g := fun a k _ m => h.1 a k (fun z => m (Or.inr (by omega)))
theorem aUp.laid {A : Int} {F : Int → Int → Int} {r : Int → Int} {i j : Int} {g0 g : gM} (h : aUp A F r g0 i j g) (hA : A = 195 ∨ A = 196) (hv : vLaid r g0) : vLaid r g := by
  refine ⟨(funext fun k => h.1 179 k (by omega)).trans hv.1, fun n x p a1 a2 a3 a4 a5 a6 => ?_⟩
  rw [h.1 194 _ (by omega), h.1 192 _ (by omega), h.1 193 _ (by omega)]
  exact hv.2 n x p a1 a2 a3 a4 a5 a6
theorem aUp.step {A : Int} {F : Int → Int → Int} {r : Int → Int} {i j v : Int} {g0 g : gM} (h : aUp A F r g0 i j g) (ho : rowOK r) (hj : r 39 ≤ j ∧ j ≤ r 40) (hv : v = F i j) : aUp A F r g0 i (j + 1) (gup g A (25 * i + j) v) := by
  have h1 := ro_low ho
  have h2 := ro_high ho
  refine ⟨fun a k ha => (congrFun (gup_fn _ _ _ _ ha) k).trans (h.1 a k ha), fun n q a1 a2 a3 a4 a5 => ?_⟩
  by_cases e : n = i ∧ q = j
  · obtain ⟨rfl, rfl⟩ := e
    rw [gup_s, hv]
  · rw [gup_k _ _ _ _ (by omega)]
    exact h.2 n q a1 a2 a3 a4 (by omega)
set_option maxHeartbeats 2000000 in
theorem most_step {sh : gS} {g : gM} (hx : gFix sh) (hf : gFin g) {r : Int → Int} (ho : rowOK r) (hv : vLaid r g) (n h : Int) (hn : 0 ≤ n ∧ n < r 41) (hh : 0 ≤ h ∧ h ≤ 24) (h0 : n = 0 → h = 0) (hR : ∀ q, r 39 ≤ q → q ≤ r 40 → g 195 (25 * n + q) = grR r n q) (acc q : Int) (hq : r 39 ≤ q ∧ q ≤ 24) (ha : -200000000 ≤ acc ∧ acc ≤ 200000000) (hle : q ≤ r 40) {Q : gQ} (K : gWP f_Model_mostFrom 1 0 0 13 [(2, 177), (0, n), (0, h), (0, if vBar r n h q = 1 then acc else mxI acc (vGain r n h q + grR r n q)), (0, q + 1)] [] sh g Q) : gWP f_Model_mostFrom 1 0 0 13 [(2, 177), (0, n), (0, h), (0, acc), (0, q)] [] sh g Q := by
  have hm := ro_many ho
  have em := hv.1
  have hlo := ro_low ho
  have hhi := ro_high ho
  have hG := (hv.2 n h q hn.1 hn.2 hh.1 ⟨hh.2, h0⟩ (by omega) (by omega)).2.2
  have hg2 := vGain_bd r n h q
  have hg3 := grF_bd r (r 39) (r 40) (r 41 - 1 - n).toNat n q
  have hg4 : grR r n q = grF r (r 39) (r 40) (r 41 - 1 - n).toNat n q := rfl
  have hC := (hv.2 n h q hn.1 hn.2 hh.1 ⟨hh.2, h0⟩ (by omega) (by omega)).1
  have hb := vBar_01 r n h q
  show gWP f_Model_mostFrom _ _ _ 13 [(2, 177), (0, n), (0, h), (0, acc), (0, q)] [] sh g _
  skip
  refine gw_iload (gc k_Model_mostFrom_0 7 rfl) rfl ?_
  refine gw_aload_n (gc k_Model_mostFrom_0 8 rfl) rfl rfl ?_
  refine gw_getref (gc k_Model_mostFrom_0 9 rfl) fl_Model_28 (gAt hx rfl rfl) (gRf hf rfl rfl) ?_
  refine gw_bipush (gc k_Model_mostFrom_0 10 rfl) (by decide) ?_
  refine gw_iald (gc k_Model_mostFrom_0 11 rfl) (gAt hx rfl rfl) (by omega) ?_
  rw [em]
  refine gw_icmp_gt (tgt := 76) (gc k_Model_mostFrom_0 12 rfl) rfl (by omega) (fun c22 => ?_) (fun c22 => ?_)
  · exact absurd c22 (by omega)
  · refine gw_aload_n (gc k_Model_mostFrom_0 13 rfl) rfl rfl ?_
    refine gw_getref (gc k_Model_mostFrom_0 14 rfl) fl_Model_78 (gAt hx rfl rfl) (gRf hf rfl rfl) ?_
    refine gw_iload_n (gc k_Model_mostFrom_0 15 rfl) rfl ?_
    refine gw_iload_n (gc k_Model_mostFrom_0 16 rfl) rfl ?_
    refine gw_iload (gc k_Model_mostFrom_0 17 rfl) rfl ?_
    refine gw_cS1 (gc k_Model_mostFrom_0 18 rfl) y_Model_noteAt ln_Model_354 (c_Model_noteAt n h q) rfl rfl rfl rfl ?_
    refine gw_zald (gc k_Model_mostFrom_0 19 rfl) (gAt hx rfl rfl) (by omega) ?_
    rw [hC]
    refine gw_if_eq (tgt := 70) (gc k_Model_mostFrom_0 20 rfl) rfl (by omega) (fun c37 => ?_) (fun c37 => ?_)
    · refine gw_iinc_4 (gc k_Model_mostFrom_1 0 rfl) rfl rfl ?_
      refine gw_goto (tgt := 13) (gc k_Model_mostFrom_1 1 rfl) rfl ?_
      rw [if_pos (by omega)] at K
      exact K
    · refine gw_iload_n (gc k_Model_mostFrom_0 21 rfl) rfl ?_
      refine gw_aload_n (gc k_Model_mostFrom_0 22 rfl) rfl rfl ?_
      refine gw_getref (gc k_Model_mostFrom_0 23 rfl) fl_Model_75 (gAt hx rfl rfl) (gRf hf rfl rfl) ?_
      refine gw_iload_n (gc k_Model_mostFrom_0 24 rfl) rfl ?_
      refine gw_iload_n (gc k_Model_mostFrom_0 25 rfl) rfl ?_
      refine gw_iload (gc k_Model_mostFrom_0 26 rfl) rfl ?_
      refine gw_cS1 (gc k_Model_mostFrom_0 27 rfl) y_Model_noteAt ln_Model_354 (c_Model_noteAt n h q) rfl rfl rfl rfl ?_
      refine gw_iald (gc k_Model_mostFrom_0 28 rfl) (gAt hx rfl rfl) (by omega) ?_
      rw [hG]
      refine gw_aload_n (gc k_Model_mostFrom_0 29 rfl) rfl rfl ?_
      refine gw_getref (gc k_Model_mostFrom_0 30 rfl) fl_Model_81 (gAt hx rfl rfl) (gRf hf rfl rfl) ?_
      refine gw_bipush (gc k_Model_mostFrom_0 31 rfl) (by decide) ?_
      refine gw_iload_n (gc k_Model_mostFrom_0 32 rfl) rfl ?_
      refine gw_imul (gc k_Model_mostFrom_0 33 rfl) ?_
      refine gw_iload (gc k_Model_mostFrom_0 34 rfl) rfl ?_
      refine gw_iadd (gc k_Model_mostFrom_0 35 rfl) ?_
      refine gw_iald (gc k_Model_mostFrom_0 36 rfl) (gAt hx rfl rfl) (by omega) ?_
      rw [hR q hq.1 hle]
      refine gw_iadd (gc k_Model_mostFrom_0 37 rfl) ?_
      refine gw_cS1 (gc k_Model_mostFrom_0 38 rfl) y_Model_greater ln_Model_397 (c_Model_greater _ _ (by omega)) rfl rfl rfl rfl ?_
      refine gw_istore_3 (gc k_Model_mostFrom_0 39 rfl) rfl rfl ?_
      refine gw_iinc_4 (gc k_Model_mostFrom_1 0 rfl) rfl rfl ?_
      refine gw_goto (tgt := 13) (gc k_Model_mostFrom_1 1 rfl) rfl ?_
      rw [if_neg (by omega)] at K
      exact K
set_option maxHeartbeats 2000000 in
theorem most_exit {sh : gS} {g : gM} (hx : gFix sh) (hf : gFin g) {r : Int → Int} (ho : rowOK r) (hv : vLaid r g) (n h : Int) (hn : 0 ≤ n ∧ n < r 41) (hh : 0 ≤ h ∧ h ≤ 24) (h0 : n = 0 → h = 0) (acc q : Int) (hq : r 39 ≤ q ∧ q ≤ 25) (hle : ¬ q ≤ r 40) : gWP f_Model_mostFrom 1 0 0 13 [(2, 177), (0, n), (0, h), (0, acc), (0, q)] [] sh g (gR (some (0, acc)) sh g) := by
  have hm := ro_many ho
  have em := hv.1
  have hlo := ro_low ho
  have hhi := ro_high ho
  show gWP f_Model_mostFrom _ _ _ 13 [(2, 177), (0, n), (0, h), (0, acc), (0, q)] [] sh g _
  refine gw_iload (gc k_Model_mostFrom_0 7 rfl) rfl ?_
  refine gw_aload_n (gc k_Model_mostFrom_0 8 rfl) rfl rfl ?_
  refine gw_getref (gc k_Model_mostFrom_0 9 rfl) fl_Model_28 (gAt hx rfl rfl) (gRf hf rfl rfl) ?_
  refine gw_bipush (gc k_Model_mostFrom_0 10 rfl) (by decide) ?_
  refine gw_iald (gc k_Model_mostFrom_0 11 rfl) (gAt hx rfl rfl) (by omega) ?_
  rw [em]
  refine gw_icmp_gt (tgt := 76) (gc k_Model_mostFrom_0 12 rfl) rfl (by omega) (fun c22 => ?_) (fun c22 => ?_)
  · refine gw_iload_n (gc k_Model_mostFrom_1 2 rfl) rfl ?_
    refine gw_ireturn (gc k_Model_mostFrom_1 3 rfl) rfl ?_
    exact ⟨rfl, rfl, rfl⟩
  · exact absurd c22 (by omega)
theorem most_loop {sh : gS} {g : gM} (hx : gFix sh) (hf : gFin g) {r : Int → Int} (ho : rowOK r) (hv : vLaid r g) (n h : Int) (hn : 0 ≤ n ∧ n < r 41) (hh : 0 ≤ h ∧ h ≤ 24) (h0 : n = 0 → h = 0) (hR : ∀ q, r 39 ≤ q → q ≤ r 40 → g 195 (25 * n + q) = grR r n q) : ∀ (m k : Nat), k + m = (r 40 + 1 - r 39).toNat → gWP f_Model_mostFrom 1 0 0 13 [(2, 177), (0, n), (0, h), (0, mxF (fun q => 1 - vBar r n h q) (fun q => vGain r n h q + grR r n q) (r 39) k), (0, r 39 + k)] [] sh g (gR (some (0, mxV r n h)) sh g)
  | 0, k, e => by
    have hm := ro_many ho
    have hlo := ro_low ho
    have hhi := ro_high ho
    have ek : (r 40 + 1 - r 39).toNat = k := by omega
    unfold mxV
    rw [ek]
    exact most_exit hx hf ho hv n h hn hh h0 _ _ (by omega) (by omega)
  | m + 1, k, e => by
    have hm := ro_many ho
    have hlo := ro_low ho
    have hhi := ro_high ho
    have kk := most_loop hx hf ho hv n h hn hh h0 hR m (k + 1) (by omega)
    rw [show r 39 + ((k + 1 : Nat) : Int) = r 39 + k + 1 by omega] at kk
    have hb := vBar_01 r n h (r 39 + k)
    have ha := mxF_bd (C := fun q => 1 - vBar r n h q) (P := fun q => vGain r n h q + grR r n q) (lo := r 39) (b := 100 * (12 + 1 : Nat)) (by omega) (fun q => by
      have h1 := vGain_bd r n h q
      have h2 := grF_bd r (r 39) (r 40) (r 41 - 1 - n).toNat n q
      show vGain r n h q + grF r (r 39) (r 40) (r 41 - 1 - n).toNat n q ≤ _
      omega) k
    refine most_step hx hf ho hv n h hn hh h0 hR _ _ (by omega) (by omega) (by omega) ?_
    unfold mxF at kk
    rcases hb with hb | hb
    · rw [hb] at kk ⊢
      exact kk
    · rw [hb] at kk ⊢
      exact kk
set_option maxHeartbeats 1000000 in
theorem c_Model_mostFrom {sh : gS} {g : gM} (hx : gFix sh) (hf : gFin g) {r : Int → Int} (ho : rowOK r) (hv : vLaid r g) (n h : Int) (hn : 0 ≤ n ∧ n < r 41) (hh : 0 ≤ h ∧ h ≤ 24) (h0 : n = 0 → h = 0) (hR : ∀ q, r 39 ≤ q → q ≤ r 40 → g 195 (25 * n + q) = grR r n q) : gTri f_Model_mostFrom 1 0 0 [(2, 177), (0, n), (0, h)] sh g (gR (some (0, mxV r n h)) sh g) := by
  have em := hv.1
  refine gTri.of (by decide +kernel) rfl ?_
  show gWP f_Model_mostFrom _ _ _ 0 [(2, 177), (0, n), (0, h), (9, 0), (9, 0)] [] sh g _
  refine gw_ldcw (gc k_Model_mostFrom_0 0 rfl) cn_Model_396 ?_
  refine gw_istore_3 (gc k_Model_mostFrom_0 1 rfl) rfl rfl ?_
  refine gw_aload_n (gc k_Model_mostFrom_0 2 rfl) rfl rfl ?_
  refine gw_getref (gc k_Model_mostFrom_0 3 rfl) fl_Model_28 (gAt hx rfl rfl) (gRf hf rfl rfl) ?_
  refine gw_bipush (gc k_Model_mostFrom_0 4 rfl) (by decide) ?_
  refine gw_iald (gc k_Model_mostFrom_0 5 rfl) (gAt hx rfl rfl) (by omega) ?_
  refine gw_istore_4 (gc k_Model_mostFrom_0 6 rfl) rfl rfl ?_
  rw [em]
  have q := most_loop hx hf ho hv n h hn hh h0 hR _ 0 (Nat.zero_add _)
  rw [show r 39 + ((0 : Nat) : Int) = r 39 from Int.add_zero _] at q
  exact q
set_option maxHeartbeats 2000000 in
theorem ways_step {sh : gS} {g : gM} (hx : gFix sh) (hf : gFin g) {r : Int → Int} (ho : rowOK r) (hv : vLaid r g) (n h : Int) (hn : 0 ≤ n ∧ n < r 41) (hh : 0 ≤ h ∧ h ≤ 24) (h0 : n = 0 → h = 0) (hR : ∀ q, r 39 ≤ q → q ≤ r 40 → g 196 (25 * n + q) = wyR r n q) (acc q : Int) (hq : r 39 ≤ q ∧ q ≤ 24) (hle : q ≤ r 40) {Q : gQ} (K : gWP f_Model_waysFrom 1 0 0 11 [(2, 177), (0, n), (0, h), (1, acc + (if vBar r n h q = 1 then 0 else wyR r n q)), (9, 0), (0, q + 1)] [] sh g Q) : gWP f_Model_waysFrom 1 0 0 11 [(2, 177), (0, n), (0, h), (1, acc), (9, 0), (0, q)] [] sh g Q := by
  have hm := ro_many ho
  have em := hv.1
  have hlo := ro_low ho
  have hhi := ro_high ho
  have hC := (hv.2 n h q hn.1 hn.2 hh.1 ⟨hh.2, h0⟩ (by omega) (by omega)).1
  have hb := vBar_01 r n h q
  show gWP f_Model_waysFrom _ _ _ 11 [(2, 177), (0, n), (0, h), (1, acc), (9, 0), (0, q)] [] sh g _
  skip
  refine gw_iload (gc k_Model_waysFrom_0 7 rfl) rfl ?_
  refine gw_aload_n (gc k_Model_waysFrom_0 8 rfl) rfl rfl ?_
  refine gw_getref (gc k_Model_waysFrom_0 9 rfl) fl_Model_28 (gAt hx rfl rfl) (gRf hf rfl rfl) ?_
  refine gw_bipush (gc k_Model_waysFrom_0 10 rfl) (by decide) ?_
  refine gw_iald (gc k_Model_waysFrom_0 11 rfl) (gAt hx rfl rfl) (by omega) ?_
  rw [em]
  refine gw_icmp_gt (tgt := 63) (gc k_Model_waysFrom_0 12 rfl) rfl (by omega) (fun c20 => ?_) (fun c20 => ?_)
  · exact absurd c20 (by omega)
  · refine gw_lload_n (gc k_Model_waysFrom_0 13 rfl) rfl ?_
    refine gw_aload_n (gc k_Model_waysFrom_0 14 rfl) rfl rfl ?_
    refine gw_getref (gc k_Model_waysFrom_0 15 rfl) fl_Model_78 (gAt hx rfl rfl) (gRf hf rfl rfl) ?_
    refine gw_iload_n (gc k_Model_waysFrom_0 16 rfl) rfl ?_
    refine gw_iload_n (gc k_Model_waysFrom_0 17 rfl) rfl ?_
    refine gw_iload (gc k_Model_waysFrom_0 18 rfl) rfl ?_
    refine gw_cS1 (gc k_Model_waysFrom_0 19 rfl) y_Model_noteAt ln_Model_354 (c_Model_noteAt n h q) rfl rfl rfl rfl ?_
    refine gw_zald (gc k_Model_waysFrom_0 20 rfl) (gAt hx rfl rfl) (by omega) ?_
    rw [hC]
    refine gw_if_eq (tgt := 54) (gc k_Model_waysFrom_0 21 rfl) rfl (by omega) (fun c36 => ?_) (fun c36 => ?_)
    · refine gw_lconst0 (gc k_Model_waysFrom_0 31 rfl) ?_
      refine gw_ladd (gc k_Model_waysFrom_0 32 rfl) ?_
      refine gw_lstore_3 (gc k_Model_waysFrom_0 33 rfl) rfl rfl ?_
      refine gw_iinc_5 (gc k_Model_waysFrom_0 34 rfl) rfl rfl ?_
      refine gw_goto (tgt := 11) (gc k_Model_waysFrom_0 35 rfl) rfl ?_
      rw [if_pos (by omega)] at K
      exact K
    · refine gw_aload_n (gc k_Model_waysFrom_0 22 rfl) rfl rfl ?_
      refine gw_getref (gc k_Model_waysFrom_0 23 rfl) fl_Model_84 (gAt hx rfl rfl) (gRf hf rfl rfl) ?_
      refine gw_bipush (gc k_Model_waysFrom_0 24 rfl) (by decide) ?_
      refine gw_iload_n (gc k_Model_waysFrom_0 25 rfl) rfl ?_
      refine gw_imul (gc k_Model_waysFrom_0 26 rfl) ?_
      refine gw_iload (gc k_Model_waysFrom_0 27 rfl) rfl ?_
      refine gw_iadd (gc k_Model_waysFrom_0 28 rfl) ?_
      refine gw_lald (gc k_Model_waysFrom_0 29 rfl) (gAt hx rfl rfl) (by omega) ?_
      rw [hR q hq.1 hle]
      refine gw_goto (tgt := 55) (gc k_Model_waysFrom_0 30 rfl) rfl ?_
      refine gw_ladd (gc k_Model_waysFrom_0 32 rfl) ?_
      refine gw_lstore_3 (gc k_Model_waysFrom_0 33 rfl) rfl rfl ?_
      refine gw_iinc_5 (gc k_Model_waysFrom_0 34 rfl) rfl rfl ?_
      refine gw_goto (tgt := 11) (gc k_Model_waysFrom_0 35 rfl) rfl ?_
      rw [if_neg (by omega)] at K
      exact K
set_option maxHeartbeats 2000000 in
theorem ways_exit {sh : gS} {g : gM} (hx : gFix sh) (hf : gFin g) {r : Int → Int} (ho : rowOK r) (hv : vLaid r g) (n h : Int) (hn : 0 ≤ n ∧ n < r 41) (hh : 0 ≤ h ∧ h ≤ 24) (h0 : n = 0 → h = 0) (acc q : Int) (hq : r 39 ≤ q ∧ q ≤ 25) (hle : ¬ q ≤ r 40) : gWP f_Model_waysFrom 1 0 0 11 [(2, 177), (0, n), (0, h), (1, acc), (9, 0), (0, q)] [] sh g (gR (some (1, acc)) sh g) := by
  have hm := ro_many ho
  have em := hv.1
  have hlo := ro_low ho
  have hhi := ro_high ho
  show gWP f_Model_waysFrom _ _ _ 11 [(2, 177), (0, n), (0, h), (1, acc), (9, 0), (0, q)] [] sh g _
  refine gw_iload (gc k_Model_waysFrom_0 7 rfl) rfl ?_
  refine gw_aload_n (gc k_Model_waysFrom_0 8 rfl) rfl rfl ?_
  refine gw_getref (gc k_Model_waysFrom_0 9 rfl) fl_Model_28 (gAt hx rfl rfl) (gRf hf rfl rfl) ?_
  refine gw_bipush (gc k_Model_waysFrom_0 10 rfl) (by decide) ?_
  refine gw_iald (gc k_Model_waysFrom_0 11 rfl) (gAt hx rfl rfl) (by omega) ?_
  rw [em]
  refine gw_icmp_gt (tgt := 63) (gc k_Model_waysFrom_0 12 rfl) rfl (by omega) (fun c20 => ?_) (fun c20 => ?_)
  · refine gw_lload_n (gc k_Model_waysFrom_0 36 rfl) rfl ?_
    refine gw_lreturn (gc k_Model_waysFrom_0 37 rfl) rfl ?_
    exact ⟨rfl, rfl, rfl⟩
  · exact absurd c20 (by omega)
theorem ways_loop {sh : gS} {g : gM} (hx : gFix sh) (hf : gFin g) {r : Int → Int} (ho : rowOK r) (hv : vLaid r g) (n h : Int) (hn : 0 ≤ n ∧ n < r 41) (hh : 0 ≤ h ∧ h ≤ 24) (h0 : n = 0 → h = 0) (hR : ∀ q, r 39 ≤ q → q ≤ r 40 → g 196 (25 * n + q) = wyR r n q) : ∀ (m k : Nat), k + m = (r 40 + 1 - r 39).toNat → gWP f_Model_waysFrom 1 0 0 11 [(2, 177), (0, n), (0, h), (1, sgF (fun q => 1 - vBar r n h q) (fun q => wyR r n q) (r 39) k), (9, 0), (0, r 39 + k)] [] sh g (gR (some (1, wyV r n h)) sh g)
  | 0, k, e => by
    have hm := ro_many ho
    have hlo := ro_low ho
    have hhi := ro_high ho
    have ek : (r 40 + 1 - r 39).toNat = k := by omega
    unfold wyV
    rw [ek]
    exact ways_exit hx hf ho hv n h hn hh h0 _ _ (by omega) (by omega)
  | m + 1, k, e => by
    have hm := ro_many ho
    have hlo := ro_low ho
    have hhi := ro_high ho
    have kk := ways_loop hx hf ho hv n h hn hh h0 hR m (k + 1) (by omega)
    rw [show r 39 + ((k + 1 : Nat) : Int) = r 39 + k + 1 by omega] at kk
    have hb := vBar_01 r n h (r 39 + k)
    refine ways_step hx hf ho hv n h hn hh h0 hR _ _ (by omega) (by omega) ?_
    unfold sgF at kk
    rcases hb with hb | hb
    · rw [hb] at kk ⊢
      exact kk
    · rw [hb] at kk ⊢
      exact kk
set_option maxHeartbeats 1000000 in
theorem c_Model_waysFrom {sh : gS} {g : gM} (hx : gFix sh) (hf : gFin g) {r : Int → Int} (ho : rowOK r) (hv : vLaid r g) (n h : Int) (hn : 0 ≤ n ∧ n < r 41) (hh : 0 ≤ h ∧ h ≤ 24) (h0 : n = 0 → h = 0) (hR : ∀ q, r 39 ≤ q → q ≤ r 40 → g 196 (25 * n + q) = wyR r n q) : gTri f_Model_waysFrom 1 0 0 [(2, 177), (0, n), (0, h)] sh g (gR (some (1, wyV r n h)) sh g) := by
  have em := hv.1
  refine gTri.of (by decide +kernel) rfl ?_
  show gWP f_Model_waysFrom _ _ _ 0 [(2, 177), (0, n), (0, h), (9, 0), (9, 0), (9, 0)] [] sh g _
  refine gw_lconst0 (gc k_Model_waysFrom_0 0 rfl) ?_
  refine gw_lstore_3 (gc k_Model_waysFrom_0 1 rfl) rfl rfl ?_
  refine gw_aload_n (gc k_Model_waysFrom_0 2 rfl) rfl rfl ?_
  refine gw_getref (gc k_Model_waysFrom_0 3 rfl) fl_Model_28 (gAt hx rfl rfl) (gRf hf rfl rfl) ?_
  refine gw_bipush (gc k_Model_waysFrom_0 4 rfl) (by decide) ?_
  refine gw_iald (gc k_Model_waysFrom_0 5 rfl) (gAt hx rfl rfl) (by omega) ?_
  refine gw_istore_5 (gc k_Model_waysFrom_0 6 rfl) rfl rfl ?_
  rw [em]
  have q := ways_loop hx hf ho hv n h hn hh h0 hR _ 0 (Nat.zero_add _)
  rw [show r 39 + ((0 : Nat) : Int) = r 39 from Int.add_zero _] at q
  exact q
