/-! ===== the class reads: tokens ===== -/
theorem rnE_ext {p p2 : Int → Int} {len : Int} : ∀ (f : Nat) (k : Int), (∀ j, k ≤ j → j < len → p j = p2 j) → rnE p len f k = rnE p2 len f k
  | 0, _, _ => rfl
  | f + 1, k, h => by
    unfold rnE
    by_cases z : k < len
    · rw [h k (Int.le_refl _) z, rnE_ext f (k + 1) (fun j h1 h2 => h j (by omega) h2)]
    · rw [if_neg (fun q => z q.1), if_neg (fun q => z q.1)]
theorem run_ext {p p2 : Int → Int} {len k : Int} (h : ∀ j, k ≤ j → j < len → p j = p2 j) : run p len k = run p2 len k := rnE_ext _ k h
def bSame (B B2 : Int → Int) (len : Int) : Prop := ∀ j, 0 ≤ j → j < len → B j = B2 j
theorem isL_ext {B B2 : Int → Int} {k : Int} (h : B k = B2 k) : isL B k = isL B2 k := by unfold isL; rw [h]
theorem isD_ext {B B2 : Int → Int} {k : Int} (h : B k = B2 k) : isD B k = isD B2 k := by unfold isD; rw [h]
theorem tE_ext {B B2 : Int → Int} {len k : Int} (h : bSame B B2 len) (hk : 0 ≤ k) : tE B len k = tE B2 len k := by
  unfold tE
  by_cases z : k < len
  · rw [if_pos z, if_pos z, isL_ext (h k hk z), isD_ext (h k hk z), run_ext (fun j h1 h2 => isL_ext (h j (by omega) h2)), run_ext (fun j h1 h2 => isD_ext (h j (by omega) h2))]
  · rw [if_neg z, if_neg z]
theorem wmF_ext {B B2 : Int → Int} {k : Int} {x : List Int} : ∀ (m : Nat), (∀ j : Nat, j < m → B (k + j) = B2 (k + j)) → wmF B k x m = wmF B2 k x m
  | 0, _ => rfl
  | m + 1, h => by unfold wmF; rw [wmF_ext m (fun j hj => h j (by omega)), h m (by omega)]
theorem wcF_ext {B B2 : Int → Int} {k e : Int} (h : ∀ j, k ≤ j → j < e → B j = B2 j) : ∀ (L : List (List Int)) (w : Int), wcF B k e L w = wcF B2 k e L w
  | [], _ => rfl
  | x :: r, w => by
    have e1 : wEq B k e x = wEq B2 k e x := by
      unfold wEq
      by_cases z : (x.length : Int) = e - k
      · rw [if_pos z, if_pos z, wmF_ext _ (fun j hj => h _ (by omega) (by omega))]
      · rw [if_neg z, if_neg z]
    unfold wcF
    rw [e1, wcF_ext h r (w + 1)]
theorem tC_ext {B B2 : Int → Int} {len k : Int} (h : bSame B B2 len) (hk : 0 ≤ k ∧ k < len) : tC B len k = tC B2 len k := by
  have h1 := tE_bd B len k hk.2
  unfold tC wordC
  rw [tE_ext h hk.1] at h1 ⊢
  rw [isL_ext (h k hk.1 hk.2), isD_ext (h k hk.1 hk.2), wcF_ext (fun j a b => h j (by omega) (by omega)), h k hk.1 hk.2]
theorem vl_ext {B B2 : Int → Int} : ∀ (m : Nat) (k v : Int), (∀ j, k ≤ j → j < k + m → B j = B2 j) → vl B m k v = vl B2 m k v
  | 0, _, _, _ => rfl
  | m + 1, k, v, h => by unfold vl; rw [h k (Int.le_refl _) (by omega)]; exact vl_ext m (k + 1) _ (fun j a b => h j (by omega) (by omega))
theorem tV_ext {B B2 : Int → Int} {len k : Int} (h : bSame B B2 len) (hk : 0 ≤ k ∧ k < len) : tV B len k = tV B2 len k := by
  have h1 := tE_bd B len k hk.2
  unfold tV
  rw [tE_ext h hk.1] at h1 ⊢
  rw [isD_ext (h k hk.1 hk.2), vl_ext _ _ _ (fun j a b => h j (by omega) (by omega))]
theorem tP_ext {B B2 : Int → Int} {len : Int} (h : bSame B B2 len) (hl : 0 ≤ len) : ∀ i, tP B len i = tP B2 len i
  | 0 => run_ext (fun j h1 h2 => by unfold isB; rw [h j h1 h2])
  | i + 1 => by
    have h1 := tP_bd B2 hl i
    have h0 : 0 ≤ tE B2 len (tP B2 len i) := by
      by_cases z : tP B2 len i < len
      · have := tE_bd B2 len _ z; omega
      · have e : tE B2 len (tP B2 len i) = tP B2 len i := if_neg z
        omega
    show run (isB B) len (tE B len (tP B len i)) = run (isB B2) len (tE B2 len (tP B2 len i))
    rw [tP_ext h hl i, tE_ext h h1.1]
    exact run_ext (fun j h2 h3 => by unfold isB; rw [h j (by omega) h3])
theorem tT_ext {B B2 : Int → Int} {len : Int} (h : bSame B B2 len) (hl : 0 ≤ len) : tT B len = tT B2 len := by
  funext p
  unfold tT
  rw [tP_ext h hl]
  by_cases z : 0 ≤ p ∧ tP B2 len p.toNat < len
  · have h1 := tP_bd B2 hl p.toNat
    rw [if_pos z, if_pos z, tC_ext h ⟨h1.1, z.2⟩]
  · rw [if_neg z, if_neg z]
theorem tW_ext {B B2 : Int → Int} {len : Int} (h : bSame B B2 len) (hl : 0 ≤ len) : tW B len = tW B2 len := by
  funext p
  unfold tW
  rw [tP_ext h hl]
  by_cases z : 0 ≤ p ∧ tP B2 len p.toNat < len
  · have h1 := tP_bd B2 hl p.toNat
    rw [if_pos z, if_pos z, tV_ext h ⟨h1.1, z.2⟩]
  · rw [if_neg z, if_neg z]
/-! words tell one another apart -/
theorem wEq_1 {B : Int → Int} {k e : Int} {x : List Int} (h : wEq B k e x = 1) : (x.length : Int) = e - k ∧ ∀ j : Nat, j < x.length → x.getD j 0 = B (k + j) := by
  unfold wEq at h
  by_cases z : (x.length : Int) = e - k
  · rw [if_pos z] at h; exact ⟨z, wmF_all h⟩
  · rw [if_neg z] at h; omega
theorem wEq_inj {B : Int → Int} {k e : Int} {x y : List Int} (h : wEq B k e x = 1) (h2 : wEq B k e y = 1) : x = y := by
  have h1 := wEq_1 h
  have h3 := wEq_1 h2
  refine List.ext_getElem (by omega) (fun i a b => ?_)
  have q1 := h1.2 i a
  have q2 := h3.2 i b
  rw [List.getD_eq_getElem?_getD, List.getElem?_eq_getElem a] at q1
  rw [List.getD_eq_getElem?_getD, List.getElem?_eq_getElem b] at q2
  exact q1.trans q2.symm
theorem wcF_hit {B : Int → Int} {k e : Int} {x : List Int} (hx : wEq B k e x = 1) : ∀ (L : List (List Int)) (w : Int) (j : Nat), L.Nodup → L[j]? = some x → wcF B k e L w = w + j
  | [], _, j, _, h => by cases j <;> cases h
  | y :: r, w, 0, hn, h => by
    obtain rfl : y = x := Option.some.inj h
    unfold wcF
    rw [if_pos hx]; omega
  | y :: r, w, j + 1, hn, h => by
    have hn2 := List.nodup_cons.mp hn
    have hm : x ∈ r := List.mem_of_getElem? (show r[j]? = some x from h)
    unfold wcF
    rw [if_neg (fun q => hn2.1 (by rw [wEq_inj q hx]; exact hm)), wcF_hit hx r (w + 1) j hn2.2 h]
    omega
theorem wcF_ge {B : Int → Int} {k e : Int} : ∀ (L : List (List Int)) (w : Int), 0 ≤ w → wcF B k e L w = 0 ∨ w ≤ wcF B k e L w
  | [], _, _ => Or.inl rfl
  | y :: r, w, hw => by
    have := wcF_ge (B := B) (k := k) (e := e) r (w + 1) (by omega)
    unfold wcF
    split <;> omega
theorem wcF_of {B : Int → Int} {k e : Int} : ∀ (L : List (List Int)) (w : Int) (j : Nat) (x : List Int), 0 < w → L[j]? = some x → wcF B k e L w = w + j → wEq B k e x = 1
  | [], _, j, _, _, h, _ => by cases j <;> cases h
  | y :: r, w, j, x, hw, h, he => by
    unfold wcF at he
    by_cases z : wEq B k e y = 1
    · rw [if_pos z] at he
      obtain rfl : j = 0 := by omega
      obtain rfl : y = x := Option.some.inj h
      exact z
    · rw [if_neg z] at he
      cases j with
      | zero =>
        have := wcF_bd (B := B) (k := k) (e := e) r (w + 1) (by omega)
        have h3 : wcF B k e r (w + 1) = 0 ∨ w + 1 ≤ wcF B k e r (w + 1) := wcF_ge r (w + 1) (by omega)
        omega
      | succ j => exact wcF_of r (w + 1) j x (by omega) h (by omega)
theorem wdL_nodup : wdL.Nodup := by decide +kernel
theorem word_iff {B : Int → Int} {k e : Int} {x : List Int} {j : Nat} (h : wdL[j]? = some x) : wordC B k e = 1 + j ↔ wEq B k e x = 1 := ⟨fun q => wcF_of wdL 1 j x (by decide) h q, fun q => wcF_hit q wdL 1 j wdL_nodup h⟩
/-- the number of a word by the place of its string -/
def wcd : List Nat := [3, 1, 2, 8, 15, 16, 9, 10, 11, 12, 13, 17, 14, 18, 19, 20, 21, 24, 25, 22, 23, 26, 27, 4, 7, 6, 5]
/-! the reader's state -/
def tKd (B : Int → Int) (len k : Int) : Int := if k < len then (if isL B k = 1 then 1 else if isD B k = 1 then 2 else 3) else 0
def mv1 (v : Int) : Int := if v ≤ 1000 then v else 1001
def rcK (B : Int → Int) (len k : Int) (g : gM) : Prop := g 151 5 = k ∧ g 151 6 = tE B len k ∧ g 151 4 = tKd B len k ∧ (tKd B len k = 2 → g 151 7 = mv1 (tV B len k)) ∧ (tKd B len k = 3 → g 151 7 = B k) ∧ -2 ≤ g 151 7 ∧ g 151 7 ≤ 2000
def rcB (B : Int → Int) (len : Int) (g : gM) : Prop := (0 ≤ len ∧ len ≤ 400) ∧ g 151 2 = len ∧ (∀ j, 0 ≤ j → j < 400 → g 158 j = B j) ∧ ∀ j, 0 ≤ j → j < 400 → 0 ≤ B j ∧ B j ≤ 255
def rcF (g g2 : gM) : Prop := ∀ a k, ¬ (a = 151 ∧ 4 ≤ k ∧ k ≤ 7) → g2 a k = g a k
theorem rcF.rf (g : gM) : rcF g g := fun _ _ _ => rfl
theorem rcF.tr {g g2 g3 : gM} (h : rcF g g2) (h2 : rcF g2 g3) : rcF g g3 := fun a k n => (h2 a k n).trans (h a k n)
theorem rcF.fin {g g2 : gM} (h : rcF g g2) (hf : gFin g) : gFin g2 := hf.of fun a k z => h _ _ (fun q => z (by
  obtain ⟨rfl⟩ : a = 151 := by omega
  rcases (show k = 4 ∨ k = 5 ∨ k = 6 ∨ k = 7 by omega) with y | y | y | y <;> (subst y; rfl)))
theorem rcF.up {g g2 : gM} (h : rcF g g2) {k : Int} (hk : 4 ≤ k ∧ k ≤ 7) (v : Int) : rcF g (gup g2 151 k v) := fun a y n => by
  by_cases z : a = 151
  · subst z; rw [gup_k _ _ _ _ (by omega)]; exact h _ _ n
  · rw [gup_a _ _ _ _ _ z]; exact h _ _ n
theorem mv1_st {v b : Int} (hv : 0 ≤ v) (hb : 48 ≤ b ∧ b ≤ 57) : mv1 (if 1000000 < v then v else 10 * v + b - 48) = (if 1001 < mv1 v * 10 + b - 48 then 1001 else mv1 v * 10 + b - 48) := by
  unfold mv1
  by_cases z1 : 1000000 < v
  · rw [if_pos z1, if_neg (by omega), if_pos (by omega)]
  · rw [if_neg z1]
    by_cases z2 : v ≤ 1000
    · rw [if_pos z2]
      by_cases z3 : 10 * v + b - 48 ≤ 1000
      · rw [if_pos z3, if_neg (by omega)]; omega
      · rw [if_neg z3]
        by_cases z4 : 1001 < v * 10 + b - 48
        · rw [if_pos z4]
        · rw [if_neg z4]; omega
    · rw [if_neg z2, if_neg (by omega), if_pos (by omega)]
set_option maxHeartbeats 1000000 in
theorem c_Reader_isLetter {sh : gS} {g : gM} (b : Int) (h : -2147483648 ≤ b ∧ b ≤ 2147483647) : gTri f_Reader_isLetter 0 0 0 [(0, b)] sh g (gR (some (0, bi (97 ≤ b ∧ b ≤ 122))) sh g) := by
  refine gTri.of (by decide +kernel) rfl ?_
  show gWP f_Reader_isLetter _ _ _ 0 [(0, b)] [] sh g _
  refine gw_iload_n (gc k_Reader_isLetter_0 0 rfl) rfl ?_
  refine gw_bipush (gc k_Reader_isLetter_0 1 rfl) (by decide) ?_
  refine gw_icmp_lt (tgt := 16) (gc k_Reader_isLetter_0 2 rfl) rfl (by omega) (fun c3 => ?_) (fun c3 => ?_)
  · refine gw_iconst (gc k_Reader_isLetter_0 8 rfl) ?_
    refine gw_zreturn (gc k_Reader_isLetter_0 9 rfl) rfl (by omega) ?_
    exact ⟨by first | rw [bi_1 (by omega)] | rw [bi_0 (by omega)], rfl, rfl⟩
  · refine gw_iload_n (gc k_Reader_isLetter_0 3 rfl) rfl ?_
    refine gw_bipush (gc k_Reader_isLetter_0 4 rfl) (by decide) ?_
    refine gw_icmp_gt (tgt := 16) (gc k_Reader_isLetter_0 5 rfl) rfl (by omega) (fun c9 => ?_) (fun c9 => ?_)
    · refine gw_iconst (gc k_Reader_isLetter_0 8 rfl) ?_
      refine gw_zreturn (gc k_Reader_isLetter_0 9 rfl) rfl (by omega) ?_
      exact ⟨by first | rw [bi_1 (by omega)] | rw [bi_0 (by omega)], rfl, rfl⟩
    · refine gw_iconst (gc k_Reader_isLetter_0 6 rfl) ?_
      refine gw_goto (tgt := 17) (gc k_Reader_isLetter_0 7 rfl) rfl ?_
      refine gw_zreturn (gc k_Reader_isLetter_0 9 rfl) rfl (by omega) ?_
      exact ⟨by first | rw [bi_1 (by omega)] | rw [bi_0 (by omega)], rfl, rfl⟩
set_option maxHeartbeats 1000000 in
theorem c_Reader_isDigit {sh : gS} {g : gM} (b : Int) (h : -2147483648 ≤ b ∧ b ≤ 2147483647) : gTri f_Reader_isDigit 0 0 0 [(0, b)] sh g (gR (some (0, bi (48 ≤ b ∧ b ≤ 57))) sh g) := by
  refine gTri.of (by decide +kernel) rfl ?_
  show gWP f_Reader_isDigit _ _ _ 0 [(0, b)] [] sh g _
  refine gw_iload_n (gc k_Reader_isDigit_0 0 rfl) rfl ?_
  refine gw_bipush (gc k_Reader_isDigit_0 1 rfl) (by decide) ?_
  refine gw_icmp_lt (tgt := 16) (gc k_Reader_isDigit_0 2 rfl) rfl (by omega) (fun c3 => ?_) (fun c3 => ?_)
  · refine gw_iconst (gc k_Reader_isDigit_0 8 rfl) ?_
    refine gw_zreturn (gc k_Reader_isDigit_0 9 rfl) rfl (by omega) ?_
    exact ⟨by first | rw [bi_1 (by omega)] | rw [bi_0 (by omega)], rfl, rfl⟩
  · refine gw_iload_n (gc k_Reader_isDigit_0 3 rfl) rfl ?_
    refine gw_bipush (gc k_Reader_isDigit_0 4 rfl) (by decide) ?_
    refine gw_icmp_gt (tgt := 16) (gc k_Reader_isDigit_0 5 rfl) rfl (by omega) (fun c9 => ?_) (fun c9 => ?_)
    · refine gw_iconst (gc k_Reader_isDigit_0 8 rfl) ?_
      refine gw_zreturn (gc k_Reader_isDigit_0 9 rfl) rfl (by omega) ?_
      exact ⟨by first | rw [bi_1 (by omega)] | rw [bi_0 (by omega)], rfl, rfl⟩
    · refine gw_iconst (gc k_Reader_isDigit_0 6 rfl) ?_
      refine gw_goto (tgt := 17) (gc k_Reader_isDigit_0 7 rfl) rfl ?_
      refine gw_zreturn (gc k_Reader_isDigit_0 9 rfl) rfl (by omega) ?_
      exact ⟨by first | rw [bi_1 (by omega)] | rw [bi_0 (by omega)], rfl, rfl⟩
set_option maxHeartbeats 8000000 in
theorem c_Reader_advance {sh : gS} {g : gM} (hx : gFix sh) (hf : gFin g) {B : Int → Int} {len : Int} (hB : rcB B len g) (nx : Int) (hnx : 0 ≤ nx ∧ nx ≤ len) (h6 : g 151 6 = nx) : gTri f_Reader_advance 1 0 0 [(2, 151)] sh g (fun x s2 g2 => x = none ∧ s2 = sh ∧ rcF g g2 ∧ rcK B len (run (isB B) len nx) g2) := by
  have hl0 := hB.1
  have h2 := hB.2.1
  refine gTri.of (by decide +kernel) rfl ?_
  show gWP f_Reader_advance _ _ _ 0 [(2, 151), (9, 0)] [] sh g _
  refine gw_aload_n (gc k_Reader_advance_0 0 rfl) rfl rfl ?_
  refine gw_getf 6 rfl (gc k_Reader_advance_0 1 rfl) fl_Reader_40 (gAt hx rfl rfl) ?_
  rw [h6]
  refine gw_istore_1 (gc k_Reader_advance_0 2 rfl) rfl rfl ?_
  refine gwloop (σ := Int) (fun zs => (0 ≤ zs ∧ zs ≤ len) ∧ run (isB B) len nx = run (isB B) len zs) (fun zs => (len - zs).toNat) (fun zs => [(2, 151), (0, zs)]) (fun zs => g) (nx) (show (0 ≤ nx ∧ nx ≤ len) ∧ run (isB B) len nx = run (isB B) len nx from ⟨hnx, rfl⟩) rfl rfl (fun zs hI ih => ?_)
  obtain ⟨k, hzz⟩ : ∃ x, x = zs := ⟨_, rfl⟩
  subst hzz
  replace hI : (0 ≤ k ∧ k ≤ len) ∧ run (isB B) len nx = run (isB B) len k := hI
  obtain ⟨hk, hrk⟩ := hI
  show gWP _ _ _ _ _ [(2, 151), (0, k)] [] _ (g) _
  have hBk : k < len → g 158 k = B k ∧ 0 ≤ B k ∧ B k ≤ 255 := fun z => ⟨hB.2.2.1 k (by omega) (by omega), hB.2.2.2 k (by omega) (by omega)⟩
  refine gw_iload_n (gc k_Reader_advance_0 3 rfl) rfl ?_
  refine gw_aload_n (gc k_Reader_advance_0 4 rfl) rfl rfl ?_
  refine gw_getf 2 rfl (gc k_Reader_advance_0 5 rfl) fl_Reader_35 (gAt hx rfl rfl) ?_
  rw [h2]
  refine gw_icmp_ge (tgt := 30) (gc k_Reader_advance_0 6 rfl) rfl (by omega) (fun c10 => ?_) (fun c10 => ?_)
  · refine gw_aload_n (gc k_Reader_advance_0 15 rfl) rfl rfl ?_
    refine gw_iload_n (gc k_Reader_advance_0 16 rfl) rfl ?_
    refine gw_putIK 5 rfl (gc k_Reader_advance_0 17 rfl) fl_Reader_72 (gAt hx rfl rfl) hf rfl (fun hf => ?_)
    refine gw_aload_n (gc k_Reader_advance_0 18 rfl) rfl rfl ?_
    refine gw_iconst (gc k_Reader_advance_0 19 rfl) ?_
    refine gw_putIK 7 rfl (gc k_Reader_advance_0 20 rfl) fl_Reader_82 (gAt hx rfl rfl) hf rfl (fun hf => ?_)
    refine gw_iload_n (gc k_Reader_advance_0 21 rfl) rfl ?_
    refine gw_aload_n (gc k_Reader_advance_0 22 rfl) rfl rfl ?_
    refine gw_getf 2 rfl (gc k_Reader_advance_0 23 rfl) fl_Reader_35 (gAt hx rfl rfl) ?_
    rw [gup_k _ _ _ _ (by decide), gup_k _ _ _ _ (by decide), h2]
    refine gw_icmp_lt (tgt := 56) (gc k_Reader_advance_0 24 rfl) rfl (by omega) (fun c45 => ?_) (fun c45 => ?_)
    · refine gw_aload_n (gc k_Reader_advance_0 29 rfl) rfl rfl ?_
      refine gw_getref (gc k_Reader_advance_0 30 rfl) fl_Reader_18 (gAt hx rfl rfl) (gRf hf rfl rfl) ?_
      refine gw_iload_n (gc k_Reader_advance_0 31 rfl) rfl ?_
      refine gw_iald (gc k_Reader_advance_0 32 rfl) (gAt hx rfl rfl) (by omega) ?_
      rw [gup_fn _ _ _ _ (by decide), gup_fn _ _ _ _ (by decide), (hBk (by omega)).1]
      have hb3 := hBk (by omega)
      refine gw_cS1 (gc k_Reader_advance_0 33 rfl) y_Reader_isLetter ln_Reader_85 (c_Reader_isLetter _ (by omega)) rfl rfl rfl rfl ?_
      refine gw_beq (tgt := 99) (gc k_Reader_advance_0 34 rfl) rfl (fun c65 => ?_) (fun c65 => ?_)
      · have hnl : ¬ isL B k = 1 := fun z => by have := bi_e1 z; omega
        refine gw_aload_n (gc k_Reader_advance_1 10 rfl) rfl rfl ?_
        refine gw_getref (gc k_Reader_advance_1 11 rfl) fl_Reader_18 (gAt hx rfl rfl) (gRf hf rfl rfl) ?_
        refine gw_iload_n (gc k_Reader_advance_1 12 rfl) rfl ?_
        refine gw_iald (gc k_Reader_advance_1 13 rfl) (gAt hx rfl rfl) (by omega) ?_
        rw [gup_fn _ _ _ _ (by decide), gup_fn _ _ _ _ (by decide), (hBk (by omega)).1]
        refine gw_cS1 (gc k_Reader_advance_1 14 rfl) y_Reader_isDigit ln_Reader_88 (c_Reader_isDigit _ (by omega)) rfl rfl rfl rfl ?_
        refine gw_beq (tgt := 169) (gc k_Reader_advance_1 15 rfl) rfl (fun c108 => ?_) (fun c108 => ?_)
        · have hnd : ¬ isD B k = 1 := fun z => by have := bi_e1 z; omega
          refine gw_aload_n (gc k_Reader_advance_2 6 rfl) rfl rfl ?_
          refine gw_iconst (gc k_Reader_advance_2 7 rfl) ?_
          refine gw_putIK 4 rfl (gc k_Reader_advance_2 8 rfl) fl_Reader_75 (gAt hx rfl rfl) hf rfl (fun hf => ?_)
          refine gw_aload_n (gc k_Reader_advance_2 9 rfl) rfl rfl ?_
          refine gw_aload_n (gc k_Reader_advance_2 10 rfl) rfl rfl ?_
          refine gw_getref (gc k_Reader_advance_2 11 rfl) fl_Reader_18 (gAt hx rfl rfl) (gRf hf rfl rfl) ?_
          refine gw_iload_n (gc k_Reader_advance_2 12 rfl) rfl ?_
          refine gw_iald (gc k_Reader_advance_2 13 rfl) (gAt hx rfl rfl) (by omega) ?_
          rw [gup_fn _ _ _ _ (by decide), gup_fn _ _ _ _ (by decide), gup_fn _ _ _ _ (by decide)]
          refine gw_putIK 7 rfl (gc k_Reader_advance_2 14 rfl) fl_Reader_82 (gAt hx rfl rfl) hf rfl (fun hf => ?_)
          refine gw_iinc_1 (gc k_Reader_advance_2 15 rfl) rfl rfl ?_
          refine gw_aload_n (gc k_Reader_advance_2 16 rfl) rfl rfl ?_
          refine gw_iload_n (gc k_Reader_advance_2 17 rfl) rfl ?_
          refine gw_putIK 6 rfl (gc k_Reader_advance_2 18 rfl) fl_Reader_40 (gAt hx rfl rfl) hf rfl (fun hf => ?_)
          refine gw_return (gc k_Reader_advance_2 19 rfl) rfl ?_
          have hkd : tKd B len k = 3 := (if_pos (by omega)).trans ((if_neg hnl).trans (if_neg hnd))
          have hte : k + 1 = tE B len k := by
            unfold tE
            rw [if_pos (by omega), if_neg hnl, if_neg hnd]
          refine ⟨rfl, rfl, (((((rcF.rf g).up (k := 5) (by omega) _).up (k := 7) (by omega) _).up (k := 4) (by omega) _).up (k := 7) (by omega) _).up (k := 6) (by omega) _, ?_⟩
          rw [hrk, run_stop (by first | omega | exact fun z => c21 (by have := bi_e1 z.2; omega))]
          refine ⟨by rw [gup_k _ _ _ _ (by decide), gup_k _ _ _ _ (by decide), gup_k _ _ _ _ (by decide), gup_k _ _ _ _ (by decide), gup_s], by rw [gup_s, ← hte], by rw [hkd, gup_k _ _ _ _ (by decide), gup_k _ _ _ _ (by decide), gup_s], fun z => ?_, fun z => ?_, ?_⟩
          · first | (exfalso; omega) | (rw [gup_k _ _ _ _ (by decide), gup_s, ← hvv])
          · first | (exfalso; omega) | (rw [gup_k _ _ _ _ (by decide), gup_s, (hBk (by omega)).1])
          · rw [gup_k _ _ _ _ (by decide), gup_s]; rw [(hBk (by omega)).1]; omega
        · have hyd : isD B k = 1 := bi_1 (by omega)
          refine gw_aload_n (gc k_Reader_advance_1 16 rfl) rfl rfl ?_
          refine gw_iconst (gc k_Reader_advance_1 17 rfl) ?_
          refine gw_putIK 4 rfl (gc k_Reader_advance_1 18 rfl) fl_Reader_75 (gAt hx rfl rfl) hf rfl (fun hf => ?_)
          refine gwloop (σ := Int × Int) (fun zs => ((k + 1 ≤ (zs.1) + 1 ∧ (zs.1) ≤ len) ∧ ((zs.1) = k ∨ run (isD B) len (k + 1) = run (isD B) len (zs.1))) ∧ (0 ≤ (zs.2) ∧ (zs.2) ≤ 10000009) ∧ vl B (tE B len k - (zs.1)).toNat (zs.1) (zs.2) = vl B (tE B len k - k).toNat k 0) (fun zs => (len - (zs.1)).toNat) (fun zs => [(2, 151), (0, (zs.1))]) (fun zs => (gup (gup (gup (gup g 151 5 k) 151 7 0) 151 4 2) 151 7 (mv1 (zs.2)))) (k, 0) (show ((k + 1 ≤ k + 1 ∧ k ≤ len) ∧ (k = k ∨ run (isD B) len (k + 1) = run (isD B) len k)) ∧ (0 ≤ (0 : Int) ∧ (0 : Int) ≤ 10000009) ∧ vl B (tE B len k - k).toNat k (0 : Int) = vl B (tE B len k - k).toNat k 0 from ⟨⟨by omega, Or.inl rfl⟩, by omega, rfl⟩) rfl (gup_same (by rw [gup_k _ _ _ _ (by decide), gup_s]; rfl)) (fun zs hI ih3 => ?_)
          obtain ⟨e, v⟩ := zs
          replace hI : ((k + 1 ≤ e + 1 ∧ e ≤ len) ∧ (e = k ∨ run (isD B) len (k + 1) = run (isD B) len e)) ∧ (0 ≤ v ∧ v ≤ 10000009) ∧ vl B (tE B len k - e).toNat e v = vl B (tE B len k - k).toNat k 0 := hI
          obtain ⟨⟨he, hre⟩, hvb, hvl⟩ := hI
          show gWP _ _ _ _ _ [(2, 151), (0, e)] [] _ ((gup (gup (gup (gup g 151 5 k) 151 7 0) 151 4 2) 151 7 (mv1 v))) _
          have hBe : e < len → g 158 e = B e ∧ 0 ≤ B e ∧ B e ≤ 255 := fun z => ⟨hB.2.2.1 e (by omega) (by omega), hB.2.2.2 e (by omega) (by omega)⟩
          have el : (gup (gup (gup (gup g 151 5 k) 151 7 0) 151 4 2) 151 7 (mv1 v)) 151 2 = len := by rw [gup_k _ _ _ _ (by decide), gup_k _ _ _ _ (by decide), gup_k _ _ _ _ (by decide), gup_k _ _ _ _ (by decide)]; exact hB.2.1
          have eb : (gup (gup (gup (gup g 151 5 k) 151 7 0) 151 4 2) 151 7 (mv1 v)) 158 = g 158 := by rw [gup_fn _ _ _ _ (by decide), gup_fn _ _ _ _ (by decide), gup_fn _ _ _ _ (by decide), gup_fn _ _ _ _ (by decide)]
          have hm1 : 0 ≤ mv1 v ∧ mv1 v ≤ 1001 := by unfold mv1; split <;> omega
          have hf : gFin (gup (gup (gup (gup g 151 5 k) 151 7 0) 151 4 2) 151 7 (mv1 v)) := hf.up (a := 151) (k := 7) (v := mv1 v) rfl
          refine gw_iload_n (gc k_Reader_advance_1 19 rfl) rfl ?_
          refine gw_aload_n (gc k_Reader_advance_1 20 rfl) rfl rfl ?_
          refine gw_getf 2 rfl (gc k_Reader_advance_1 21 rfl) fl_Reader_35 (gAt hx rfl rfl) ?_
          rw [el]
          refine gw_icmp_ge (tgt := 187) (gc k_Reader_advance_1 22 rfl) rfl (by omega) (fun c121 => ?_) (fun c121 => ?_)
          · refine gw_aload_n (gc k_Reader_advance_2 16 rfl) rfl rfl ?_
            refine gw_iload_n (gc k_Reader_advance_2 17 rfl) rfl ?_
            refine gw_putIK 6 rfl (gc k_Reader_advance_2 18 rfl) fl_Reader_40 (gAt hx rfl rfl) hf rfl (fun hf => ?_)
            refine gw_return (gc k_Reader_advance_2 19 rfl) rfl ?_
            have hkd : tKd B len k = 2 := (if_pos (by omega)).trans ((if_neg hnl).trans (if_pos hyd))
            have hte : e = tE B len k := by
              unfold tE
              rw [if_pos (by omega), if_neg hnl, if_pos hyd]
              rcases hre with q | q
              · exfalso; subst q; omega
              · rw [q]; exact (run_stop (by first | omega | exact fun z => c133 (by have := bi_e1 z.2; omega))).symm
            have hvv : v = tV B len k := by
              unfold tV
              rw [if_pos hyd, ← hvl, ← hte, Int.sub_self]; rfl
            refine ⟨rfl, rfl, (((((rcF.rf g).up (k := 5) (by omega) _).up (k := 7) (by omega) _).up (k := 4) (by omega) _).up (k := 7) (by omega) _).up (k := 6) (by omega) _, ?_⟩
            rw [hrk, run_stop (by first | omega | exact fun z => c21 (by have := bi_e1 z.2; omega))]
            refine ⟨by rw [gup_k _ _ _ _ (by decide), gup_k _ _ _ _ (by decide), gup_k _ _ _ _ (by decide), gup_k _ _ _ _ (by decide), gup_s], by rw [gup_s, ← hte], by rw [hkd, gup_k _ _ _ _ (by decide), gup_k _ _ _ _ (by decide), gup_s], fun z => ?_, fun z => ?_, ?_⟩
            · first | (exfalso; omega) | (rw [gup_k _ _ _ _ (by decide), gup_s, ← hvv])
            · first | (exfalso; omega) | (rw [gup_k _ _ _ _ (by decide), gup_s, (hBk (by omega)).1])
            · rw [gup_k _ _ _ _ (by decide), gup_s]; omega
          · refine gw_aload_n (gc k_Reader_advance_1 23 rfl) rfl rfl ?_
            refine gw_getref (gc k_Reader_advance_1 24 rfl) fl_Reader_18 (gAt hx rfl rfl) (gRf hf rfl rfl) ?_
            refine gw_iload_n (gc k_Reader_advance_1 25 rfl) rfl ?_
            refine gw_iald (gc k_Reader_advance_1 26 rfl) (gAt hx rfl rfl) (by omega) ?_
            rw [eb, (hBe (by omega)).1]
            have hb4 := hBe (by omega)
            refine gw_cS1 (gc k_Reader_advance_1 27 rfl) y_Reader_isDigit ln_Reader_88 (c_Reader_isDigit _ (by omega)) rfl rfl rfl rfl ?_
            refine gw_beq (tgt := 187) (gc k_Reader_advance_1 28 rfl) rfl (fun c133 => ?_) (fun c133 => ?_)
            · refine gw_aload_n (gc k_Reader_advance_2 16 rfl) rfl rfl ?_
              refine gw_iload_n (gc k_Reader_advance_2 17 rfl) rfl ?_
              refine gw_putIK 6 rfl (gc k_Reader_advance_2 18 rfl) fl_Reader_40 (gAt hx rfl rfl) hf rfl (fun hf => ?_)
              refine gw_return (gc k_Reader_advance_2 19 rfl) rfl ?_
              have hkd : tKd B len k = 2 := (if_pos (by omega)).trans ((if_neg hnl).trans (if_pos hyd))
              have hte : e = tE B len k := by
                unfold tE
                rw [if_pos (by omega), if_neg hnl, if_pos hyd]
                rcases hre with q | q
                · exfalso; subst q; omega
                · rw [q]; exact (run_stop (by first | omega | exact fun z => c133 (by have := bi_e1 z.2; omega))).symm
              have hvv : v = tV B len k := by
                unfold tV
                rw [if_pos hyd, ← hvl, ← hte, Int.sub_self]; rfl
              refine ⟨rfl, rfl, (((((rcF.rf g).up (k := 5) (by omega) _).up (k := 7) (by omega) _).up (k := 4) (by omega) _).up (k := 7) (by omega) _).up (k := 6) (by omega) _, ?_⟩
              rw [hrk, run_stop (by first | omega | exact fun z => c21 (by have := bi_e1 z.2; omega))]
              refine ⟨by rw [gup_k _ _ _ _ (by decide), gup_k _ _ _ _ (by decide), gup_k _ _ _ _ (by decide), gup_k _ _ _ _ (by decide), gup_s], by rw [gup_s, ← hte], by rw [hkd, gup_k _ _ _ _ (by decide), gup_k _ _ _ _ (by decide), gup_s], fun z => ?_, fun z => ?_, ?_⟩
              · first | (exfalso; omega) | (rw [gup_k _ _ _ _ (by decide), gup_s, ← hvv])
              · first | (exfalso; omega) | (rw [gup_k _ _ _ _ (by decide), gup_s, (hBk (by omega)).1])
              · rw [gup_k _ _ _ _ (by decide), gup_s]; omega
            · refine gw_aload_n (gc k_Reader_advance_1 29 rfl) rfl rfl ?_
              refine gw_aload_n (gc k_Reader_advance_1 30 rfl) rfl rfl ?_
              refine gw_getf 7 rfl (gc k_Reader_advance_1 31 rfl) fl_Reader_82 (gAt hx rfl rfl) ?_
              rw [gup_s]
              refine gw_bipush (gc k_Reader_advance_1 32 rfl) (by decide) ?_
              refine gw_imul (gc k_Reader_advance_1 33 rfl) ?_
              refine gw_aload_n (gc k_Reader_advance_1 34 rfl) rfl rfl ?_
              refine gw_getref (gc k_Reader_advance_1 35 rfl) fl_Reader_18 (gAt hx rfl rfl) (gRf hf rfl rfl) ?_
              refine gw_iload_n (gc k_Reader_advance_1 36 rfl) rfl ?_
              refine gw_iald (gc k_Reader_advance_1 37 rfl) (gAt hx rfl rfl) (by omega) ?_
              rw [eb, (hBe (by omega)).1]
              refine gw_iadd (gc k_Reader_advance_1 38 rfl) ?_
              refine gw_bipush (gc k_Reader_advance_1 39 rfl) (by decide) ?_
              refine gw_isub (gc k_Reader_advance_2 0 rfl) ?_
              refine gw_sipush (gc k_Reader_advance_2 1 rfl) (by decide) ?_
              refine gw_mmin (gc k_Reader_advance_2 2 rfl) y_Math_min ln_Reader_91 (by omega) rfl rfl ?_
              refine gw_putIK 7 rfl (gc k_Reader_advance_2 3 rfl) fl_Reader_82 (gAt hx rfl rfl) hf rfl (fun hf => ?_)
              refine gw_iinc_1 (gc k_Reader_advance_2 4 rfl) rfl rfl ?_
              refine gw_goto (tgt := 116) (gc k_Reader_advance_2 5 rfl) rfl ?_
              have hre2 : run (isD B) len (k + 1) = run (isD B) len (e + 1) := by
                rcases hre with q | q
                · rw [q]
                · rw [q]; exact run_go (by omega) (bi_1 (by omega))
              have hte : tE B len k = run (isD B) len (k + 1) := by unfold tE; rw [if_pos (by omega), if_neg hnl, if_pos hyd]
              have hlt := (run_bd (isD B) len (e + 1)).1
              have hvl2 : vl B (tE B len k - (e + 1)).toNat (e + 1) (if 1000000 < v then v else 10 * v + B e - 48) = vl B (tE B len k - k).toNat k 0 := by
                rw [← hvl, show (tE B len k - e).toNat = (tE B len k - (e + 1)).toNat + 1 by rw [hte, hre2]; omega]
                rfl
              rw [gup_gup, ← mv1_st hvb.1 (by omega)]
              exact ih3 (e + 1, (if 1000000 < v then v else 10 * v + B e - 48)) (show ((k + 1 ≤ (e + 1) + 1 ∧ (e + 1) ≤ len) ∧ ((e + 1) = k ∨ run (isD B) len (k + 1) = run (isD B) len (e + 1))) ∧ (0 ≤ ((if 1000000 < v then v else 10 * v + B e - 48)) ∧ ((if 1000000 < v then v else 10 * v + B e - 48)) ≤ 10000009) ∧ vl B (tE B len k - (e + 1)).toNat (e + 1) ((if 1000000 < v then v else 10 * v + B e - 48)) = vl B (tE B len k - k).toNat k 0 from ⟨⟨by omega, Or.inr hre2⟩, by split <;> omega, hvl2⟩) (show (len - (e + 1)).toNat < (len - e).toNat from by omega)
      · have hyl : isL B k = 1 := bi_1 (by omega)
        refine gw_aload_n (gc k_Reader_advance_0 35 rfl) rfl rfl ?_
        refine gw_iconst (gc k_Reader_advance_0 36 rfl) ?_
        refine gw_putIK 4 rfl (gc k_Reader_advance_0 37 rfl) fl_Reader_75 (gAt hx rfl rfl) hf rfl (fun hf => ?_)
        refine gwloop (σ := Int) (fun zs => (k + 1 ≤ zs + 1 ∧ zs ≤ len) ∧ (zs = k ∨ run (isL B) len (k + 1) = run (isL B) len zs)) (fun zs => (len - zs).toNat) (fun zs => [(2, 151), (0, zs)]) (fun zs => (gup (gup (gup g 151 5 k) 151 7 0) 151 4 1)) (k) (show (k + 1 ≤ k + 1 ∧ k ≤ len) ∧ (k = k ∨ run (isL B) len (k + 1) = run (isL B) len k) from ⟨by omega, Or.inl rfl⟩) rfl rfl (fun zs hI ih2 => ?_)
        obtain ⟨e, hzz⟩ : ∃ x, x = zs := ⟨_, rfl⟩
        subst hzz
        replace hI : (k + 1 ≤ e + 1 ∧ e ≤ len) ∧ (e = k ∨ run (isL B) len (k + 1) = run (isL B) len e) := hI
        obtain ⟨he, hre⟩ := hI
        show gWP _ _ _ _ _ [(2, 151), (0, e)] [] _ ((gup (gup (gup g 151 5 k) 151 7 0) 151 4 1)) _
        have hBe : e < len → g 158 e = B e ∧ 0 ≤ B e ∧ B e ≤ 255 := fun z => ⟨hB.2.2.1 e (by omega) (by omega), hB.2.2.2 e (by omega) (by omega)⟩
        have el : (gup (gup (gup g 151 5 k) 151 7 0) 151 4 1) 151 2 = len := by rw [gup_k _ _ _ _ (by decide), gup_k _ _ _ _ (by decide), gup_k _ _ _ _ (by decide)]; exact hB.2.1
        have eb : (gup (gup (gup g 151 5 k) 151 7 0) 151 4 1) 158 = g 158 := by rw [gup_fn _ _ _ _ (by decide), gup_fn _ _ _ _ (by decide), gup_fn _ _ _ _ (by decide)]
        refine gw_iload_n (gc k_Reader_advance_0 38 rfl) rfl ?_
        refine gw_aload_n (gc k_Reader_advance_0 39 rfl) rfl rfl ?_
        refine gw_getf 2 rfl (gc k_Reader_advance_1 0 rfl) fl_Reader_35 (gAt hx rfl rfl) ?_
        rw [el]
        refine gw_icmp_ge (tgt := 187) (gc k_Reader_advance_1 1 rfl) rfl (by omega) (fun c78 => ?_) (fun c78 => ?_)
        · refine gw_aload_n (gc k_Reader_advance_2 16 rfl) rfl rfl ?_
          refine gw_iload_n (gc k_Reader_advance_2 17 rfl) rfl ?_
          refine gw_putIK 6 rfl (gc k_Reader_advance_2 18 rfl) fl_Reader_40 (gAt hx rfl rfl) hf rfl (fun hf => ?_)
          refine gw_return (gc k_Reader_advance_2 19 rfl) rfl ?_
          have hkd : tKd B len k = 1 := (if_pos (by omega)).trans (if_pos hyl)
          have hte : e = tE B len k := by
            unfold tE
            rw [if_pos (by omega), if_pos hyl]
            rcases hre with q | q
            · exfalso; subst q; omega
            · rw [q]; exact (run_stop (by first | omega | exact fun z => c90 (by have := bi_e1 z.2; omega))).symm
          refine ⟨rfl, rfl, ((((rcF.rf g).up (k := 5) (by omega) _).up (k := 7) (by omega) _).up (k := 4) (by omega) _).up (k := 6) (by omega) _, ?_⟩
          rw [hrk, run_stop (by first | omega | exact fun z => c21 (by have := bi_e1 z.2; omega))]
          refine ⟨by rw [gup_k _ _ _ _ (by decide), gup_k _ _ _ _ (by decide), gup_k _ _ _ _ (by decide), gup_s], by rw [gup_s, ← hte], by rw [hkd, gup_k _ _ _ _ (by decide), gup_s], fun z => ?_, fun z => ?_, ?_⟩
          · first | (exfalso; omega) | (rw [gup_k _ _ _ _ (by decide), gup_s, ← hvv])
          · first | (exfalso; omega) | (rw [gup_k _ _ _ _ (by decide), gup_s, (hBk (by omega)).1])
          · rw [gup_k _ _ _ _ (by decide), gup_k _ _ _ _ (by decide), gup_s]; omega
        · refine gw_aload_n (gc k_Reader_advance_1 2 rfl) rfl rfl ?_
          refine gw_getref (gc k_Reader_advance_1 3 rfl) fl_Reader_18 (gAt hx rfl rfl) (gRf hf rfl rfl) ?_
          refine gw_iload_n (gc k_Reader_advance_1 4 rfl) rfl ?_
          refine gw_iald (gc k_Reader_advance_1 5 rfl) (gAt hx rfl rfl) (by omega) ?_
          rw [eb, (hBe (by omega)).1]
          have hb4 := hBe (by omega)
          refine gw_cS1 (gc k_Reader_advance_1 6 rfl) y_Reader_isLetter ln_Reader_85 (c_Reader_isLetter _ (by omega)) rfl rfl rfl rfl ?_
          refine gw_beq (tgt := 187) (gc k_Reader_advance_1 7 rfl) rfl (fun c90 => ?_) (fun c90 => ?_)
          · refine gw_aload_n (gc k_Reader_advance_2 16 rfl) rfl rfl ?_
            refine gw_iload_n (gc k_Reader_advance_2 17 rfl) rfl ?_
            refine gw_putIK 6 rfl (gc k_Reader_advance_2 18 rfl) fl_Reader_40 (gAt hx rfl rfl) hf rfl (fun hf => ?_)
            refine gw_return (gc k_Reader_advance_2 19 rfl) rfl ?_
            have hkd : tKd B len k = 1 := (if_pos (by omega)).trans (if_pos hyl)
            have hte : e = tE B len k := by
              unfold tE
              rw [if_pos (by omega), if_pos hyl]
              rcases hre with q | q
              · exfalso; subst q; omega
              · rw [q]; exact (run_stop (by first | omega | exact fun z => c90 (by have := bi_e1 z.2; omega))).symm
            refine ⟨rfl, rfl, ((((rcF.rf g).up (k := 5) (by omega) _).up (k := 7) (by omega) _).up (k := 4) (by omega) _).up (k := 6) (by omega) _, ?_⟩
            rw [hrk, run_stop (by first | omega | exact fun z => c21 (by have := bi_e1 z.2; omega))]
            refine ⟨by rw [gup_k _ _ _ _ (by decide), gup_k _ _ _ _ (by decide), gup_k _ _ _ _ (by decide), gup_s], by rw [gup_s, ← hte], by rw [hkd, gup_k _ _ _ _ (by decide), gup_s], fun z => ?_, fun z => ?_, ?_⟩
            · first | (exfalso; omega) | (rw [gup_k _ _ _ _ (by decide), gup_s, ← hvv])
            · first | (exfalso; omega) | (rw [gup_k _ _ _ _ (by decide), gup_s, (hBk (by omega)).1])
            · rw [gup_k _ _ _ _ (by decide), gup_k _ _ _ _ (by decide), gup_s]; omega
          · refine gw_iinc_1 (gc k_Reader_advance_1 8 rfl) rfl rfl ?_
            refine gw_goto (tgt := 73) (gc k_Reader_advance_1 9 rfl) rfl ?_
            have hre2 : run (isL B) len (k + 1) = run (isL B) len (e + 1) := by
              rcases hre with q | q
              · rw [q]
              · rw [q]; exact run_go (by omega) (bi_1 (by omega))
            exact ih2 (e + 1) (show (k + 1 ≤ (e + 1) + 1 ∧ (e + 1) ≤ len) ∧ ((e + 1) = k ∨ run (isL B) len (k + 1) = run (isL B) len (e + 1)) from ⟨by omega, Or.inr hre2⟩) (show (len - (e + 1)).toNat < (len - e).toNat from by omega)
    · refine gw_aload_n (gc k_Reader_advance_0 25 rfl) rfl rfl ?_
      refine gw_iconst (gc k_Reader_advance_0 26 rfl) ?_
      refine gw_putIK 4 rfl (gc k_Reader_advance_0 27 rfl) fl_Reader_75 (gAt hx rfl rfl) hf rfl (fun hf => ?_)
      refine gw_goto (tgt := 187) (gc k_Reader_advance_0 28 rfl) rfl ?_
      refine gw_aload_n (gc k_Reader_advance_2 16 rfl) rfl rfl ?_
      refine gw_iload_n (gc k_Reader_advance_2 17 rfl) rfl ?_
      refine gw_putIK 6 rfl (gc k_Reader_advance_2 18 rfl) fl_Reader_40 (gAt hx rfl rfl) hf rfl (fun hf => ?_)
      refine gw_return (gc k_Reader_advance_2 19 rfl) rfl ?_
      have hkd : tKd B len k = 0 := if_neg (by omega)
      have hte : k = tE B len k := (if_neg (by omega)).symm
      refine ⟨rfl, rfl, ((((rcF.rf g).up (k := 5) (by omega) _).up (k := 7) (by omega) _).up (k := 4) (by omega) _).up (k := 6) (by omega) _, ?_⟩
      rw [hrk, run_stop (by first | omega | exact fun z => c21 (by have := bi_e1 z.2; omega))]
      refine ⟨by rw [gup_k _ _ _ _ (by decide), gup_k _ _ _ _ (by decide), gup_k _ _ _ _ (by decide), gup_s], by rw [gup_s, ← hte], by rw [hkd, gup_k _ _ _ _ (by decide), gup_s], fun z => ?_, fun z => ?_, ?_⟩
      · first | (exfalso; omega) | (rw [gup_k _ _ _ _ (by decide), gup_s, ← hvv])
      · first | (exfalso; omega) | (rw [gup_k _ _ _ _ (by decide), gup_s, (hBk (by omega)).1])
      · rw [gup_k _ _ _ _ (by decide), gup_k _ _ _ _ (by decide), gup_s]; omega
  · refine gw_aload_n (gc k_Reader_advance_0 7 rfl) rfl rfl ?_
    refine gw_getref (gc k_Reader_advance_0 8 rfl) fl_Reader_18 (gAt hx rfl rfl) (gRf hf rfl rfl) ?_
    refine gw_iload_n (gc k_Reader_advance_0 9 rfl) rfl ?_
    refine gw_iald (gc k_Reader_advance_0 10 rfl) (gAt hx rfl rfl) (by omega) ?_
    rw [(hBk (by omega)).1]
    refine gw_bipush (gc k_Reader_advance_0 11 rfl) (by decide) ?_
    refine gw_icmp_ne (tgt := 30) (gc k_Reader_advance_0 12 rfl) rfl (by omega) (fun c21 => ?_) (fun c21 => ?_)
    · refine gw_aload_n (gc k_Reader_advance_0 15 rfl) rfl rfl ?_
      refine gw_iload_n (gc k_Reader_advance_0 16 rfl) rfl ?_
      refine gw_putIK 5 rfl (gc k_Reader_advance_0 17 rfl) fl_Reader_72 (gAt hx rfl rfl) hf rfl (fun hf => ?_)
      refine gw_aload_n (gc k_Reader_advance_0 18 rfl) rfl rfl ?_
      refine gw_iconst (gc k_Reader_advance_0 19 rfl) ?_
      refine gw_putIK 7 rfl (gc k_Reader_advance_0 20 rfl) fl_Reader_82 (gAt hx rfl rfl) hf rfl (fun hf => ?_)
      refine gw_iload_n (gc k_Reader_advance_0 21 rfl) rfl ?_
      refine gw_aload_n (gc k_Reader_advance_0 22 rfl) rfl rfl ?_
      refine gw_getf 2 rfl (gc k_Reader_advance_0 23 rfl) fl_Reader_35 (gAt hx rfl rfl) ?_
      rw [gup_k _ _ _ _ (by decide), gup_k _ _ _ _ (by decide), h2]
      refine gw_icmp_lt (tgt := 56) (gc k_Reader_advance_0 24 rfl) rfl (by omega) (fun c45 => ?_) (fun c45 => ?_)
      · refine gw_aload_n (gc k_Reader_advance_0 29 rfl) rfl rfl ?_
        refine gw_getref (gc k_Reader_advance_0 30 rfl) fl_Reader_18 (gAt hx rfl rfl) (gRf hf rfl rfl) ?_
        refine gw_iload_n (gc k_Reader_advance_0 31 rfl) rfl ?_
        refine gw_iald (gc k_Reader_advance_0 32 rfl) (gAt hx rfl rfl) (by omega) ?_
        rw [gup_fn _ _ _ _ (by decide), gup_fn _ _ _ _ (by decide), (hBk (by omega)).1]
        have hb3 := hBk (by omega)
        refine gw_cS1 (gc k_Reader_advance_0 33 rfl) y_Reader_isLetter ln_Reader_85 (c_Reader_isLetter _ (by omega)) rfl rfl rfl rfl ?_
        refine gw_beq (tgt := 99) (gc k_Reader_advance_0 34 rfl) rfl (fun c65 => ?_) (fun c65 => ?_)
        · have hnl : ¬ isL B k = 1 := fun z => by have := bi_e1 z; omega
          refine gw_aload_n (gc k_Reader_advance_1 10 rfl) rfl rfl ?_
          refine gw_getref (gc k_Reader_advance_1 11 rfl) fl_Reader_18 (gAt hx rfl rfl) (gRf hf rfl rfl) ?_
          refine gw_iload_n (gc k_Reader_advance_1 12 rfl) rfl ?_
          refine gw_iald (gc k_Reader_advance_1 13 rfl) (gAt hx rfl rfl) (by omega) ?_
          rw [gup_fn _ _ _ _ (by decide), gup_fn _ _ _ _ (by decide), (hBk (by omega)).1]
          refine gw_cS1 (gc k_Reader_advance_1 14 rfl) y_Reader_isDigit ln_Reader_88 (c_Reader_isDigit _ (by omega)) rfl rfl rfl rfl ?_
          refine gw_beq (tgt := 169) (gc k_Reader_advance_1 15 rfl) rfl (fun c108 => ?_) (fun c108 => ?_)
          · have hnd : ¬ isD B k = 1 := fun z => by have := bi_e1 z; omega
            refine gw_aload_n (gc k_Reader_advance_2 6 rfl) rfl rfl ?_
            refine gw_iconst (gc k_Reader_advance_2 7 rfl) ?_
            refine gw_putIK 4 rfl (gc k_Reader_advance_2 8 rfl) fl_Reader_75 (gAt hx rfl rfl) hf rfl (fun hf => ?_)
            refine gw_aload_n (gc k_Reader_advance_2 9 rfl) rfl rfl ?_
            refine gw_aload_n (gc k_Reader_advance_2 10 rfl) rfl rfl ?_
            refine gw_getref (gc k_Reader_advance_2 11 rfl) fl_Reader_18 (gAt hx rfl rfl) (gRf hf rfl rfl) ?_
            refine gw_iload_n (gc k_Reader_advance_2 12 rfl) rfl ?_
            refine gw_iald (gc k_Reader_advance_2 13 rfl) (gAt hx rfl rfl) (by omega) ?_
            rw [gup_fn _ _ _ _ (by decide), gup_fn _ _ _ _ (by decide), gup_fn _ _ _ _ (by decide)]
            refine gw_putIK 7 rfl (gc k_Reader_advance_2 14 rfl) fl_Reader_82 (gAt hx rfl rfl) hf rfl (fun hf => ?_)
            refine gw_iinc_1 (gc k_Reader_advance_2 15 rfl) rfl rfl ?_
            refine gw_aload_n (gc k_Reader_advance_2 16 rfl) rfl rfl ?_
            refine gw_iload_n (gc k_Reader_advance_2 17 rfl) rfl ?_
            refine gw_putIK 6 rfl (gc k_Reader_advance_2 18 rfl) fl_Reader_40 (gAt hx rfl rfl) hf rfl (fun hf => ?_)
            refine gw_return (gc k_Reader_advance_2 19 rfl) rfl ?_
            have hkd : tKd B len k = 3 := (if_pos (by omega)).trans ((if_neg hnl).trans (if_neg hnd))
            have hte : k + 1 = tE B len k := by
              unfold tE
              rw [if_pos (by omega), if_neg hnl, if_neg hnd]
            refine ⟨rfl, rfl, (((((rcF.rf g).up (k := 5) (by omega) _).up (k := 7) (by omega) _).up (k := 4) (by omega) _).up (k := 7) (by omega) _).up (k := 6) (by omega) _, ?_⟩
            rw [hrk, run_stop (by first | omega | exact fun z => c21 (by have := bi_e1 z.2; omega))]
            refine ⟨by rw [gup_k _ _ _ _ (by decide), gup_k _ _ _ _ (by decide), gup_k _ _ _ _ (by decide), gup_k _ _ _ _ (by decide), gup_s], by rw [gup_s, ← hte], by rw [hkd, gup_k _ _ _ _ (by decide), gup_k _ _ _ _ (by decide), gup_s], fun z => ?_, fun z => ?_, ?_⟩
            · first | (exfalso; omega) | (rw [gup_k _ _ _ _ (by decide), gup_s, ← hvv])
            · first | (exfalso; omega) | (rw [gup_k _ _ _ _ (by decide), gup_s, (hBk (by omega)).1])
            · rw [gup_k _ _ _ _ (by decide), gup_s]; rw [(hBk (by omega)).1]; omega
          · have hyd : isD B k = 1 := bi_1 (by omega)
            refine gw_aload_n (gc k_Reader_advance_1 16 rfl) rfl rfl ?_
            refine gw_iconst (gc k_Reader_advance_1 17 rfl) ?_
            refine gw_putIK 4 rfl (gc k_Reader_advance_1 18 rfl) fl_Reader_75 (gAt hx rfl rfl) hf rfl (fun hf => ?_)
            refine gwloop (σ := Int × Int) (fun zs => ((k + 1 ≤ (zs.1) + 1 ∧ (zs.1) ≤ len) ∧ ((zs.1) = k ∨ run (isD B) len (k + 1) = run (isD B) len (zs.1))) ∧ (0 ≤ (zs.2) ∧ (zs.2) ≤ 10000009) ∧ vl B (tE B len k - (zs.1)).toNat (zs.1) (zs.2) = vl B (tE B len k - k).toNat k 0) (fun zs => (len - (zs.1)).toNat) (fun zs => [(2, 151), (0, (zs.1))]) (fun zs => (gup (gup (gup (gup g 151 5 k) 151 7 0) 151 4 2) 151 7 (mv1 (zs.2)))) (k, 0) (show ((k + 1 ≤ k + 1 ∧ k ≤ len) ∧ (k = k ∨ run (isD B) len (k + 1) = run (isD B) len k)) ∧ (0 ≤ (0 : Int) ∧ (0 : Int) ≤ 10000009) ∧ vl B (tE B len k - k).toNat k (0 : Int) = vl B (tE B len k - k).toNat k 0 from ⟨⟨by omega, Or.inl rfl⟩, by omega, rfl⟩) rfl (gup_same (by rw [gup_k _ _ _ _ (by decide), gup_s]; rfl)) (fun zs hI ih3 => ?_)
            obtain ⟨e, v⟩ := zs
            replace hI : ((k + 1 ≤ e + 1 ∧ e ≤ len) ∧ (e = k ∨ run (isD B) len (k + 1) = run (isD B) len e)) ∧ (0 ≤ v ∧ v ≤ 10000009) ∧ vl B (tE B len k - e).toNat e v = vl B (tE B len k - k).toNat k 0 := hI
            obtain ⟨⟨he, hre⟩, hvb, hvl⟩ := hI
            show gWP _ _ _ _ _ [(2, 151), (0, e)] [] _ ((gup (gup (gup (gup g 151 5 k) 151 7 0) 151 4 2) 151 7 (mv1 v))) _
            have hBe : e < len → g 158 e = B e ∧ 0 ≤ B e ∧ B e ≤ 255 := fun z => ⟨hB.2.2.1 e (by omega) (by omega), hB.2.2.2 e (by omega) (by omega)⟩
            have el : (gup (gup (gup (gup g 151 5 k) 151 7 0) 151 4 2) 151 7 (mv1 v)) 151 2 = len := by rw [gup_k _ _ _ _ (by decide), gup_k _ _ _ _ (by decide), gup_k _ _ _ _ (by decide), gup_k _ _ _ _ (by decide)]; exact hB.2.1
            have eb : (gup (gup (gup (gup g 151 5 k) 151 7 0) 151 4 2) 151 7 (mv1 v)) 158 = g 158 := by rw [gup_fn _ _ _ _ (by decide), gup_fn _ _ _ _ (by decide), gup_fn _ _ _ _ (by decide), gup_fn _ _ _ _ (by decide)]
            have hm1 : 0 ≤ mv1 v ∧ mv1 v ≤ 1001 := by unfold mv1; split <;> omega
            have hf : gFin (gup (gup (gup (gup g 151 5 k) 151 7 0) 151 4 2) 151 7 (mv1 v)) := hf.up (a := 151) (k := 7) (v := mv1 v) rfl
            refine gw_iload_n (gc k_Reader_advance_1 19 rfl) rfl ?_
            refine gw_aload_n (gc k_Reader_advance_1 20 rfl) rfl rfl ?_
            refine gw_getf 2 rfl (gc k_Reader_advance_1 21 rfl) fl_Reader_35 (gAt hx rfl rfl) ?_
            rw [el]
            refine gw_icmp_ge (tgt := 187) (gc k_Reader_advance_1 22 rfl) rfl (by omega) (fun c121 => ?_) (fun c121 => ?_)
            · refine gw_aload_n (gc k_Reader_advance_2 16 rfl) rfl rfl ?_
              refine gw_iload_n (gc k_Reader_advance_2 17 rfl) rfl ?_
              refine gw_putIK 6 rfl (gc k_Reader_advance_2 18 rfl) fl_Reader_40 (gAt hx rfl rfl) hf rfl (fun hf => ?_)
              refine gw_return (gc k_Reader_advance_2 19 rfl) rfl ?_
              have hkd : tKd B len k = 2 := (if_pos (by omega)).trans ((if_neg hnl).trans (if_pos hyd))
              have hte : e = tE B len k := by
                unfold tE
                rw [if_pos (by omega), if_neg hnl, if_pos hyd]
                rcases hre with q | q
                · exfalso; subst q; omega
                · rw [q]; exact (run_stop (by first | omega | exact fun z => c133 (by have := bi_e1 z.2; omega))).symm
              have hvv : v = tV B len k := by
                unfold tV
                rw [if_pos hyd, ← hvl, ← hte, Int.sub_self]; rfl
              refine ⟨rfl, rfl, (((((rcF.rf g).up (k := 5) (by omega) _).up (k := 7) (by omega) _).up (k := 4) (by omega) _).up (k := 7) (by omega) _).up (k := 6) (by omega) _, ?_⟩
              rw [hrk, run_stop (by first | omega | exact fun z => c21 (by have := bi_e1 z.2; omega))]
              refine ⟨by rw [gup_k _ _ _ _ (by decide), gup_k _ _ _ _ (by decide), gup_k _ _ _ _ (by decide), gup_k _ _ _ _ (by decide), gup_s], by rw [gup_s, ← hte], by rw [hkd, gup_k _ _ _ _ (by decide), gup_k _ _ _ _ (by decide), gup_s], fun z => ?_, fun z => ?_, ?_⟩
              · first | (exfalso; omega) | (rw [gup_k _ _ _ _ (by decide), gup_s, ← hvv])
              · first | (exfalso; omega) | (rw [gup_k _ _ _ _ (by decide), gup_s, (hBk (by omega)).1])
              · rw [gup_k _ _ _ _ (by decide), gup_s]; omega
            · refine gw_aload_n (gc k_Reader_advance_1 23 rfl) rfl rfl ?_
              refine gw_getref (gc k_Reader_advance_1 24 rfl) fl_Reader_18 (gAt hx rfl rfl) (gRf hf rfl rfl) ?_
              refine gw_iload_n (gc k_Reader_advance_1 25 rfl) rfl ?_
              refine gw_iald (gc k_Reader_advance_1 26 rfl) (gAt hx rfl rfl) (by omega) ?_
              rw [eb, (hBe (by omega)).1]
              have hb4 := hBe (by omega)
              refine gw_cS1 (gc k_Reader_advance_1 27 rfl) y_Reader_isDigit ln_Reader_88 (c_Reader_isDigit _ (by omega)) rfl rfl rfl rfl ?_
              refine gw_beq (tgt := 187) (gc k_Reader_advance_1 28 rfl) rfl (fun c133 => ?_) (fun c133 => ?_)
              · refine gw_aload_n (gc k_Reader_advance_2 16 rfl) rfl rfl ?_
                refine gw_iload_n (gc k_Reader_advance_2 17 rfl) rfl ?_
                refine gw_putIK 6 rfl (gc k_Reader_advance_2 18 rfl) fl_Reader_40 (gAt hx rfl rfl) hf rfl (fun hf => ?_)
                refine gw_return (gc k_Reader_advance_2 19 rfl) rfl ?_
                have hkd : tKd B len k = 2 := (if_pos (by omega)).trans ((if_neg hnl).trans (if_pos hyd))
                have hte : e = tE B len k := by
                  unfold tE
                  rw [if_pos (by omega), if_neg hnl, if_pos hyd]
                  rcases hre with q | q
                  · exfalso; subst q; omega
                  · rw [q]; exact (run_stop (by first | omega | exact fun z => c133 (by have := bi_e1 z.2; omega))).symm
                have hvv : v = tV B len k := by
                  unfold tV
                  rw [if_pos hyd, ← hvl, ← hte, Int.sub_self]; rfl
                refine ⟨rfl, rfl, (((((rcF.rf g).up (k := 5) (by omega) _).up (k := 7) (by omega) _).up (k := 4) (by omega) _).up (k := 7) (by omega) _).up (k := 6) (by omega) _, ?_⟩
                rw [hrk, run_stop (by first | omega | exact fun z => c21 (by have := bi_e1 z.2; omega))]
                refine ⟨by rw [gup_k _ _ _ _ (by decide), gup_k _ _ _ _ (by decide), gup_k _ _ _ _ (by decide), gup_k _ _ _ _ (by decide), gup_s], by rw [gup_s, ← hte], by rw [hkd, gup_k _ _ _ _ (by decide), gup_k _ _ _ _ (by decide), gup_s], fun z => ?_, fun z => ?_, ?_⟩
                · first | (exfalso; omega) | (rw [gup_k _ _ _ _ (by decide), gup_s, ← hvv])
                · first | (exfalso; omega) | (rw [gup_k _ _ _ _ (by decide), gup_s, (hBk (by omega)).1])
                · rw [gup_k _ _ _ _ (by decide), gup_s]; omega
              · refine gw_aload_n (gc k_Reader_advance_1 29 rfl) rfl rfl ?_
                refine gw_aload_n (gc k_Reader_advance_1 30 rfl) rfl rfl ?_
                refine gw_getf 7 rfl (gc k_Reader_advance_1 31 rfl) fl_Reader_82 (gAt hx rfl rfl) ?_
                rw [gup_s]
                refine gw_bipush (gc k_Reader_advance_1 32 rfl) (by decide) ?_
                refine gw_imul (gc k_Reader_advance_1 33 rfl) ?_
                refine gw_aload_n (gc k_Reader_advance_1 34 rfl) rfl rfl ?_
                refine gw_getref (gc k_Reader_advance_1 35 rfl) fl_Reader_18 (gAt hx rfl rfl) (gRf hf rfl rfl) ?_
                refine gw_iload_n (gc k_Reader_advance_1 36 rfl) rfl ?_
                refine gw_iald (gc k_Reader_advance_1 37 rfl) (gAt hx rfl rfl) (by omega) ?_
                rw [eb, (hBe (by omega)).1]
                refine gw_iadd (gc k_Reader_advance_1 38 rfl) ?_
                refine gw_bipush (gc k_Reader_advance_1 39 rfl) (by decide) ?_
                refine gw_isub (gc k_Reader_advance_2 0 rfl) ?_
                refine gw_sipush (gc k_Reader_advance_2 1 rfl) (by decide) ?_
                refine gw_mmin (gc k_Reader_advance_2 2 rfl) y_Math_min ln_Reader_91 (by omega) rfl rfl ?_
                refine gw_putIK 7 rfl (gc k_Reader_advance_2 3 rfl) fl_Reader_82 (gAt hx rfl rfl) hf rfl (fun hf => ?_)
                refine gw_iinc_1 (gc k_Reader_advance_2 4 rfl) rfl rfl ?_
                refine gw_goto (tgt := 116) (gc k_Reader_advance_2 5 rfl) rfl ?_
                have hre2 : run (isD B) len (k + 1) = run (isD B) len (e + 1) := by
                  rcases hre with q | q
                  · rw [q]
                  · rw [q]; exact run_go (by omega) (bi_1 (by omega))
                have hte : tE B len k = run (isD B) len (k + 1) := by unfold tE; rw [if_pos (by omega), if_neg hnl, if_pos hyd]
                have hlt := (run_bd (isD B) len (e + 1)).1
                have hvl2 : vl B (tE B len k - (e + 1)).toNat (e + 1) (if 1000000 < v then v else 10 * v + B e - 48) = vl B (tE B len k - k).toNat k 0 := by
                  rw [← hvl, show (tE B len k - e).toNat = (tE B len k - (e + 1)).toNat + 1 by rw [hte, hre2]; omega]
                  rfl
                rw [gup_gup, ← mv1_st hvb.1 (by omega)]
                exact ih3 (e + 1, (if 1000000 < v then v else 10 * v + B e - 48)) (show ((k + 1 ≤ (e + 1) + 1 ∧ (e + 1) ≤ len) ∧ ((e + 1) = k ∨ run (isD B) len (k + 1) = run (isD B) len (e + 1))) ∧ (0 ≤ ((if 1000000 < v then v else 10 * v + B e - 48)) ∧ ((if 1000000 < v then v else 10 * v + B e - 48)) ≤ 10000009) ∧ vl B (tE B len k - (e + 1)).toNat (e + 1) ((if 1000000 < v then v else 10 * v + B e - 48)) = vl B (tE B len k - k).toNat k 0 from ⟨⟨by omega, Or.inr hre2⟩, by split <;> omega, hvl2⟩) (show (len - (e + 1)).toNat < (len - e).toNat from by omega)
        · have hyl : isL B k = 1 := bi_1 (by omega)
          refine gw_aload_n (gc k_Reader_advance_0 35 rfl) rfl rfl ?_
          refine gw_iconst (gc k_Reader_advance_0 36 rfl) ?_
          refine gw_putIK 4 rfl (gc k_Reader_advance_0 37 rfl) fl_Reader_75 (gAt hx rfl rfl) hf rfl (fun hf => ?_)
          refine gwloop (σ := Int) (fun zs => (k + 1 ≤ zs + 1 ∧ zs ≤ len) ∧ (zs = k ∨ run (isL B) len (k + 1) = run (isL B) len zs)) (fun zs => (len - zs).toNat) (fun zs => [(2, 151), (0, zs)]) (fun zs => (gup (gup (gup g 151 5 k) 151 7 0) 151 4 1)) (k) (show (k + 1 ≤ k + 1 ∧ k ≤ len) ∧ (k = k ∨ run (isL B) len (k + 1) = run (isL B) len k) from ⟨by omega, Or.inl rfl⟩) rfl rfl (fun zs hI ih2 => ?_)
          obtain ⟨e, hzz⟩ : ∃ x, x = zs := ⟨_, rfl⟩
          subst hzz
          replace hI : (k + 1 ≤ e + 1 ∧ e ≤ len) ∧ (e = k ∨ run (isL B) len (k + 1) = run (isL B) len e) := hI
          obtain ⟨he, hre⟩ := hI
          show gWP _ _ _ _ _ [(2, 151), (0, e)] [] _ ((gup (gup (gup g 151 5 k) 151 7 0) 151 4 1)) _
          have hBe : e < len → g 158 e = B e ∧ 0 ≤ B e ∧ B e ≤ 255 := fun z => ⟨hB.2.2.1 e (by omega) (by omega), hB.2.2.2 e (by omega) (by omega)⟩
          have el : (gup (gup (gup g 151 5 k) 151 7 0) 151 4 1) 151 2 = len := by rw [gup_k _ _ _ _ (by decide), gup_k _ _ _ _ (by decide), gup_k _ _ _ _ (by decide)]; exact hB.2.1
          have eb : (gup (gup (gup g 151 5 k) 151 7 0) 151 4 1) 158 = g 158 := by rw [gup_fn _ _ _ _ (by decide), gup_fn _ _ _ _ (by decide), gup_fn _ _ _ _ (by decide)]
          refine gw_iload_n (gc k_Reader_advance_0 38 rfl) rfl ?_
          refine gw_aload_n (gc k_Reader_advance_0 39 rfl) rfl rfl ?_
          refine gw_getf 2 rfl (gc k_Reader_advance_1 0 rfl) fl_Reader_35 (gAt hx rfl rfl) ?_
          rw [el]
          refine gw_icmp_ge (tgt := 187) (gc k_Reader_advance_1 1 rfl) rfl (by omega) (fun c78 => ?_) (fun c78 => ?_)
          · refine gw_aload_n (gc k_Reader_advance_2 16 rfl) rfl rfl ?_
            refine gw_iload_n (gc k_Reader_advance_2 17 rfl) rfl ?_
            refine gw_putIK 6 rfl (gc k_Reader_advance_2 18 rfl) fl_Reader_40 (gAt hx rfl rfl) hf rfl (fun hf => ?_)
            refine gw_return (gc k_Reader_advance_2 19 rfl) rfl ?_
            have hkd : tKd B len k = 1 := (if_pos (by omega)).trans (if_pos hyl)
            have hte : e = tE B len k := by
              unfold tE
              rw [if_pos (by omega), if_pos hyl]
              rcases hre with q | q
              · exfalso; subst q; omega
              · rw [q]; exact (run_stop (by first | omega | exact fun z => c90 (by have := bi_e1 z.2; omega))).symm
            refine ⟨rfl, rfl, ((((rcF.rf g).up (k := 5) (by omega) _).up (k := 7) (by omega) _).up (k := 4) (by omega) _).up (k := 6) (by omega) _, ?_⟩
            rw [hrk, run_stop (by first | omega | exact fun z => c21 (by have := bi_e1 z.2; omega))]
            refine ⟨by rw [gup_k _ _ _ _ (by decide), gup_k _ _ _ _ (by decide), gup_k _ _ _ _ (by decide), gup_s], by rw [gup_s, ← hte], by rw [hkd, gup_k _ _ _ _ (by decide), gup_s], fun z => ?_, fun z => ?_, ?_⟩
            · first | (exfalso; omega) | (rw [gup_k _ _ _ _ (by decide), gup_s, ← hvv])
            · first | (exfalso; omega) | (rw [gup_k _ _ _ _ (by decide), gup_s, (hBk (by omega)).1])
            · rw [gup_k _ _ _ _ (by decide), gup_k _ _ _ _ (by decide), gup_s]; omega
          · refine gw_aload_n (gc k_Reader_advance_1 2 rfl) rfl rfl ?_
            refine gw_getref (gc k_Reader_advance_1 3 rfl) fl_Reader_18 (gAt hx rfl rfl) (gRf hf rfl rfl) ?_
            refine gw_iload_n (gc k_Reader_advance_1 4 rfl) rfl ?_
            refine gw_iald (gc k_Reader_advance_1 5 rfl) (gAt hx rfl rfl) (by omega) ?_
            rw [eb, (hBe (by omega)).1]
            have hb4 := hBe (by omega)
            refine gw_cS1 (gc k_Reader_advance_1 6 rfl) y_Reader_isLetter ln_Reader_85 (c_Reader_isLetter _ (by omega)) rfl rfl rfl rfl ?_
            refine gw_beq (tgt := 187) (gc k_Reader_advance_1 7 rfl) rfl (fun c90 => ?_) (fun c90 => ?_)
            · refine gw_aload_n (gc k_Reader_advance_2 16 rfl) rfl rfl ?_
              refine gw_iload_n (gc k_Reader_advance_2 17 rfl) rfl ?_
              refine gw_putIK 6 rfl (gc k_Reader_advance_2 18 rfl) fl_Reader_40 (gAt hx rfl rfl) hf rfl (fun hf => ?_)
              refine gw_return (gc k_Reader_advance_2 19 rfl) rfl ?_
              have hkd : tKd B len k = 1 := (if_pos (by omega)).trans (if_pos hyl)
              have hte : e = tE B len k := by
                unfold tE
                rw [if_pos (by omega), if_pos hyl]
                rcases hre with q | q
                · exfalso; subst q; omega
                · rw [q]; exact (run_stop (by first | omega | exact fun z => c90 (by have := bi_e1 z.2; omega))).symm
              refine ⟨rfl, rfl, ((((rcF.rf g).up (k := 5) (by omega) _).up (k := 7) (by omega) _).up (k := 4) (by omega) _).up (k := 6) (by omega) _, ?_⟩
              rw [hrk, run_stop (by first | omega | exact fun z => c21 (by have := bi_e1 z.2; omega))]
              refine ⟨by rw [gup_k _ _ _ _ (by decide), gup_k _ _ _ _ (by decide), gup_k _ _ _ _ (by decide), gup_s], by rw [gup_s, ← hte], by rw [hkd, gup_k _ _ _ _ (by decide), gup_s], fun z => ?_, fun z => ?_, ?_⟩
              · first | (exfalso; omega) | (rw [gup_k _ _ _ _ (by decide), gup_s, ← hvv])
              · first | (exfalso; omega) | (rw [gup_k _ _ _ _ (by decide), gup_s, (hBk (by omega)).1])
              · rw [gup_k _ _ _ _ (by decide), gup_k _ _ _ _ (by decide), gup_s]; omega
            · refine gw_iinc_1 (gc k_Reader_advance_1 8 rfl) rfl rfl ?_
              refine gw_goto (tgt := 73) (gc k_Reader_advance_1 9 rfl) rfl ?_
              have hre2 : run (isL B) len (k + 1) = run (isL B) len (e + 1) := by
                rcases hre with q | q
                · rw [q]
                · rw [q]; exact run_go (by omega) (bi_1 (by omega))
              exact ih2 (e + 1) (show (k + 1 ≤ (e + 1) + 1 ∧ (e + 1) ≤ len) ∧ ((e + 1) = k ∨ run (isL B) len (k + 1) = run (isL B) len (e + 1)) from ⟨by omega, Or.inr hre2⟩) (show (len - (e + 1)).toNat < (len - e).toNat from by omega)
      · refine gw_aload_n (gc k_Reader_advance_0 25 rfl) rfl rfl ?_
        refine gw_iconst (gc k_Reader_advance_0 26 rfl) ?_
        refine gw_putIK 4 rfl (gc k_Reader_advance_0 27 rfl) fl_Reader_75 (gAt hx rfl rfl) hf rfl (fun hf => ?_)
        refine gw_goto (tgt := 187) (gc k_Reader_advance_0 28 rfl) rfl ?_
        refine gw_aload_n (gc k_Reader_advance_2 16 rfl) rfl rfl ?_
        refine gw_iload_n (gc k_Reader_advance_2 17 rfl) rfl ?_
        refine gw_putIK 6 rfl (gc k_Reader_advance_2 18 rfl) fl_Reader_40 (gAt hx rfl rfl) hf rfl (fun hf => ?_)
        refine gw_return (gc k_Reader_advance_2 19 rfl) rfl ?_
        have hkd : tKd B len k = 0 := if_neg (by omega)
        have hte : k = tE B len k := (if_neg (by omega)).symm
        refine ⟨rfl, rfl, ((((rcF.rf g).up (k := 5) (by omega) _).up (k := 7) (by omega) _).up (k := 4) (by omega) _).up (k := 6) (by omega) _, ?_⟩
        rw [hrk, run_stop (by first | omega | exact fun z => c21 (by have := bi_e1 z.2; omega))]
        refine ⟨by rw [gup_k _ _ _ _ (by decide), gup_k _ _ _ _ (by decide), gup_k _ _ _ _ (by decide), gup_s], by rw [gup_s, ← hte], by rw [hkd, gup_k _ _ _ _ (by decide), gup_s], fun z => ?_, fun z => ?_, ?_⟩
        · first | (exfalso; omega) | (rw [gup_k _ _ _ _ (by decide), gup_s, ← hvv])
        · first | (exfalso; omega) | (rw [gup_k _ _ _ _ (by decide), gup_s, (hBk (by omega)).1])
        · rw [gup_k _ _ _ _ (by decide), gup_k _ _ _ _ (by decide), gup_s]; omega
    · refine gw_iinc_1 (gc k_Reader_advance_0 13 rfl) rfl rfl ?_
      refine gw_goto (tgt := 5) (gc k_Reader_advance_0 14 rfl) rfl ?_
      have hr := run_go (p := isB B) (len := len) (k := k) (by omega) (bi_1 (by omega))
      exact ih (k + 1) (show (0 ≤ (k + 1) ∧ (k + 1) ≤ len) ∧ run (isB B) len nx = run (isB B) len (k + 1) from ⟨by omega, by rw [← hr]; exact hrk⟩) (show (len - (k + 1)).toNat < (len - k).toNat from by omega)
