/-! ===== tokens ===== -/
theorem gw_joinE {F : gF} {d mc ms pc : Nat} {st ls : List gV} {sh : gS} {g : gM} {Q : gQ} (J : Nat) (L : Int → List gV) (P : Int → Prop) (k : ∀ v, P v → gWP F d mc ms J (L v) st sh g Q) (b : (∀ v, P v → gWP F d mc ms J (L v) st sh g Q) → gWP F d mc ms pc ls st sh g Q) : gWP F d mc ms pc ls st sh g Q := b k
theorem gup_same {g : gM} {a k v : Int} (h : g a k = v) : gup g a k v = g := by
  funext x y
  unfold gup
  by_cases h1 : x = a
  · rw [if_pos h1, h1]
    by_cases h2 : y = k
    · rw [if_pos h2, h2, h]
    · rw [if_neg h2]
  · rw [if_neg h1]
def rnE (p : Int → Int) (len : Int) : Nat → Int → Int
  | 0, k => k
  | f + 1, k => if k < len ∧ p k = 1 then rnE p len f (k + 1) else k
def run (p : Int → Int) (len k : Int) : Int := rnE p len (len - k).toNat k
theorem run_go {p : Int → Int} {len k : Int} (h : k < len) (hp : p k = 1) : run p len k = run p len (k + 1) := by
  unfold run
  rw [show (len - k).toNat = (len - (k + 1)).toNat + 1 by omega]
  exact if_pos ⟨h, hp⟩
theorem run_stop {p : Int → Int} {len k : Int} (h : ¬ (k < len ∧ p k = 1)) : run p len k = k := by
  unfold run
  cases (len - k).toNat with
  | zero => rfl
  | succ f => exact if_neg h
theorem rnE_bd {p : Int → Int} {len : Int} : ∀ (f : Nat) (k : Int), k ≤ rnE p len f k ∧ (k ≤ len → rnE p len f k ≤ len)
  | 0, k => ⟨Int.le_refl _, fun h => h⟩
  | f + 1, k => by
    have := rnE_bd (p := p) (len := len) f (k + 1)
    unfold rnE
    split
    · next h => exact ⟨by omega, fun _ => this.2 (by omega)⟩
    · exact ⟨Int.le_refl _, fun h => h⟩
theorem run_bd (p : Int → Int) (len k : Int) : k ≤ run p len k ∧ (k ≤ len → run p len k ≤ len) := rnE_bd _ _
theorem rnE_all {p : Int → Int} {len : Int} : ∀ (f : Nat) (k j : Int), k ≤ j → j < rnE p len f k → p j = 1
  | 0, k, j, h1, h2 => by unfold rnE at h2; omega
  | f + 1, k, j, h1, h2 => by
    unfold rnE at h2
    split at h2
    · next h =>
      by_cases z : j = k
      · rw [z]; exact h.2
      · exact rnE_all f (k + 1) j (by omega) h2
    · omega
theorem run_all {p : Int → Int} {len k j : Int} (h1 : k ≤ j) (h2 : j < run p len k) : p j = 1 := rnE_all _ k j h1 h2
theorem run_end {p : Int → Int} {len : Int} : ∀ (f : Nat) (k : Int), f = (len - k).toNat → run p len k < len → ¬ p (run p len k) = 1
  | 0, k, e, h => by
    have := (run_bd p len k).1
    omega
  | f + 1, k, e, h => by
    by_cases z : k < len ∧ p k = 1
    · rw [run_go z.1 z.2] at h ⊢
      exact run_end f (k + 1) (by omega) h
    · rw [run_stop z] at h ⊢
      exact fun q => z ⟨h, q⟩
def isL (B : Int → Int) (k : Int) : Int := bi (97 ≤ B k ∧ B k ≤ 122)
def isD (B : Int → Int) (k : Int) : Int := bi (48 ≤ B k ∧ B k ≤ 57)
def isB (B : Int → Int) (k : Int) : Int := bi (B k = 32)
theorem bi_e1 {p : Prop} [Decidable p] (h : bi p = 1) : p := Decidable.byContradiction fun z => by rw [bi_0 z] at h; cases h
theorem bi_e0 {p : Prop} [Decidable p] (h : ¬ bi p = 1) : ¬ p := fun z => h (bi_1 z)
/-- where the token that begins at k ends -/
def tE (B : Int → Int) (len k : Int) : Int := if k < len then (if isL B k = 1 then run (isL B) len (k + 1) else if isD B k = 1 then run (isD B) len (k + 1) else k + 1) else k
def tC (B : Int → Int) (len k : Int) : Int := if isL B k = 1 then wordC B k (tE B len k) else if isD B k = 1 then 50 else 100 + B k
def vl (B : Int → Int) : Nat → Int → Int → Int
  | 0, _, v => v
  | m + 1, k, v => vl B m (k + 1) (if 1000000 < v then v else 10 * v + B k - 48)
def tV (B : Int → Int) (len k : Int) : Int := if isD B k = 1 then vl B (tE B len k - k).toNat k 0 else 0
/-- where token i begins -/
def tP (B : Int → Int) (len : Int) : Nat → Int
  | 0 => run (isB B) len 0
  | i + 1 => run (isB B) len (tE B len (tP B len i))
def tT (B : Int → Int) (len p : Int) : Int := if 0 ≤ p ∧ tP B len p.toNat < len then tC B len (tP B len p.toNat) else 0
def tW (B : Int → Int) (len p : Int) : Int := if 0 ≤ p ∧ tP B len p.toNat < len then tV B len (tP B len p.toNat) else 0
theorem tE_bd (B : Int → Int) (len k : Int) (h : k < len) : k < tE B len k ∧ tE B len k ≤ len := by
  have h1 := run_bd (isL B) len (k + 1)
  have h2 := run_bd (isD B) len (k + 1)
  unfold tE
  rw [if_pos h]
  split
  · exact ⟨by omega, h1.2 (by omega)⟩
  · split
    · exact ⟨by omega, h2.2 (by omega)⟩
    · omega
theorem tP_bd (B : Int → Int) {len : Int} (hl : 0 ≤ len) : ∀ i : Nat, 0 ≤ tP B len i ∧ tP B len i ≤ len
  | 0 => by
    have := run_bd (isB B) len 0
    exact ⟨this.1, this.2 hl⟩
  | i + 1 => by
    have h1 := tP_bd B hl i
    have h2 := run_bd (isB B) len (tE B len (tP B len i))
    show 0 ≤ run (isB B) len (tE B len (tP B len i)) ∧ run (isB B) len (tE B len (tP B len i)) ≤ len
    by_cases z : tP B len i < len
    · have h3 := tE_bd B len _ z
      exact ⟨by omega, h2.2 (by omega)⟩
    · have e : tE B len (tP B len i) = tP B len i := if_neg z
      rw [e] at h2 ⊢
      exact ⟨by omega, h2.2 (by omega)⟩
theorem tP_ge (B : Int → Int) {len : Int} (hl : 0 ≤ len) : ∀ i : Nat, (∀ j : Nat, j < i → tP B len j < len) → (i : Int) ≤ tP B len i
  | 0, _ => (tP_bd B hl 0).1
  | i + 1, h => by
    have h1 := tP_ge B hl i (fun j hj => h j (by omega))
    have h2 := tE_bd B len _ (h i (by omega))
    have h3 := (run_bd (isB B) len (tE B len (tP B len i))).1
    show ((i + 1 : Nat) : Int) ≤ run (isB B) len (tE B len (tP B len i))
    omega
theorem tP_end (B : Int → Int) {len : Int} (hl : 0 ≤ len) : ∀ (d i : Nat), ¬ tP B len i < len → tP B len (i + d) = len
  | 0, i, h => by have := tP_bd B hl i; show tP B len i = len; omega
  | d + 1, i, h => by
    have h1 := tP_end B hl d i h
    show run (isB B) len (tE B len (tP B len (i + d))) = len
    have e : tE B len (tP B len (i + d)) = tP B len (i + d) := if_neg (by omega)
    rw [e, h1, run_stop (by omega)]
theorem isT_blank {B : Int → Int} {k : Int} (h : B k = 32) : ¬ isL B k = 1 ∧ ¬ isD B k = 1 := ⟨fun z => by have := bi_e1 z; omega, fun z => by have := bi_e1 z; omega⟩
theorem vl_bd (B : Int → Int) : ∀ (m : Nat) (k v : Int), (∀ j, k ≤ j → j < k + m → 48 ≤ B j ∧ B j ≤ 57) → (0 ≤ v ∧ v ≤ 10000009) → 0 ≤ vl B m k v ∧ vl B m k v ≤ 10000009
  | 0, _, _, _, h => h
  | m + 1, k, v, hB, h => by
    have hk := hB k (Int.le_refl _) (by omega)
    refine vl_bd B m (k + 1) _ (fun j h1 h2 => hB j (by omega) (by omega)) ?_
    split <;> omega
theorem tE_dig {B : Int → Int} {len k j : Int} (h : k < len) (hd : isD B k = 1) (h1 : k ≤ j) (h2 : j < tE B len k) : 48 ≤ B j ∧ B j ≤ 57 := by
  have hk := bi_e1 hd
  have nl : ¬ isL B k = 1 := fun z => by have := bi_e1 z; omega
  by_cases z : j = k
  · rw [z]; exact hk
  · unfold tE at h2
    rw [if_pos h, if_neg nl, if_pos hd] at h2
    have q : isD B j = 1 := run_all (by omega) h2
    exact bi_e1 q
theorem tV_bd (B : Int → Int) {len k : Int} (h : k < len) : 0 ≤ tV B len k ∧ tV B len k ≤ 10000009 := by
  unfold tV
  by_cases z : isD B k = 1
  · rw [if_pos z]
    exact vl_bd B _ _ _ (fun j h1 h2 => tE_dig h z h1 (by have := tE_bd B len k h; omega)) (by omega)
  · rw [if_neg z]; omega
theorem wordC_bd (B : Int → Int) (k e : Int) : 0 ≤ wordC B k e ∧ wordC B k e ≤ 28 := by
  have := wcF_bd (B := B) (k := k) (e := e) wdL 1 (by omega)
  have e : (wdL.length : Int) = 27 := by decide
  unfold wordC
  omega
theorem tC_bd {B : Int → Int} (hB : ∀ j, 0 ≤ B j ∧ B j ≤ 255) (len k : Int) : 0 ≤ tC B len k ∧ tC B len k ≤ 355 := by
  have h1 := wordC_bd B k (tE B len k)
  have h2 := hB k
  unfold tC
  repeat' split
  all_goals omega
theorem tB_bd (g : gM) (j : Int) : 0 ≤ tB g j ∧ tB g j ≤ 255 := by unfold tB; omega
/-- tokens laid so far -/
def spU (g : gM) (len : Int) (t : Nat) (g1 : gM) : Prop := (∀ a k, a ≠ 186 → a ≠ 187 → a ≠ 188 → ¬ (a = 177 ∧ k = 18) → g1 a k = g a k) ∧ g1 177 18 = (t : Int) ∧ ∀ i : Nat, i < t → tP (tB g) len i < len ∧ g1 188 (i : Int) = tP (tB g) len i ∧ g1 186 (i : Int) = tC (tB g) len (tP (tB g) len i) ∧ g1 187 (i : Int) = tV (tB g) len (tP (tB g) len i)
def spQ (g : gM) (len : Int) (g2 : gM) : Prop := ∃ t : Nat, (t : Int) ≤ len ∧ ¬ tP (tB g) len t < len ∧ (∀ i : Nat, i < t → tP (tB g) len i < len) ∧ (∀ a k, a ≠ 186 → a ≠ 187 → a ≠ 188 → ¬ (a = 177 ∧ k = 18) → g2 a k = g a k) ∧ g2 177 18 = (t : Int) ∧ ∀ i : Nat, i ≤ t → g2 188 (i : Int) = tP (tB g) len i ∧ g2 186 (i : Int) = tT (tB g) len i ∧ g2 187 (i : Int) = tW (tB g) len i
theorem gref_sp {a k : Nat} (h : (a : Int) = 186 ∨ (a : Int) = 187 ∨ (a : Int) = 188 ∨ ((a : Int) = 177 ∧ (k : Int) = 18)) : gref a k = none := by
  rcases (show a = 186 ∨ a = 187 ∨ a = 188 ∨ (a = 177 ∧ k = 18) by omega) with z | z | z | z
  · subst z; rfl
  · subst z; rfl
  · subst z; rfl
  · obtain ⟨z1, z2⟩ := z
    subst z1 z2; rfl
theorem spU.fin {g g1 : gM} {len : Int} {t : Nat} (h : spU g len t g1) (hf : gFin g) : gFin g1 := hf.of fun a k z => h.1 _ _ (fun q => z (gref_sp (by omega))) (fun q => z (gref_sp (by omega))) (fun q => z (gref_sp (by omega))) (fun q => z (gref_sp (by omega)))
theorem spU.tape {g g1 : gM} {len : Int} {t : Nat} (h : spU g len t g1) : g1 184 = g 184 := funext fun k => h.1 184 k (by decide) (by decide) (by decide) (by omega)
def sp3 (g1 : gM) (t k c : Int) : gM := gup (gup (gup g1 188 t k) 187 t 0) 186 t c
theorem sp3_0 (g1 : gM) (t k c : Int) : gup (sp3 g1 t k c) 187 t 0 = sp3 g1 t k c := gup_same (by unfold sp3; rw [gup_fn _ _ _ _ (by decide), gup_s])
theorem sp3_18 (g1 : gM) (t k c v : Int) : gup (sp3 g1 t k c) 187 t v 177 = g1 177 := by unfold sp3; rw [gup_fn _ _ _ _ (by decide), gup_fn _ _ _ _ (by decide), gup_fn _ _ _ _ (by decide), gup_fn _ _ _ _ (by decide)]
theorem sp3_fn (g1 : gM) (t k c v : Int) {a : Int} (h1 : a ≠ 186) (h2 : a ≠ 187) (h3 : a ≠ 188) : gup (sp3 g1 t k c) 187 t v a = g1 a := by unfold sp3; rw [gup_fn _ _ _ _ h2, gup_fn _ _ _ _ h1, gup_fn _ _ _ _ h2, gup_fn _ _ _ _ h3]
theorem spU.step {g g1 : gM} {len k c v : Int} {t : Nat} (h : spU g len t g1) (hk : k = tP (tB g) len t) (hl : k < len) (hc : c = tC (tB g) len k) (hv : v = tV (tB g) len k) : spU g len (t + 1) (gup (gup (sp3 g1 t k c) 187 t v) 177 18 ((t : Int) + 1)) := by
  refine ⟨fun a y h1 h2 h3 h4 => ?_, gup_s _ _ _ _, fun i hi => ?_⟩
  · rw [show gup (gup (sp3 g1 t k c) 187 t v) 177 18 ((t : Int) + 1) a y = gup (sp3 g1 t k c) 187 t v a y by
      by_cases z : a = 177
      · rw [z]; exact gup_k _ _ _ _ (fun z2 => h4 ⟨z, z2⟩)
      · exact gup_a _ _ _ _ _ z, sp3_fn _ _ _ _ _ h1 h2 h3]
    exact h.1 a y h1 h2 h3 h4
  · have e0 : ∀ a : Int, a ≠ 177 → gup (gup (sp3 g1 t k c) 187 t v) 177 18 ((t : Int) + 1) a = gup (sp3 g1 t k c) 187 t v a := fun a ha => gup_fn _ _ _ _ ha
    rw [e0 188 (by decide), e0 186 (by decide), e0 187 (by decide)]
    have e1 : gup (sp3 g1 t k c) 187 t v 188 = gup g1 188 t k 188 := by unfold sp3; rw [gup_fn _ _ _ _ (by decide), gup_fn _ _ _ _ (by decide), gup_fn _ _ _ _ (by decide)]
    have e2 : gup (sp3 g1 t k c) 187 t v 186 = gup (gup (gup g1 188 t k) 187 t 0) 186 t c 186 := by unfold sp3; rw [gup_fn _ _ _ _ (by decide)]
    rw [e1, e2]
    by_cases z : i = t
    · subst z
      rw [gup_s, gup_s, gup_s, ← hk]
      exact ⟨hl, rfl, hc, hv⟩
    · have hi2 : (i : Int) ≠ (t : Int) := by omega
      rw [gup_k _ _ _ _ hi2, gup_k _ _ _ _ hi2, gup_k _ _ _ _ hi2]
      have f1 : gup (gup g1 188 (t : Int) k) 187 (t : Int) 0 186 = g1 186 := by rw [gup_fn _ _ _ _ (by decide), gup_fn _ _ _ _ (by decide)]
      have f2 : sp3 g1 t k c 187 (i : Int) = g1 187 (i : Int) := by
        unfold sp3
        rw [gup_fn _ _ _ _ (by decide), gup_k _ _ _ _ hi2, gup_fn _ _ _ _ (by decide)]
      rw [f1, f2]
      exact h.2.2 i (by omega)
theorem spU.done {g g1 : gM} {len : Int} {t : Nat} (hl : 0 ≤ len) (h : spU g len t g1) (ht : (t : Int) ≤ len) (he : tP (tB g) len t = len) : spQ g len (gup (gup (gup g1 188 t len) 186 t 0) 187 t 0) := by
  refine ⟨t, ht, by omega, fun i hi => (h.2.2 i hi).1, fun a y h1 h2 h3 h4 => ?_, ?_, fun i hi => ?_⟩
  · rw [gup_fn _ _ _ _ h2, gup_fn _ _ _ _ h1, gup_fn _ _ _ _ h3]; exact h.1 a y h1 h2 h3 h4
  · rw [gup_fn _ _ _ _ (by decide), gup_fn _ _ _ _ (by decide), gup_fn _ _ _ _ (by decide)]; exact h.2.1
  · have f1 : gup (gup (gup g1 188 t len) 186 t 0) 187 t 0 188 = gup g1 188 t len 188 := by rw [gup_fn _ _ _ _ (by decide), gup_fn _ _ _ _ (by decide)]
    have f2 : gup (gup (gup g1 188 t len) 186 t 0) 187 t 0 186 = gup (gup g1 188 t len) 186 t 0 186 := by rw [gup_fn _ _ _ _ (by decide)]
    rw [f1, f2]
    unfold tT tW
    rw [Int.toNat_natCast]
    by_cases z : i = t
    · subst z
      rw [gup_s, gup_s, gup_s, if_neg (by omega), if_neg (by omega)]
      exact ⟨he.symm, rfl, rfl⟩
    · have hi2 : (i : Int) ≠ (t : Int) := by omega
      have q := h.2.2 i (by omega)
      rw [gup_k _ _ _ _ hi2, gup_k _ _ _ _ hi2, gup_k _ _ _ _ hi2, if_pos ⟨by omega, q.1⟩, if_pos ⟨by omega, q.1⟩, gup_fn _ _ _ _ (by decide), gup_fn _ _ _ _ (by decide), gup_fn _ _ _ _ (by decide)]
      exact q.2
theorem tB_eq {g g1 : gM} (h : g1 184 = g 184) : tB g1 = tB g := by unfold tB; rw [h]
set_option maxHeartbeats 8000000 in
theorem c_Model_splits {sh : gS} {g : gM} (hx : gFix sh) (hf : gFin g) (n : Int) (hn : 0 ≤ n ∧ n ≤ 400) (hW : wordsOK g) (ht : tapeOK g) : gTri f_Model_splits 1 0 0 [(2, 177), (0, n)] sh g (fun x s2 g2 => x = none ∧ s2 = sh ∧ spQ g n g2) := by
  have hf0 := hf
  refine gTri.of (by decide +kernel) rfl ?_
  show gWP f_Model_splits _ _ _ 0 [(2, 177), (0, n), (9, 0), (9, 0), (9, 0), (9, 0)] [] sh g _
  refine gw_aload_n (gc k_Model_splits_0 0 rfl) rfl rfl ?_
  refine gw_iconst (gc k_Model_splits_0 1 rfl) ?_
  refine gw_putIK 18 rfl (gc k_Model_splits_0 2 rfl) fl_Model_160 (gAt hx rfl rfl) hf rfl (fun hf => ?_)
  refine gw_iconst (gc k_Model_splits_0 3 rfl) ?_
  refine gw_istore_2 (gc k_Model_splits_0 4 rfl) rfl rfl ?_
  refine gwloop (σ := Nat × Int × gV × gV × gV × gM) (fun zs => (0 ≤ (zs.2.1) ∧ (zs.2.1) ≤ n) ∧ run (isB (tB g)) n (zs.2.1) = tP (tB g) n (zs.1) ∧ ((zs.1) : Int) ≤ (zs.2.1) ∧ spU g n (zs.1) (zs.2.2.2.2.2)) (fun zs => (n - (zs.2.1)).toNat) (fun zs => [(2, 177), (0, n), (0, (zs.2.1)), (zs.2.2.1), (zs.2.2.2.1), (zs.2.2.2.2.1)]) (fun zs => (zs.2.2.2.2.2)) (0, 0, (9, 0), (9, 0), (9, 0), gup g 177 18 0) (show (0 ≤ (0 : Int) ∧ (0 : Int) ≤ n) ∧ run (isB (tB g)) n (0 : Int) = tP (tB g) n (0 : Nat) ∧ ((0 : Nat) : Int) ≤ (0 : Int) ∧ spU g n (0 : Nat) (gup g 177 18 0) from ⟨by omega, rfl, by omega, ⟨fun a y h1 h2 h3 h4 => by
    by_cases z : a = 177
    · rw [z]; exact gup_k _ _ _ _ (fun z2 => h4 ⟨z, z2⟩)
    · exact gup_a _ _ _ _ _ z, gup_s _ _ _ _, fun i hi => by omega⟩⟩) rfl rfl (fun zs hI ih => ?_)
  obtain ⟨t, k, x3, x4, x5, g1⟩ := zs
  replace hI : (0 ≤ k ∧ k ≤ n) ∧ run (isB (tB g)) n k = tP (tB g) n t ∧ (t : Int) ≤ k ∧ spU g n t g1 := hI
  obtain ⟨hk, hR, htk, hU⟩ := hI
  show gWP _ _ _ _ _ [(2, 177), (0, n), (0, k), x3, x4, x5] [] _ (g1) _
  have hf := hU.fin hf0
  have e184 : g1 184 = g 184 := hU.tape
  have e18 : g1 177 18 = (t : Int) := hU.2.1
  refine gw_iload_n (gc k_Model_splits_0 5 rfl) rfl ?_
  refine gw_iload_n (gc k_Model_splits_0 6 rfl) rfl ?_
  refine gw_icmp_ge (tgt := 263) (gc k_Model_splits_0 7 rfl) rfl (by omega) (fun c9 => ?_) (fun c9 => ?_)
  · have hkn : k = n := by omega
    have htn : tP (tB g) n t = n := by rw [← hR, hkn]; exact run_stop (by omega)
    refine gw_aload_n (gc k_Model_splits_3 16 rfl) rfl rfl ?_
    refine gw_getref (gc k_Model_splits_3 17 rfl) fl_Model_60 (gAt hx rfl rfl) (gRf hf rfl rfl) ?_
    refine gw_aload_n (gc k_Model_splits_3 18 rfl) rfl rfl ?_
    refine gw_getf 18 rfl (gc k_Model_splits_3 19 rfl) fl_Model_160 (gAt hx rfl rfl) ?_
    rw [e18]
    refine gw_iload_n (gc k_Model_splits_3 20 rfl) rfl ?_
    refine gw_iastF (gc k_Model_splits_3 21 rfl) (gAt hx rfl rfl) (by omega) hf rfl (fun hf => ?_)
    refine gw_aload_n (gc k_Model_splits_3 22 rfl) rfl rfl ?_
    refine gw_getref (gc k_Model_splits_3 23 rfl) fl_Model_54 (gAt hx rfl rfl) (gRf hf rfl rfl) ?_
    refine gw_aload_n (gc k_Model_splits_3 24 rfl) rfl rfl ?_
    refine gw_getf 18 rfl (gc k_Model_splits_3 25 rfl) fl_Model_160 (gAt hx rfl rfl) ?_
    rw [gup_fn _ _ _ _ (by decide), e18]
    refine gw_iconst (gc k_Model_splits_3 26 rfl) ?_
    refine gw_iastF (gc k_Model_splits_3 27 rfl) (gAt hx rfl rfl) (by omega) hf rfl (fun hf => ?_)
    refine gw_aload_n (gc k_Model_splits_3 28 rfl) rfl rfl ?_
    refine gw_getref (gc k_Model_splits_3 29 rfl) fl_Model_57 (gAt hx rfl rfl) (gRf hf rfl rfl) ?_
    refine gw_aload_n (gc k_Model_splits_3 30 rfl) rfl rfl ?_
    refine gw_getf 18 rfl (gc k_Model_splits_3 31 rfl) fl_Model_160 (gAt hx rfl rfl) ?_
    rw [gup_fn _ _ _ _ (by decide), gup_fn _ _ _ _ (by decide), e18]
    refine gw_iconst (gc k_Model_splits_3 32 rfl) ?_
    refine gw_iastF (gc k_Model_splits_3 33 rfl) (gAt hx rfl rfl) (by omega) hf rfl (fun hf => ?_)
    refine gw_return (gc k_Model_splits_3 34 rfl) rfl ?_
    exact ⟨rfl, rfl, hU.done hn.1 (by omega) htn⟩
  · have htk2 := ht.2 k (by omega) (by omega)
    have hBk : tB g k = g 184 k % 256 := rfl
    refine gw_aload_n (gc k_Model_splits_0 8 rfl) rfl rfl ?_
    refine gw_getref (gc k_Model_splits_0 9 rfl) fl_Model_45 (gAt hx rfl rfl) (gRf hf rfl rfl) ?_
    refine gw_iload_n (gc k_Model_splits_0 10 rfl) rfl ?_
    refine gw_bald (gc k_Model_splits_0 11 rfl) (gAt hx rfl rfl) (by omega) ?_
    rw [e184]
    refine gw_istore_3 (gc k_Model_splits_0 12 rfl) rfl rfl ?_
    refine gw_iload_n (gc k_Model_splits_0 13 rfl) rfl ?_
    refine gw_bipush (gc k_Model_splits_0 14 rfl) (by decide) ?_
    refine gw_icmp_ne (tgt := 31) (gc k_Model_splits_0 15 rfl) rfl (by omega) (fun c22 => ?_) (fun c22 => ?_)
    · refine gw_joinE 100 (fun v31 => [(2, 177), (0, n), (0, k), (0, g 184 k), (0, v31), x5]) (fun v => v = tE (tB g) n k) (fun v31 hv31 => ?_) (fun kj31 => ?_)
      · have htP : k = tP (tB g) n t := by
          rw [← hR, run_stop]
          exact fun z => absurd (bi_e1 z.2) (by omega)
        have hev := tE_bd (tB g) n k (by omega)
        refine gw_aload_n (gc k_Model_splits_1 10 rfl) rfl rfl ?_
        refine gw_getref (gc k_Model_splits_1 11 rfl) fl_Model_60 (gAt hx rfl rfl) (gRf hf rfl rfl) ?_
        refine gw_aload_n (gc k_Model_splits_1 12 rfl) rfl rfl ?_
        refine gw_getf 18 rfl (gc k_Model_splits_1 13 rfl) fl_Model_160 (gAt hx rfl rfl) ?_
        rw [e18]
        refine gw_iload_n (gc k_Model_splits_1 14 rfl) rfl ?_
        refine gw_iastF (gc k_Model_splits_1 15 rfl) (gAt hx rfl rfl) (by omega) hf rfl (fun hf => ?_)
        refine gw_aload_n (gc k_Model_splits_1 16 rfl) rfl rfl ?_
        refine gw_getref (gc k_Model_splits_1 17 rfl) fl_Model_57 (gAt hx rfl rfl) (gRf hf rfl rfl) ?_
        refine gw_aload_n (gc k_Model_splits_1 18 rfl) rfl rfl ?_
        refine gw_getf 18 rfl (gc k_Model_splits_1 19 rfl) fl_Model_160 (gAt hx rfl rfl) ?_
        rw [gup_fn _ _ _ _ (by decide), e18]
        refine gw_iconst (gc k_Model_splits_1 20 rfl) ?_
        refine gw_iastF (gc k_Model_splits_1 21 rfl) (gAt hx rfl rfl) (by omega) hf rfl (fun hf => ?_)
        refine gw_aload_n (gc k_Model_splits_1 22 rfl) rfl rfl ?_
        refine gw_getref (gc k_Model_splits_1 23 rfl) fl_Model_54 (gAt hx rfl rfl) (gRf hf rfl rfl) ?_
        refine gw_aload_n (gc k_Model_splits_1 24 rfl) rfl rfl ?_
        refine gw_getf 18 rfl (gc k_Model_splits_1 25 rfl) fl_Model_160 (gAt hx rfl rfl) ?_
        refine gw_join0 165 (fun v => v = tC (tB g) n k) (fun v128 hv128 => ?_) (fun kj128 => ?_)
        · subst hv128
          rw [gup_fn _ _ _ _ (by decide), gup_fn _ _ _ _ (by decide), e18]
          refine gw_iastF (gc k_Model_splits_2 4 rfl) (gAt hx rfl rfl) (by omega) hf rfl (fun hf => ?_)
          show gWP _ _ _ _ 166 _ _ _ (sp3 g1 t k (tC (tB g) n k)) _
          refine gw_iload_n (gc k_Model_splits_2 5 rfl) rfl ?_
          refine gw_istore_5 (gc k_Model_splits_2 6 rfl) rfl rfl ?_
          refine gwloop (σ := Int × Int) (fun zs => (k ≤ (zs.1) ∧ (zs.1) ≤ v31) ∧ (0 ≤ (zs.2) ∧ (zs.2) ≤ 10000009) ∧ (isD (tB g) k = 1 → vl (tB g) (v31 - (zs.1)).toNat (zs.1) (zs.2) = vl (tB g) (v31 - k).toNat k 0) ∧ (¬ isD (tB g) k = 1 → (zs.2) = 0)) (fun zs => (v31 - (zs.1)).toNat) (fun zs => [(2, 177), (0, n), (0, k), (0, g 184 k), (0, v31), (0, (zs.1))]) (fun zs => gup (sp3 g1 t k (tC (tB g) n k)) 187 t (zs.2)) (k, 0) (show (k ≤ k ∧ k ≤ v31) ∧ (0 ≤ (0 : Int) ∧ (0 : Int) ≤ 10000009) ∧ (isD (tB g) k = 1 → vl (tB g) (v31 - k).toNat k (0 : Int) = vl (tB g) (v31 - k).toNat k 0) ∧ (¬ isD (tB g) k = 1 → (0 : Int) = 0) from ⟨by omega, by omega, fun _ => rfl, fun _ => rfl⟩) rfl (sp3_0 _ _ _ _) (fun zs hI ih2 => ?_)
          obtain ⟨i, v⟩ := zs
          replace hI : (k ≤ i ∧ i ≤ v31) ∧ (0 ≤ v ∧ v ≤ 10000009) ∧ (isD (tB g) k = 1 → vl (tB g) (v31 - i).toNat i v = vl (tB g) (v31 - k).toNat k 0) ∧ (¬ isD (tB g) k = 1 → v = 0) := hI
          obtain ⟨hi, hvb, hvd, hvn⟩ := hI
          show gWP _ _ _ _ _ [(2, 177), (0, n), (0, k), (0, g 184 k), (0, v31), (0, i)] [] _ (gup (sp3 g1 t k (tC (tB g) n k)) 187 t v) _
          have hf3 : gFin (gup (sp3 g1 t k (tC (tB g) n k)) 187 t v) := hf.up (a := 187) (k := t) (v := v) rfl
          have f18 : gup (sp3 g1 t k (tC (tB g) n k)) 187 t v 177 18 = (t : Int) := (congrFun (sp3_18 _ _ _ _ _) 18).trans e18
          have f184 : gup (sp3 g1 t k (tC (tB g) n k)) 187 t v 184 = g 184 := (sp3_fn _ _ _ _ _ (by decide) (by decide) (by decide)).trans e184
          have hf := hf3
          refine gw_iload (gc k_Model_splits_2 7 rfl) rfl ?_
          refine gw_iload (gc k_Model_splits_2 8 rfl) rfl ?_
          refine gw_icmp_ge (tgt := 247) (gc k_Model_splits_2 9 rfl) rfl (by omega) (fun c173 => ?_) (fun c173 => ?_)
          · have hvv : v = tV (tB g) n k := by
              unfold tV
              rw [← hv31]
              by_cases z : isD (tB g) k = 1
              · rw [if_pos z, ← hvd z]
                have hie : i = v31 := by first | omega | exact absurd (bi_e1 z) (by omega)
                rw [hie, Int.sub_self]; rfl
              · rw [if_neg z]; exact hvn z
            refine gw_aload_n (gc k_Model_splits_3 7 rfl) rfl rfl ?_
            refine gw_dup (gc k_Model_splits_3 8 rfl) rfl ?_
            refine gw_getf 18 rfl (gc k_Model_splits_3 9 rfl) fl_Model_160 (gAt hx rfl rfl) ?_
            rw [f18]
            refine gw_iconst (gc k_Model_splits_3 10 rfl) ?_
            refine gw_iadd (gc k_Model_splits_3 11 rfl) ?_
            refine gw_putIK 18 rfl (gc k_Model_splits_3 12 rfl) fl_Model_160 (gAt hx rfl rfl) hf rfl (fun hf => ?_)
            refine gw_iload (gc k_Model_splits_3 13 rfl) rfl ?_
            refine gw_istore_2 (gc k_Model_splits_3 14 rfl) rfl rfl ?_
            refine gw_goto (tgt := 7) (gc k_Model_splits_3 15 rfl) rfl ?_
            exact ih (t + 1, v31, (0, g 184 k), (0, v31), (0, i), gup (gup (sp3 g1 t k (tC (tB g) n k)) 187 t v) 177 18 ((t : Int) + 1)) (show (0 ≤ v31 ∧ v31 ≤ n) ∧ run (isB (tB g)) n v31 = tP (tB g) n (t + 1) ∧ ((t + 1) : Int) ≤ v31 ∧ spU g n (t + 1) (gup (gup (sp3 g1 t k (tC (tB g) n k)) 187 t v) 177 18 ((t : Int) + 1)) from ⟨by omega, by rw [hv31, htP]; rfl, by omega, hU.step htP (by omega) rfl hvv⟩) (show (n - v31).toNat < (n - k).toNat from by omega)
          · refine gw_iload_n (gc k_Model_splits_2 10 rfl) rfl ?_
            refine gw_cS1 (gc k_Model_splits_2 11 rfl) y_Model_isDigit ln_Model_166 (c_Model_isDigit _ (by omega)) rfl rfl rfl rfl ?_
            refine gw_beq (tgt := 247) (gc k_Model_splits_2 12 rfl) rfl (fun c180 => ?_) (fun c180 => ?_)
            · have hvv : v = tV (tB g) n k := by
                unfold tV
                rw [← hv31]
                by_cases z : isD (tB g) k = 1
                · rw [if_pos z, ← hvd z]
                  have hie : i = v31 := by first | omega | exact absurd (bi_e1 z) (by omega)
                  rw [hie, Int.sub_self]; rfl
                · rw [if_neg z]; exact hvn z
              refine gw_aload_n (gc k_Model_splits_3 7 rfl) rfl rfl ?_
              refine gw_dup (gc k_Model_splits_3 8 rfl) rfl ?_
              refine gw_getf 18 rfl (gc k_Model_splits_3 9 rfl) fl_Model_160 (gAt hx rfl rfl) ?_
              rw [f18]
              refine gw_iconst (gc k_Model_splits_3 10 rfl) ?_
              refine gw_iadd (gc k_Model_splits_3 11 rfl) ?_
              refine gw_putIK 18 rfl (gc k_Model_splits_3 12 rfl) fl_Model_160 (gAt hx rfl rfl) hf rfl (fun hf => ?_)
              refine gw_iload (gc k_Model_splits_3 13 rfl) rfl ?_
              refine gw_istore_2 (gc k_Model_splits_3 14 rfl) rfl rfl ?_
              refine gw_goto (tgt := 7) (gc k_Model_splits_3 15 rfl) rfl ?_
              exact ih (t + 1, v31, (0, g 184 k), (0, v31), (0, i), gup (gup (sp3 g1 t k (tC (tB g) n k)) 187 t v) 177 18 ((t : Int) + 1)) (show (0 ≤ v31 ∧ v31 ≤ n) ∧ run (isB (tB g)) n v31 = tP (tB g) n (t + 1) ∧ ((t + 1) : Int) ≤ v31 ∧ spU g n (t + 1) (gup (gup (sp3 g1 t k (tC (tB g) n k)) 187 t v) 177 18 ((t : Int) + 1)) from ⟨by omega, by rw [hv31, htP]; rfl, by omega, hU.step htP (by omega) rfl hvv⟩) (show (n - v31).toNat < (n - k).toNat from by omega)
            · have hdk : isD (tB g) k = 1 := bi_1 (by omega)
              have hti := ht.2 i (by omega) (by omega)
              refine gw_aload_n (gc k_Model_splits_2 13 rfl) rfl rfl ?_
              refine gw_getref (gc k_Model_splits_2 14 rfl) fl_Model_57 (gAt hx rfl rfl) (gRf hf rfl rfl) ?_
              refine gw_aload_n (gc k_Model_splits_2 15 rfl) rfl rfl ?_
              refine gw_getf 18 rfl (gc k_Model_splits_2 16 rfl) fl_Model_160 (gAt hx rfl rfl) ?_
              refine gw_aload_n (gc k_Model_splits_2 17 rfl) rfl rfl ?_
              refine gw_getref (gc k_Model_splits_2 18 rfl) fl_Model_57 (gAt hx rfl rfl) (gRf hf rfl rfl) ?_
              refine gw_aload_n (gc k_Model_splits_2 19 rfl) rfl rfl ?_
              refine gw_getf 18 rfl (gc k_Model_splits_2 20 rfl) fl_Model_160 (gAt hx rfl rfl) ?_
              rw [f18]
              refine gw_iald (gc k_Model_splits_2 21 rfl) (gAt hx rfl rfl) (by omega) ?_
              rw [gup_s]
              refine gw_ldc (gc k_Model_splits_2 22 rfl) cn_Model_173 ?_
              refine gw_icmp_le (tgt := 217) (gc k_Model_splits_2 23 rfl) rfl (by omega) (fun c202 => ?_) (fun c202 => ?_)
              · refine gw_bipush (gc k_Model_splits_2 30 rfl) (by decide) ?_
                refine gw_aload_n (gc k_Model_splits_2 31 rfl) rfl rfl ?_
                refine gw_getref (gc k_Model_splits_2 32 rfl) fl_Model_57 (gAt hx rfl rfl) (gRf hf rfl rfl) ?_
                refine gw_aload_n (gc k_Model_splits_2 33 rfl) rfl rfl ?_
                refine gw_getf 18 rfl (gc k_Model_splits_2 34 rfl) fl_Model_160 (gAt hx rfl rfl) ?_
                rw [f18]
                refine gw_iald (gc k_Model_splits_2 35 rfl) (gAt hx rfl rfl) (by omega) ?_
                rw [gup_s]
                refine gw_imul (gc k_Model_splits_2 36 rfl) ?_
                refine gw_aload_n (gc k_Model_splits_2 37 rfl) rfl rfl ?_
                refine gw_getref (gc k_Model_splits_2 38 rfl) fl_Model_45 (gAt hx rfl rfl) (gRf hf rfl rfl) ?_
                refine gw_iload (gc k_Model_splits_2 39 rfl) rfl ?_
                refine gw_bald (gc k_Model_splits_3 0 rfl) (gAt hx rfl rfl) (by omega) ?_
                rw [f184]
                refine gw_iadd (gc k_Model_splits_3 1 rfl) ?_
                refine gw_bipush (gc k_Model_splits_3 2 rfl) (by decide) ?_
                refine gw_isub (gc k_Model_splits_3 3 rfl) ?_
                refine gw_iastF (gc k_Model_splits_3 4 rfl) (gAt hx rfl rfl) (by omega) hf rfl (fun hf => ?_)
                refine gw_iinc_5 (gc k_Model_splits_3 5 rfl) rfl rfl ?_
                refine gw_goto (tgt := 169) (gc k_Model_splits_3 6 rfl) rfl ?_
                rw [gup_gup]
                have hdd := tE_dig (B := tB g) (len := n) (k := k) (j := i) (by omega) hdk (by omega) (by omega)
                have hBi : tB g i = g 184 i := by
                  have q : tB g i = g 184 i % 256 := rfl
                  omega
                have hst : vl (tB g) (v31 - i).toNat i v = vl (tB g) (v31 - (i + 1)).toNat (i + 1) (10 * v + g 184 i - 48) := by
                  rw [show (v31 - i).toNat = (v31 - (i + 1)).toNat + 1 by omega]
                  show vl (tB g) (v31 - (i + 1)).toNat (i + 1) (if 1000000 < v then v else 10 * v + tB g i - 48) = _
                  rw [if_neg (by omega), hBi]
                exact ih2 (i + 1, 10 * v + g 184 i - 48) (show (k ≤ (i + 1) ∧ (i + 1) ≤ v31) ∧ (0 ≤ (10 * v + g 184 i - 48) ∧ (10 * v + g 184 i - 48) ≤ 10000009) ∧ (isD (tB g) k = 1 → vl (tB g) (v31 - (i + 1)).toNat (i + 1) (10 * v + g 184 i - 48) = vl (tB g) (v31 - k).toNat k 0) ∧ (¬ isD (tB g) k = 1 → (10 * v + g 184 i - 48) = 0) from ⟨by omega, by omega, fun z => hst.symm.trans (hvd z), fun z => absurd hdk z⟩) (show (v31 - (i + 1)).toNat < (v31 - i).toNat from by omega)
              · refine gw_aload_n (gc k_Model_splits_2 24 rfl) rfl rfl ?_
                refine gw_getref (gc k_Model_splits_2 25 rfl) fl_Model_57 (gAt hx rfl rfl) (gRf hf rfl rfl) ?_
                refine gw_aload_n (gc k_Model_splits_2 26 rfl) rfl rfl ?_
                refine gw_getf 18 rfl (gc k_Model_splits_2 27 rfl) fl_Model_160 (gAt hx rfl rfl) ?_
                rw [f18]
                refine gw_iald (gc k_Model_splits_2 28 rfl) (gAt hx rfl rfl) (by omega) ?_
                rw [gup_s]
                refine gw_goto (tgt := 240) (gc k_Model_splits_2 29 rfl) rfl ?_
                refine gw_iastF (gc k_Model_splits_3 4 rfl) (gAt hx rfl rfl) (by omega) hf rfl (fun hf => ?_)
                refine gw_iinc_5 (gc k_Model_splits_3 5 rfl) rfl rfl ?_
                refine gw_goto (tgt := 169) (gc k_Model_splits_3 6 rfl) rfl ?_
                rw [gup_gup]
                have hdd := tE_dig (B := tB g) (len := n) (k := k) (j := i) (by omega) hdk (by omega) (by omega)
                have hBi : tB g i = g 184 i := by
                  have q : tB g i = g 184 i % 256 := rfl
                  omega
                have hst : vl (tB g) (v31 - i).toNat i v = vl (tB g) (v31 - (i + 1)).toNat (i + 1) (v) := by
                  rw [show (v31 - i).toNat = (v31 - (i + 1)).toNat + 1 by omega]
                  show vl (tB g) (v31 - (i + 1)).toNat (i + 1) (if 1000000 < v then v else 10 * v + tB g i - 48) = _
                  rw [if_pos (by omega)]
                exact ih2 (i + 1, v) (show (k ≤ (i + 1) ∧ (i + 1) ≤ v31) ∧ (0 ≤ v ∧ v ≤ 10000009) ∧ (isD (tB g) k = 1 → vl (tB g) (v31 - (i + 1)).toNat (i + 1) v = vl (tB g) (v31 - k).toNat k 0) ∧ (¬ isD (tB g) k = 1 → v = 0) from ⟨by omega, by omega, fun z => hst.symm.trans (hvd z), fun z => absurd hdk z⟩) (show (v31 - (i + 1)).toNat < (v31 - i).toNat from by omega)
        · refine gw_iload_n (gc k_Model_splits_1 26 rfl) rfl ?_
          refine gw_cS1 (gc k_Model_splits_1 27 rfl) y_Model_isSmall ln_Model_163 (c_Model_isSmall _ (by omega)) rfl rfl rfl rfl ?_
          refine gw_beq (tgt := 145) (gc k_Model_splits_1 28 rfl) rfl (fun c132 => ?_) (fun c132 => ?_)
          · refine gw_iload_n (gc k_Model_splits_1 34 rfl) rfl ?_
            refine gw_cS1 (gc k_Model_splits_1 35 rfl) y_Model_isDigit ln_Model_166 (c_Model_isDigit _ (by omega)) rfl rfl rfl rfl ?_
            refine gw_beq (tgt := 157) (gc k_Model_splits_1 36 rfl) rfl (fun c149 => ?_) (fun c149 => ?_)
            · refine gw_bipush (gc k_Model_splits_1 39 rfl) (by decide) ?_
              refine gw_iload_n (gc k_Model_splits_2 0 rfl) rfl ?_
              refine gw_sipush (gc k_Model_splits_2 1 rfl) (by decide) ?_
              refine gw_iand (gc k_Model_splits_2 2 rfl) ?_
              refine gw_iadd (gc k_Model_splits_2 3 rfl) ?_
              exact kj128 _ (by unfold tC; first | (have hLy : isL (tB g) k = 1 := bi_1 (by omega); rw [if_pos hLy, hv31]) | (have hLn : ¬ isL (tB g) k = 1 := (fun z => by (have := bi_e1 z); omega); have hDy : isD (tB g) k = 1 := bi_1 (by omega); rw [if_neg hLn, if_pos hDy]) | (have hLn : ¬ isL (tB g) k = 1 := (fun z => by (have := bi_e1 z); omega); have hDn : ¬ isD (tB g) k = 1 := (fun z => by (have := bi_e1 z); omega); rw [if_neg hLn, if_neg hDn, gand_255]; rfl))
            · refine gw_bipush (gc k_Model_splits_1 37 rfl) (by decide) ?_
              refine gw_goto (tgt := 165) (gc k_Model_splits_1 38 rfl) rfl ?_
              exact kj128 _ (by unfold tC; first | (have hLy : isL (tB g) k = 1 := bi_1 (by omega); rw [if_pos hLy, hv31]) | (have hLn : ¬ isL (tB g) k = 1 := (fun z => by (have := bi_e1 z); omega); have hDy : isD (tB g) k = 1 := bi_1 (by omega); rw [if_neg hLn, if_pos hDy]) | (have hLn : ¬ isL (tB g) k = 1 := (fun z => by (have := bi_e1 z); omega); have hDn : ¬ isD (tB g) k = 1 := (fun z => by (have := bi_e1 z); omega); rw [if_neg hLn, if_neg hDn, gand_255]; rfl))
          · have hM184 : (gup (gup g1 188 (t : Int) k) 187 (t : Int) 0) 184 = g 184 := by rw [gup_fn _ _ _ _ (by decide), gup_fn _ _ _ _ (by decide)]; exact e184
            have htM : tapeOK (gup (gup g1 188 (t : Int) k) 187 (t : Int) 0) := by unfold tapeOK; rw [hM184, gup_fn _ _ _ _ (by decide), gup_fn _ _ _ _ (by decide), hU.1 177 13 (by decide) (by decide) (by decide) (by omega)]; exact ht
            have hWM : wordsOK (gup (gup g1 188 (t : Int) k) 187 (t : Int) 0) := by unfold wordsOK; rw [gup_fn _ _ _ _ (by decide), gup_fn _ _ _ _ (by decide), show g1 183 = g 183 from funext fun y => hU.1 183 y (by decide) (by decide) (by decide) (by omega)]; exact hW
            refine gw_aload_n (gc k_Model_splits_1 29 rfl) rfl rfl ?_
            refine gw_iload_n (gc k_Model_splits_1 30 rfl) rfl ?_
            refine gw_iload (gc k_Model_splits_1 31 rfl) rfl ?_
            refine gw_cV1 (gc k_Model_splits_1 32 rfl) y_Model_wordOf ln_Model_169 (c_Model_wordOf hx hf k v31 (by omega) hWM htM) rfl rfl (gAt hx rfl rfl) rfl rfl ?_
            rw [tB_eq (g := g) (g1 := (gup (gup g1 188 (t : Int) k) 187 (t : Int) 0)) hM184]
            refine gw_goto (tgt := 165) (gc k_Model_splits_1 33 rfl) rfl ?_
            exact kj128 _ (by unfold tC; first | (have hLy : isL (tB g) k = 1 := bi_1 (by omega); rw [if_pos hLy, hv31]) | (have hLn : ¬ isL (tB g) k = 1 := (fun z => by (have := bi_e1 z); omega); have hDy : isD (tB g) k = 1 := bi_1 (by omega); rw [if_neg hLn, if_pos hDy]) | (have hLn : ¬ isL (tB g) k = 1 := (fun z => by (have := bi_e1 z); omega); have hDn : ¬ isD (tB g) k = 1 := (fun z => by (have := bi_e1 z); omega); rw [if_neg hLn, if_neg hDn, gand_255]; rfl))
      · have htP : k = tP (tB g) n t := by
          rw [← hR, run_stop]
          exact fun z => absurd (bi_e1 z.2) (by omega)
        refine gw_iload_n (gc k_Model_splits_0 18 rfl) rfl ?_
        refine gw_iconst (gc k_Model_splits_0 19 rfl) ?_
        refine gw_iadd (gc k_Model_splits_0 20 rfl) ?_
        refine gw_istore_4 (gc k_Model_splits_0 21 rfl) rfl rfl ?_
        refine gw_iload_n (gc k_Model_splits_0 22 rfl) rfl ?_
        refine gw_cS1 (gc k_Model_splits_0 23 rfl) y_Model_isSmall ln_Model_163 (c_Model_isSmall _ (by omega)) rfl rfl rfl rfl ?_
        refine gw_beq (tgt := 68) (gc k_Model_splits_0 24 rfl) rfl (fun c40 => ?_) (fun c40 => ?_)
        · have hLk : ¬ isL (tB g) k = 1 := fun z => by have := bi_e1 z; omega
          refine gw_iload_n (gc k_Model_splits_0 36 rfl) rfl ?_
          refine gw_cS1 (gc k_Model_splits_0 37 rfl) y_Model_isDigit ln_Model_166 (c_Model_isDigit _ (by omega)) rfl rfl rfl rfl ?_
          refine gw_beq (tgt := 100) (gc k_Model_splits_0 38 rfl) rfl (fun c72 => ?_) (fun c72 => ?_)
          · exact kj31 _ (by first | exact hend | (unfold tE; rw [if_pos (by omega)]; first | (rw [if_pos hLk, hre]; exact (run_stop (by first | omega | exact fun z => c59 (by have := bi_e1 z.2; omega))).symm) | (rw [if_neg hLk, if_pos hDk, hre]; exact (run_stop (by first | omega | exact fun z => c91 (by have := bi_e1 z.2; omega))).symm) | (have hDn : ¬ isD (tB g) k = 1 := (fun z => by (have := bi_e1 z); omega); rw [if_neg hLk, if_neg hDn])))
          · refine gwloop (σ := Int) (fun zs => (k + 1 ≤ zs ∧ zs ≤ n) ∧ run (isD (tB g)) n (k + 1) = run (isD (tB g)) n zs) (fun zs => (n - zs).toNat) (fun zs => [(2, 177), (0, n), (0, k), (0, g 184 k), (0, zs), x5]) (fun zs => g1) (k + 1) (show (k + 1 ≤ (k + 1) ∧ (k + 1) ≤ n) ∧ run (isD (tB g)) n (k + 1) = run (isD (tB g)) n (k + 1) from ⟨by omega, rfl⟩) rfl rfl (fun zs hI ih2 => ?_)
            obtain ⟨e, hzz⟩ : ∃ x, x = zs := ⟨_, rfl⟩
            subst hzz
            replace hI : (k + 1 ≤ e ∧ e ≤ n) ∧ run (isD (tB g)) n (k + 1) = run (isD (tB g)) n e := hI
            obtain ⟨he, hre⟩ := hI
            show gWP _ _ _ _ _ [(2, 177), (0, n), (0, k), (0, g 184 k), (0, e), x5] [] _ (g1) _
            
            have hDk : isD (tB g) k = 1 := bi_1 (by omega)
            refine gw_iload (gc k_Model_splits_0 39 rfl) rfl ?_
            refine gw_iload_n (gc k_Model_splits_1 0 rfl) rfl ?_
            refine gw_icmp_ge (tgt := 100) (gc k_Model_splits_1 1 rfl) rfl (by omega) (fun c78 => ?_) (fun c78 => ?_)
            · exact kj31 _ (by first | exact hend | (unfold tE; rw [if_pos (by omega)]; first | (rw [if_pos hLk, hre]; exact (run_stop (by first | omega | exact fun z => c59 (by have := bi_e1 z.2; omega))).symm) | (rw [if_neg hLk, if_pos hDk, hre]; exact (run_stop (by first | omega | exact fun z => c91 (by have := bi_e1 z.2; omega))).symm) | (have hDn : ¬ isD (tB g) k = 1 := (fun z => by (have := bi_e1 z); omega); rw [if_neg hLk, if_neg hDn])))
            · have hte := ht.2 e (by omega) (by omega)
              have hBe : tB g e = g 184 e % 256 := rfl
              refine gw_aload_n (gc k_Model_splits_1 2 rfl) rfl rfl ?_
              refine gw_getref (gc k_Model_splits_1 3 rfl) fl_Model_45 (gAt hx rfl rfl) (gRf hf rfl rfl) ?_
              refine gw_iload (gc k_Model_splits_1 4 rfl) rfl ?_
              refine gw_bald (gc k_Model_splits_1 5 rfl) (gAt hx rfl rfl) (by omega) ?_
              rw [e184]
              refine gw_cS1 (gc k_Model_splits_1 6 rfl) y_Model_isDigit ln_Model_166 (c_Model_isDigit _ (by omega)) rfl rfl rfl rfl ?_
              refine gw_beq (tgt := 100) (gc k_Model_splits_1 7 rfl) rfl (fun c91 => ?_) (fun c91 => ?_)
              · exact kj31 _ (by first | exact hend | (unfold tE; rw [if_pos (by omega)]; first | (rw [if_pos hLk, hre]; exact (run_stop (by first | omega | exact fun z => c59 (by have := bi_e1 z.2; omega))).symm) | (rw [if_neg hLk, if_pos hDk, hre]; exact (run_stop (by first | omega | exact fun z => c91 (by have := bi_e1 z.2; omega))).symm) | (have hDn : ¬ isD (tB g) k = 1 := (fun z => by (have := bi_e1 z); omega); rw [if_neg hLk, if_neg hDn])))
              · refine gw_iinc_4 (gc k_Model_splits_1 8 rfl) rfl rfl ?_
                refine gw_goto (tgt := 75) (gc k_Model_splits_1 9 rfl) rfl ?_
                have hr := run_go (p := isD (tB g)) (len := n) (k := e) (by omega) (bi_1 (by omega))
                exact ih2 (e + 1) (show (k + 1 ≤ (e + 1) ∧ (e + 1) ≤ n) ∧ run (isD (tB g)) n (k + 1) = run (isD (tB g)) n (e + 1) from ⟨by omega, by rw [← hr]; exact hre⟩) (show (n - (e + 1)).toNat < (n - e).toNat from by omega)
        · refine gwloop (σ := Int) (fun zs => (k + 1 ≤ zs ∧ zs ≤ n) ∧ run (isL (tB g)) n (k + 1) = run (isL (tB g)) n zs) (fun zs => (n - zs).toNat) (fun zs => [(2, 177), (0, n), (0, k), (0, g 184 k), (0, zs), x5]) (fun zs => g1) (k + 1) (show (k + 1 ≤ (k + 1) ∧ (k + 1) ≤ n) ∧ run (isL (tB g)) n (k + 1) = run (isL (tB g)) n (k + 1) from ⟨by omega, rfl⟩) rfl rfl (fun zs hI ih2 => ?_)
          obtain ⟨e, hzz⟩ : ∃ x, x = zs := ⟨_, rfl⟩
          subst hzz
          replace hI : (k + 1 ≤ e ∧ e ≤ n) ∧ run (isL (tB g)) n (k + 1) = run (isL (tB g)) n e := hI
          obtain ⟨he, hre⟩ := hI
          show gWP _ _ _ _ _ [(2, 177), (0, n), (0, k), (0, g 184 k), (0, e), x5] [] _ (g1) _
          
          refine gw_iload (gc k_Model_splits_0 25 rfl) rfl ?_
          refine gw_iload_n (gc k_Model_splits_0 26 rfl) rfl ?_
          refine gw_icmp_ge (tgt := 68) (gc k_Model_splits_0 27 rfl) rfl (by omega) (fun c46 => ?_) (fun c46 => ?_)
          · have hLk : isL (tB g) k = 1 := bi_1 (by omega)
            refine gw_iload_n (gc k_Model_splits_0 36 rfl) rfl ?_
            refine gw_cS1 (gc k_Model_splits_0 37 rfl) y_Model_isDigit ln_Model_166 (c_Model_isDigit _ (by omega)) rfl rfl rfl rfl ?_
            refine gw_beq (tgt := 100) (gc k_Model_splits_0 38 rfl) rfl  (fun c72 => ?_) (fun c72 => ?_)
            · exact kj31 _ (by first | exact hend | (unfold tE; rw [if_pos (by omega)]; first | (rw [if_pos hLk, hre]; exact (run_stop (by first | omega | exact fun z => c59 (by have := bi_e1 z.2; omega))).symm) | (rw [if_neg hLk, if_pos hDk, hre]; exact (run_stop (by first | omega | exact fun z => c91 (by have := bi_e1 z.2; omega))).symm) | (have hDn : ¬ isD (tB g) k = 1 := (fun z => by (have := bi_e1 z); omega); rw [if_neg hLk, if_neg hDn])))
            · exfalso; omega
          · have hte := ht.2 e (by omega) (by omega)
            have hBe : tB g e = g 184 e % 256 := rfl
            refine gw_aload_n (gc k_Model_splits_0 28 rfl) rfl rfl ?_
            refine gw_getref (gc k_Model_splits_0 29 rfl) fl_Model_45 (gAt hx rfl rfl) (gRf hf rfl rfl) ?_
            refine gw_iload (gc k_Model_splits_0 30 rfl) rfl ?_
            refine gw_bald (gc k_Model_splits_0 31 rfl) (gAt hx rfl rfl) (by omega) ?_
            rw [e184]
            refine gw_cS1 (gc k_Model_splits_0 32 rfl) y_Model_isSmall ln_Model_163 (c_Model_isSmall _ (by omega)) rfl rfl rfl rfl ?_
            refine gw_beq (tgt := 68) (gc k_Model_splits_0 33 rfl) rfl (fun c59 => ?_) (fun c59 => ?_)
            · have hLk : isL (tB g) k = 1 := bi_1 (by omega)
              refine gw_iload_n (gc k_Model_splits_0 36 rfl) rfl ?_
              refine gw_cS1 (gc k_Model_splits_0 37 rfl) y_Model_isDigit ln_Model_166 (c_Model_isDigit _ (by omega)) rfl rfl rfl rfl ?_
              refine gw_beq (tgt := 100) (gc k_Model_splits_0 38 rfl) rfl  (fun c72 => ?_) (fun c72 => ?_)
              · exact kj31 _ (by first | exact hend | (unfold tE; rw [if_pos (by omega)]; first | (rw [if_pos hLk, hre]; exact (run_stop (by first | omega | exact fun z => c59 (by have := bi_e1 z.2; omega))).symm) | (rw [if_neg hLk, if_pos hDk, hre]; exact (run_stop (by first | omega | exact fun z => c91 (by have := bi_e1 z.2; omega))).symm) | (have hDn : ¬ isD (tB g) k = 1 := (fun z => by (have := bi_e1 z); omega); rw [if_neg hLk, if_neg hDn])))
              · exfalso; omega
            · refine gw_iinc_4 (gc k_Model_splits_0 34 rfl) rfl rfl ?_
              refine gw_goto (tgt := 43) (gc k_Model_splits_0 35 rfl) rfl ?_
              have hr := run_go (p := isL (tB g)) (len := n) (k := e) (by omega) (bi_1 (by omega))
              exact ih2 (e + 1) (show (k + 1 ≤ (e + 1) ∧ (e + 1) ≤ n) ∧ run (isL (tB g)) n (k + 1) = run (isL (tB g)) n (e + 1) from ⟨by omega, by rw [← hr]; exact hre⟩) (show (n - (e + 1)).toNat < (n - e).toNat from by omega)
    · refine gw_iinc_2 (gc k_Model_splits_0 16 rfl) rfl rfl ?_
      refine gw_goto (tgt := 7) (gc k_Model_splits_0 17 rfl) rfl ?_
      have hr := run_go (p := isB (tB g)) (len := n) (k := k) (by omega) (bi_1 (by omega))
      exact ih (t, k + 1, (0, g 184 k), x4, x5, g1) (show (0 ≤ (k + 1) ∧ (k + 1) ≤ n) ∧ run (isB (tB g)) n (k + 1) = tP (tB g) n t ∧ (t : Int) ≤ (k + 1) ∧ spU g n t g1 from ⟨by omega, by rw [← hr]; exact hR, by omega, hU⟩) (show (n - (k + 1)).toNat < (n - k).toNat from by omega)
