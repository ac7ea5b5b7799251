/-! ===== short ways ===== -/
theorem gAt {sh : gS} {a : Int} {q n : Nat} (h : gFix sh) (h0 : decide (0 ≤ a) = true) (e : gsh0[a.toNat]? = some (q, n)) : gsz sh a q n := ⟨by simpa using h0, h _ _ e⟩
theorem gRf {g : gM} {a x : Int} {k : Nat} (h : gFin g) (h0 : decide (0 ≤ a) = true) (e : gref a.toNat k = some x) : g a (k : Int) = x := by
  have h1 := h a.toNat k x e
  rwa [show ((a.toNat : Nat) : Int) = a from Int.toNat_of_nonneg (by simpa using h0)] at h1
/-- a truth as a number -/
def bi (p : Prop) [Decidable p] : Int := if p then 1 else 0
theorem bi_1 {p : Prop} [Decidable p] (h : p) : bi p = 1 := if_pos h
theorem bi_0 {p : Prop} [Decidable p] (h : ¬ p) : bi p = 0 := if_neg h
theorem bi_t {p : Prop} [Decidable p] (h : p) : (some (0, 1) : Option gV) = some (0, bi p) := by rw [bi_1 h]
theorem bi_f {p : Prop} [Decidable p] (h : ¬ p) : (some (0, 0) : Option gV) = some (0, bi p) := by rw [bi_0 h]
theorem bi_01 (p : Prop) [Decidable p] : bi p = 0 ∨ bi p = 1 := by
  by_cases h : p
  · exact Or.inr (bi_1 h)
  · exact Or.inl (bi_0 h)
theorem bi_r (p : Prop) [Decidable p] : -2147483648 ≤ bi p ∧ bi p ≤ 2147483647 := by
  rcases bi_01 p with h | h <;> omega
theorem bi_iff {p q : Prop} [Decidable p] [Decidable q] (h : p ↔ q) : bi p = bi q := by
  by_cases hp : p
  · rw [bi_1 hp, bi_1 (h.mp hp)]
  · rw [bi_0 hp, bi_0 (fun z => hp (h.mpr z))]
theorem gsi {x y : Int} (h : x = y) : (some (0, x) : Option gV) = some (0, y) := by rw [h]
theorem gsl {x y : Int} (h : x = y) : (some (1, x) : Option gV) = some (1, y) := by rw [h]
theorem gup_s (g : gM) (a k v : Int) : gup g a k v a k = v := by simp [gup]
theorem gup_k (g : gM) (a k v : Int) {y : Int} (h : y ≠ k) : gup g a k v a y = g a y := by simp [gup, h]
theorem gup_a (g : gM) (a k v : Int) {x : Int} (y : Int) (h : x ≠ a) : gup g a k v x y = g x y := by simp [gup, h]
theorem gfr_s (g : gM) (a : Int) (f : Int → Int) (y : Int) : gfr g a f a y = f y := by simp [gfr]
theorem gfr_a (g : gM) (a : Int) (f : Int → Int) {x : Int} (y : Int) (h : x ≠ a) : gfr g a f x y = g x y := by simp [gfr, h]
theorem gup_fn (g : gM) (a k v : Int) {x : Int} (h : x ≠ a) : gup g a k v x = g x := funext fun y => gup_a g a k v y h
theorem gfr_fn (g : gM) (a : Int) (f : Int → Int) {x : Int} (h : x ≠ a) : gfr g a f x = g x := funext fun y => gfr_a g a f y h
theorem gfr_fs (g : gM) (a : Int) (f : Int → Int) : gfr g a f a = f := funext fun y => gfr_s g a f y
/-- a loop by a measure: one step from every state -/
theorem gloop {σ : Type} (I : σ → Prop) (μ : σ → Nat) (P : σ → Prop) (hs : ∀ s, I s → (∀ s', I s' → μ s' < μ s → P s') → P s) : ∀ s, I s → P s := by
  have key : ∀ (n : Nat) (s : σ), μ s < n → I s → P s := by
    intro n
    induction n with
    | zero => intro s h; exact absurd h (Nat.not_lt_zero _)
    | succ n ih => intro s h hI; exact hs s hI (fun s' hI' hlt => ih s' (by omega) hI')
  exact fun s hI => key (μ s + 1) s (Nat.lt_succ_self _) hI
theorem gfr_gfr (g : gM) (a : Int) (f f' : Int → Int) : gfr (gfr g a f) a f' = gfr g a f' := by
  funext x y
  unfold gfr
  by_cases h : x = a <;> simp [h]
theorem gup_gfr (g : gM) (a k v : Int) (f : Int → Int) : gup (gfr g a f) a k v = gfr g a (fun y => if y = k then v else f y) := by
  funext x y
  unfold gup gfr
  by_cases h : x = a <;> simp [h]
theorem gup_as (g : gM) (a k v : Int) : gup g a k v = gfr g a (fun y => if y = k then v else g a y) := by
  funext x y
  unfold gup gfr
  by_cases h : x = a <;> simp [h]
theorem gfr_id (g : gM) (a : Int) (f : Int → Int) (h : ∀ y, f y = g a y) : gfr g a f = g := by
  funext x y
  unfold gfr
  by_cases e : x = a
  · rw [if_pos e, e]; exact h y
  · rw [if_neg e]
theorem gfr_ext (g : gM) (a : Int) {f f' : Int → Int} (h : ∀ y, f y = f' y) : gfr g a f = gfr g a f' := by rw [funext h]
theorem gWP.eqm {F : gF} {d mc ms pc : Nat} {ls st : List gV} {sh : gS} {g g' : gM} {Q : gQ} (h : g' = g) (k : gWP F d mc ms pc ls st sh g' Q) : gWP F d mc ms pc ls st sh g Q := h ▸ k
theorem gWP.eqs {F : gF} {d mc ms pc : Nat} {ls ls' st st' : List gV} {sh : gS} {g : gM} {Q : gQ} (h : ls' = ls) (h2 : st' = st) (k : gWP F d mc ms pc ls' st' sh g Q) : gWP F d mc ms pc ls st sh g Q := h ▸ h2 ▸ k
/-- f, but from d on i places of s, from place s0 on -/
def cpF (f s : Int → Int) (d s0 i : Int) : Int → Int := fun y => if d ≤ y ∧ y < d + i then s (s0 + (y - d)) else f y
theorem cpF_0 (f s : Int → Int) (d s0 : Int) (y : Int) : cpF f s d s0 0 y = f y := if_neg (by omega)
theorem cpF_succ (f s : Int → Int) (d s0 i : Int) (hi : 0 ≤ i) (y : Int) : cpF f s d s0 (i + 1) y = if y = d + i then s (s0 + i) else cpF f s d s0 i y := by
  unfold cpF
  by_cases h : y = d + i
  · subst h
    rw [if_pos rfl, if_pos (by omega)]
    exact congrArg s (by omega)
  · rw [if_neg h]
    by_cases h2 : d ≤ y ∧ y < d + i
    · rw [if_pos h2, if_pos (by omega)]
    · rw [if_neg h2, if_neg (by omega)]
theorem cpF_in (f s : Int → Int) {d s0 i y : Int} (h : d ≤ y ∧ y < d + i) : cpF f s d s0 i y = s (s0 + (y - d)) := if_pos h
theorem cpF_out (f s : Int → Int) {d s0 i y : Int} (h : y < d ∨ d + i ≤ y) : cpF f s d s0 i y = f y := if_neg (by omega)
theorem gup_gup (g : gM) (a k v w : Int) : gup (gup g a k v) a k w = gup g a k w := by
  funext x y
  unfold gup
  by_cases h : x = a <;> by_cases h2 : y = k <;> simp [h, h2]
theorem gfr_gup (g : gM) (a k v : Int) {b : Int} (f : Int → Int) (h : b ≠ a) : gfr (gup g a k v) b f = gup (gfr g b f) a k v := by
  funext x y
  unfold gup gfr
  by_cases h1 : x = b
  · subst h1; simp [h]
  · by_cases h2 : x = a
    · subst h2; simp [h1]
    · simp [h1, h2]
theorem cp_step {F : gF} {d mc ms pc : Nat} {ls st : List gV} {sh : gS} {g : gM} {Q : gQ} {a ds s0 i v : Int} {f s : Int → Int} (hi : 0 ≤ i) (k : gWP F d mc ms pc ls st sh (gfr g a (cpF f s ds s0 (i + 1))) Q) (hv : v = s (s0 + i)) : gWP F d mc ms pc ls st sh (gup (gfr g a (cpF f s ds s0 i)) a (ds + i) v) Q := by
  refine gWP.eqm ?_ k
  rw [gup_gfr]
  refine gfr_ext _ _ (fun y => ?_)
  rw [cpF_succ _ _ _ _ _ hi, hv]
theorem cp_step0 {F : gF} {d mc ms pc : Nat} {ls st : List gV} {sh : gS} {g : gM} {Q : gQ} {a s0 i v : Int} {f s : Int → Int} (hi : 0 ≤ i) (k : gWP F d mc ms pc ls st sh (gfr g a (cpF f s 0 s0 (i + 1))) Q) (hv : v = s (s0 + i)) : gWP F d mc ms pc ls st sh (gup (gfr g a (cpF f s 0 s0 i)) a i v) Q := by
  have := cp_step (ds := 0) hi k hv
  rwa [Int.zero_add] at this
theorem cp_start {F : gF} {d mc ms pc : Nat} {ls st : List gV} {sh : gS} {g : gM} {Q : gQ} (a ds s0 : Int) (s : Int → Int) (k : gWP F d mc ms pc ls st sh (gfr g a (cpF (g a) s ds s0 0)) Q) : gWP F d mc ms pc ls st sh g Q := gWP.eqm (gfr_id _ _ _ (fun y => cpF_0 _ _ _ _ y)) k
section GB
variable {F : gF} {d mc ms pc npc : Nat} {ls st : List gV} {sh : gS} {g : gM} {Q : gQ}
theorem gw_beq {p : Prop} [Decidable p] {off : Int} {tgt : Nat} (hi : gI F pc (.ifCond .eq off) 3 npc) (ht : ((pc : Int) + off == (tgt : Int)) = true) (kt : ¬ p → gWP F d mc ms tgt ls st sh g Q) (kf : p → gWP F d mc ms npc ls st sh g Q) : gWP F d mc ms pc ls ((0, bi p) :: st) sh g Q :=
  gw_if_eq hi ht (bi_r p) (fun z => kt (fun h => by rw [bi_1 h] at z; cases z)) (fun z => kf (Decidable.byContradiction fun h => z (bi_0 h)))
theorem gw_bne {p : Prop} [Decidable p] {off : Int} {tgt : Nat} (hi : gI F pc (.ifCond .ne off) 3 npc) (ht : ((pc : Int) + off == (tgt : Int)) = true) (kt : p → gWP F d mc ms tgt ls st sh g Q) (kf : ¬ p → gWP F d mc ms npc ls st sh g Q) : gWP F d mc ms pc ls ((0, bi p) :: st) sh g Q :=
  gw_if_ne hi ht (bi_r p) (fun z => kt (Decidable.byContradiction fun h => z (bi_0 h))) (fun z => kf (fun h => by rw [bi_1 h] at z; cases z))
/-- two ways that meet: behind them a number with P on the stack -/
theorem gw_join0 (J : Nat) (P : Int → Prop) (k : ∀ v, P v → gWP F d mc ms J ls ((0, v) :: st) sh g Q) (b : (∀ v, P v → gWP F d mc ms J ls ((0, v) :: st) sh g Q) → gWP F d mc ms pc ls st sh g Q) : gWP F d mc ms pc ls st sh g Q := b k
theorem gw_join1 {a : gV} (J : Nat) (P : Int → Prop) (k : ∀ v, P v → gWP F d mc ms J ls ((0, v) :: st) sh g Q) (b : (∀ v, P v → gWP F d mc ms J ls ((0, v) :: st) sh g Q) → gWP F d mc ms pc ls (a :: st) sh g Q) : gWP F d mc ms pc ls (a :: st) sh g Q := b k
theorem gw_join2 {a c : gV} (J : Nat) (P : Int → Prop) (k : ∀ v, P v → gWP F d mc ms J ls ((0, v) :: st) sh g Q) (b : (∀ v, P v → gWP F d mc ms J ls ((0, v) :: st) sh g Q) → gWP F d mc ms pc ls (a :: c :: st) sh g Q) : gWP F d mc ms pc ls (a :: c :: st) sh g Q := b k
theorem gw_joinL0 (J : Nat) (P : Int → Prop) (k : ∀ v, P v → gWP F d mc ms J ls ((1, v) :: st) sh g Q) (b : (∀ v, P v → gWP F d mc ms J ls ((1, v) :: st) sh g Q) → gWP F d mc ms pc ls st sh g Q) : gWP F d mc ms pc ls st sh g Q := b k
theorem gw_joinL1 {a : gV} (J : Nat) (P : Int → Prop) (k : ∀ v, P v → gWP F d mc ms J ls ((1, v) :: st) sh g Q) (b : (∀ v, P v → gWP F d mc ms J ls ((1, v) :: st) sh g Q) → gWP F d mc ms pc ls (a :: st) sh g Q) : gWP F d mc ms pc ls (a :: st) sh g Q := b k
theorem gw_joinL2 {a c : gV} (J : Nat) (P : Int → Prop) (k : ∀ v, P v → gWP F d mc ms J ls ((1, v) :: st) sh g Q) (b : (∀ v, P v → gWP F d mc ms J ls ((1, v) :: st) sh g Q) → gWP F d mc ms pc ls (a :: c :: st) sh g Q) : gWP F d mc ms pc ls (a :: c :: st) sh g Q := b k
/-- two ways that meet with nothing on the stack -/
theorem gw_joinN0 (J : Nat) (k : gWP F d mc ms J ls st sh g Q) (b : gWP F d mc ms J ls st sh g Q → gWP F d mc ms pc ls st sh g Q) : gWP F d mc ms pc ls st sh g Q := b k
theorem gw_joinN1 {a : gV} (J : Nat) (k : gWP F d mc ms J ls st sh g Q) (b : gWP F d mc ms J ls st sh g Q → gWP F d mc ms pc ls (a :: st) sh g Q) : gWP F d mc ms pc ls (a :: st) sh g Q := b k
theorem gw_joinN2 {a c : gV} (J : Nat) (k : gWP F d mc ms J ls st sh g Q) (b : gWP F d mc ms J ls st sh g Q → gWP F d mc ms pc ls (a :: c :: st) sh g Q) : gWP F d mc ms pc ls (a :: c :: st) sh g Q := b k
theorem gw_idivN {a b : Int} (hi : gI F pc (.idiv) 1 npc) (hb : (0 ≤ a ∧ a ≤ 2147483647) ∧ 0 < b ∧ b ≤ 2147483647) (k : gWP F d mc ms npc ls ((0, a / b) :: st) sh g Q) : gWP F d mc ms pc ls ((0, b) :: (0, a) :: st) sh g Q :=
  gw_idiv hi (by omega) (by rw [Int.tdiv_eq_ediv_of_nonneg hb.1.1]; exact k)
theorem gw_iremN {a b : Int} (hi : gI F pc (.irem) 1 npc) (hb : (0 ≤ a ∧ a ≤ 2147483647) ∧ 0 < b ∧ b ≤ 2147483647) (k : gWP F d mc ms npc ls ((0, a % b) :: st) sh g Q) : gWP F d mc ms pc ls ((0, b) :: (0, a) :: st) sh g Q :=
  gw_irem hi (by omega) (by rw [Int.tmod_eq_emod_of_nonneg hb.1.1]; exact k)
theorem gw_ldivN {a b : Int} (hi : gI F pc (.ldiv) 1 npc) (hb : (0 ≤ a ∧ a ≤ 9223372036854775807) ∧ 0 < b ∧ b ≤ 9223372036854775807) (k : gWP F d mc ms npc ls ((1, a / b) :: st) sh g Q) : gWP F d mc ms pc ls ((1, b) :: (1, a) :: st) sh g Q :=
  gw_ldiv hi (by omega) (by rw [Int.tdiv_eq_ediv_of_nonneg hb.1.1]; exact k)
theorem gw_lremN {a b : Int} (hi : gI F pc (.lrem) 1 npc) (hb : (0 ≤ a ∧ a ≤ 9223372036854775807) ∧ 0 < b ∧ b ≤ 9223372036854775807) (k : gWP F d mc ms npc ls ((1, a % b) :: st) sh g Q) : gWP F d mc ms pc ls ((1, b) :: (1, a) :: st) sh g Q :=
  gw_lrem hi (by omega) (by rw [Int.tmod_eq_emod_of_nonneg hb.1.1]; exact k)
theorem gw_getf {idx q k N t : Nat} {ty : FieldType} {fin : Bool} {a : Int} (kI : Int) (hk : (k : Int) = kI) (hi : gI F pc (.getfield idx) 3 npc) (hf : gFL F.1.cls idx q k N t ty fin) (hs : gsz sh a q N) (kk : gWP F d mc ms npc ls ((t, g a kI) :: st) sh g Q) : gWP F d mc ms pc ls ((2, a) :: st) sh g Q := by
  subst hk
  exact gw_getfield hi hf hs kk
theorem gw_putIK {idx q k N : Nat} {a x : Int} (kI : Int) (hk : (k : Int) = kI) (hi : gI F pc (.putfield idx) 3 npc) (hfl : gFL F.1.cls idx q k N 0 .int false) (hs : gsz sh a q N) (hf : gFin g) (hr : gref a.toNat k = none) (kk : gFin (gup g a kI x) → gWP F d mc ms npc ls st sh (gup g a kI x) Q) : gWP F d mc ms pc ls ((0, x) :: (2, a) :: st) sh g Q := by
  subst hk
  exact gw_putIF hi hfl hs hf hr kk
theorem gw_putJK {idx q k N : Nat} {a x : Int} (kI : Int) (hk : (k : Int) = kI) (hi : gI F pc (.putfield idx) 3 npc) (hfl : gFL F.1.cls idx q k N 1 .long false) (hs : gsz sh a q N) (hf : gFin g) (hr : gref a.toNat k = none) (kk : gFin (gup g a kI x) → gWP F d mc ms npc ls st sh (gup g a kI x) Q) : gWP F d mc ms pc ls ((1, x) :: (2, a) :: st) sh g Q := by
  subst hk
  exact gw_putJF hi hfl hs hf hr kk
theorem gw_putZK {idx q k N : Nat} {a x : Int} (kI : Int) (hk : (k : Int) = kI) (hi : gI F pc (.putfield idx) 3 npc) (hfl : gFL F.1.cls idx q k N 0 .boolean false) (hs : gsz sh a q N) (hx : x = 0 ∨ x = 1) (hf : gFin g) (hr : gref a.toNat k = none) (kk : gFin (gup g a kI x) → gWP F d mc ms npc ls st sh (gup g a kI x) Q) : gWP F d mc ms pc ls ((0, x) :: (2, a) :: st) sh g Q := by
  subst hk
  exact gw_putZF hi hfl hs hx hf hr kk
theorem gw_lc_eq {a b off : Int} {pc1 tgt : Nat} (h1 : gI F pc (.lcmp) 1 pc1) (hi : gI F pc1 (.ifCond .eq off) 3 npc) (ht : ((pc1 : Int) + off == (tgt : Int)) = true) (hb : (-9223372036854775808 ≤ a ∧ a ≤ 9223372036854775807) ∧ (-9223372036854775808 ≤ b ∧ b ≤ 9223372036854775807)) (kt : a = b → gWP F d mc ms tgt ls st sh g Q) (kf : ¬ a = b → gWP F d mc ms npc ls st sh g Q) : gWP F d mc ms pc ls ((1, b) :: (1, a) :: st) sh g Q := by
  refine gw_lcmp h1 hb ?_
  rcases (show b < a ∨ a = b ∨ a < b by omega) with q | q | q
  · rw [if_pos q]
    exact gw_if_eq hi ht (by omega) (fun z => kt (by omega)) (fun z => kf (by omega))
  · rw [if_neg (by omega), if_pos q]
    exact gw_if_eq hi ht (by omega) (fun z => kt (by omega)) (fun z => kf (by omega))
  · rw [if_neg (by omega), if_neg (by omega)]
    exact gw_if_eq hi ht (by omega) (fun z => kt (by omega)) (fun z => kf (by omega))
theorem gw_lc_ne {a b off : Int} {pc1 tgt : Nat} (h1 : gI F pc (.lcmp) 1 pc1) (hi : gI F pc1 (.ifCond .ne off) 3 npc) (ht : ((pc1 : Int) + off == (tgt : Int)) = true) (hb : (-9223372036854775808 ≤ a ∧ a ≤ 9223372036854775807) ∧ (-9223372036854775808 ≤ b ∧ b ≤ 9223372036854775807)) (kt : ¬ a = b → gWP F d mc ms tgt ls st sh g Q) (kf : a = b → gWP F d mc ms npc ls st sh g Q) : gWP F d mc ms pc ls ((1, b) :: (1, a) :: st) sh g Q := by
  refine gw_lcmp h1 hb ?_
  rcases (show b < a ∨ a = b ∨ a < b by omega) with q | q | q
  · rw [if_pos q]
    exact gw_if_ne hi ht (by omega) (fun z => kt (by omega)) (fun z => kf (by omega))
  · rw [if_neg (by omega), if_pos q]
    exact gw_if_ne hi ht (by omega) (fun z => kt (by omega)) (fun z => kf (by omega))
  · rw [if_neg (by omega), if_neg (by omega)]
    exact gw_if_ne hi ht (by omega) (fun z => kt (by omega)) (fun z => kf (by omega))
theorem gw_lc_lt {a b off : Int} {pc1 tgt : Nat} (h1 : gI F pc (.lcmp) 1 pc1) (hi : gI F pc1 (.ifCond .lt off) 3 npc) (ht : ((pc1 : Int) + off == (tgt : Int)) = true) (hb : (-9223372036854775808 ≤ a ∧ a ≤ 9223372036854775807) ∧ (-9223372036854775808 ≤ b ∧ b ≤ 9223372036854775807)) (kt : a < b → gWP F d mc ms tgt ls st sh g Q) (kf : b ≤ a → gWP F d mc ms npc ls st sh g Q) : gWP F d mc ms pc ls ((1, b) :: (1, a) :: st) sh g Q := by
  refine gw_lcmp h1 hb ?_
  rcases (show b < a ∨ a = b ∨ a < b by omega) with q | q | q
  · rw [if_pos q]
    exact gw_if_lt hi ht (by omega) (fun z => kt (by omega)) (fun z => kf (by omega))
  · rw [if_neg (by omega), if_pos q]
    exact gw_if_lt hi ht (by omega) (fun z => kt (by omega)) (fun z => kf (by omega))
  · rw [if_neg (by omega), if_neg (by omega)]
    exact gw_if_lt hi ht (by omega) (fun z => kt (by omega)) (fun z => kf (by omega))
theorem gw_lc_ge {a b off : Int} {pc1 tgt : Nat} (h1 : gI F pc (.lcmp) 1 pc1) (hi : gI F pc1 (.ifCond .ge off) 3 npc) (ht : ((pc1 : Int) + off == (tgt : Int)) = true) (hb : (-9223372036854775808 ≤ a ∧ a ≤ 9223372036854775807) ∧ (-9223372036854775808 ≤ b ∧ b ≤ 9223372036854775807)) (kt : b ≤ a → gWP F d mc ms tgt ls st sh g Q) (kf : a < b → gWP F d mc ms npc ls st sh g Q) : gWP F d mc ms pc ls ((1, b) :: (1, a) :: st) sh g Q := by
  refine gw_lcmp h1 hb ?_
  rcases (show b < a ∨ a = b ∨ a < b by omega) with q | q | q
  · rw [if_pos q]
    exact gw_if_ge hi ht (by omega) (fun z => kt (by omega)) (fun z => kf (by omega))
  · rw [if_neg (by omega), if_pos q]
    exact gw_if_ge hi ht (by omega) (fun z => kt (by omega)) (fun z => kf (by omega))
  · rw [if_neg (by omega), if_neg (by omega)]
    exact gw_if_ge hi ht (by omega) (fun z => kt (by omega)) (fun z => kf (by omega))
theorem gw_lc_gt {a b off : Int} {pc1 tgt : Nat} (h1 : gI F pc (.lcmp) 1 pc1) (hi : gI F pc1 (.ifCond .gt off) 3 npc) (ht : ((pc1 : Int) + off == (tgt : Int)) = true) (hb : (-9223372036854775808 ≤ a ∧ a ≤ 9223372036854775807) ∧ (-9223372036854775808 ≤ b ∧ b ≤ 9223372036854775807)) (kt : b < a → gWP F d mc ms tgt ls st sh g Q) (kf : a ≤ b → gWP F d mc ms npc ls st sh g Q) : gWP F d mc ms pc ls ((1, b) :: (1, a) :: st) sh g Q := by
  refine gw_lcmp h1 hb ?_
  rcases (show b < a ∨ a = b ∨ a < b by omega) with q | q | q
  · rw [if_pos q]
    exact gw_if_gt hi ht (by omega) (fun z => kt (by omega)) (fun z => kf (by omega))
  · rw [if_neg (by omega), if_pos q]
    exact gw_if_gt hi ht (by omega) (fun z => kt (by omega)) (fun z => kf (by omega))
  · rw [if_neg (by omega), if_neg (by omega)]
    exact gw_if_gt hi ht (by omega) (fun z => kt (by omega)) (fun z => kf (by omega))
theorem gw_lc_le {a b off : Int} {pc1 tgt : Nat} (h1 : gI F pc (.lcmp) 1 pc1) (hi : gI F pc1 (.ifCond .le off) 3 npc) (ht : ((pc1 : Int) + off == (tgt : Int)) = true) (hb : (-9223372036854775808 ≤ a ∧ a ≤ 9223372036854775807) ∧ (-9223372036854775808 ≤ b ∧ b ≤ 9223372036854775807)) (kt : a ≤ b → gWP F d mc ms tgt ls st sh g Q) (kf : b < a → gWP F d mc ms npc ls st sh g Q) : gWP F d mc ms pc ls ((1, b) :: (1, a) :: st) sh g Q := by
  refine gw_lcmp h1 hb ?_
  rcases (show b < a ∨ a = b ∨ a < b by omega) with q | q | q
  · rw [if_pos q]
    exact gw_if_le hi ht (by omega) (fun z => kt (by omega)) (fun z => kf (by omega))
  · rw [if_neg (by omega), if_pos q]
    exact gw_if_le hi ht (by omega) (fun z => kt (by omega)) (fun z => kf (by omega))
  · rw [if_neg (by omega), if_neg (by omega)]
    exact gw_if_le hi ht (by omega) (fun z => kt (by omega)) (fun z => kf (by omega))
theorem gw_lconst0 (hi : gI F pc (.lconst 0) 1 npc) (k : gWP F d mc ms npc ls ((1, 0) :: st) sh g Q) : gWP F d mc ms pc ls st sh g Q := gw_lconst hi k
theorem gw_lconst1 (hi : gI F pc (.lconst 1) 1 npc) (k : gWP F d mc ms npc ls ((1, 1) :: st) sh g Q) : gWP F d mc ms pc ls st sh g Q := gw_lconst hi k
end GB
