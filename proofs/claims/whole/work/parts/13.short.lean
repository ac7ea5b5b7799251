/-! ===== short ways ===== -/
theorem gAt {sh : gS} {a : Int} {q n : Nat} (h : gFix sh) (h0 : decide (0 ≤ a) = true) (e : gsh0[a.toNat]? = some (q, n)) : gsz sh a q n := ⟨by simpa using h0, h _ _ e⟩
theorem gRf {g : gM} {a x : Int} {k : Nat} (h : gFin g) (h0 : decide (0 ≤ a) = true) (e : gref a.toNat k = some x) : g a (k : Int) = x := by
  have h1 := h a.toNat k x e
  rwa [show ((a.toNat : Nat) : Int) = a from Int.toNat_of_nonneg (by simpa using h0)] at h1
/-- a truth as a number -/
def bi (p : Prop) [Decidable p] : Int := if p then 1 else 0
theorem bi_1 {p : Prop} [Decidable p] (h : p) : bi p = 1 := if_pos h
theorem bi_0 {p : Prop} [Decidable p] (h : ¬ p) : bi p = 0 := if_neg h
theorem bi_t {p : Prop} [Decidable p] (h : p) : (some (0, 1) : Option gV) = some (0, bi p) := by rw [bi_1 h]
theorem bi_f {p : Prop} [Decidable p] (h : ¬ p) : (some (0, 0) : Option gV) = some (0, bi p) := by rw [bi_0 h]
theorem bi_01 (p : Prop) [Decidable p] : bi p = 0 ∨ bi p = 1 := by
  by_cases h : p
  · exact Or.inr (bi_1 h)
  · exact Or.inl (bi_0 h)
theorem bi_r (p : Prop) [Decidable p] : -2147483648 ≤ bi p ∧ bi p ≤ 2147483647 := by
  rcases bi_01 p with h | h <;> omega
theorem bi_iff {p q : Prop} [Decidable p] [Decidable q] (h : p ↔ q) : bi p = bi q := by
  by_cases hp : p
  · rw [bi_1 hp, bi_1 (h.mp hp)]
  · rw [bi_0 hp, bi_0 (fun z => hp (h.mpr z))]
theorem gsi {x y : Int} (h : x = y) : (some (0, x) : Option gV) = some (0, y) := by rw [h]
theorem gsl {x y : Int} (h : x = y) : (some (1, x) : Option gV) = some (1, y) := by rw [h]
theorem gup_s (g : gM) (a k v : Int) : gup g a k v a k = v := by simp [gup]
theorem gup_k (g : gM) (a k v : Int) {y : Int} (h : y ≠ k) : gup g a k v a y = g a y := by simp [gup, h]
theorem gup_a (g : gM) (a k v : Int) {x : Int} (y : Int) (h : x ≠ a) : gup g a k v x y = g x y := by simp [gup, h]
theorem gfr_s (g : gM) (a : Int) (f : Int → Int) (y : Int) : gfr g a f a y = f y := by simp [gfr]
theorem gfr_a (g : gM) (a : Int) (f : Int → Int) {x : Int} (y : Int) (h : x ≠ a) : gfr g a f x y = g x y := by simp [gfr, h]
/-- a loop by a measure: one step from every state -/
theorem gloop {σ : Type} (I : σ → Prop) (μ : σ → Nat) (P : σ → Prop) (hs : ∀ s, I s → (∀ s', I s' → μ s' < μ s → P s') → P s) : ∀ s, I s → P s := by
  have key : ∀ (n : Nat) (s : σ), μ s < n → I s → P s := by
    intro n
    induction n with
    | zero => intro s h; exact absurd h (Nat.not_lt_zero _)
    | succ n ih => intro s h hI; exact hs s hI (fun s' hI' hlt => ih s' (by omega) hI')
  exact fun s hI => key (μ s + 1) s (Nat.lt_succ_self _) hI
section GB
variable {F : gF} {d mc ms pc npc : Nat} {ls st : List gV} {sh : gS} {g : gM} {Q : gQ}
theorem gw_beq {p : Prop} [Decidable p] {off : Int} {tgt : Nat} (hi : gI F pc (.ifCond .eq off) 3 npc) (ht : ((pc : Int) + off == (tgt : Int)) = true) (kt : ¬ p → gWP F d mc ms tgt ls st sh g Q) (kf : p → gWP F d mc ms npc ls st sh g Q) : gWP F d mc ms pc ls ((0, bi p) :: st) sh g Q :=
  gw_if_eq hi ht (bi_r p) (fun z => kt (fun h => by rw [bi_1 h] at z; cases z)) (fun z => kf (Decidable.byContradiction fun h => z (bi_0 h)))
theorem gw_bne {p : Prop} [Decidable p] {off : Int} {tgt : Nat} (hi : gI F pc (.ifCond .ne off) 3 npc) (ht : ((pc : Int) + off == (tgt : Int)) = true) (kt : p → gWP F d mc ms tgt ls st sh g Q) (kf : ¬ p → gWP F d mc ms npc ls st sh g Q) : gWP F d mc ms pc ls ((0, bi p) :: st) sh g Q :=
  gw_if_ne hi ht (bi_r p) (fun z => kt (Decidable.byContradiction fun h => z (bi_0 h))) (fun z => kf (fun h => by rw [bi_1 h] at z; cases z))
end GB
