/-! ===== the reference: few, feed, row ===== -/
theorem fw_mix {s a b M : Int} (hs : 0 ≤ s ∧ s ≤ 10) (ha : 0 ≤ a ∧ a ≤ M) (hb : 0 ≤ b ∧ b ≤ M) : 0 ≤ a * (10 - s) / 10 ∧ 0 ≤ b * s / 10 ∧ a * (10 - s) / 10 + b * s / 10 ≤ M := by
  rcases (show s = 0 ∨ s = 1 ∨ s = 2 ∨ s = 3 ∨ s = 4 ∨ s = 5 ∨ s = 6 ∨ s = 7 ∨ s = 8 ∨ s = 9 ∨ s = 10 by omega) with rfl | rfl | rfl | rfl | rfl | rfl | rfl | rfl | rfl | rfl | rfl <;> omega
theorem fw_rng {s a : Int} (hs : 0 ≤ s ∧ s ≤ 10) (ha : 0 ≤ a ∧ a ≤ 1000000000000) : (0 ≤ a * s ∧ a * s ≤ 10000000000000) ∧ 0 ≤ a * (10 - s) ∧ a * (10 - s) ≤ 10000000000000 := by
  rcases (show s = 0 ∨ s = 1 ∨ s = 2 ∨ s = 3 ∨ s = 4 ∨ s = 5 ∨ s = 6 ∨ s = 7 ∨ s = 8 ∨ s = 9 ∨ s = 10 by omega) with rfl | rfl | rfl | rfl | rfl | rfl | rfl | rfl | rfl | rfl | rfl <;> omega
def fwS (s : Int) : Nat → Int → Int
  | 0, i => if i = 0 then 1000000000000 else 0
  | c + 1, i => fwS s c i * (10 - s) / 10 + (if i = 0 then 0 else fwS s c (i - 1) * s / 10)
theorem fwS_bd {s : Int} (hs : 0 ≤ s ∧ s ≤ 10) : ∀ (c : Nat) (i : Int), 0 ≤ fwS s c i ∧ fwS s c i ≤ 1000000000000
  | 0, i => by unfold fwS; split <;> omega
  | c + 1, i => by
    have h := fw_mix hs (fwS_bd hs c i) (fwS_bd hs c (i - 1))
    unfold fwS
    split <;> omega
def fewR (s k n : Int) : Int := if (1 ≤ k ∧ k ≤ 20) ∧ 0 ≤ n ∧ n ≤ 99 then smN (fwS s n.toNat) k.toNat else -1
def shF (g g1 : gM) : Prop := ∀ a k, a ≠ 198 → g1 a k = g a k
theorem shF.up {g g1 : gM} (h : shF g g1) (i v : Int) : shF g (gup g1 198 i v) := fun a k ha => (gup_a _ _ _ _ _ ha).trans (h a k ha)
theorem shF.qu {g g1 : gM} (h : shF g g1) : gQu g g1 := fun a k _ y => h a k (fun z => y (by omega))
theorem few_in {s i : Int} {c : Nat} {g2 : gM} {k v1 v2 : Int} (hs : ∀ y, 0 ≤ y → y < k → g2 198 y = if y ≤ i then fwS s c y else if y = i + 1 then fwS s c y * (10 - s) / 10 else fwS s (c + 1) y) (hi : 0 ≤ i ∧ i < k) (h1 : v1 = g2 198 (i + 1) + fwS s c i * s / 10) (h2 : v2 = fwS s c i * (10 - s) / 10) : ∀ y, 0 ≤ y → y < k → gup (gup g2 198 (i + 1) v1) 198 i v2 198 y = if y ≤ i + -1 then fwS s c y else if y = i + -1 + 1 then fwS s c y * (10 - s) / 10 else fwS s (c + 1) y := by
  intro y y0 yk
  by_cases z : y = i
  · rw [z, gup_s, if_neg (by omega), if_pos (by omega), h2]
  · rw [gup_k _ _ _ _ z]
    by_cases z1 : y = i + 1
    · rw [z1, gup_s, if_neg (by omega), if_neg (by omega), h1, hs (i + 1) (by omega) (by omega), if_neg (by omega), if_pos rfl]
      show _ = fwS s c (i + 1) * (10 - s) / 10 + (if i + 1 = 0 then 0 else fwS s c (i + 1 - 1) * s / 10)
      rw [if_neg (by omega), show i + 1 - 1 = i by omega]
    · rw [gup_k _ _ _ _ z1, hs y y0 yk]
      by_cases z2 : y ≤ i
      · rw [if_pos z2, if_pos (by omega)]
      · rw [if_neg z2, if_neg z1, if_neg (by omega), if_neg (by omega)]
theorem few_out {s : Int} {c : Nat} {g2 : gM} {k i : Int} (hi : i = -1) (hs : ∀ y, 0 ≤ y → y < k → g2 198 y = if y ≤ i then fwS s c y else if y = i + 1 then fwS s c y * (10 - s) / 10 else fwS s (c + 1) y) : ∀ y, 0 ≤ y → y < k → g2 198 y = fwS s (c + 1) y := by
  intro y y0 yk
  rw [hs y y0 yk, if_neg (by omega)]
  by_cases z : y = 0
  · rw [if_pos (by omega)]
    show _ = fwS s c y * (10 - s) / 10 + (if y = 0 then 0 else _)
    rw [if_pos z, Int.add_zero]
  · rw [if_neg (by omega)]
/-- the byte that feed writes -/
def fdV (a b c d e j : Int) : Int := if j = 0 then a else if j = 1 then b else if j = 2 then c else if j = 3 then d else e
def fdB (a b c d e k : Int) : Int := gi2b (gshr (fdV a b c d e (k / 4)) (24 - 8 * (k % 4)))
def fdM (g : gM) (a b c d e : Int) : gM := gup (gup (gup (gup (gup g 185 0 a) 185 1 b) 185 2 c) 185 3 d) 185 4 e
theorem fdM_at (g : gM) (a b c d e j : Int) (hj : 0 ≤ j ∧ j ≤ 4) : fdM g a b c d e 185 j = fdV a b c d e j := by
  unfold fdM
  rcases (show j = 0 ∨ j = 1 ∨ j = 2 ∨ j = 3 ∨ j = 4 by omega) with rfl | rfl | rfl | rfl | rfl
  · rw [gup_k _ _ _ _ (by decide), gup_k _ _ _ _ (by decide), gup_k _ _ _ _ (by decide), gup_k _ _ _ _ (by decide), gup_s]; rfl
  · rw [gup_k _ _ _ _ (by decide), gup_k _ _ _ _ (by decide), gup_k _ _ _ _ (by decide), gup_s]; rfl
  · rw [gup_k _ _ _ _ (by decide), gup_k _ _ _ _ (by decide), gup_s]; rfl
  · rw [gup_k _ _ _ _ (by decide), gup_s]; rfl
  · rw [gup_s]; rfl
theorem fdM_fn (g : gM) (a b c d e : Int) {x : Int} (hx : x ≠ 185) : fdM g a b c d e x = g x := by
  unfold fdM
  rw [gup_fn _ _ _ _ hx, gup_fn _ _ _ _ hx, gup_fn _ _ _ _ hx, gup_fn _ _ _ _ hx, gup_fn _ _ _ _ hx]
def fdUp (g : gM) (a b c d e : Int) (i : Int) (g1 : gM) : Prop := (∀ x k, x ≠ 184 → g1 x k = fdM g a b c d e x k) ∧ (∀ j, 0 ≤ j → j < i → g1 184 (g 177 13 + j) = fdB a b c d e j) ∧ ∀ j, j < g 177 13 → g1 184 j = g 184 j
theorem fdUp.step {g g1 : gM} {a b c d e i v : Int} (h : fdUp g a b c d e i g1) (hi : 0 ≤ i) (hv : v = fdB a b c d e i) : fdUp g a b c d e (i + 1) (gup g1 184 (g 177 13 + i) v) := by
  refine ⟨fun x k hx => (gup_a _ _ _ _ _ hx).trans (h.1 x k hx), fun j j0 j1 => ?_, fun j hj => ?_⟩
  · by_cases z : j = i
    · rw [z, gup_s, hv]
    · rw [gup_k _ _ _ _ (by omega)]; exact h.2.1 j j0 (by omega)
  · rw [gup_k _ _ _ _ (by omega)]; exact h.2.2 j hj
def fdQ (g : gM) (a b c d e : Int) (r : Option gV) (g2 : gM) : Prop := (400 < g 177 13 + 20 ∧ r = some (0, -1) ∧ g2 = g) ∨ (¬ 400 < g 177 13 + 20 ∧ r = some (0, g 177 13 + 20) ∧ g2 177 13 = g 177 13 + 20 ∧ (∀ j, 0 ≤ j → j < 20 → g2 184 (g 177 13 + j) = fdB a b c d e j) ∧ (∀ j, j < g 177 13 → g2 184 j = g 184 j) ∧ ∀ x k, x ≠ 184 → x ≠ 185 → ¬ (x = 177 ∧ k = 13) → g2 x k = g x k)
/-! rows -/
def rAdd (ρ : Int → Int) (u h : Int) : Int → Int := fun y => if y = 41 then ρ 41 + 1 else if y = ρ 41 then h else if y = 12 + ρ 41 then u else ρ y
theorem rAdd_ok {ρ : Int → Int} (ho : rowOK ρ) (hm : ρ 41 < 12) {u h : Int} (hu : 0 ≤ u ∧ u ≤ 24) (hh : 0 ≤ h ∧ h ≤ 24) : rowOK (rAdd ρ u h) := by
  have k : ∀ y, 24 ≤ y → y ≠ 41 → rAdd ρ u h y = ρ y := fun y h1 h2 => by
    have := ro_many ho
    unfold rAdd
    rw [if_neg h2, if_neg (by omega), if_neg (by omega)]
  obtain ⟨h1, h2, h3, h4, h5, h6, h7, h8, h9, h10, h11, h12, h13, h14⟩ := ho
  refine ⟨by show 0 ≤ ρ 41 + 1 ∧ ρ 41 + 1 ≤ 12; omega, fun i a b => ?_, by rw [k _ (by omega) (by omega)]; exact h3, by rw [k _ (by omega) (by omega)]; exact h4, by rw [k _ (by omega) (by omega)]; exact h5, by rw [k _ (by omega) (by omega)]; exact h6, by rw [k _ (by omega) (by omega)]; exact h7, by rw [k _ (by omega) (by omega)]; exact h8, by rw [k _ (by omega) (by omega)]; exact h9, by rw [k 44 (by omega) (by omega), k 43 (by omega) (by omega)]; exact h10, fun j a b => by rw [k _ (by omega) (by omega), k _ (by omega) (by omega)]; exact h11 j a b, fun i a b => by rw [k _ (by omega) (by omega)]; exact h12 i a b, fun i a b => by rw [k _ (by omega) (by omega)]; exact h13 i a b, fun i a b => by rw [k _ (by omega) (by omega)]; exact h14 i a b⟩
  unfold rAdd
  rw [if_neg (by omega)]
  by_cases z1 : i = ρ 41
  · rw [if_pos z1]; exact hh
  · rw [if_neg z1]
    by_cases z2 : i = 12 + ρ 41
    · rw [if_pos z2]; exact hu
    · rw [if_neg z2]; exact h2 i a b
def rwM (g : gM) (ρ : Int → Int) (bl : Int) : gM := gup (gup (gfr g 179 ρ) 177 13 0) 177 6 bl
theorem rwM_fn (g : gM) (ρ : Int → Int) (bl : Int) {a : Int} (h1 : a ≠ 177) (h2 : a ≠ 179) : rwM g ρ bl a = g a := by
  unfold rwM; rw [gup_fn _ _ _ _ h1, gup_fn _ _ _ _ h1, gfr_fn _ _ _ h2]
theorem rwM_179 (g : gM) (ρ : Int → Int) (bl : Int) : rwM g ρ bl 179 = ρ := by
  unfold rwM; rw [gup_fn _ _ _ _ (by decide), gup_fn _ _ _ _ (by decide), gfr_fs]
theorem rwM_6 (g : gM) (ρ : Int → Int) (bl : Int) : rwM g ρ bl 177 6 = bl := gup_s _ _ _ _
theorem rwM_bl (g : gM) (ρ : Int → Int) (bl v : Int) : gup (rwM g ρ bl) 177 6 v = rwM g ρ v := gup_gup _ _ _ _ _
theorem rwM_add (g : gM) {ρ : Int → Int} (hm : 0 ≤ ρ 41 ∧ ρ 41 < 12) (bl u h : Int) : addM (rwM g ρ bl) u h = rwM g (rAdd ρ u h) bl := by
  unfold addM
  rw [rwM_179]
  funext a k
  by_cases h1 : a = 179
  · subst h1
    rw [rwM_179]
    unfold rAdd
    by_cases z : k = 41
    · rw [z, gup_s, if_pos rfl]
    · rw [gup_k _ _ _ _ z, if_neg z]
      by_cases z1 : k = ρ 41
      · rw [z1, gup_s, if_pos rfl]
      · rw [gup_k _ _ _ _ z1, if_neg z1]
        by_cases z2 : k = 12 + ρ 41
        · rw [z2, gup_s, if_pos rfl]
        · rw [gup_k _ _ _ _ z2, if_neg z2, rwM_179]
  · rw [gup_a _ _ _ _ _ h1, gup_a _ _ _ _ _ h1, gup_a _ _ _ _ _ h1]
    by_cases h2 : a = 177
    · subst h2; unfold rwM gup gfr; rfl
    · rw [rwM_fn _ _ _ h2 h1, rwM_fn _ _ _ h2 h1]
theorem gFin.rw {g : gM} (h : gFin g) (ρ : Int → Int) (bl : Int) : gFin (rwM g ρ bl) := ((h.fr (fun _ => rfl)).up rfl).up rfl
def rwC (B ρ : Int → Int) (t : Int) : Prop := ρ 41 < 12 ∧ (0 ≤ B t ∧ B t ≤ 24) ∧ 0 ≤ B (t + 1) ∧ B (t + 1) ≤ 24
theorem rwC_b (B ρ : Int → Int) (t : Int) : bi (ρ 41 < 12 ∧ (0 ≤ B t ∧ B t ≤ 24) ∧ 0 ≤ B (t + 1) ∧ B (t + 1) ≤ 24) = 1 ∨ bi (ρ 41 < 12 ∧ (0 ≤ B t ∧ B t ≤ 24) ∧ 0 ≤ B (t + 1) ∧ B (t + 1) ≤ 24) = 0 := (bi_01 _).symm
def rwF (B : Int → Int) : Nat → Int → (Int → Int) → Int → Int → (Int → Int) × Int × Int
  | 0, _, ρ, n, b => (ρ, n, b)
  | m + 1, t, ρ, n, b => if ρ 41 < 12 ∧ (0 ≤ B t ∧ B t ≤ 24) ∧ 0 ≤ B (t + 1) ∧ B (t + 1) ≤ 24 then rwF B m (t + 2) (rAdd ρ (B t) (B (t + 1))) (n + 1) b else rwF B m (t + 2) ρ n (b + 1)
theorem rwF_ok {B : Int → Int} : ∀ (m : Nat) (t : Int) (ρ : Int → Int) (n b : Int), rowOK ρ → rowOK (rwF B m t ρ n b).1
  | 0, _, _, _, _, h => h
  | m + 1, t, ρ, n, b, h => by
    unfold rwF
    split
    · next z => exact rwF_ok m _ _ _ _ (rAdd_ok h z.1 z.2.1 z.2.2)
    · exact rwF_ok m _ _ _ _ h
def rwR (g : gM) : (Int → Int) × Int × Int := rwF (g 184) (g 177 13 / 2).toNat 0 (g 179) 0 (g 177 13 % 2)
def tapeOK (g : gM) : Prop := (0 ≤ g 177 13 ∧ g 177 13 ≤ 400) ∧ ∀ j, 0 ≤ j → j < 400 → -128 ≤ g 184 j ∧ g 184 j ≤ 127
set_option maxHeartbeats 1000000 in
theorem c_Model_few {sh : gS} {g : gM} (hx : gFix sh) (hf : gFin g) (k n : Int) (hb : (-2147483648 ≤ k ∧ k ≤ 2147483647) ∧ (-2147483648 ≤ n ∧ n ≤ 2147483647)) (ho : rowOK (g 179)) : gTri f_Model_few 1 0 0 [(2, 177), (0, k), (0, n)] sh g (fun x s2 g2 => x = some (1, fewR (g 179 37) k n) ∧ s2 = sh ∧ gQu g g2) := by
  have hs := ro_slips ho
  have hf0 := hf
  refine gTri.of (by decide +kernel) rfl ?_
  show gWP f_Model_few _ _ _ 0 [(2, 177), (0, k), (0, n), (9, 0), (9, 0), (9, 0)] [] sh g _
  refine gw_iload_n (gc k_Model_few_0 0 rfl) rfl ?_
  refine gw_iconst (gc k_Model_few_0 1 rfl) ?_
  refine gw_bipush (gc k_Model_few_0 2 rfl) (by decide) ?_
  refine gw_cS1 (gc k_Model_few_0 3 rfl) y_Model_lies ln_Model_18 (c_Model_lies k 1 20 (by omega)) rfl rfl rfl rfl ?_
  refine gw_beq (tgt := 20) (gc k_Model_few_0 4 rfl) rfl (fun c7 => ?_) (fun c7 => ?_)
  · refine gw_ldc2 (gc k_Model_few_0 10 rfl) cn_Model_437 ?_
    refine gw_lreturn (gc k_Model_few_0 11 rfl) rfl ?_
    exact ⟨by unfold fewR; rw [if_neg (by omega)], rfl, gQu.rf g⟩
  · refine gw_iload_n (gc k_Model_few_0 5 rfl) rfl ?_
    refine gw_iconst (gc k_Model_few_0 6 rfl) ?_
    refine gw_bipush (gc k_Model_few_0 7 rfl) (by decide) ?_
    refine gw_cS1 (gc k_Model_few_0 8 rfl) y_Model_lies ln_Model_18 (c_Model_lies n 0 99 (by omega)) rfl rfl rfl rfl ?_
    refine gw_bne (tgt := 24) (gc k_Model_few_0 9 rfl) rfl (fun c17 => ?_) (fun c17 => ?_)
    · refine gw_iconst (gc k_Model_few_0 12 rfl) ?_
      refine gw_istore_3 (gc k_Model_few_0 13 rfl) rfl rfl ?_
      refine gwloop (σ := Int × gM) (fun zs => (0 ≤ (zs.1) ∧ (zs.1) ≤ 21) ∧ shF g (zs.2) ∧ ∀ y, 0 ≤ y → y < (zs.1) → (zs.2) 198 y = fwS (g 179 37) 0 y) (fun zs => (21 - (zs.1)).toNat) (fun zs => [(2, 177), (0, k), (0, n), (0, (zs.1)), (9, 0), (9, 0)]) (fun zs => (zs.2)) (0, g) (show (0 ≤ (0 : Int) ∧ (0 : Int) ≤ 21) ∧ shF g g ∧ ∀ y, 0 ≤ y → y < (0 : Int) → g 198 y = fwS (g 179 37) 0 y from ⟨by omega, fun _ _ _ => rfl, fun y a b => by omega⟩) rfl rfl (fun zs hI ih => ?_)
      obtain ⟨i, g1⟩ := zs
      replace hI : (0 ≤ i ∧ i ≤ 21) ∧ shF g g1 ∧ ∀ y, 0 ≤ y → y < i → g1 198 y = fwS (g 179 37) 0 y := hI
      obtain ⟨hi, hF, hR⟩ := hI
      show gWP _ _ _ _ _ [(2, 177), (0, k), (0, n), (0, i), (9, 0), (9, 0)] [] _ (g1) _
      have hf := hf0.qu hF.qu
      refine gw_iload_n (gc k_Model_few_0 14 rfl) rfl ?_
      refine gw_bipush (gc k_Model_few_0 15 rfl) (by decide) ?_
      refine gw_icmp_gt (tgt := 55) (gc k_Model_few_0 16 rfl) rfl (by omega) (fun c29 => ?_) (fun c29 => ?_)
      · refine gw_iconst (gc k_Model_few_0 28 rfl) ?_
        refine gw_istore_3 (gc k_Model_few_0 29 rfl) rfl rfl ?_
        refine gwloop (σ := Nat × gV × gM) (fun zs => ((zs.1) : Int) ≤ n ∧ shF g (zs.2.2) ∧ ∀ y, 0 ≤ y → y < k → (zs.2.2) 198 y = fwS (g 179 37) (zs.1) y) (fun zs => n.toNat - (zs.1)) (fun zs => [(2, 177), (0, k), (0, n), (0, ((zs.1) : Int)), (zs.2.1), (9, 0)]) (fun zs => (zs.2.2)) (0, (9, 0), g1) (show ((0 : Nat) : Int) ≤ n ∧ shF g g1 ∧ ∀ y, 0 ≤ y → y < k → g1 198 y = fwS (g 179 37) (0 : Nat) y from ⟨by omega, hF, fun y a b => hR y a (by omega)⟩) rfl rfl (fun zs hI ih => ?_)
        obtain ⟨c, x4, g1⟩ := zs
        replace hI : (c : Int) ≤ n ∧ shF g g1 ∧ ∀ y, 0 ≤ y → y < k → g1 198 y = fwS (g 179 37) c y := hI
        obtain ⟨hc, hF, hR⟩ := hI
        show gWP _ _ _ _ _ [(2, 177), (0, k), (0, n), (0, (c : Int)), x4, (9, 0)] [] _ (g1) _
        have hf := hf0.qu hF.qu
        have e1 : g1 179 = g 179 := funext fun y => hF 179 y (by decide)
        refine gw_iload_n (gc k_Model_few_0 30 rfl) rfl ?_
        refine gw_iload_n (gc k_Model_few_0 31 rfl) rfl ?_
        refine gw_icmp_ge (tgt := 146) (gc k_Model_few_0 32 rfl) rfl (by omega) (fun c59 => ?_) (fun c59 => ?_)
        · refine gw_lconst0 (gc k_Model_few_2 2 rfl) ?_
          refine gw_lstore_3 (gc k_Model_few_2 3 rfl) rfl rfl ?_
          refine gw_iconst (gc k_Model_few_2 4 rfl) ?_
          refine gw_istore_5 (gc k_Model_few_2 5 rfl) rfl rfl ?_
          refine gwloop (σ := Nat) (fun zs => (zs : Int) ≤ k) (fun zs => k.toNat - zs) (fun zs => [(2, 177), (0, k), (0, n), (1, smN (fwS (g 179 37) c) zs), (9, 0), (0, (zs : Int))]) (fun zs => g1) (0) (show ((0 : Nat) : Int) ≤ k from (by omega)) rfl rfl (fun zs hI ih => ?_)
          obtain ⟨i, hzz⟩ : ∃ x, x = zs := ⟨_, rfl⟩
          subst hzz
          replace hI : (i : Int) ≤ k := hI
          have hi := hI
          show gWP _ _ _ _ _ [(2, 177), (0, k), (0, n), (1, smN (fwS (g 179 37) c) i), (9, 0), (0, (i : Int))] [] _ (g1) _
          
          refine gw_iload (gc k_Model_few_2 6 rfl) rfl ?_
          refine gw_iload_n (gc k_Model_few_2 7 rfl) rfl ?_
          refine gw_icmp_ge (tgt := 173) (gc k_Model_few_2 8 rfl) rfl (by omega) (fun c154 => ?_) (fun c154 => ?_)
          · refine gw_lload_n (gc k_Model_few_2 18 rfl) rfl ?_
            refine gw_lreturn (gc k_Model_few_2 19 rfl) rfl ?_
            have ec : c = n.toNat := by omega
            have ei : i = k.toNat := by omega
            subst ec ei
            exact ⟨by unfold fewR; rw [if_pos (by omega)], rfl, hF.qu⟩
          · refine gw_lload_n (gc k_Model_few_2 9 rfl) rfl ?_
            refine gw_aload_n (gc k_Model_few_2 10 rfl) rfl rfl ?_
            refine gw_getref (gc k_Model_few_2 11 rfl) fl_Model_91 (gAt hx rfl rfl) (gRf hf rfl rfl) ?_
            refine gw_iload (gc k_Model_few_2 12 rfl) rfl ?_
            refine gw_lald (gc k_Model_few_2 13 rfl) (gAt hx rfl rfl) (by omega) ?_
            rw [hR i (by omega) (by omega)]
            refine gw_ladd (gc k_Model_few_2 14 rfl) ?_
            refine gw_lstore_3 (gc k_Model_few_2 15 rfl) rfl rfl ?_
            refine gw_iinc_5 (gc k_Model_few_2 16 rfl) rfl rfl ?_
            refine gw_goto (tgt := 151) (gc k_Model_few_2 17 rfl) rfl ?_
            exact ih (i + 1) (show ((i + 1) : Int) ≤ k from (by omega)) (show k.toNat - (i + 1) < k.toNat - i from by omega)
        · refine gw_iload_n (gc k_Model_few_0 33 rfl) rfl ?_
          refine gw_iconst (gc k_Model_few_0 34 rfl) ?_
          refine gw_isub (gc k_Model_few_0 35 rfl) ?_
          refine gw_istore_4 (gc k_Model_few_0 36 rfl) rfl rfl ?_
          refine gwloop (σ := Int × gM) (fun zs => (-1 ≤ (zs.1) ∧ (zs.1) < k) ∧ shF g (zs.2) ∧ ∀ y, 0 ≤ y → y < k → (zs.2) 198 y = if y ≤ (zs.1) then fwS (g 179 37) c y else if y = (zs.1) + 1 then fwS (g 179 37) c y * (10 - (g 179 37)) / 10 else fwS (g 179 37) (c + 1) y) (fun zs => ((zs.1) + 1).toNat) (fun zs => [(2, 177), (0, k), (0, n), (0, (c : Int)), (0, (zs.1)), (9, 0)]) (fun zs => (zs.2)) (k - 1, g1) (show (-1 ≤ (k - 1) ∧ (k - 1) < k) ∧ shF g g1 ∧ ∀ y, 0 ≤ y → y < k → g1 198 y = if y ≤ (k - 1) then fwS (g 179 37) c y else if y = (k - 1) + 1 then fwS (g 179 37) c y * (10 - (g 179 37)) / 10 else fwS (g 179 37) (c + 1) y from ⟨by omega, hF, fun y a b => by rw [if_pos (by omega)]; exact hR y a b⟩) rfl rfl (fun zs hI ih2 => ?_)
          obtain ⟨i, g2⟩ := zs
          replace hI : (-1 ≤ i ∧ i < k) ∧ shF g g2 ∧ ∀ y, 0 ≤ y → y < k → g2 198 y = if y ≤ i then fwS (g 179 37) c y else if y = i + 1 then fwS (g 179 37) c y * (10 - (g 179 37)) / 10 else fwS (g 179 37) (c + 1) y := hI
          obtain ⟨hi, hF2, hR2⟩ := hI
          show gWP _ _ _ _ _ [(2, 177), (0, k), (0, n), (0, (c : Int)), (0, i), (9, 0)] [] _ (g2) _
          have hf := hf0.qu hF2.qu
          have e2 : g2 179 = g 179 := funext fun y => hF2 179 y (by decide)
          refine gw_iload (gc k_Model_few_0 37 rfl) rfl ?_
          refine gw_if_lt (tgt := 140) (gc k_Model_few_0 38 rfl) rfl (by omega) (fun c69 => ?_) (fun c69 => ?_)
          · refine gw_iinc_3 (gc k_Model_few_2 0 rfl) rfl rfl ?_
            refine gw_goto (tgt := 57) (gc k_Model_few_2 1 rfl) rfl ?_
            have hO := few_out (by omega) hR2
            exact ih (c + 1, (0, i), g2) (show ((c + 1) : Int) ≤ n ∧ shF g g2 ∧ ∀ y, 0 ≤ y → y < k → g2 198 y = fwS (g 179 37) (c + 1) y from ⟨by omega, hF2, hO⟩) (show n.toNat - (c + 1) < n.toNat - c from by omega)
          · have hq := hR2 i (by omega) (by omega)
            rw [if_pos (Int.le_refl _)] at hq
            have hbd := fwS_bd hs c i
            have hrg := fw_rng hs hbd
            refine gw_aload_n (gc k_Model_few_0 39 rfl) rfl rfl ?_
            refine gw_getref (gc k_Model_few_1 0 rfl) fl_Model_91 (gAt hx rfl rfl) (gRf hf rfl rfl) ?_
            refine gw_iload (gc k_Model_few_1 1 rfl) rfl ?_
            refine gw_iconst (gc k_Model_few_1 2 rfl) ?_
            refine gw_iadd (gc k_Model_few_1 3 rfl) ?_
            refine gw_dup2 (gc k_Model_few_1 4 rfl) rfl ?_
            refine gw_lald (gc k_Model_few_1 5 rfl) (gAt hx rfl rfl) (by omega) ?_
            refine gw_aload_n (gc k_Model_few_1 6 rfl) rfl rfl ?_
            refine gw_getref (gc k_Model_few_1 7 rfl) fl_Model_91 (gAt hx rfl rfl) (gRf hf rfl rfl) ?_
            refine gw_iload (gc k_Model_few_1 8 rfl) rfl ?_
            refine gw_lald (gc k_Model_few_1 9 rfl) (gAt hx rfl rfl) (by omega) ?_
            rw [hq]
            refine gw_aload_n (gc k_Model_few_1 10 rfl) rfl rfl ?_
            refine gw_getref (gc k_Model_few_1 11 rfl) fl_Model_28 (gAt hx rfl rfl) (gRf hf rfl rfl) ?_
            refine gw_bipush (gc k_Model_few_1 12 rfl) (by decide) ?_
            refine gw_iald (gc k_Model_few_1 13 rfl) (gAt hx rfl rfl) (by omega) ?_
            rw [e2]
            refine gw_i2l (gc k_Model_few_1 14 rfl) (by omega) ?_
            refine gw_lmul (gc k_Model_few_1 15 rfl) ?_
            refine gw_ldc2 (gc k_Model_few_1 16 rfl) cn_Model_441 ?_
            refine gw_ldivN (gc k_Model_few_1 17 rfl) (by omega) ?_
            refine gw_ladd (gc k_Model_few_1 18 rfl) ?_
            refine gw_lastF (gc k_Model_few_1 19 rfl) (gAt hx rfl rfl) (by omega) hf rfl (fun hf => ?_)
            refine gw_aload_n (gc k_Model_few_1 20 rfl) rfl rfl ?_
            refine gw_getref (gc k_Model_few_1 21 rfl) fl_Model_91 (gAt hx rfl rfl) (gRf hf rfl rfl) ?_
            refine gw_iload (gc k_Model_few_1 22 rfl) rfl ?_
            refine gw_aload_n (gc k_Model_few_1 23 rfl) rfl rfl ?_
            refine gw_getref (gc k_Model_few_1 24 rfl) fl_Model_91 (gAt hx rfl rfl) (gRf hf rfl rfl) ?_
            refine gw_iload (gc k_Model_few_1 25 rfl) rfl ?_
            refine gw_lald (gc k_Model_few_1 26 rfl) (gAt hx rfl rfl) (by omega) ?_
            rw [gup_k _ _ _ _ (by omega), hq]
            refine gw_bipush (gc k_Model_few_1 27 rfl) (by decide) ?_
            refine gw_aload_n (gc k_Model_few_1 28 rfl) rfl rfl ?_
            refine gw_getref (gc k_Model_few_1 29 rfl) fl_Model_28 (gAt hx rfl rfl) (gRf hf rfl rfl) ?_
            refine gw_bipush (gc k_Model_few_1 30 rfl) (by decide) ?_
            refine gw_iald (gc k_Model_few_1 31 rfl) (gAt hx rfl rfl) (by omega) ?_
            rw [gup_fn _ _ _ _ (by decide), e2]
            refine gw_isub (gc k_Model_few_1 32 rfl) ?_
            refine gw_i2l (gc k_Model_few_1 33 rfl) (by omega) ?_
            refine gw_lmul (gc k_Model_few_1 34 rfl) ?_
            refine gw_ldc2 (gc k_Model_few_1 35 rfl) cn_Model_441 ?_
            refine gw_ldivN (gc k_Model_few_1 36 rfl) (by omega) ?_
            refine gw_lastF (gc k_Model_few_1 37 rfl) (gAt hx rfl rfl) (by omega) hf rfl (fun hf => ?_)
            refine gw_iinc_4 (gc k_Model_few_1 38 rfl) rfl rfl ?_
            refine gw_goto (tgt := 67) (gc k_Model_few_1 39 rfl) rfl ?_
            exact ih2 (i + -1, gup (gup g2 198 (i + 1) (g2 198 (i + 1) + fwS (g 179 37) c i * (g 179 37) / 10)) 198 i (fwS (g 179 37) c i * (10 - (g 179 37)) / 10)) (show (-1 ≤ (i + -1) ∧ (i + -1) < k) ∧ shF g (gup (gup g2 198 (i + 1) (g2 198 (i + 1) + fwS (g 179 37) c i * (g 179 37) / 10)) 198 i (fwS (g 179 37) c i * (10 - (g 179 37)) / 10)) ∧ ∀ y, 0 ≤ y → y < k → (gup (gup g2 198 (i + 1) (g2 198 (i + 1) + fwS (g 179 37) c i * (g 179 37) / 10)) 198 i (fwS (g 179 37) c i * (10 - (g 179 37)) / 10)) 198 y = if y ≤ (i + -1) then fwS (g 179 37) c y else if y = (i + -1) + 1 then fwS (g 179 37) c y * (10 - (g 179 37)) / 10 else fwS (g 179 37) (c + 1) y from ⟨by omega, (hF2.up _ _).up _ _, few_in hR2 (by omega) rfl rfl⟩) (show ((i + -1) + 1).toNat < (i + 1).toNat from by omega)
      · refine gw_aload_n (gc k_Model_few_0 17 rfl) rfl rfl ?_
        refine gw_getref (gc k_Model_few_0 18 rfl) fl_Model_91 (gAt hx rfl rfl) (gRf hf rfl rfl) ?_
        refine gw_iload_n (gc k_Model_few_0 19 rfl) rfl ?_
        refine gw_iload_n (gc k_Model_few_0 20 rfl) rfl ?_
        refine gw_if_ne (tgt := 47) (gc k_Model_few_0 21 rfl) rfl (by omega) (fun c38 => ?_) (fun c38 => ?_)
        · refine gw_lconst0 (gc k_Model_few_0 24 rfl) ?_
          refine gw_lastF (gc k_Model_few_0 25 rfl) (gAt hx rfl rfl) (by omega) hf rfl (fun hf => ?_)
          refine gw_iinc_3 (gc k_Model_few_0 26 rfl) rfl rfl ?_
          refine gw_goto (tgt := 26) (gc k_Model_few_0 27 rfl) rfl ?_
          have hv : ∀ y, 0 ≤ y → y < i + 1 → gup g1 198 i 0 198 y = fwS (g 179 37) 0 y := fun y a b => by
            by_cases z : y = i
            · rw [z, gup_s]; exact (if_neg (by omega)).symm
            · rw [gup_k _ _ _ _ z]; exact hR y a (by omega)
          exact ih (i + 1, gup g1 198 i 0) (show (0 ≤ (i + 1) ∧ (i + 1) ≤ 21) ∧ shF g (gup g1 198 i 0) ∧ ∀ y, 0 ≤ y → y < (i + 1) → (gup g1 198 i 0) 198 y = fwS (g 179 37) 0 y from ⟨by omega, hF.up _ _, hv⟩) (show (21 - (i + 1)).toNat < (21 - i).toNat from by omega)
        · refine gw_ldc2 (gc k_Model_few_0 22 rfl) cn_Model_439 ?_
          refine gw_goto (tgt := 48) (gc k_Model_few_0 23 rfl) rfl ?_
          refine gw_lastF (gc k_Model_few_0 25 rfl) (gAt hx rfl rfl) (by omega) hf rfl (fun hf => ?_)
          refine gw_iinc_3 (gc k_Model_few_0 26 rfl) rfl rfl ?_
          refine gw_goto (tgt := 26) (gc k_Model_few_0 27 rfl) rfl ?_
          have hv : ∀ y, 0 ≤ y → y < i + 1 → gup g1 198 i 1000000000000 198 y = fwS (g 179 37) 0 y := fun y a b => by
            by_cases z : y = i
            · rw [z, gup_s]; exact (if_pos (by omega)).symm
            · rw [gup_k _ _ _ _ z]; exact hR y a (by omega)
          exact ih (i + 1, gup g1 198 i 1000000000000) (show (0 ≤ (i + 1) ∧ (i + 1) ≤ 21) ∧ shF g (gup g1 198 i 1000000000000) ∧ ∀ y, 0 ≤ y → y < (i + 1) → (gup g1 198 i 1000000000000) 198 y = fwS (g 179 37) 0 y from ⟨by omega, hF.up _ _, hv⟩) (show (21 - (i + 1)).toNat < (21 - i).toNat from by omega)
    · refine gw_ldc2 (gc k_Model_few_0 10 rfl) cn_Model_437 ?_
      refine gw_lreturn (gc k_Model_few_0 11 rfl) rfl ?_
      exact ⟨by unfold fewR; rw [if_neg (by omega)], rfl, gQu.rf g⟩
set_option maxHeartbeats 1000000 in
theorem c_Model_feed {sh : gS} {g : gM} (hx : gFix sh) (hf : gFin g) (a b c d e : Int) (ht : tapeOK g) : gTri f_Model_feed 0 0 0 [(2, 177), (0, a), (0, b), (0, c), (0, d), (0, e)] sh g (fun r s2 g2 => s2 = sh ∧ fdQ g a b c d e r g2) := by
  have ht1 := ht.1
  have hf0 := hf
  refine gTri.of (by decide +kernel) rfl ?_
  show gWP f_Model_feed _ _ _ 0 [(2, 177), (0, a), (0, b), (0, c), (0, d), (0, e), (9, 0)] [] sh g _
  refine gw_aload_n (gc k_Model_feed_0 0 rfl) rfl rfl ?_
  refine gw_getf 13 rfl (gc k_Model_feed_0 1 rfl) fl_Model_154 (gAt hx rfl rfl) ?_
  refine gw_bipush (gc k_Model_feed_0 2 rfl) (by decide) ?_
  refine gw_iadd (gc k_Model_feed_0 3 rfl) ?_
  refine gw_sipush (gc k_Model_feed_0 4 rfl) (by decide) ?_
  refine gw_icmp_le (tgt := 15) (gc k_Model_feed_0 5 rfl) rfl (by omega) (fun c10 => ?_) (fun c10 => ?_)
  · refine gw_aload_n (gc k_Model_feed_0 8 rfl) rfl rfl ?_
    refine gw_getref (gc k_Model_feed_0 9 rfl) fl_Model_48 (gAt hx rfl rfl) (gRf hf rfl rfl) ?_
    refine gw_iconst (gc k_Model_feed_0 10 rfl) ?_
    refine gw_iload_n (gc k_Model_feed_0 11 rfl) rfl ?_
    refine gw_iastF (gc k_Model_feed_0 12 rfl) (gAt hx rfl rfl) (by omega) hf rfl (fun hf => ?_)
    refine gw_aload_n (gc k_Model_feed_0 13 rfl) rfl rfl ?_
    refine gw_getref (gc k_Model_feed_0 14 rfl) fl_Model_48 (gAt hx rfl rfl) (gRf hf rfl rfl) ?_
    refine gw_iconst (gc k_Model_feed_0 15 rfl) ?_
    refine gw_iload_n (gc k_Model_feed_0 16 rfl) rfl ?_
    refine gw_iastF (gc k_Model_feed_0 17 rfl) (gAt hx rfl rfl) (by omega) hf rfl (fun hf => ?_)
    refine gw_aload_n (gc k_Model_feed_0 18 rfl) rfl rfl ?_
    refine gw_getref (gc k_Model_feed_0 19 rfl) fl_Model_48 (gAt hx rfl rfl) (gRf hf rfl rfl) ?_
    refine gw_iconst (gc k_Model_feed_0 20 rfl) ?_
    refine gw_iload_n (gc k_Model_feed_0 21 rfl) rfl ?_
    refine gw_iastF (gc k_Model_feed_0 22 rfl) (gAt hx rfl rfl) (by omega) hf rfl (fun hf => ?_)
    refine gw_aload_n (gc k_Model_feed_0 23 rfl) rfl rfl ?_
    refine gw_getref (gc k_Model_feed_0 24 rfl) fl_Model_48 (gAt hx rfl rfl) (gRf hf rfl rfl) ?_
    refine gw_iconst (gc k_Model_feed_0 25 rfl) ?_
    refine gw_iload (gc k_Model_feed_0 26 rfl) rfl ?_
    refine gw_iastF (gc k_Model_feed_0 27 rfl) (gAt hx rfl rfl) (by omega) hf rfl (fun hf => ?_)
    refine gw_aload_n (gc k_Model_feed_0 28 rfl) rfl rfl ?_
    refine gw_getref (gc k_Model_feed_0 29 rfl) fl_Model_48 (gAt hx rfl rfl) (gRf hf rfl rfl) ?_
    refine gw_iconst (gc k_Model_feed_0 30 rfl) ?_
    refine gw_iload (gc k_Model_feed_0 31 rfl) rfl ?_
    refine gw_iastF (gc k_Model_feed_0 32 rfl) (gAt hx rfl rfl) (by omega) hf rfl (fun hf => ?_)
    refine gw_iconst (gc k_Model_feed_0 33 rfl) ?_
    refine gw_istore_6 (gc k_Model_feed_0 34 rfl) rfl rfl ?_
    refine gwloop (σ := Int × gM) (fun zs => (0 ≤ (zs.1) ∧ (zs.1) ≤ 20) ∧ fdUp g a b c d e (zs.1) (zs.2)) (fun zs => (20 - (zs.1)).toNat) (fun zs => [(2, 177), (0, a), (0, b), (0, c), (0, d), (0, e), (0, (zs.1))]) (fun zs => (zs.2)) (0, fdM g a b c d e) (show (0 ≤ (0 : Int) ∧ (0 : Int) ≤ 20) ∧ fdUp g a b c d e (0 : Int) (fdM g a b c d e) from ⟨by omega, fun _ _ _ => rfl, fun j h1 h2 => by omega, fun j _ => congrFun (fdM_fn g a b c d e (by decide)) j⟩) rfl rfl (fun zs hI ih => ?_)
    obtain ⟨i, g1⟩ := zs
    replace hI : (0 ≤ i ∧ i ≤ 20) ∧ fdUp g a b c d e i g1 := hI
    obtain ⟨hi, hU⟩ := hI
    show gWP _ _ _ _ _ [(2, 177), (0, a), (0, b), (0, c), (0, d), (0, e), (0, i)] [] _ (g1) _
    have hf : gFin g1 := hf0.of (fun x k z => by
      rcases (show (x : Int) = 184 ∨ (x : Int) = 185 ∨ ((x : Int) ≠ 184 ∧ (x : Int) ≠ 185) by omega) with q | q | q
      · obtain rfl : x = 184 := by omega
        exact absurd rfl z
      · obtain rfl : x = 185 := by omega
        exact absurd rfl z
      · rw [hU.1 _ _ q.1, fdM_fn _ _ _ _ _ _ q.2])
    have e13 : g1 177 13 = g 177 13 := (hU.1 177 13 (by decide)).trans (congrFun (fdM_fn g a b c d e (by decide)) 13)
    refine gw_iload (gc k_Model_feed_0 35 rfl) rfl ?_
    refine gw_bipush (gc k_Model_feed_0 36 rfl) (by decide) ?_
    refine gw_icmp_ge (tgt := 101) (gc k_Model_feed_0 37 rfl) rfl (by omega) (fun c59 => ?_) (fun c59 => ?_)
    · refine gw_aload_n (gc k_Model_feed_1 22 rfl) rfl rfl ?_
      refine gw_dup (gc k_Model_feed_1 23 rfl) rfl ?_
      refine gw_getf 13 rfl (gc k_Model_feed_1 24 rfl) fl_Model_154 (gAt hx rfl rfl) ?_
      refine gw_bipush (gc k_Model_feed_1 25 rfl) (by decide) ?_
      refine gw_iadd (gc k_Model_feed_1 26 rfl) ?_
      refine gw_putIK 13 rfl (gc k_Model_feed_1 27 rfl) fl_Model_154 (gAt hx rfl rfl) hf rfl (fun hf => ?_)
      refine gw_aload_n (gc k_Model_feed_1 28 rfl) rfl rfl ?_
      refine gw_getf 13 rfl (gc k_Model_feed_1 29 rfl) fl_Model_154 (gAt hx rfl rfl) ?_
      refine gw_ireturn (gc k_Model_feed_1 30 rfl) rfl ?_
      obtain rfl : i = 20 := by omega
      refine ⟨rfl, Or.inr ⟨by omega, by rw [gup_s, e13], by rw [gup_s, e13], fun j h1 h2 => ?_, fun j hj => ?_, fun x k h1 h2 h3 => ?_⟩⟩
      · rw [gup_fn _ _ _ _ (by decide)]; exact hU.2.1 j h1 h2
      · rw [gup_fn _ _ _ _ (by decide)]; exact hU.2.2 j hj
      · have q := (hU.1 x k h1).trans (congrFun (fdM_fn g a b c d e h2) k)
        by_cases z : x = 177
        · subst z; rw [gup_k _ _ _ _ (fun z2 => h3 ⟨rfl, z2⟩)]; exact q
        · rw [gup_a _ _ _ _ _ z]; exact q
    · refine gw_aload_n (gc k_Model_feed_0 38 rfl) rfl rfl ?_
      refine gw_getref (gc k_Model_feed_0 39 rfl) fl_Model_45 (gAt hx rfl rfl) (gRf hf rfl rfl) ?_
      refine gw_aload_n (gc k_Model_feed_1 0 rfl) rfl rfl ?_
      refine gw_getf 13 rfl (gc k_Model_feed_1 1 rfl) fl_Model_154 (gAt hx rfl rfl) ?_
      rw [e13]
      refine gw_iload (gc k_Model_feed_1 2 rfl) rfl ?_
      refine gw_iadd (gc k_Model_feed_1 3 rfl) ?_
      refine gw_aload_n (gc k_Model_feed_1 4 rfl) rfl rfl ?_
      refine gw_getref (gc k_Model_feed_1 5 rfl) fl_Model_48 (gAt hx rfl rfl) (gRf hf rfl rfl) ?_
      refine gw_iload (gc k_Model_feed_1 6 rfl) rfl ?_
      refine gw_iconst (gc k_Model_feed_1 7 rfl) ?_
      refine gw_idivN (gc k_Model_feed_1 8 rfl) (by omega) ?_
      refine gw_iald (gc k_Model_feed_1 9 rfl) (gAt hx rfl rfl) (by omega) ?_
      refine gw_bipush (gc k_Model_feed_1 10 rfl) (by decide) ?_
      refine gw_bipush (gc k_Model_feed_1 11 rfl) (by decide) ?_
      refine gw_iload (gc k_Model_feed_1 12 rfl) rfl ?_
      refine gw_iconst (gc k_Model_feed_1 13 rfl) ?_
      refine gw_iremN (gc k_Model_feed_1 14 rfl) (by omega) ?_
      refine gw_imul (gc k_Model_feed_1 15 rfl) ?_
      refine gw_isub (gc k_Model_feed_1 16 rfl) ?_
      refine gw_ishr (gc k_Model_feed_1 17 rfl) ?_
      refine gw_i2b (gc k_Model_feed_1 18 rfl) ?_
      refine gw_bastF (gc k_Model_feed_1 19 rfl) (gAt hx rfl rfl) (by omega) (gi2b_bd _) hf rfl (fun hf => ?_)
      refine gw_iinc_6 (gc k_Model_feed_1 20 rfl) rfl rfl ?_
      refine gw_goto (tgt := 55) (gc k_Model_feed_1 21 rfl) rfl ?_
      refine ih (i + 1, gup g1 184 (g 177 13 + i) (gi2b (gshr (g1 185 (i / 4)) (24 - 8 * (i % 4))))) (show (0 ≤ (i + 1) ∧ (i + 1) ≤ 20) ∧ fdUp g a b c d e (i + 1) (gup g1 184 (g 177 13 + i) (gi2b (gshr (g1 185 (i / 4)) (24 - 8 * (i % 4))))) from ⟨by omega, hU.step (by omega) (by rw [hU.1 _ _ (by decide), fdM_at _ _ _ _ _ _ _ (by omega)]; rfl)⟩) (show (20 - (i + 1)).toNat < (20 - i).toNat from by omega)
  · refine gw_iconst (gc k_Model_feed_0 6 rfl) ?_
    refine gw_ireturn (gc k_Model_feed_0 7 rfl) rfl ?_
    exact ⟨rfl, Or.inl ⟨by omega, rfl, rfl⟩⟩
set_option maxHeartbeats 1000000 in
theorem c_Model_row {sh : gS} {g : gM} (hx : gFix sh) (hf : gFin g) (ho : rowOK (g 179)) (ht : tapeOK g) : gTri f_Model_row 2 0 0 [(2, 177)] sh g (fun r s2 g2 => s2 = sh ∧ ((g 177 13 = 0 ∧ r = some (0, -6) ∧ g2 = refM (gup g 177 13 0) (-6)) ∨ (¬ g 177 13 = 0 ∧ r = some (0, (rwR g).2.1) ∧ g2 = setM (rwM g (rwR g).1 (rwR g).2.2)))) := by
  have ht1 := ht.1
  have hf0 := hf
  refine gTri.of (by decide +kernel) rfl ?_
  show gWP f_Model_row _ _ _ 0 [(2, 177), (9, 0), (9, 0), (9, 0), (9, 0)] [] sh g _
  refine gw_aload_n (gc k_Model_row_0 0 rfl) rfl rfl ?_
  refine gw_getf 13 rfl (gc k_Model_row_0 1 rfl) fl_Model_154 (gAt hx rfl rfl) ?_
  refine gw_istore_1 (gc k_Model_row_0 2 rfl) rfl rfl ?_
  refine gw_aload_n (gc k_Model_row_0 3 rfl) rfl rfl ?_
  refine gw_iconst (gc k_Model_row_0 4 rfl) ?_
  refine gw_putIK 13 rfl (gc k_Model_row_0 5 rfl) fl_Model_154 (gAt hx rfl rfl) hf rfl (fun hf => ?_)
  refine gw_iload_n (gc k_Model_row_0 6 rfl) rfl ?_
  refine gw_if_ne (tgt := 21) (gc k_Model_row_0 7 rfl) rfl (by omega) (fun c11 => ?_) (fun c11 => ?_)
  · refine gw_iconst (gc k_Model_row_0 12 rfl) ?_
    refine gw_istore_2 (gc k_Model_row_0 13 rfl) rfl rfl ?_
    refine gw_aload_n (gc k_Model_row_0 14 rfl) rfl rfl ?_
    refine gw_join0 35 (fun v => v = g 177 13 % 2) (fun v24 hv24 => ?_) (fun kj24 => ?_)
    · subst hv24
      refine gw_putIK 6 rfl (gc k_Model_row_0 22 rfl) fl_Model_157 (gAt hx rfl rfl) hf rfl (fun hf => ?_)
      rw [show gup (gup g 177 13 0) 177 6 (g 177 13 % 2) = rwM g (g 179) (g 177 13 % 2) from congrArg (fun M => gup M 177 6 (g 177 13 % 2)) (congrArg (fun M => gup M 177 13 0) (gfr_id _ _ _ (fun _ => rfl)).symm)]
      refine gw_iconst (gc k_Model_row_0 23 rfl) ?_
      refine gw_istore_3 (gc k_Model_row_0 24 rfl) rfl rfl ?_
      refine gwloop (σ := Nat × Int × Int × Int × (Int → Int) × gV) (fun zs => (0 ≤ (zs.2.1) ∧ 0 ≤ (zs.2.2.1) ∧ (zs.2.2.1) ≤ (zs.2.1) ∧ 0 ≤ (zs.2.2.2.1) ∧ (zs.2.2.2.1) ≤ (zs.2.1) + 1) ∧ (zs.2.1) + 2 * (zs.1) + g 177 13 % 2 = g 177 13 ∧ rowOK (zs.2.2.2.2.1) ∧ rwF (g 184) (zs.1) (zs.2.1) (zs.2.2.2.2.1) (zs.2.2.1) (zs.2.2.2.1) = rwR g) (fun zs => (zs.1)) (fun zs => [(2, 177), (0, g 177 13), (0, (zs.2.2.1)), (0, (zs.2.1)), (zs.2.2.2.2.2)]) (fun zs => rwM g (zs.2.2.2.2.1) (zs.2.2.2.1)) ((g 177 13 / 2).toNat, 0, 0, g 177 13 % 2, g 179, (9, 0)) (show (0 ≤ (0 : Int) ∧ 0 ≤ (0 : Int) ∧ (0 : Int) ≤ (0 : Int) ∧ 0 ≤ (g 177 13 % 2) ∧ (g 177 13 % 2) ≤ (0 : Int) + 1) ∧ (0 : Int) + 2 * ((g 177 13 / 2).toNat) + g 177 13 % 2 = g 177 13 ∧ rowOK (g 179) ∧ rwF (g 184) ((g 177 13 / 2).toNat) (0 : Int) (g 179) (0 : Int) (g 177 13 % 2) = rwR g from ⟨by omega, by omega, ho, rfl⟩) rfl rfl (fun zs hI ih => ?_)
      obtain ⟨m, t, n, w, ρ, x4⟩ := zs
      replace hI : (0 ≤ t ∧ 0 ≤ n ∧ n ≤ t ∧ 0 ≤ w ∧ w ≤ t + 1) ∧ t + 2 * m + g 177 13 % 2 = g 177 13 ∧ rowOK ρ ∧ rwF (g 184) m t ρ n w = rwR g := hI
      obtain ⟨hb1, hb2, ho1, hV⟩ := hI
      show gWP _ _ _ _ _ [(2, 177), (0, g 177 13), (0, n), (0, t), x4] [] _ (rwM g ρ w) _
      have hf := hf0.rw ρ w
      have hm1 := ro_many ho1
      refine gw_iload_n (gc k_Model_row_0 25 rfl) rfl ?_
      refine gw_iconst (gc k_Model_row_0 26 rfl) ?_
      refine gw_iadd (gc k_Model_row_0 27 rfl) ?_
      refine gw_iload_n (gc k_Model_row_0 28 rfl) rfl ?_
      refine gw_icmp_gt (tgt := 150) (gc k_Model_row_0 29 rfl) rfl (by omega) (fun c44 => ?_) (fun c44 => ?_)
      · refine gw_aload_n (gc k_Model_row_2 6 rfl) rfl rfl ?_
        refine gw_iload_n (gc k_Model_row_2 7 rfl) rfl ?_
        refine gw_cV1 (gc k_Model_row_2 8 rfl) y_Model_settled ln_Model_109 (c_Model_settled hx hf _) rfl rfl (gAt hx rfl rfl) rfl rfl ?_
        refine gw_ireturn (gc k_Model_row_2 9 rfl) rfl ?_
        obtain rfl : m = 0 := by omega
        refine ⟨rfl, Or.inr ⟨by omega, ?_, ?_⟩⟩
        · rw [← hV]; rfl
        · rw [← hV]; rfl
      · refine gw_join0 87 (fun v => v = bi (ρ 41 < 12 ∧ (0 ≤ g 184 t ∧ g 184 t ≤ 24) ∧ 0 ≤ g 184 (t + 1) ∧ g 184 (t + 1) ≤ 24)) (fun v47 hv47 => ?_) (fun kj47 => ?_)
        · subst hv47
          obtain ⟨m, rfl⟩ : ∃ q, m = q + 1 := ⟨m - 1, by omega⟩
          have hB := ht.2 t (by omega) (by omega)
          have hB1 := ht.2 (t + 1) (by omega) (by omega)
          refine gw_istore_4 (gc k_Model_row_1 11 rfl) rfl rfl ?_
          refine gw_iload (gc k_Model_row_1 12 rfl) rfl ?_
          refine gw_beq (tgt := 112) (gc k_Model_row_1 13 rfl) rfl (fun c91 => ?_) (fun c91 => ?_)
          · rw [bi_0 c91]
            refine gw_iload_n (gc k_Model_row_1 26 rfl) rfl ?_
            refine gw_iload (gc k_Model_row_1 27 rfl) rfl ?_
            refine gw_if_eq (tgt := 122) (gc k_Model_row_1 28 rfl) rfl (by omega) (fun c115 => ?_) (fun c115 => ?_)
            · refine gw_iconst (gc k_Model_row_1 31 rfl) ?_
              refine gw_iadd (gc k_Model_row_1 32 rfl) ?_
              refine gw_istore_2 (gc k_Model_row_1 33 rfl) rfl rfl ?_
              refine gw_aload_n (gc k_Model_row_1 34 rfl) rfl rfl ?_
              refine gw_dup (gc k_Model_row_1 35 rfl) rfl ?_
              refine gw_getf 6 rfl (gc k_Model_row_1 36 rfl) fl_Model_157 (gAt hx rfl rfl) ?_
              rw [rwM_6]
              refine gw_iload (gc k_Model_row_1 37 rfl) rfl ?_
              refine gw_if_eq (tgt := 139) (gc k_Model_row_1 38 rfl) rfl (by omega) (fun c132 => ?_) (fun c132 => ?_)
              · refine gw_iconst (gc k_Model_row_2 1 rfl) ?_
                refine gw_iadd (gc k_Model_row_2 2 rfl) ?_
                refine gw_putIK 6 rfl (gc k_Model_row_2 3 rfl) fl_Model_157 (gAt hx rfl rfl) hf rfl (fun hf => ?_)
                rw [rwM_bl]
                refine gw_iinc_3 (gc k_Model_row_2 4 rfl) rfl rfl ?_
                refine gw_goto (tgt := 40) (gc k_Model_row_2 5 rfl) rfl ?_
                exact ih (m, t + 2, n + 0, w + 1, ρ, (0, 0)) (show (0 ≤ (t + 2) ∧ 0 ≤ (n + 0) ∧ (n + 0) ≤ (t + 2) ∧ 0 ≤ (w + 1) ∧ (w + 1) ≤ (t + 2) + 1) ∧ (t + 2) + 2 * m + g 177 13 % 2 = g 177 13 ∧ rowOK ρ ∧ rwF (g 184) m (t + 2) ρ (n + 0) (w + 1) = rwR g from ⟨by omega, by omega, ho1, by rw [← hV, Int.add_zero]; exact (if_neg c91).symm⟩) (show m < m + 1 from by omega)
              · exact absurd rfl c132
            · exact absurd rfl c115
          · rw [bi_1 c91]
            refine gw_aload_n (gc k_Model_row_1 14 rfl) rfl rfl ?_
            refine gw_aload_n (gc k_Model_row_1 15 rfl) rfl rfl ?_
            refine gw_getref (gc k_Model_row_1 16 rfl) fl_Model_45 (gAt hx rfl rfl) (gRf hf rfl rfl) ?_
            refine gw_iload_n (gc k_Model_row_1 17 rfl) rfl ?_
            refine gw_bald (gc k_Model_row_1 18 rfl) (gAt hx rfl rfl) (by omega) ?_
            rw [rwM_fn _ _ _ (by decide) (by decide)]
            refine gw_aload_n (gc k_Model_row_1 19 rfl) rfl rfl ?_
            refine gw_getref (gc k_Model_row_1 20 rfl) fl_Model_45 (gAt hx rfl rfl) (gRf hf rfl rfl) ?_
            refine gw_iload_n (gc k_Model_row_1 21 rfl) rfl ?_
            refine gw_iconst (gc k_Model_row_1 22 rfl) ?_
            refine gw_iadd (gc k_Model_row_1 23 rfl) ?_
            refine gw_bald (gc k_Model_row_1 24 rfl) (gAt hx rfl rfl) (by omega) ?_
            rw [rwM_fn _ _ _ (by decide) (by decide)]
            refine gw_cV0 (gc k_Model_row_1 25 rfl) y_Model_adds ln_Model_120 (c_Model_adds hx hf _ _ (by rw [rwM_179]; omega)) rfl rfl (gAt hx rfl rfl) rfl rfl ?_
            show gWP _ _ _ _ 112 _ _ _ (addM (rwM g ρ w) (g 184 t) (g 184 (t + 1))) _
            rw [rwM_add _ (by omega)]
            have hf := hf0.rw (rAdd ρ (g 184 t) (g 184 (t + 1))) w
            refine gw_iload_n (gc k_Model_row_1 26 rfl) rfl ?_
            refine gw_iload (gc k_Model_row_1 27 rfl) rfl ?_
            refine gw_if_eq (tgt := 122) (gc k_Model_row_1 28 rfl) rfl (by omega) (fun c115 => ?_) (fun c115 => ?_)
            · exact absurd c115 (by decide)
            · refine gw_iconst (gc k_Model_row_1 29 rfl) ?_
              refine gw_goto (tgt := 123) (gc k_Model_row_1 30 rfl) rfl ?_
              refine gw_iadd (gc k_Model_row_1 32 rfl) ?_
              refine gw_istore_2 (gc k_Model_row_1 33 rfl) rfl rfl ?_
              refine gw_aload_n (gc k_Model_row_1 34 rfl) rfl rfl ?_
              refine gw_dup (gc k_Model_row_1 35 rfl) rfl ?_
              refine gw_getf 6 rfl (gc k_Model_row_1 36 rfl) fl_Model_157 (gAt hx rfl rfl) ?_
              rw [rwM_6]
              refine gw_iload (gc k_Model_row_1 37 rfl) rfl ?_
              refine gw_if_eq (tgt := 139) (gc k_Model_row_1 38 rfl) rfl (by omega) (fun c132 => ?_) (fun c132 => ?_)
              · exact absurd c132 (by decide)
              · refine gw_iconst (gc k_Model_row_1 39 rfl) ?_
                refine gw_goto (tgt := 140) (gc k_Model_row_2 0 rfl) rfl ?_
                refine gw_iadd (gc k_Model_row_2 2 rfl) ?_
                refine gw_putIK 6 rfl (gc k_Model_row_2 3 rfl) fl_Model_157 (gAt hx rfl rfl) hf rfl (fun hf => ?_)
                rw [rwM_bl]
                refine gw_iinc_3 (gc k_Model_row_2 4 rfl) rfl rfl ?_
                refine gw_goto (tgt := 40) (gc k_Model_row_2 5 rfl) rfl ?_
                exact ih (m, t + 2, n + 1, w + 0, rAdd ρ (g 184 t) (g 184 (t + 1)), (0, 1)) (show (0 ≤ (t + 2) ∧ 0 ≤ (n + 1) ∧ (n + 1) ≤ (t + 2) ∧ 0 ≤ (w + 0) ∧ (w + 0) ≤ (t + 2) + 1) ∧ (t + 2) + 2 * m + g 177 13 % 2 = g 177 13 ∧ rowOK (rAdd ρ (g 184 t) (g 184 (t + 1))) ∧ rwF (g 184) m (t + 2) (rAdd ρ (g 184 t) (g 184 (t + 1))) (n + 1) (w + 0) = rwR g from ⟨by omega, by omega, rAdd_ok ho1 c91.1 c91.2.1 c91.2.2, by rw [← hV, Int.add_zero]; exact (if_pos c91).symm⟩) (show m < m + 1 from by omega)
        · have hB := ht.2 t (by omega) (by omega)
          have hB1 := ht.2 (t + 1) (by omega) (by omega)
          refine gw_aload_n (gc k_Model_row_0 30 rfl) rfl rfl ?_
          refine gw_cV1 (gc k_Model_row_0 31 rfl) y_Model_noteMany ln_Model_112 (c_Model_noteMany hx hf) rfl rfl (gAt hx rfl rfl) rfl rfl ?_
          rw [rwM_179]
          refine gw_bipush (gc k_Model_row_0 32 rfl) (by decide) ?_
          refine gw_icmp_ge (tgt := 86) (gc k_Model_row_0 33 rfl) rfl (by omega) (fun c53 => ?_) (fun c53 => ?_)
          · refine gw_iconst (gc k_Model_row_1 10 rfl) ?_
            exact kj47 _ (by first | exact (bi_1 (by omega)).symm | exact (bi_0 (by omega)).symm)
          · refine gw_aload_n (gc k_Model_row_0 34 rfl) rfl rfl ?_
            refine gw_getref (gc k_Model_row_0 35 rfl) fl_Model_45 (gAt hx rfl rfl) (gRf hf rfl rfl) ?_
            refine gw_iload_n (gc k_Model_row_0 36 rfl) rfl ?_
            refine gw_bald (gc k_Model_row_0 37 rfl) (gAt hx rfl rfl) (by omega) ?_
            rw [rwM_fn _ _ _ (by decide) (by decide)]
            refine gw_cS1 (gc k_Model_row_0 38 rfl) y_Model_isPitch ln_Model_116 (c_Model_isPitch _ (by omega)) rfl rfl rfl rfl ?_
            refine gw_beq (tgt := 86) (gc k_Model_row_0 39 rfl) rfl (fun c65 => ?_) (fun c65 => ?_)
            · refine gw_iconst (gc k_Model_row_1 10 rfl) ?_
              exact kj47 _ (by first | exact (bi_1 (by omega)).symm | exact (bi_0 (by omega)).symm)
            · refine gw_aload_n (gc k_Model_row_1 0 rfl) rfl rfl ?_
              refine gw_getref (gc k_Model_row_1 1 rfl) fl_Model_45 (gAt hx rfl rfl) (gRf hf rfl rfl) ?_
              refine gw_iload_n (gc k_Model_row_1 2 rfl) rfl ?_
              refine gw_iconst (gc k_Model_row_1 3 rfl) ?_
              refine gw_iadd (gc k_Model_row_1 4 rfl) ?_
              refine gw_bald (gc k_Model_row_1 5 rfl) (gAt hx rfl rfl) (by omega) ?_
              rw [rwM_fn _ _ _ (by decide) (by decide)]
              refine gw_cS1 (gc k_Model_row_1 6 rfl) y_Model_isPitch ln_Model_116 (c_Model_isPitch _ (by omega)) rfl rfl rfl rfl ?_
              refine gw_beq (tgt := 86) (gc k_Model_row_1 7 rfl) rfl (fun c79 => ?_) (fun c79 => ?_)
              · refine gw_iconst (gc k_Model_row_1 10 rfl) ?_
                exact kj47 _ (by first | exact (bi_1 (by omega)).symm | exact (bi_0 (by omega)).symm)
              · refine gw_iconst (gc k_Model_row_1 8 rfl) ?_
                refine gw_goto (tgt := 87) (gc k_Model_row_1 9 rfl) rfl ?_
                exact kj47 _ (by first | exact (bi_1 (by omega)).symm | exact (bi_0 (by omega)).symm)
    · refine gw_iload_n (gc k_Model_row_0 15 rfl) rfl ?_
      refine gw_iconst (gc k_Model_row_0 16 rfl) ?_
      refine gw_iremN (gc k_Model_row_0 17 rfl) (by omega) ?_
      refine gw_if_ne (tgt := 34) (gc k_Model_row_0 18 rfl) rfl (by omega) (fun c27 => ?_) (fun c27 => ?_)
      · refine gw_iconst (gc k_Model_row_0 21 rfl) ?_
        exact kj24 _ (by omega)
      · refine gw_iconst (gc k_Model_row_0 19 rfl) ?_
        refine gw_goto (tgt := 35) (gc k_Model_row_0 20 rfl) rfl ?_
        exact kj24 _ (by omega)
  · refine gw_aload_n (gc k_Model_row_0 8 rfl) rfl rfl ?_
    refine gw_bipush (gc k_Model_row_0 9 rfl) (by decide) ?_
    refine gw_cV1 (gc k_Model_row_0 10 rfl) y_Model_refuses ln_Model_106 (c_refuses hx hf (-6) (by omega)) rfl rfl (gAt hx rfl rfl) rfl rfl ?_
    refine gw_ireturn (gc k_Model_row_0 11 rfl) rfl ?_
    exact ⟨rfl, Or.inl ⟨by omega, rfl, rfl⟩⟩
