/-! ===== the class: a board copied, the tape, the trail ===== -/
def lenJ (j : Int) : Int := if j ≤ 2 then 12 else if j = 3 then 5 else 6
def cpS (g : gM) (o p k : Int) (M : gM) : Prop := (∀ a y, ¬ (o ≤ a ∧ a ≤ o + k) → M a y = g a y) ∧ (∀ j y, 1 ≤ j → j ≤ k → 0 ≤ y → y < lenJ j → M (o + j) y = g (p + j) y) ∧ (M o 0 = g p 0 ∧ M o 4 = g p 4 ∧ M o 7 = g p 7 ∧ M o 9 = g p 9) ∧ ∀ y, ¬ (y = 0 ∨ y = 4 ∨ y = 7 ∨ y = 9) → M o y = g o y
theorem isBd.apart {o p : Int} (h : isBd o) (h2 : isBd p) (hne : o ≠ p) : o + 6 < p ∨ p + 6 < o := by unfold isBd at h h2; omega
theorem cpS.step {g M : gM} {o p k : Int} (hap : o + 6 < p ∨ p + 6 < o) (hk : 0 ≤ k ∧ k ≤ 5) (h : cpS g o p k M) {n : Int} (hn : n = lenJ (k + 1)) {f : Int → Int} (hf : ∀ y, 0 ≤ y → y < n → f y = M (p + (k + 1)) y) : cpS g o p (k + 1) (gfr M (o + (k + 1)) f) := by
  refine ⟨fun a y ha => ?_, fun j y j1 j2 y0 y1 => ?_, ?_, fun y hy => ?_⟩
  · rw [gfr_a _ _ _ _ (by omega)]; exact h.1 a y (by omega)
  · by_cases z : j = k + 1
    · subst z
      rw [gfr_s, hf y y0 (by omega)]; exact h.1 _ _ (by omega)
    · rw [gfr_a _ _ _ _ (by omega)]; exact h.2.1 j y j1 (by omega) y0 y1
  · rw [gfr_a _ _ _ _ (by omega), gfr_a _ _ _ _ (by omega), gfr_a _ _ _ _ (by omega), gfr_a _ _ _ _ (by omega)]; exact h.2.2.1
  · rw [gfr_a _ _ _ _ (by omega)]; exact h.2.2.2 y hy
theorem cpS.zero (g : gM) {o p : Int} (hne : o ≠ p) : cpS g o p 0 (gup (gup (gup (gup g o 0 (g p 0)) o 4 (g p 4)) o 7 (g p 7)) o 9 (g p 9)) := by
  refine ⟨fun a y ha => ?_, fun j y j1 j2 => by omega, ⟨?_, ?_, ?_, ?_⟩, fun y hy => ?_⟩
  · rw [gup_a _ _ _ _ _ (by omega), gup_a _ _ _ _ _ (by omega), gup_a _ _ _ _ _ (by omega), gup_a _ _ _ _ _ (by omega)]
  · rw [gup_k _ _ _ _ (by decide), gup_k _ _ _ _ (by decide), gup_k _ _ _ _ (by decide), gup_s]
  · rw [gup_k _ _ _ _ (by decide), gup_k _ _ _ _ (by decide), gup_s]
  · rw [gup_k _ _ _ _ (by decide), gup_s]
  · rw [gup_s]
  · rw [gup_k _ _ _ _ (by omega), gup_k _ _ _ _ (by omega), gup_k _ _ _ _ (by omega), gup_k _ _ _ _ (by omega)]
theorem cpS.bd {g M : gM} {r : Int → Int} {o p : Int} (hr : rowOK r) (h : cpS g o p 6 M) (hb : bdR r g p) : bdR r M o := by
  obtain ⟨h1, h2, h3, h4, h5, h6, h7⟩ := hb
  have hm := ro_many hr
  have hh := ro_heardN hr
  obtain ⟨-, c1, ⟨c2, c3, c4, c5⟩, -⟩ := h
  refine ⟨c2.trans h1, c3.trans h2, c4.trans h3, c5.trans h4, fun i a b => ?_, ⟨?_, ?_, ?_, ?_, ?_⟩, fun k a b => ?_⟩
  · rw [c1 1 i (by decide) (by decide) a (by unfold lenJ; omega), c1 2 i (by decide) (by decide) a (by unfold lenJ; omega)]; exact h5 i a b
  · rw [c1 3 0 (by decide) (by decide) (by decide) (by decide)]; exact h6.1
  · rw [c1 3 1 (by decide) (by decide) (by decide) (by decide)]; exact h6.2.1
  · rw [c1 3 2 (by decide) (by decide) (by decide) (by decide)]; exact h6.2.2.1
  · rw [c1 3 3 (by decide) (by decide) (by decide) (by decide)]; exact h6.2.2.2.1
  · rw [c1 3 4 (by decide) (by decide) (by decide) (by decide)]; exact h6.2.2.2.2
  · rw [c1 4 k (by decide) (by decide) a (by unfold lenJ; omega), c1 5 k (by decide) (by decide) a (by unfold lenJ; omega)]; exact h7 k a b
theorem cpS.tx {sh : gS} {g M : gM} {o p : Int} (h : cpS g o p 6 M) (hT : bdT sh g p) : bdT sh M o := fun i a b => by
  rw [h.2.1 6 i (by decide) (by decide) a (by unfold lenJ; omega)]; exact hT i a b
theorem cpS.fin {g M : gM} {o p k : Int} (hb : isBd o) (hk : 0 ≤ k ∧ k ≤ 6) (h : cpS g o p k M) (hf : gFin g) : gFin M := hf.of fun a y z => by
  by_cases q : o ≤ (a : Int) ∧ (a : Int) ≤ o + k
  · by_cases q1 : (a : Int) = o
    · by_cases q2 : y = 0 ∨ y = 4 ∨ y = 7 ∨ y = 9
      · exact absurd (bn hb (a := (a : Int)) (Or.inl ⟨q1, q2⟩)) z
      · rw [q1]; exact h.2.2.2 _ (by omega)
    · exact absurd (bn hb (a := (a : Int)) (k := y) (Or.inr (by omega))) z
  · exact h.1 _ _ q
/-! the trail: the latest last -/
def tkM (g : gM) (four : Int) : Nat → gM
  | 0 => g
  | m + 1 => gup (gup (tkM g four m) 150 (g 149 1 + m) (gand (gshr four (24 - 8 * m)) 255)) 149 1 (g 149 1 + m + 1)
set_option maxHeartbeats 4000000 in
theorem c_Board_copyFrom {sh : gS} {g : gM} (hx : gFix sh) (hf : gFin g) {o p : Int} (hb : isBd o) (hb2 : isBd p) (hne : o ≠ p) (hT : bdT sh g p) : gTri f_Board_copyFrom 3 0 0 [(2, o), (2, p)] sh g (fun x s2 g2 => x = none ∧ s2 = sh ∧ cpS g o p 6 g2) := by
  have hf0 := hf
  have hap := hb.apart hb2 hne
  refine gTri.of (by decide +kernel) rfl ?_
  show gWP f_Board_copyFrom _ _ _ 0 [(2, o), (2, p), (9, 0)] [] sh g _
  refine gw_aload_n (gc k_Board_copyFrom_0 0 rfl) rfl rfl ?_
  refine gw_aload_n (gc k_Board_copyFrom_0 1 rfl) rfl rfl ?_
  refine gw_getf 0 rfl (gc k_Board_copyFrom_0 2 rfl) fl_Board_37 (by first | exact gAt hx rfl rfl | exact (bs hx hb).1 | exact (bs hx hb).2.1 | exact (bs hx hb).2.2.1 | exact (bs hx hb).2.2.2.1 | exact (bs hx hb).2.2.2.2.1 | exact (bs hx hb).2.2.2.2.2.1 | exact (bs hx hb).2.2.2.2.2.2 | exact (bs hx hb2).1 | exact (bs hx hb2).2.1 | exact (bs hx hb2).2.2.1 | exact (bs hx hb2).2.2.2.1 | exact (bs hx hb2).2.2.2.2.1 | exact (bs hx hb2).2.2.2.2.2.1 | exact (bs hx hb2).2.2.2.2.2.2) ?_
  refine gw_putIK 0 rfl (gc k_Board_copyFrom_0 3 rfl) fl_Board_37 (by first | exact gAt hx rfl rfl | exact (bs hx hb).1 | exact (bs hx hb).2.1 | exact (bs hx hb).2.2.1 | exact (bs hx hb).2.2.2.1 | exact (bs hx hb).2.2.2.2.1 | exact (bs hx hb).2.2.2.2.2.1 | exact (bs hx hb).2.2.2.2.2.2 | exact (bs hx hb2).1 | exact (bs hx hb2).2.1 | exact (bs hx hb2).2.2.1 | exact (bs hx hb2).2.2.2.1 | exact (bs hx hb2).2.2.2.2.1 | exact (bs hx hb2).2.2.2.2.2.1 | exact (bs hx hb2).2.2.2.2.2.2) hf (by first | rfl | exact bn hb (Or.inl ⟨rfl, by decide⟩) | exact bn hb (Or.inr (by omega))) (fun hf => ?_)
  refine gw_aload_n (gc k_Board_copyFrom_0 4 rfl) rfl rfl ?_
  refine gw_aload_n (gc k_Board_copyFrom_0 5 rfl) rfl rfl ?_
  refine gw_getf 4 rfl (gc k_Board_copyFrom_0 6 rfl) fl_Board_40 (by first | exact gAt hx rfl rfl | exact (bs hx hb).1 | exact (bs hx hb).2.1 | exact (bs hx hb).2.2.1 | exact (bs hx hb).2.2.2.1 | exact (bs hx hb).2.2.2.2.1 | exact (bs hx hb).2.2.2.2.2.1 | exact (bs hx hb).2.2.2.2.2.2 | exact (bs hx hb2).1 | exact (bs hx hb2).2.1 | exact (bs hx hb2).2.2.1 | exact (bs hx hb2).2.2.2.1 | exact (bs hx hb2).2.2.2.2.1 | exact (bs hx hb2).2.2.2.2.2.1 | exact (bs hx hb2).2.2.2.2.2.2) ?_
  rw [gup_a _ _ _ _ _ (Ne.symm hne)]
  refine gw_putIK 4 rfl (gc k_Board_copyFrom_0 7 rfl) fl_Board_40 (by first | exact gAt hx rfl rfl | exact (bs hx hb).1 | exact (bs hx hb).2.1 | exact (bs hx hb).2.2.1 | exact (bs hx hb).2.2.2.1 | exact (bs hx hb).2.2.2.2.1 | exact (bs hx hb).2.2.2.2.2.1 | exact (bs hx hb).2.2.2.2.2.2 | exact (bs hx hb2).1 | exact (bs hx hb2).2.1 | exact (bs hx hb2).2.2.1 | exact (bs hx hb2).2.2.2.1 | exact (bs hx hb2).2.2.2.2.1 | exact (bs hx hb2).2.2.2.2.2.1 | exact (bs hx hb2).2.2.2.2.2.2) hf (by first | rfl | exact bn hb (Or.inl ⟨rfl, by decide⟩) | exact bn hb (Or.inr (by omega))) (fun hf => ?_)
  refine gw_aload_n (gc k_Board_copyFrom_0 8 rfl) rfl rfl ?_
  refine gw_aload_n (gc k_Board_copyFrom_0 9 rfl) rfl rfl ?_
  refine gw_getf 7 rfl (gc k_Board_copyFrom_0 10 rfl) fl_Board_43 (by first | exact gAt hx rfl rfl | exact (bs hx hb).1 | exact (bs hx hb).2.1 | exact (bs hx hb).2.2.1 | exact (bs hx hb).2.2.2.1 | exact (bs hx hb).2.2.2.2.1 | exact (bs hx hb).2.2.2.2.2.1 | exact (bs hx hb).2.2.2.2.2.2 | exact (bs hx hb2).1 | exact (bs hx hb2).2.1 | exact (bs hx hb2).2.2.1 | exact (bs hx hb2).2.2.2.1 | exact (bs hx hb2).2.2.2.2.1 | exact (bs hx hb2).2.2.2.2.2.1 | exact (bs hx hb2).2.2.2.2.2.2) ?_
  rw [gup_a _ _ _ _ _ (Ne.symm hne), gup_a _ _ _ _ _ (Ne.symm hne)]
  refine gw_putIK 7 rfl (gc k_Board_copyFrom_0 11 rfl) fl_Board_43 (by first | exact gAt hx rfl rfl | exact (bs hx hb).1 | exact (bs hx hb).2.1 | exact (bs hx hb).2.2.1 | exact (bs hx hb).2.2.2.1 | exact (bs hx hb).2.2.2.2.1 | exact (bs hx hb).2.2.2.2.2.1 | exact (bs hx hb).2.2.2.2.2.2 | exact (bs hx hb2).1 | exact (bs hx hb2).2.1 | exact (bs hx hb2).2.2.1 | exact (bs hx hb2).2.2.2.1 | exact (bs hx hb2).2.2.2.2.1 | exact (bs hx hb2).2.2.2.2.2.1 | exact (bs hx hb2).2.2.2.2.2.2) hf (by first | rfl | exact bn hb (Or.inl ⟨rfl, by decide⟩) | exact bn hb (Or.inr (by omega))) (fun hf => ?_)
  refine gw_aload_n (gc k_Board_copyFrom_0 12 rfl) rfl rfl ?_
  refine gw_aload_n (gc k_Board_copyFrom_0 13 rfl) rfl rfl ?_
  refine gw_getf 9 rfl (gc k_Board_copyFrom_0 14 rfl) fl_Board_33 (by first | exact gAt hx rfl rfl | exact (bs hx hb).1 | exact (bs hx hb).2.1 | exact (bs hx hb).2.2.1 | exact (bs hx hb).2.2.2.1 | exact (bs hx hb).2.2.2.2.1 | exact (bs hx hb).2.2.2.2.2.1 | exact (bs hx hb).2.2.2.2.2.2 | exact (bs hx hb2).1 | exact (bs hx hb2).2.1 | exact (bs hx hb2).2.2.1 | exact (bs hx hb2).2.2.2.1 | exact (bs hx hb2).2.2.2.2.1 | exact (bs hx hb2).2.2.2.2.2.1 | exact (bs hx hb2).2.2.2.2.2.2) ?_
  rw [gup_a _ _ _ _ _ (Ne.symm hne), gup_a _ _ _ _ _ (Ne.symm hne), gup_a _ _ _ _ _ (Ne.symm hne)]
  refine gw_putIK 9 rfl (gc k_Board_copyFrom_0 15 rfl) fl_Board_33 (by first | exact gAt hx rfl rfl | exact (bs hx hb).1 | exact (bs hx hb).2.1 | exact (bs hx hb).2.2.1 | exact (bs hx hb).2.2.2.1 | exact (bs hx hb).2.2.2.2.1 | exact (bs hx hb).2.2.2.2.2.1 | exact (bs hx hb).2.2.2.2.2.2 | exact (bs hx hb2).1 | exact (bs hx hb2).2.1 | exact (bs hx hb2).2.2.1 | exact (bs hx hb2).2.2.2.1 | exact (bs hx hb2).2.2.2.2.1 | exact (bs hx hb2).2.2.2.2.2.1 | exact (bs hx hb2).2.2.2.2.2.2) hf (by first | rfl | exact bn hb (Or.inl ⟨rfl, by decide⟩) | exact bn hb (Or.inr (by omega))) (fun hf => ?_)
  have hS0 := cpS.zero g hne
  obtain ⟨M0, hM0⟩ : ∃ M, M = gup (gup (gup (gup g o 0 (g p 0)) o 4 (g p 4)) o 7 (g p 7)) o 9 (g p 9) := ⟨_, rfl⟩
  rw [← hM0] at hS0 ⊢
  have hf := hS0.fin hb (by omega) hf0
  refine gw_aload_n (gc k_Board_copyFrom_0 16 rfl) rfl rfl ?_
  refine gw_getref (gc k_Board_copyFrom_0 17 rfl) fl_Board_9 (by first | exact gAt hx rfl rfl | exact (bs hx hb).1 | exact (bs hx hb).2.1 | exact (bs hx hb).2.2.1 | exact (bs hx hb).2.2.2.1 | exact (bs hx hb).2.2.2.2.1 | exact (bs hx hb).2.2.2.2.2.1 | exact (bs hx hb).2.2.2.2.2.2 | exact (bs hx hb2).1 | exact (bs hx hb2).2.1 | exact (bs hx hb2).2.2.1 | exact (bs hx hb2).2.2.2.1 | exact (bs hx hb2).2.2.2.2.1 | exact (bs hx hb2).2.2.2.2.2.1 | exact (bs hx hb2).2.2.2.2.2.2) (by first | exact gRf hf rfl rfl | exact (br hf hb).1 | exact (br hf hb).2.1 | exact (br hf hb).2.2.1 | exact (br hf hb).2.2.2.1 | exact (br hf hb).2.2.2.2.1 | exact (br hf hb).2.2.2.2.2 | exact (br hf hb2).1 | exact (br hf hb2).2.1 | exact (br hf hb2).2.2.1 | exact (br hf hb2).2.2.2.1 | exact (br hf hb2).2.2.2.2.1 | exact (br hf hb2).2.2.2.2.2) ?_
  refine gw_iconst (gc k_Board_copyFrom_0 18 rfl) ?_
  refine gw_aload_n (gc k_Board_copyFrom_0 19 rfl) rfl rfl ?_
  refine gw_getref (gc k_Board_copyFrom_0 20 rfl) fl_Board_9 (by first | exact gAt hx rfl rfl | exact (bs hx hb).1 | exact (bs hx hb).2.1 | exact (bs hx hb).2.2.1 | exact (bs hx hb).2.2.2.1 | exact (bs hx hb).2.2.2.2.1 | exact (bs hx hb).2.2.2.2.2.1 | exact (bs hx hb).2.2.2.2.2.2 | exact (bs hx hb2).1 | exact (bs hx hb2).2.1 | exact (bs hx hb2).2.2.1 | exact (bs hx hb2).2.2.2.1 | exact (bs hx hb2).2.2.2.2.1 | exact (bs hx hb2).2.2.2.2.2.1 | exact (bs hx hb2).2.2.2.2.2.2) (by first | exact gRf hf rfl rfl | exact (br hf hb).1 | exact (br hf hb).2.1 | exact (br hf hb).2.2.1 | exact (br hf hb).2.2.2.1 | exact (br hf hb).2.2.2.2.1 | exact (br hf hb).2.2.2.2.2 | exact (br hf hb2).1 | exact (br hf hb2).2.1 | exact (br hf hb2).2.2.1 | exact (br hf hb2).2.2.2.1 | exact (br hf hb2).2.2.2.2.1 | exact (br hf hb2).2.2.2.2.2) ?_
  refine gw_iconst (gc k_Board_copyFrom_0 21 rfl) ?_
  refine gw_bipush (gc k_Board_copyFrom_0 22 rfl) (by decide) ?_
  refine gw_copy (gc k_Board_copyFrom_0 23 rfl) ln_Board_46 (gm3 90 rfl rfl) (gm3 89 rfl rfl) (gm1 15 rfl rfl) (by first | exact gAt hx rfl rfl | exact (bs hx hb).1 | exact (bs hx hb).2.1 | exact (bs hx hb).2.2.1 | exact (bs hx hb).2.2.2.1 | exact (bs hx hb).2.2.2.2.1 | exact (bs hx hb).2.2.2.2.2.1 | exact (bs hx hb).2.2.2.2.2.2 | exact (bs hx hb2).1 | exact (bs hx hb2).2.1 | exact (bs hx hb2).2.2.1 | exact (bs hx hb2).2.2.2.1 | exact (bs hx hb2).2.2.2.2.1 | exact (bs hx hb2).2.2.2.2.2.1 | exact (bs hx hb2).2.2.2.2.2.2) (by first | exact gAt hx rfl rfl | exact (bs hx hb).1 | exact (bs hx hb).2.1 | exact (bs hx hb).2.2.1 | exact (bs hx hb).2.2.2.1 | exact (bs hx hb).2.2.2.2.1 | exact (bs hx hb).2.2.2.2.2.1 | exact (bs hx hb).2.2.2.2.2.2 | exact (bs hx hb2).1 | exact (bs hx hb2).2.1 | exact (bs hx hb2).2.2.1 | exact (bs hx hb2).2.2.2.1 | exact (bs hx hb2).2.2.2.2.1 | exact (bs hx hb2).2.2.2.2.2.1 | exact (bs hx hb2).2.2.2.2.2.2) (by omega) rfl rfl ?_
  obtain ⟨M1, hM1⟩ : ∃ M, M = gfr M0 (o + (0 + 1)) (fun y => if 0 ≤ y ∧ y < 0 + 12 then M0 (p + (0 + 1)) (0 + (y - 0)) else M0 (o + (0 + 1)) y) := ⟨_, rfl⟩
  have hS1 : cpS g o p (0 + 1) M1 := by
    rw [hM1]
    exact hS0.step hap (by omega) (n := 12) (by decide) (fun y y0 y1 => (if_pos (show 0 ≤ y ∧ y < 0 + 12 by omega)).trans (congrArg (M0 (p + (0 + 1))) (by omega)))
  show gWP _ _ _ _ 47 _ _ _ (gfr M0 (o + (0 + 1)) (fun y => if 0 ≤ y ∧ y < 0 + 12 then M0 (p + (0 + 1)) (0 + (y - 0)) else M0 (o + (0 + 1)) y)) _
  rw [← hM1]
  have hf := hS1.fin hb (by omega) hf0
  refine gw_aload_n (gc k_Board_copyFrom_0 24 rfl) rfl rfl ?_
  refine gw_getref (gc k_Board_copyFrom_0 25 rfl) fl_Board_15 (by first | exact gAt hx rfl rfl | exact (bs hx hb).1 | exact (bs hx hb).2.1 | exact (bs hx hb).2.2.1 | exact (bs hx hb).2.2.2.1 | exact (bs hx hb).2.2.2.2.1 | exact (bs hx hb).2.2.2.2.2.1 | exact (bs hx hb).2.2.2.2.2.2 | exact (bs hx hb2).1 | exact (bs hx hb2).2.1 | exact (bs hx hb2).2.2.1 | exact (bs hx hb2).2.2.2.1 | exact (bs hx hb2).2.2.2.2.1 | exact (bs hx hb2).2.2.2.2.2.1 | exact (bs hx hb2).2.2.2.2.2.2) (by first | exact gRf hf rfl rfl | exact (br hf hb).1 | exact (br hf hb).2.1 | exact (br hf hb).2.2.1 | exact (br hf hb).2.2.2.1 | exact (br hf hb).2.2.2.2.1 | exact (br hf hb).2.2.2.2.2 | exact (br hf hb2).1 | exact (br hf hb2).2.1 | exact (br hf hb2).2.2.1 | exact (br hf hb2).2.2.2.1 | exact (br hf hb2).2.2.2.2.1 | exact (br hf hb2).2.2.2.2.2) ?_
  refine gw_iconst (gc k_Board_copyFrom_0 26 rfl) ?_
  refine gw_aload_n (gc k_Board_copyFrom_0 27 rfl) rfl rfl ?_
  refine gw_getref (gc k_Board_copyFrom_0 28 rfl) fl_Board_15 (by first | exact gAt hx rfl rfl | exact (bs hx hb).1 | exact (bs hx hb).2.1 | exact (bs hx hb).2.2.1 | exact (bs hx hb).2.2.2.1 | exact (bs hx hb).2.2.2.2.1 | exact (bs hx hb).2.2.2.2.2.1 | exact (bs hx hb).2.2.2.2.2.2 | exact (bs hx hb2).1 | exact (bs hx hb2).2.1 | exact (bs hx hb2).2.2.1 | exact (bs hx hb2).2.2.2.1 | exact (bs hx hb2).2.2.2.2.1 | exact (bs hx hb2).2.2.2.2.2.1 | exact (bs hx hb2).2.2.2.2.2.2) (by first | exact gRf hf rfl rfl | exact (br hf hb).1 | exact (br hf hb).2.1 | exact (br hf hb).2.2.1 | exact (br hf hb).2.2.2.1 | exact (br hf hb).2.2.2.2.1 | exact (br hf hb).2.2.2.2.2 | exact (br hf hb2).1 | exact (br hf hb2).2.1 | exact (br hf hb2).2.2.1 | exact (br hf hb2).2.2.2.1 | exact (br hf hb2).2.2.2.2.1 | exact (br hf hb2).2.2.2.2.2) ?_
  refine gw_iconst (gc k_Board_copyFrom_0 29 rfl) ?_
  refine gw_bipush (gc k_Board_copyFrom_0 30 rfl) (by decide) ?_
  refine gw_copy (gc k_Board_copyFrom_0 31 rfl) ln_Board_46 (gm3 90 rfl rfl) (gm3 89 rfl rfl) (gm1 15 rfl rfl) (by first | exact gAt hx rfl rfl | exact (bs hx hb).1 | exact (bs hx hb).2.1 | exact (bs hx hb).2.2.1 | exact (bs hx hb).2.2.2.1 | exact (bs hx hb).2.2.2.2.1 | exact (bs hx hb).2.2.2.2.2.1 | exact (bs hx hb).2.2.2.2.2.2 | exact (bs hx hb2).1 | exact (bs hx hb2).2.1 | exact (bs hx hb2).2.2.1 | exact (bs hx hb2).2.2.2.1 | exact (bs hx hb2).2.2.2.2.1 | exact (bs hx hb2).2.2.2.2.2.1 | exact (bs hx hb2).2.2.2.2.2.2) (by first | exact gAt hx rfl rfl | exact (bs hx hb).1 | exact (bs hx hb).2.1 | exact (bs hx hb).2.2.1 | exact (bs hx hb).2.2.2.1 | exact (bs hx hb).2.2.2.2.1 | exact (bs hx hb).2.2.2.2.2.1 | exact (bs hx hb).2.2.2.2.2.2 | exact (bs hx hb2).1 | exact (bs hx hb2).2.1 | exact (bs hx hb2).2.2.1 | exact (bs hx hb2).2.2.2.1 | exact (bs hx hb2).2.2.2.2.1 | exact (bs hx hb2).2.2.2.2.2.1 | exact (bs hx hb2).2.2.2.2.2.2) (by omega) rfl rfl ?_
  obtain ⟨M2, hM2⟩ : ∃ M, M = gfr M1 (o + (1 + 1)) (fun y => if 0 ≤ y ∧ y < 0 + 12 then M1 (p + (1 + 1)) (0 + (y - 0)) else M1 (o + (1 + 1)) y) := ⟨_, rfl⟩
  have hS2 : cpS g o p (1 + 1) M2 := by
    rw [hM2]
    exact hS1.step hap (by omega) (n := 12) (by decide) (fun y y0 y1 => (if_pos (show 0 ≤ y ∧ y < 0 + 12 by omega)).trans (congrArg (M1 (p + (1 + 1))) (by omega)))
  show gWP _ _ _ _ 62 _ _ _ (gfr M1 (o + (1 + 1)) (fun y => if 0 ≤ y ∧ y < 0 + 12 then M1 (p + (1 + 1)) (0 + (y - 0)) else M1 (o + (1 + 1)) y)) _
  rw [← hM2]
  have hf := hS2.fin hb (by omega) hf0
  refine gw_aload_n (gc k_Board_copyFrom_0 32 rfl) rfl rfl ?_
  refine gw_getref (gc k_Board_copyFrom_0 33 rfl) fl_Board_18 (by first | exact gAt hx rfl rfl | exact (bs hx hb).1 | exact (bs hx hb).2.1 | exact (bs hx hb).2.2.1 | exact (bs hx hb).2.2.2.1 | exact (bs hx hb).2.2.2.2.1 | exact (bs hx hb).2.2.2.2.2.1 | exact (bs hx hb).2.2.2.2.2.2 | exact (bs hx hb2).1 | exact (bs hx hb2).2.1 | exact (bs hx hb2).2.2.1 | exact (bs hx hb2).2.2.2.1 | exact (bs hx hb2).2.2.2.2.1 | exact (bs hx hb2).2.2.2.2.2.1 | exact (bs hx hb2).2.2.2.2.2.2) (by first | exact gRf hf rfl rfl | exact (br hf hb).1 | exact (br hf hb).2.1 | exact (br hf hb).2.2.1 | exact (br hf hb).2.2.2.1 | exact (br hf hb).2.2.2.2.1 | exact (br hf hb).2.2.2.2.2 | exact (br hf hb2).1 | exact (br hf hb2).2.1 | exact (br hf hb2).2.2.1 | exact (br hf hb2).2.2.2.1 | exact (br hf hb2).2.2.2.2.1 | exact (br hf hb2).2.2.2.2.2) ?_
  refine gw_iconst (gc k_Board_copyFrom_0 34 rfl) ?_
  refine gw_aload_n (gc k_Board_copyFrom_0 35 rfl) rfl rfl ?_
  refine gw_getref (gc k_Board_copyFrom_0 36 rfl) fl_Board_18 (by first | exact gAt hx rfl rfl | exact (bs hx hb).1 | exact (bs hx hb).2.1 | exact (bs hx hb).2.2.1 | exact (bs hx hb).2.2.2.1 | exact (bs hx hb).2.2.2.2.1 | exact (bs hx hb).2.2.2.2.2.1 | exact (bs hx hb).2.2.2.2.2.2 | exact (bs hx hb2).1 | exact (bs hx hb2).2.1 | exact (bs hx hb2).2.2.1 | exact (bs hx hb2).2.2.2.1 | exact (bs hx hb2).2.2.2.2.1 | exact (bs hx hb2).2.2.2.2.2.1 | exact (bs hx hb2).2.2.2.2.2.2) (by first | exact gRf hf rfl rfl | exact (br hf hb).1 | exact (br hf hb).2.1 | exact (br hf hb).2.2.1 | exact (br hf hb).2.2.2.1 | exact (br hf hb).2.2.2.2.1 | exact (br hf hb).2.2.2.2.2 | exact (br hf hb2).1 | exact (br hf hb2).2.1 | exact (br hf hb2).2.2.1 | exact (br hf hb2).2.2.2.1 | exact (br hf hb2).2.2.2.2.1 | exact (br hf hb2).2.2.2.2.2) ?_
  refine gw_iconst (gc k_Board_copyFrom_0 37 rfl) ?_
  refine gw_iconst (gc k_Board_copyFrom_0 38 rfl) ?_
  refine gw_copy (gc k_Board_copyFrom_0 39 rfl) ln_Board_46 (gm3 90 rfl rfl) (gm3 89 rfl rfl) (gm1 15 rfl rfl) (by first | exact gAt hx rfl rfl | exact (bs hx hb).1 | exact (bs hx hb).2.1 | exact (bs hx hb).2.2.1 | exact (bs hx hb).2.2.2.1 | exact (bs hx hb).2.2.2.2.1 | exact (bs hx hb).2.2.2.2.2.1 | exact (bs hx hb).2.2.2.2.2.2 | exact (bs hx hb2).1 | exact (bs hx hb2).2.1 | exact (bs hx hb2).2.2.1 | exact (bs hx hb2).2.2.2.1 | exact (bs hx hb2).2.2.2.2.1 | exact (bs hx hb2).2.2.2.2.2.1 | exact (bs hx hb2).2.2.2.2.2.2) (by first | exact gAt hx rfl rfl | exact (bs hx hb).1 | exact (bs hx hb).2.1 | exact (bs hx hb).2.2.1 | exact (bs hx hb).2.2.2.1 | exact (bs hx hb).2.2.2.2.1 | exact (bs hx hb).2.2.2.2.2.1 | exact (bs hx hb).2.2.2.2.2.2 | exact (bs hx hb2).1 | exact (bs hx hb2).2.1 | exact (bs hx hb2).2.2.1 | exact (bs hx hb2).2.2.2.1 | exact (bs hx hb2).2.2.2.2.1 | exact (bs hx hb2).2.2.2.2.2.1 | exact (bs hx hb2).2.2.2.2.2.2) (by omega) rfl rfl ?_
  obtain ⟨M3, hM3⟩ : ∃ M, M = gfr M2 (o + (2 + 1)) (fun y => if 0 ≤ y ∧ y < 0 + 5 then M2 (p + (2 + 1)) (0 + (y - 0)) else M2 (o + (2 + 1)) y) := ⟨_, rfl⟩
  have hS3 : cpS g o p (2 + 1) M3 := by
    rw [hM3]
    exact hS2.step hap (by omega) (n := 5) (by decide) (fun y y0 y1 => (if_pos (show 0 ≤ y ∧ y < 0 + 5 by omega)).trans (congrArg (M2 (p + (2 + 1))) (by omega)))
  show gWP _ _ _ _ 76 _ _ _ (gfr M2 (o + (2 + 1)) (fun y => if 0 ≤ y ∧ y < 0 + 5 then M2 (p + (2 + 1)) (0 + (y - 0)) else M2 (o + (2 + 1)) y)) _
  rw [← hM3]
  have hf := hS3.fin hb (by omega) hf0
  refine gw_aload_n (gc k_Board_copyFrom_1 0 rfl) rfl rfl ?_
  refine gw_getref (gc k_Board_copyFrom_1 1 rfl) fl_Board_21 (by first | exact gAt hx rfl rfl | exact (bs hx hb).1 | exact (bs hx hb).2.1 | exact (bs hx hb).2.2.1 | exact (bs hx hb).2.2.2.1 | exact (bs hx hb).2.2.2.2.1 | exact (bs hx hb).2.2.2.2.2.1 | exact (bs hx hb).2.2.2.2.2.2 | exact (bs hx hb2).1 | exact (bs hx hb2).2.1 | exact (bs hx hb2).2.2.1 | exact (bs hx hb2).2.2.2.1 | exact (bs hx hb2).2.2.2.2.1 | exact (bs hx hb2).2.2.2.2.2.1 | exact (bs hx hb2).2.2.2.2.2.2) (by first | exact gRf hf rfl rfl | exact (br hf hb).1 | exact (br hf hb).2.1 | exact (br hf hb).2.2.1 | exact (br hf hb).2.2.2.1 | exact (br hf hb).2.2.2.2.1 | exact (br hf hb).2.2.2.2.2 | exact (br hf hb2).1 | exact (br hf hb2).2.1 | exact (br hf hb2).2.2.1 | exact (br hf hb2).2.2.2.1 | exact (br hf hb2).2.2.2.2.1 | exact (br hf hb2).2.2.2.2.2) ?_
  refine gw_iconst (gc k_Board_copyFrom_1 2 rfl) ?_
  refine gw_aload_n (gc k_Board_copyFrom_1 3 rfl) rfl rfl ?_
  refine gw_getref (gc k_Board_copyFrom_1 4 rfl) fl_Board_21 (by first | exact gAt hx rfl rfl | exact (bs hx hb).1 | exact (bs hx hb).2.1 | exact (bs hx hb).2.2.1 | exact (bs hx hb).2.2.2.1 | exact (bs hx hb).2.2.2.2.1 | exact (bs hx hb).2.2.2.2.2.1 | exact (bs hx hb).2.2.2.2.2.2 | exact (bs hx hb2).1 | exact (bs hx hb2).2.1 | exact (bs hx hb2).2.2.1 | exact (bs hx hb2).2.2.2.1 | exact (bs hx hb2).2.2.2.2.1 | exact (bs hx hb2).2.2.2.2.2.1 | exact (bs hx hb2).2.2.2.2.2.2) (by first | exact gRf hf rfl rfl | exact (br hf hb).1 | exact (br hf hb).2.1 | exact (br hf hb).2.2.1 | exact (br hf hb).2.2.2.1 | exact (br hf hb).2.2.2.2.1 | exact (br hf hb).2.2.2.2.2 | exact (br hf hb2).1 | exact (br hf hb2).2.1 | exact (br hf hb2).2.2.1 | exact (br hf hb2).2.2.2.1 | exact (br hf hb2).2.2.2.2.1 | exact (br hf hb2).2.2.2.2.2) ?_
  refine gw_iconst (gc k_Board_copyFrom_1 5 rfl) ?_
  refine gw_bipush (gc k_Board_copyFrom_1 6 rfl) (by decide) ?_
  refine gw_copy (gc k_Board_copyFrom_1 7 rfl) ln_Board_46 (gm3 90 rfl rfl) (gm3 89 rfl rfl) (gm1 15 rfl rfl) (by first | exact gAt hx rfl rfl | exact (bs hx hb).1 | exact (bs hx hb).2.1 | exact (bs hx hb).2.2.1 | exact (bs hx hb).2.2.2.1 | exact (bs hx hb).2.2.2.2.1 | exact (bs hx hb).2.2.2.2.2.1 | exact (bs hx hb).2.2.2.2.2.2 | exact (bs hx hb2).1 | exact (bs hx hb2).2.1 | exact (bs hx hb2).2.2.1 | exact (bs hx hb2).2.2.2.1 | exact (bs hx hb2).2.2.2.2.1 | exact (bs hx hb2).2.2.2.2.2.1 | exact (bs hx hb2).2.2.2.2.2.2) (by first | exact gAt hx rfl rfl | exact (bs hx hb).1 | exact (bs hx hb).2.1 | exact (bs hx hb).2.2.1 | exact (bs hx hb).2.2.2.1 | exact (bs hx hb).2.2.2.2.1 | exact (bs hx hb).2.2.2.2.2.1 | exact (bs hx hb).2.2.2.2.2.2 | exact (bs hx hb2).1 | exact (bs hx hb2).2.1 | exact (bs hx hb2).2.2.1 | exact (bs hx hb2).2.2.2.1 | exact (bs hx hb2).2.2.2.2.1 | exact (bs hx hb2).2.2.2.2.2.1 | exact (bs hx hb2).2.2.2.2.2.2) (by omega) rfl rfl ?_
  obtain ⟨M4, hM4⟩ : ∃ M, M = gfr M3 (o + (3 + 1)) (fun y => if 0 ≤ y ∧ y < 0 + 6 then M3 (p + (3 + 1)) (0 + (y - 0)) else M3 (o + (3 + 1)) y) := ⟨_, rfl⟩
  have hS4 : cpS g o p (3 + 1) M4 := by
    rw [hM4]
    exact hS3.step hap (by omega) (n := 6) (by decide) (fun y y0 y1 => (if_pos (show 0 ≤ y ∧ y < 0 + 6 by omega)).trans (congrArg (M3 (p + (3 + 1))) (by omega)))
  show gWP _ _ _ _ 91 _ _ _ (gfr M3 (o + (3 + 1)) (fun y => if 0 ≤ y ∧ y < 0 + 6 then M3 (p + (3 + 1)) (0 + (y - 0)) else M3 (o + (3 + 1)) y)) _
  rw [← hM4]
  have hf := hS4.fin hb (by omega) hf0
  refine gw_aload_n (gc k_Board_copyFrom_1 8 rfl) rfl rfl ?_
  refine gw_getref (gc k_Board_copyFrom_1 9 rfl) fl_Board_24 (by first | exact gAt hx rfl rfl | exact (bs hx hb).1 | exact (bs hx hb).2.1 | exact (bs hx hb).2.2.1 | exact (bs hx hb).2.2.2.1 | exact (bs hx hb).2.2.2.2.1 | exact (bs hx hb).2.2.2.2.2.1 | exact (bs hx hb).2.2.2.2.2.2 | exact (bs hx hb2).1 | exact (bs hx hb2).2.1 | exact (bs hx hb2).2.2.1 | exact (bs hx hb2).2.2.2.1 | exact (bs hx hb2).2.2.2.2.1 | exact (bs hx hb2).2.2.2.2.2.1 | exact (bs hx hb2).2.2.2.2.2.2) (by first | exact gRf hf rfl rfl | exact (br hf hb).1 | exact (br hf hb).2.1 | exact (br hf hb).2.2.1 | exact (br hf hb).2.2.2.1 | exact (br hf hb).2.2.2.2.1 | exact (br hf hb).2.2.2.2.2 | exact (br hf hb2).1 | exact (br hf hb2).2.1 | exact (br hf hb2).2.2.1 | exact (br hf hb2).2.2.2.1 | exact (br hf hb2).2.2.2.2.1 | exact (br hf hb2).2.2.2.2.2) ?_
  refine gw_iconst (gc k_Board_copyFrom_1 10 rfl) ?_
  refine gw_aload_n (gc k_Board_copyFrom_1 11 rfl) rfl rfl ?_
  refine gw_getref (gc k_Board_copyFrom_1 12 rfl) fl_Board_24 (by first | exact gAt hx rfl rfl | exact (bs hx hb).1 | exact (bs hx hb).2.1 | exact (bs hx hb).2.2.1 | exact (bs hx hb).2.2.2.1 | exact (bs hx hb).2.2.2.2.1 | exact (bs hx hb).2.2.2.2.2.1 | exact (bs hx hb).2.2.2.2.2.2 | exact (bs hx hb2).1 | exact (bs hx hb2).2.1 | exact (bs hx hb2).2.2.1 | exact (bs hx hb2).2.2.2.1 | exact (bs hx hb2).2.2.2.2.1 | exact (bs hx hb2).2.2.2.2.2.1 | exact (bs hx hb2).2.2.2.2.2.2) (by first | exact gRf hf rfl rfl | exact (br hf hb).1 | exact (br hf hb).2.1 | exact (br hf hb).2.2.1 | exact (br hf hb).2.2.2.1 | exact (br hf hb).2.2.2.2.1 | exact (br hf hb).2.2.2.2.2 | exact (br hf hb2).1 | exact (br hf hb2).2.1 | exact (br hf hb2).2.2.1 | exact (br hf hb2).2.2.2.1 | exact (br hf hb2).2.2.2.2.1 | exact (br hf hb2).2.2.2.2.2) ?_
  refine gw_iconst (gc k_Board_copyFrom_1 13 rfl) ?_
  refine gw_bipush (gc k_Board_copyFrom_1 14 rfl) (by decide) ?_
  refine gw_copy (gc k_Board_copyFrom_1 15 rfl) ln_Board_46 (gm3 90 rfl rfl) (gm3 89 rfl rfl) (gm1 15 rfl rfl) (by first | exact gAt hx rfl rfl | exact (bs hx hb).1 | exact (bs hx hb).2.1 | exact (bs hx hb).2.2.1 | exact (bs hx hb).2.2.2.1 | exact (bs hx hb).2.2.2.2.1 | exact (bs hx hb).2.2.2.2.2.1 | exact (bs hx hb).2.2.2.2.2.2 | exact (bs hx hb2).1 | exact (bs hx hb2).2.1 | exact (bs hx hb2).2.2.1 | exact (bs hx hb2).2.2.2.1 | exact (bs hx hb2).2.2.2.2.1 | exact (bs hx hb2).2.2.2.2.2.1 | exact (bs hx hb2).2.2.2.2.2.2) (by first | exact gAt hx rfl rfl | exact (bs hx hb).1 | exact (bs hx hb).2.1 | exact (bs hx hb).2.2.1 | exact (bs hx hb).2.2.2.1 | exact (bs hx hb).2.2.2.2.1 | exact (bs hx hb).2.2.2.2.2.1 | exact (bs hx hb).2.2.2.2.2.2 | exact (bs hx hb2).1 | exact (bs hx hb2).2.1 | exact (bs hx hb2).2.2.1 | exact (bs hx hb2).2.2.2.1 | exact (bs hx hb2).2.2.2.2.1 | exact (bs hx hb2).2.2.2.2.2.1 | exact (bs hx hb2).2.2.2.2.2.2) (by omega) rfl rfl ?_
  obtain ⟨M5, hM5⟩ : ∃ M, M = gfr M4 (o + (4 + 1)) (fun y => if 0 ≤ y ∧ y < 0 + 6 then M4 (p + (4 + 1)) (0 + (y - 0)) else M4 (o + (4 + 1)) y) := ⟨_, rfl⟩
  have hS5 : cpS g o p (4 + 1) M5 := by
    rw [hM5]
    exact hS4.step hap (by omega) (n := 6) (by decide) (fun y y0 y1 => (if_pos (show 0 ≤ y ∧ y < 0 + 6 by omega)).trans (congrArg (M4 (p + (4 + 1))) (by omega)))
  show gWP _ _ _ _ 106 _ _ _ (gfr M4 (o + (4 + 1)) (fun y => if 0 ≤ y ∧ y < 0 + 6 then M4 (p + (4 + 1)) (0 + (y - 0)) else M4 (o + (4 + 1)) y)) _
  rw [← hM5]
  have hf := hS5.fin hb (by omega) hf0
  have hf5 := hf
  refine gw_iconst (gc k_Board_copyFrom_1 16 rfl) ?_
  refine gw_istore_2 (gc k_Board_copyFrom_1 17 rfl) rfl rfl ?_
  refine gwloop (σ := Int) (fun zs => 0 ≤ zs ∧ zs ≤ 6) (fun zs => (6 - zs).toNat) (fun zs => [(2, o), (2, p), (0, zs)]) (fun zs => gfr M5 (o + 6) (fun y => if 0 ≤ y ∧ y < zs then g (p + 6) y else M5 (o + 6) y)) (0) (show 0 ≤ (0 : Int) ∧ (0 : Int) ≤ 6 from (by omega)) rfl (gfr_id _ _ _ (fun y => by rw [if_neg (by omega)])) (fun zs hI ih => ?_)
  obtain ⟨i, hzz⟩ : ∃ x, x = zs := ⟨_, rfl⟩
  subst hzz
  replace hI : 0 ≤ i ∧ i ≤ 6 := hI
  have hi := hI
  show gWP _ _ _ _ _ [(2, o), (2, p), (0, i)] [] _ (gfr M5 (o + 6) (fun y => if 0 ≤ y ∧ y < i then g (p + 6) y else M5 (o + 6) y)) _
  have hf : gFin (gfr M5 (o + 6) (fun y => if 0 ≤ y ∧ y < i then g (p + 6) y else M5 (o + 6) y)) := hf5.fr (fun _ => bn hb (Or.inr (by omega)))
  have hTi : i < 6 → -1 ≤ g (p + 6) i ∧ (g (p + 6) i < 0 ∨ gsz sh (g (p + 6) i) 10 8) := fun z => hT i hi.1 z
  refine gw_iload_n (gc k_Board_copyFrom_1 18 rfl) rfl ?_
  refine gw_bipush (gc k_Board_copyFrom_1 19 rfl) (by decide) ?_
  refine gw_icmp_ge (tgt := 132) (gc k_Board_copyFrom_1 20 rfl) rfl (by omega) (fun c111 => ?_) (fun c111 => ?_)
  · refine gw_return (gc k_Board_copyFrom_1 31 rfl) rfl ?_
    obtain rfl : i = 6 := by omega
    refine ⟨rfl, rfl, hS5.step hap (by omega) (n := 6) (by decide) (fun y y0 y1 => ?_)⟩
    rw [if_pos ⟨y0, y1⟩, hS5.1 _ _ (by omega)]; rfl
  · refine gw_aload_n (gc k_Board_copyFrom_1 21 rfl) rfl rfl ?_
    refine gw_getref (gc k_Board_copyFrom_1 22 rfl) fl_Board_29 (by first | exact gAt hx rfl rfl | exact (bs hx hb).1 | exact (bs hx hb).2.1 | exact (bs hx hb).2.2.1 | exact (bs hx hb).2.2.2.1 | exact (bs hx hb).2.2.2.2.1 | exact (bs hx hb).2.2.2.2.2.1 | exact (bs hx hb).2.2.2.2.2.2 | exact (bs hx hb2).1 | exact (bs hx hb2).2.1 | exact (bs hx hb2).2.2.1 | exact (bs hx hb2).2.2.2.1 | exact (bs hx hb2).2.2.2.2.1 | exact (bs hx hb2).2.2.2.2.2.1 | exact (bs hx hb2).2.2.2.2.2.2) (by first | exact gRf hf rfl rfl | exact (br hf hb).1 | exact (br hf hb).2.1 | exact (br hf hb).2.2.1 | exact (br hf hb).2.2.2.1 | exact (br hf hb).2.2.2.2.1 | exact (br hf hb).2.2.2.2.2 | exact (br hf hb2).1 | exact (br hf hb2).2.1 | exact (br hf hb2).2.2.1 | exact (br hf hb2).2.2.2.1 | exact (br hf hb2).2.2.2.2.1 | exact (br hf hb2).2.2.2.2.2) ?_
    refine gw_iload_n (gc k_Board_copyFrom_1 23 rfl) rfl ?_
    refine gw_aload_n (gc k_Board_copyFrom_1 24 rfl) rfl rfl ?_
    refine gw_getref (gc k_Board_copyFrom_1 25 rfl) fl_Board_29 (by first | exact gAt hx rfl rfl | exact (bs hx hb).1 | exact (bs hx hb).2.1 | exact (bs hx hb).2.2.1 | exact (bs hx hb).2.2.2.1 | exact (bs hx hb).2.2.2.2.1 | exact (bs hx hb).2.2.2.2.2.1 | exact (bs hx hb).2.2.2.2.2.2 | exact (bs hx hb2).1 | exact (bs hx hb2).2.1 | exact (bs hx hb2).2.2.1 | exact (bs hx hb2).2.2.2.1 | exact (bs hx hb2).2.2.2.2.1 | exact (bs hx hb2).2.2.2.2.2.1 | exact (bs hx hb2).2.2.2.2.2.2) (by first | exact gRf hf rfl rfl | exact (br hf hb).1 | exact (br hf hb).2.1 | exact (br hf hb).2.2.1 | exact (br hf hb).2.2.2.1 | exact (br hf hb).2.2.2.2.1 | exact (br hf hb).2.2.2.2.2 | exact (br hf hb2).1 | exact (br hf hb2).2.1 | exact (br hf hb2).2.2.1 | exact (br hf hb2).2.2.2.1 | exact (br hf hb2).2.2.2.2.1 | exact (br hf hb2).2.2.2.2.2) ?_
    refine gw_iload_n (gc k_Board_copyFrom_1 26 rfl) rfl ?_
    refine gw_aald_Text (gc k_Board_copyFrom_1 27 rfl) (by first | exact gAt hx rfl rfl | exact (bs hx hb).1 | exact (bs hx hb).2.1 | exact (bs hx hb).2.2.1 | exact (bs hx hb).2.2.2.1 | exact (bs hx hb).2.2.2.2.1 | exact (bs hx hb).2.2.2.2.2.1 | exact (bs hx hb).2.2.2.2.2.2 | exact (bs hx hb2).1 | exact (bs hx hb2).2.1 | exact (bs hx hb2).2.2.1 | exact (bs hx hb2).2.2.2.1 | exact (bs hx hb2).2.2.2.2.1 | exact (bs hx hb2).2.2.2.2.2.1 | exact (bs hx hb2).2.2.2.2.2.2) (by omega) ?_
    rw [gfr_a _ _ _ _ (by omega), hS5.1 _ _ (by omega)]
    refine gw_aast_Text (gc k_Board_copyFrom_1 28 rfl) (by first | exact gAt hx rfl rfl | exact (bs hx hb).1 | exact (bs hx hb).2.1 | exact (bs hx hb).2.2.1 | exact (bs hx hb).2.2.2.1 | exact (bs hx hb).2.2.2.2.1 | exact (bs hx hb).2.2.2.2.2.1 | exact (bs hx hb).2.2.2.2.2.2 | exact (bs hx hb2).1 | exact (bs hx hb2).2.1 | exact (bs hx hb2).2.2.1 | exact (bs hx hb2).2.2.2.1 | exact (bs hx hb2).2.2.2.2.1 | exact (bs hx hb2).2.2.2.2.2.1 | exact (bs hx hb2).2.2.2.2.2.2) (by omega) (hTi (by omega)).2 ?_
    refine gw_iinc_2 (gc k_Board_copyFrom_1 29 rfl) rfl rfl ?_
    refine gw_goto (tgt := 108) (gc k_Board_copyFrom_1 30 rfl) rfl ?_
    refine gWP.eqm ?_ (ih (i + 1) (show 0 ≤ (i + 1) ∧ (i + 1) ≤ 6 from (by omega)) (show (6 - (i + 1)).toNat < (6 - i).toNat from by omega))
    rw [gup_gfr]
    refine gfr_ext _ _ (fun y => ?_)
    by_cases z : y = i
    · rw [if_pos z, if_pos (by omega), z]
    · rw [if_neg z]
      by_cases z2 : 0 ≤ y ∧ y < i
      · rw [if_pos z2, if_pos (by omega)]
      · rw [if_neg z2, if_neg (by omega)]
theorem tkM_fin {g : gM} (h : gFin g) (v : Int) : ∀ m : Nat, gFin (tkM g v m)
  | 0 => h
  | m + 1 => ((tkM_fin h v m).up rfl).up rfl
set_option maxHeartbeats 1000000 in
theorem c_Tape_take {sh : gS} {g : gM} (hx : gFix sh) (hf : gFin g) (v : Int) (hn : 0 ≤ g 149 1 ∧ g 149 1 ≤ 396) : gTri f_Tape_take 0 0 0 [(2, 149), (0, v)] sh g (gR none sh (tkM g v 4)) := by
  refine gTri.of (by decide +kernel) rfl ?_
  show gWP f_Tape_take _ _ _ 0 [(2, 149), (0, v), (9, 0)] [] sh g _
  refine gw_bipush (gc k_Tape_take_0 0 rfl) (by decide) ?_
  refine gw_istore_2 (gc k_Tape_take_0 1 rfl) rfl rfl ?_
  refine gwloop (σ := Nat) (fun zs => zs ≤ 4) (fun zs => 4 - zs) (fun zs => [(2, 149), (0, v), (0, 24 - 8 * (zs : Int))]) (fun zs => tkM g v zs) (0) (show (0 : Nat) ≤ 4 from (by omega)) rfl rfl (fun zs hI ih => ?_)
  obtain ⟨m, hzz⟩ : ∃ x, x = zs := ⟨_, rfl⟩
  subst hzz
  replace hI : m ≤ 4 := hI
  have hm := hI
  show gWP _ _ _ _ _ [(2, 149), (0, v), (0, 24 - 8 * (m : Int))] [] _ (tkM g v m) _
  have hl : tkM g v m 149 1 = g 149 1 + m := by
    cases m with
    | zero => exact (Int.add_zero _).symm
    | succ m => exact (gup_s _ _ _ _).trans (by omega)
  have hf : gFin (tkM g v m) := tkM_fin hf v m
  refine gw_iload_n (gc k_Tape_take_0 2 rfl) rfl ?_
  refine gw_if_lt (tgt := 51) (gc k_Tape_take_0 3 rfl) rfl (by omega) (fun c4 => ?_) (fun c4 => ?_)
  · refine gw_return (gc k_Tape_take_0 28 rfl) rfl ?_
    obtain rfl : m = 4 := by omega
    exact ⟨rfl, rfl, rfl⟩
  · refine gw_aload_n (gc k_Tape_take_0 4 rfl) rfl rfl ?_
    refine gw_getf 1 rfl (gc k_Tape_take_0 5 rfl) fl_Tape_15 (gAt hx rfl rfl) ?_
    rw [hl]
    refine gw_aload_n (gc k_Tape_take_0 6 rfl) rfl rfl ?_
    refine gw_getref (gc k_Tape_take_0 7 rfl) fl_Tape_9 (gAt hx rfl rfl) (gRf hf rfl rfl) ?_
    refine gw_alen13 (gc k_Tape_take_0 8 rfl) (gAt hx rfl rfl) (by decide) ?_
    refine gw_icmp_ge (tgt := 51) (gc k_Tape_take_0 9 rfl) rfl (by omega) (fun c16 => ?_) (fun c16 => ?_)
    · exfalso; omega
    · refine gw_aload_n (gc k_Tape_take_0 10 rfl) rfl rfl ?_
      refine gw_getref (gc k_Tape_take_0 11 rfl) fl_Tape_9 (gAt hx rfl rfl) (gRf hf rfl rfl) ?_
      refine gw_aload_n (gc k_Tape_take_0 12 rfl) rfl rfl ?_
      refine gw_getf 1 rfl (gc k_Tape_take_0 13 rfl) fl_Tape_15 (gAt hx rfl rfl) ?_
      rw [hl]
      refine gw_iload_n (gc k_Tape_take_0 14 rfl) rfl ?_
      refine gw_iload_n (gc k_Tape_take_0 15 rfl) rfl ?_
      refine gw_ishr (gc k_Tape_take_0 16 rfl) ?_
      refine gw_sipush (gc k_Tape_take_0 17 rfl) (by decide) ?_
      refine gw_iand (gc k_Tape_take_0 18 rfl) ?_
      refine gw_iastF (gc k_Tape_take_0 19 rfl) (gAt hx rfl rfl) (by omega) hf rfl (fun hf => ?_)
      refine gw_aload_n (gc k_Tape_take_0 20 rfl) rfl rfl ?_
      refine gw_dup (gc k_Tape_take_0 21 rfl) rfl ?_
      refine gw_getf 1 rfl (gc k_Tape_take_0 22 rfl) fl_Tape_15 (gAt hx rfl rfl) ?_
      rw [gup_a _ _ _ _ _ (by decide), hl]
      refine gw_iconst (gc k_Tape_take_0 23 rfl) ?_
      refine gw_iadd (gc k_Tape_take_0 24 rfl) ?_
      refine gw_putIK 1 rfl (gc k_Tape_take_0 25 rfl) fl_Tape_15 (gAt hx rfl rfl) hf rfl (fun hf => ?_)
      refine gw_iinc_2 (gc k_Tape_take_0 26 rfl) rfl rfl ?_
      refine gw_goto (tgt := 3) (gc k_Tape_take_0 27 rfl) rfl ?_
      refine gWP.eqs ?_ rfl (ih (m + 1) (show (m + 1) ≤ 4 from (by omega)) (show 4 - (m + 1) < 4 - m from by omega))
      show [(2, 149), (0, v), (0, 24 - 8 * ((m + 1) : Int))] = _
      rw [show (24 : Int) - 8 * ((m : Int) + 1) = 24 - 8 * (m : Int) + -8 by omega]
