/-! ===== the paper ===== -/
def ppA (a : Int) : Prop := (34 ≤ a ∧ a ≤ 47) ∨ (50 ≤ a ∧ a ≤ 63) ∨ (66 ≤ a ∧ a ≤ 79) ∨ (81 ≤ a ∧ a ≤ 92) ∨ (94 ≤ a ∧ a ≤ 105) ∨ (107 ≤ a ∧ a ≤ 118) ∨ (120 ≤ a ∧ a ≤ 131)
theorem glk_no {a : Nat} (k : Nat) : ∀ (L : List (Nat × List (Option Int))), (L.all fun x => x.1 != a) = true → glk L a k = none
  | [], _ => rfl
  | x :: t, h => by
    rw [List.all_cons, Bool.and_eq_true] at h
    unfold glk
    rw [if_neg (fun z => by rw [z] at h; simp at h)]
    exact glk_no k t h.2
theorem pp_tab : ((List.range 141).all fun a => !((34 ≤ a && a ≤ 47) || (50 ≤ a && a ≤ 63) || (66 ≤ a && a ≤ 79) || (81 ≤ a && a ≤ 92) || (94 ≤ a && a ≤ 105) || (107 ≤ a && a ≤ 118) || (120 ≤ a && a ≤ 133)) || grefs.all fun x => x.1 != a) = true := by decide +kernel
theorem ppA.nr {a : Nat} (h : ppA a ∨ a = 132 ∨ a = 133) (k : Nat) : gref a k = none := by
  have q := List.all_eq_true.mp pp_tab a (List.mem_range.mpr (by unfold ppA at h; omega))
  rw [Bool.or_eq_true] at q
  refine glk_no k _ (q.resolve_left (fun z => ?_))
  rw [Bool.not_eq_true'] at z
  have : ((34 ≤ a ∧ a ≤ 47) ∨ (50 ≤ a ∧ a ≤ 63) ∨ (66 ≤ a ∧ a ≤ 79) ∨ (81 ≤ a ∧ a ≤ 92) ∨ (94 ≤ a ∧ a ≤ 105) ∨ (107 ≤ a ∧ a ≤ 118) ∨ (120 ≤ a ∧ a ≤ 133)) := by unfold ppA at h; omega
  simp only [Bool.or_eq_false_iff, Bool.and_eq_false_iff, decide_eq_false_iff_not] at z
  omega
/-- the paper's inner frame -/
def ppJ (g g2 : gM) : Prop := ∀ a k, a ≠ 10 → a ≠ 11 → ¬ (a = 8 ∧ 2 ≤ k ∧ k ≤ 3) → ¬ ppA a → g2 a k = g a k
theorem ppJ.rf (g : gM) : ppJ g g := fun _ _ _ _ _ _ => rfl
theorem ppJ.tr {g g2 g3 : gM} (h : ppJ g g2) (h2 : ppJ g2 g3) : ppJ g g3 := fun a k n m q z => (h2 a k n m q z).trans (h a k n m q z)
theorem ppJ.up {g g2 : gM} (h : ppJ g g2) {a : Int} (k v : Int) (hz : ppA a) : ppJ g (gup g2 a k v) := fun x j n m q z => by
  rw [gup_a _ _ _ _ _ (fun e => z (by rw [e]; exact hz))]; exact h _ _ n m q z
theorem ppJ.fin {g g2 : gM} (h : ppJ g g2) (hf : gFin g) : gFin g2 := hf.of (fun x y z => h _ _ (fun e => z (by rw [show x = 10 by omega]; rfl)) (fun e => z (by rw [show x = 11 by omega]; rfl)) (fun e => z (by obtain ⟨e1, e2, e3⟩ := e; rcases (show y = 2 ∨ y = 3 by omega) with rfl | rfl <;> rw [show x = 8 by omega] <;> rfl)) (fun e => z (ppA.nr (Or.inl e) y)))
theorem shW.pp {S k i : Int} (hS : isSh S k) (hi : 0 ≤ i ∧ i < 12) {g g2 : gM} (h : shW S i g g2) : ppJ g g2 := fun a k n m q z => by
  unfold isSh at hS
  unfold ppA at z
  exact h a k n m q (by omega) (by omega) (by omega)
theorem ppJ.bdN {r : Int → Int} {g g2 : gM} {b : Int} (hb : isBd b) (h : ppJ g g2) (hB : bdN r g b) : bdN r g2 b := hB.of (fun a k h1 h2 => by
  unfold isBd at hb
  exact h a k (by omega) (by omega) (by omega) (by unfold ppA; omega))
theorem ppJ.lw {Λ : Int → List PC} {sh : gS} {g g2 : gM} {a : Int} (h : ppJ g g2) (hL : lwS Λ sh g a) : lwS Λ sh g2 a := hL.ext (fun x k hx => h x k (by omega) (by omega) (by omega) (by unfold ppA; omega))
/-- a sheet that was not written -/
theorem shI.keep {Λ : Int → List PC} {sh : gS} {S k : Int} {g g2 : gM} (h : shI Λ sh g S k) (he : ∀ a k, S ≤ a → a ≤ S + 15 → g2 a k = g a k) : shI Λ sh g2 S k := by
  refine ⟨by rw [he _ _ (by omega) (by omega)]; exact h.1, fun j h1 h2 => ?_⟩
  have q := h.2 j h1 h2
  rw [he (S + 15) j (by omega) (by omega), he (S + 14) j (by omega) (by omega)]
  refine ⟨q.1, q.2.1, q.2.2.1.elim Or.inl (fun ⟨r, z1, z2, z3⟩ => Or.inr ⟨r, z1, z2, fun h p a b c d x => ?_⟩), fun c a b => ?_⟩
  · rw [he _ _ (by omega) (by omega)]; exact z3 h p a b c d x
  · rw [he _ _ (by omega) (by omega)]; exact q.2.2.2 c a b
theorem shI.oth {Λ : Int → List PC} {sh : gS} {S k S2 k2 i : Int} (hS : isSh S k) (hS2 : isSh S2 k2) (hn : k ≠ k2) (hi : 0 ≤ i ∧ i < 12) {g g2 : gM} (h : shI Λ sh g S k) (hF : shW S2 i g g2) : shI Λ sh g2 S k := by
  unfold isSh at hS hS2
  exact h.keep (fun a y h1 h2 => hF a y (by omega) (by omega) (by omega) (by omega) (by omega) (by omega))
def ppS (Λ : Int → List PC) (sh : gS) (g : gM) : Prop := shI Λ sh g 32 0 ∧ shI Λ sh g 48 1 ∧ shI Λ sh g 64 2
theorem ppS.keep {Λ : Int → List PC} {sh : gS} {g g2 : gM} (h : ppS Λ sh g) (he : ∀ a k, 32 ≤ a → a ≤ 79 → g2 a k = g a k) : ppS Λ sh g2 := ⟨h.1.keep (fun a k _ _ => he a k (by omega) (by omega)), h.2.1.keep (fun a k _ _ => he a k (by omega) (by omega)), h.2.2.keep (fun a k _ _ => he a k (by omega) (by omega))⟩
theorem iS0 : isSh 32 0 := Or.inl ⟨rfl, rfl⟩
theorem iS1 : isSh 48 1 := Or.inr (Or.inl ⟨rfl, rfl⟩)
theorem iS2 : isSh 64 2 := Or.inr (Or.inr ⟨rfl, rfl⟩)
theorem i12 {i : Int} (h : 0 ≤ i ∧ i < 12) : i = 0 ∨ i = 1 ∨ i = 2 ∨ i = 3 ∨ i = 4 ∨ i = 5 ∨ i = 6 ∨ i = 7 ∨ i = 8 ∨ i = 9 ∨ i = 10 ∨ i = 11 := by omega
theorem pr5 {g : gM} (hf : gFin g) {i : Int} (h : 0 ≤ i ∧ i < 12) : (g 33 i = 34 + i ∧ g 49 i = 50 + i ∧ g 65 i = 66 + i) ∧ g 80 i = 81 + i ∧ g 93 i = 94 + i ∧ g 106 i = 107 + i ∧ g 119 i = 120 + i := by
  rcases i12 h with rfl | rfl | rfl | rfl | rfl | rfl | rfl | rfl | rfl | rfl | rfl | rfl <;> exact ⟨⟨gRf hf rfl rfl, gRf hf rfl rfl, gRf hf rfl rfl⟩, gRf hf rfl rfl, gRf hf rfl rfl, gRf hf rfl rfl, gRf hf rfl rfl⟩
theorem ps5 {sh : gS} (hx : gFix sh) {i : Int} (h : 0 ≤ i ∧ i < 12) : (gsz sh (34 + i) 13 625 ∧ gsz sh (50 + i) 13 625 ∧ gsz sh (66 + i) 13 625) ∧ gsz sh (81 + i) 13 25 ∧ gsz sh (94 + i) 13 25 ∧ gsz sh (107 + i) 16 25 ∧ gsz sh (120 + i) 13 25 := by
  rcases i12 h with rfl | rfl | rfl | rfl | rfl | rfl | rfl | rfl | rfl | rfl | rfl | rfl <;> exact ⟨⟨gAt hx rfl rfl, gAt hx rfl rfl, gAt hx rfl rfl⟩, gAt hx rfl rfl, gAt hx rfl rfl, gAt hx rfl rfl, gAt hx rfl rfl⟩
/-- the ambitus by note -/
def ppW (lo hi : Int → Int) (g : gM) : Prop := ∀ i, 0 ≤ i → i < 12 → (g 132 i = lo i ∧ g 133 i = hi i) ∧ (0 ≤ lo i ∧ lo i ≤ 24) ∧ (0 ≤ hi i ∧ hi i ≤ 24)
theorem ppJ.w {lo hi : Int → Int} {g g2 : gM} (h : ppJ g g2) (hw : ppW lo hi g) : ppW lo hi g2 := fun i a b => by
  rw [h 132 i (by decide) (by decide) (by omega) (by unfold ppA; omega), h 133 i (by decide) (by decide) (by omega) (by unfold ppA; omega)]
  exact hw i a b
/-- the least, and the first pitch for it -/
def ckF (C P : Int → Int) (lo : Int) : Nat → Int × Int
  | 0 => (1000000, lo)
  | k + 1 => if C (lo + k) = 1 ∧ P (lo + k) < (ckF C P lo k).1 then (P (lo + k), lo + k) else ckF C P lo k
theorem ckF_bd {C P : Int → Int} {lo : Int} : ∀ k : Nat, (∀ q, lo ≤ q → q < lo + k → 0 ≤ P q) → (0 ≤ (ckF C P lo k).1 ∧ (ckF C P lo k).1 ≤ 1000000) ∧ (lo ≤ (ckF C P lo k).2 ∧ (ckF C P lo k).2 ≤ lo + k)
  | 0, _ => ⟨⟨by show (0 : Int) ≤ 1000000; decide, by show (1000000 : Int) ≤ 1000000; decide⟩, Int.le_refl _, by show lo ≤ lo + ((0 : Nat) : Int); omega⟩
  | k + 1, hP => by
    have h := ckF_bd (C := C) (lo := lo) k (fun q a b => hP q a (by omega))
    have h2 := hP (lo + k) (by omega) (by omega)
    unfold ckF
    split
    · exact ⟨⟨h2, by show P (lo + k) ≤ _; omega⟩, by show lo ≤ lo + k; omega, by show lo + k ≤ lo + (k + 1 : Nat); omega⟩
    · exact ⟨h.1, h.2.1, by omega⟩
theorem ckF_congr {C P C2 P2 : Int → Int} {lo : Int} : ∀ k : Nat, (∀ q, lo ≤ q → q < lo + k → C q = C2 q ∧ P q = P2 q) → ckF C P lo k = ckF C2 P2 lo k
  | 0, _ => rfl
  | k + 1, h => by
    have e := ckF_congr k (fun q a b => h q a (by omega))
    have h2 := h (lo + k) (by omega) (by omega)
    unfold ckF
    rw [e, h2.1, h2.2]
set_option maxHeartbeats 1000000 in
theorem c_Paper_keepWithin {sh : gS} {g : gM} (hx : gFix sh) (hf : gFin g) {r : Int → Int} {b : Int} (hb : isBd b) (hB : bdN r g b) : gTri f_Paper_keepWithin 0 0 0 [(2, 31), (2, b)] sh g (fun x s2 g2 => x = none ∧ s2 = sh ∧ (∀ a k, a ≠ 132 → a ≠ 133 → g2 a k = g a k) ∧ ppW (fun _ => r 39) (fun _ => r 40) g2) := by
  have hbx := hb
  unfold isBd at hbx
  refine gTri.of (by decide +kernel) rfl ?_
  show gWP f_Paper_keepWithin _ _ _ 0 [(2, 31), (2, b), (9, 0)] [] sh g _
  refine gw_iconst (gc k_Paper_keepWithin_0 0 rfl) ?_
  refine gw_istore_2 (gc k_Paper_keepWithin_0 1 rfl) rfl rfl ?_
  refine gwloop (σ := Int × gM) (fun zs => (0 ≤ (zs.1) ∧ (zs.1) ≤ 12) ∧ (∀ a k, a ≠ 132 → a ≠ 133 → (zs.2) a k = g a k) ∧ ∀ j, 0 ≤ j → j < (zs.1) → (zs.2) 132 j = r 39 ∧ (zs.2) 133 j = r 40) (fun zs => (12 - (zs.1)).toNat) (fun zs => [(2, 31), (2, b), (0, (zs.1))]) (fun zs => (zs.2)) (0, g) (show (0 ≤ (0 : Int) ∧ (0 : Int) ≤ 12) ∧ (∀ a k, a ≠ 132 → a ≠ 133 → g a k = g a k) ∧ ∀ j, 0 ≤ j → j < (0 : Int) → g 132 j = r 39 ∧ g 133 j = r 40 from ⟨⟨by omega, by omega⟩, fun _ _ _ _ => rfl, fun j a b => by omega⟩) rfl rfl (fun zs hI ih => ?_)
  obtain ⟨i, g1⟩ := zs
  replace hI : (0 ≤ i ∧ i ≤ 12) ∧ (∀ a k, a ≠ 132 → a ≠ 133 → g1 a k = g a k) ∧ ∀ j, 0 ≤ j → j < i → g1 132 j = r 39 ∧ g1 133 j = r 40 := hI
  obtain ⟨hi, hF, hC⟩ := hI
  show gWP _ _ _ _ _ [(2, 31), (2, b), (0, i)] [] _ (g1) _
  have hf : gFin g1 := hf.of (fun x y z => hF _ _ (fun e => z (ppA.nr (Or.inr (by omega)) y)) (fun e => z (ppA.nr (Or.inr (by omega)) y)))
  have hT3 : g1 (b + 3) 3 = r 39 := (hF _ _ (by omega) (by omega)).trans hB.2.2.2.2.2.2.1
  have hT4 : g1 (b + 3) 4 = r 40 := (hF _ _ (by omega) (by omega)).trans hB.2.2.2.2.2.2.2
  refine gw_iload_n (gc k_Paper_keepWithin_0 2 rfl) rfl ?_
  refine gw_bipush (gc k_Paper_keepWithin_0 3 rfl) (by decide) ?_
  refine gw_icmp_ge (tgt := 38) (gc k_Paper_keepWithin_0 4 rfl) rfl (by omega) (fun c5 => ?_) (fun c5 => ?_)
  · refine gw_return (gc k_Paper_keepWithin_0 23 rfl) rfl ?_
    obtain rfl : i = 12 := by omega
    exact ⟨rfl, rfl, hF, fun j x y => ⟨hC j x y, ro_low hB.1, ro_high hB.1⟩⟩
  · refine gw_aload_n (gc k_Paper_keepWithin_0 5 rfl) rfl rfl ?_
    refine gw_getref (gc k_Paper_keepWithin_0 6 rfl) fl_Paper_42 (by first | exact gAt hx rfl rfl | exact (ps5 hx (by omega)).1.1 | exact (ps5 hx (by omega)).1.2.1 | exact (ps5 hx (by omega)).1.2.2 | exact (ps5 hx (by omega)).2.1 | exact (ps5 hx (by omega)).2.2.1 | exact (ps5 hx (by omega)).2.2.2.1 | exact (ps5 hx (by omega)).2.2.2.2 | exact (bs hx hb).1 | exact (bs hx hb).2.1 | exact (bs hx hb).2.2.1 | exact (bs hx hb).2.2.2.1) (by first | exact gRf hf rfl rfl | exact (br hf hb).1 | exact (br hf hb).2.1 | exact (br hf hb).2.2.1 | exact (br hf hb).2.2.2.1 | exact (br hf hb).2.2.2.2.1 | exact (br hf hb).2.2.2.2.2) ?_
    refine gw_iload_n (gc k_Paper_keepWithin_0 7 rfl) rfl ?_
    refine gw_aload_n (gc k_Paper_keepWithin_0 8 rfl) rfl rfl ?_
    refine gw_getref (gc k_Paper_keepWithin_0 9 rfl) fl_Paper_78 (by first | exact gAt hx rfl rfl | exact (ps5 hx (by omega)).1.1 | exact (ps5 hx (by omega)).1.2.1 | exact (ps5 hx (by omega)).1.2.2 | exact (ps5 hx (by omega)).2.1 | exact (ps5 hx (by omega)).2.2.1 | exact (ps5 hx (by omega)).2.2.2.1 | exact (ps5 hx (by omega)).2.2.2.2 | exact (bs hx hb).1 | exact (bs hx hb).2.1 | exact (bs hx hb).2.2.1 | exact (bs hx hb).2.2.2.1) (by first | exact gRf hf rfl rfl | exact (br hf hb).1 | exact (br hf hb).2.1 | exact (br hf hb).2.2.1 | exact (br hf hb).2.2.2.1 | exact (br hf hb).2.2.2.2.1 | exact (br hf hb).2.2.2.2.2) ?_
    refine gw_iconst (gc k_Paper_keepWithin_0 10 rfl) ?_
    refine gw_iald (gc k_Paper_keepWithin_0 11 rfl) (by first | exact gAt hx rfl rfl | exact (ps5 hx (by omega)).1.1 | exact (ps5 hx (by omega)).1.2.1 | exact (ps5 hx (by omega)).1.2.2 | exact (ps5 hx (by omega)).2.1 | exact (ps5 hx (by omega)).2.2.1 | exact (ps5 hx (by omega)).2.2.2.1 | exact (ps5 hx (by omega)).2.2.2.2 | exact (bs hx hb).1 | exact (bs hx hb).2.1 | exact (bs hx hb).2.2.1 | exact (bs hx hb).2.2.2.1) (by omega) ?_
    rw [hT3]
    refine gw_iastF (gc k_Paper_keepWithin_0 12 rfl) (by first | exact gAt hx rfl rfl | exact (ps5 hx (by omega)).1.1 | exact (ps5 hx (by omega)).1.2.1 | exact (ps5 hx (by omega)).1.2.2 | exact (ps5 hx (by omega)).2.1 | exact (ps5 hx (by omega)).2.2.1 | exact (ps5 hx (by omega)).2.2.2.1 | exact (ps5 hx (by omega)).2.2.2.2 | exact (bs hx hb).1 | exact (bs hx hb).2.1 | exact (bs hx hb).2.2.1 | exact (bs hx hb).2.2.2.1) (by omega) hf (by first | rfl | exact ppA.nr (Or.inr (by omega)) _ | exact ppA.nr (Or.inl (by unfold ppA; omega)) _) (fun hf => ?_)
    refine gw_aload_n (gc k_Paper_keepWithin_0 13 rfl) rfl rfl ?_
    refine gw_getref (gc k_Paper_keepWithin_0 14 rfl) fl_Paper_46 (by first | exact gAt hx rfl rfl | exact (ps5 hx (by omega)).1.1 | exact (ps5 hx (by omega)).1.2.1 | exact (ps5 hx (by omega)).1.2.2 | exact (ps5 hx (by omega)).2.1 | exact (ps5 hx (by omega)).2.2.1 | exact (ps5 hx (by omega)).2.2.2.1 | exact (ps5 hx (by omega)).2.2.2.2 | exact (bs hx hb).1 | exact (bs hx hb).2.1 | exact (bs hx hb).2.2.1 | exact (bs hx hb).2.2.2.1) (by first | exact gRf hf rfl rfl | exact (br hf hb).1 | exact (br hf hb).2.1 | exact (br hf hb).2.2.1 | exact (br hf hb).2.2.2.1 | exact (br hf hb).2.2.2.2.1 | exact (br hf hb).2.2.2.2.2) ?_
    refine gw_iload_n (gc k_Paper_keepWithin_0 15 rfl) rfl ?_
    refine gw_aload_n (gc k_Paper_keepWithin_0 16 rfl) rfl rfl ?_
    refine gw_getref (gc k_Paper_keepWithin_0 17 rfl) fl_Paper_78 (by first | exact gAt hx rfl rfl | exact (ps5 hx (by omega)).1.1 | exact (ps5 hx (by omega)).1.2.1 | exact (ps5 hx (by omega)).1.2.2 | exact (ps5 hx (by omega)).2.1 | exact (ps5 hx (by omega)).2.2.1 | exact (ps5 hx (by omega)).2.2.2.1 | exact (ps5 hx (by omega)).2.2.2.2 | exact (bs hx hb).1 | exact (bs hx hb).2.1 | exact (bs hx hb).2.2.1 | exact (bs hx hb).2.2.2.1) (by first | exact gRf hf rfl rfl | exact (br hf hb).1 | exact (br hf hb).2.1 | exact (br hf hb).2.2.1 | exact (br hf hb).2.2.2.1 | exact (br hf hb).2.2.2.2.1 | exact (br hf hb).2.2.2.2.2) ?_
    refine gw_iconst (gc k_Paper_keepWithin_0 18 rfl) ?_
    refine gw_iald (gc k_Paper_keepWithin_0 19 rfl) (by first | exact gAt hx rfl rfl | exact (ps5 hx (by omega)).1.1 | exact (ps5 hx (by omega)).1.2.1 | exact (ps5 hx (by omega)).1.2.2 | exact (ps5 hx (by omega)).2.1 | exact (ps5 hx (by omega)).2.2.1 | exact (ps5 hx (by omega)).2.2.2.1 | exact (ps5 hx (by omega)).2.2.2.2 | exact (bs hx hb).1 | exact (bs hx hb).2.1 | exact (bs hx hb).2.2.1 | exact (bs hx hb).2.2.2.1) (by omega) ?_
    rw [gup_a _ _ _ _ _ (by omega), hT4]
    refine gw_iastF (gc k_Paper_keepWithin_0 20 rfl) (by first | exact gAt hx rfl rfl | exact (ps5 hx (by omega)).1.1 | exact (ps5 hx (by omega)).1.2.1 | exact (ps5 hx (by omega)).1.2.2 | exact (ps5 hx (by omega)).2.1 | exact (ps5 hx (by omega)).2.2.1 | exact (ps5 hx (by omega)).2.2.2.1 | exact (ps5 hx (by omega)).2.2.2.2 | exact (bs hx hb).1 | exact (bs hx hb).2.1 | exact (bs hx hb).2.2.1 | exact (bs hx hb).2.2.2.1) (by omega) hf (by first | rfl | exact ppA.nr (Or.inr (by omega)) _ | exact ppA.nr (Or.inl (by unfold ppA; omega)) _) (fun hf => ?_)
    refine gw_iinc_2 (gc k_Paper_keepWithin_0 21 rfl) rfl rfl ?_
    refine gw_goto (tgt := 2) (gc k_Paper_keepWithin_0 22 rfl) rfl ?_
    have hnew : (0 ≤ (i + 1) ∧ (i + 1) ≤ 12) ∧ (∀ a k, a ≠ 132 → a ≠ 133 → (gup (gup g1 132 i (r 39)) 133 i (r 40)) a k = g a k) ∧ ∀ j, 0 ≤ j → j < (i + 1) → (gup (gup g1 132 i (r 39)) 133 i (r 40)) 132 j = r 39 ∧ (gup (gup g1 132 i (r 39)) 133 i (r 40)) 133 j = r 40 := by
      refine ⟨⟨by omega, by omega⟩, fun x y z1 z2 => by rw [gup_a _ _ _ _ _ z2, gup_a _ _ _ _ _ z1]; exact hF x y z1 z2, fun j x y => ?_⟩
      by_cases e : j = i
      · subst e; rw [gup_s, gup_a _ _ _ _ _ (by decide), gup_s]; exact ⟨rfl, rfl⟩
      · rw [gup_a _ _ _ _ _ (by decide), gup_k _ _ _ _ e, gup_k _ _ _ _ e]; exact hC j x (by omega)
    exact ih (i + 1, gup (gup g1 132 i (r 39)) 133 i (r 40)) hnew (by show (12 - (i + 1)).toNat < (12 - i).toNat; omega)
set_option maxHeartbeats 1000000 in
theorem c_Paper_firstAhead {sh : gS} {g : gM} (hx : gFix sh) (hf : gFin g) (i : Int) (hi : 0 ≤ i ∧ i < 12) : gTri f_Paper_firstAhead 0 0 0 [(2, 31), (0, i)] sh g (gR (some (0, if i = 0 then 0 else g 132 (i - 1))) sh g) := by
  refine gTri.of (by decide +kernel) rfl ?_
  show gWP f_Paper_firstAhead _ _ _ 0 [(2, 31), (0, i)] [] sh g _
  refine gw_iload_n (gc k_Paper_firstAhead_0 0 rfl) rfl ?_
  refine gw_if_ne (tgt := 8) (gc k_Paper_firstAhead_0 1 rfl) rfl (by omega) (fun c1 => ?_) (fun c1 => ?_)
  · refine gw_aload_n (gc k_Paper_firstAhead_0 4 rfl) rfl rfl ?_
    refine gw_getref (gc k_Paper_firstAhead_0 5 rfl) fl_Paper_42 (by first | exact gAt hx rfl rfl | exact (ps5 hx (by omega)).1.1 | exact (ps5 hx (by omega)).1.2.1 | exact (ps5 hx (by omega)).1.2.2 | exact (ps5 hx (by omega)).2.1 | exact (ps5 hx (by omega)).2.2.1 | exact (ps5 hx (by omega)).2.2.2.1 | exact (ps5 hx (by omega)).2.2.2.2 | exact (bs hx hb).1 | exact (bs hx hb).2.1 | exact (bs hx hb).2.2.1 | exact (bs hx hb).2.2.2.1) (by first | exact gRf hf rfl rfl | exact (br hf hb).1 | exact (br hf hb).2.1 | exact (br hf hb).2.2.1 | exact (br hf hb).2.2.2.1 | exact (br hf hb).2.2.2.2.1 | exact (br hf hb).2.2.2.2.2) ?_
    refine gw_iload_n (gc k_Paper_firstAhead_0 6 rfl) rfl ?_
    refine gw_iconst (gc k_Paper_firstAhead_0 7 rfl) ?_
    refine gw_isub (gc k_Paper_firstAhead_0 8 rfl) ?_
    refine gw_iald (gc k_Paper_firstAhead_0 9 rfl) (by first | exact gAt hx rfl rfl | exact (ps5 hx (by omega)).1.1 | exact (ps5 hx (by omega)).1.2.1 | exact (ps5 hx (by omega)).1.2.2 | exact (ps5 hx (by omega)).2.1 | exact (ps5 hx (by omega)).2.2.1 | exact (ps5 hx (by omega)).2.2.2.1 | exact (ps5 hx (by omega)).2.2.2.2 | exact (bs hx hb).1 | exact (bs hx hb).2.1 | exact (bs hx hb).2.2.1 | exact (bs hx hb).2.2.2.1) (by omega) ?_
    refine gw_ireturn (gc k_Paper_firstAhead_0 10 rfl) rfl ?_
    rw [if_neg (by omega)]
    exact ⟨rfl, rfl, rfl⟩
  · refine gw_iconst (gc k_Paper_firstAhead_0 2 rfl) ?_
    refine gw_goto (tgt := 16) (gc k_Paper_firstAhead_0 3 rfl) rfl ?_
    refine gw_ireturn (gc k_Paper_firstAhead_0 10 rfl) rfl ?_
    rw [if_pos (by omega)]
    exact ⟨rfl, rfl, rfl⟩
set_option maxHeartbeats 1000000 in
theorem c_Paper_lastAhead {sh : gS} {g : gM} (hx : gFix sh) (hf : gFin g) (i : Int) (hi : 0 ≤ i ∧ i < 12) : gTri f_Paper_lastAhead 0 0 0 [(2, 31), (0, i)] sh g (gR (some (0, if i = 0 then 0 else g 133 (i - 1))) sh g) := by
  refine gTri.of (by decide +kernel) rfl ?_
  show gWP f_Paper_lastAhead _ _ _ 0 [(2, 31), (0, i)] [] sh g _
  refine gw_iload_n (gc k_Paper_lastAhead_0 0 rfl) rfl ?_
  refine gw_if_ne (tgt := 8) (gc k_Paper_lastAhead_0 1 rfl) rfl (by omega) (fun c1 => ?_) (fun c1 => ?_)
  · refine gw_aload_n (gc k_Paper_lastAhead_0 4 rfl) rfl rfl ?_
    refine gw_getref (gc k_Paper_lastAhead_0 5 rfl) fl_Paper_46 (by first | exact gAt hx rfl rfl | exact (ps5 hx (by omega)).1.1 | exact (ps5 hx (by omega)).1.2.1 | exact (ps5 hx (by omega)).1.2.2 | exact (ps5 hx (by omega)).2.1 | exact (ps5 hx (by omega)).2.2.1 | exact (ps5 hx (by omega)).2.2.2.1 | exact (ps5 hx (by omega)).2.2.2.2 | exact (bs hx hb).1 | exact (bs hx hb).2.1 | exact (bs hx hb).2.2.1 | exact (bs hx hb).2.2.2.1) (by first | exact gRf hf rfl rfl | exact (br hf hb).1 | exact (br hf hb).2.1 | exact (br hf hb).2.2.1 | exact (br hf hb).2.2.2.1 | exact (br hf hb).2.2.2.2.1 | exact (br hf hb).2.2.2.2.2) ?_
    refine gw_iload_n (gc k_Paper_lastAhead_0 6 rfl) rfl ?_
    refine gw_iconst (gc k_Paper_lastAhead_0 7 rfl) ?_
    refine gw_isub (gc k_Paper_lastAhead_0 8 rfl) ?_
    refine gw_iald (gc k_Paper_lastAhead_0 9 rfl) (by first | exact gAt hx rfl rfl | exact (ps5 hx (by omega)).1.1 | exact (ps5 hx (by omega)).1.2.1 | exact (ps5 hx (by omega)).1.2.2 | exact (ps5 hx (by omega)).2.1 | exact (ps5 hx (by omega)).2.2.1 | exact (ps5 hx (by omega)).2.2.2.1 | exact (ps5 hx (by omega)).2.2.2.2 | exact (bs hx hb).1 | exact (bs hx hb).2.1 | exact (bs hx hb).2.2.1 | exact (bs hx hb).2.2.2.1) (by omega) ?_
    refine gw_ireturn (gc k_Paper_lastAhead_0 10 rfl) rfl ?_
    rw [if_neg (by omega)]
    exact ⟨rfl, rfl, rfl⟩
  · refine gw_iconst (gc k_Paper_lastAhead_0 2 rfl) ?_
    refine gw_goto (tgt := 16) (gc k_Paper_lastAhead_0 3 rfl) rfl ?_
    refine gw_ireturn (gc k_Paper_lastAhead_0 10 rfl) rfl ?_
    rw [if_pos (by omega)]
    exact ⟨rfl, rfl, rfl⟩
set_option maxHeartbeats 4000000 in
theorem c_Paper_choose {sh : gS} {g : gM} (hx : gFix sh) (hf : gFin g) {r : Int → Int} {b : Int} (hb : isBd b) (hB : bdN r g b) {lo hi : Int → Int} (hw : ppW lo hi g) (n p aim : Int) (hn : 0 ≤ n ∧ n < r 41) (hp : 0 ≤ p ∧ p < 25) (ha : aim = 0 ∨ aim = 1 ∨ aim = 3) (C c R : Int → Int) (hC : ∀ q, lo n ≤ q → q ≤ hi n → g (66 + n) (p * 25 + q) = 1 - C q ∧ (C q = 0 ∨ C q = 1)) (hP : ∀ q, lo n ≤ q → q ≤ hi n → (if aim = 0 then g (34 + n) (p * 25 + q) else if aim = 1 then 99 - g (50 + n) (p * 25 + q) else if q = r n then 0 else 1) = c q) (hR : ∀ q, lo n ≤ q → q ≤ hi n → (if n + 1 < r 41 then g (82 + n) q else 0) = R q) (hcb : ∀ q, lo n ≤ q → q ≤ hi n → 0 ≤ c q ∧ c q ≤ 999) (hRb : ∀ q, lo n ≤ q → q ≤ hi n → 0 ≤ R q ∧ R q ≤ 1000000) : gTri f_Paper_choose 0 0 0 [(2, 31), (2, b), (0, n), (0, p), (0, aim)] sh g (gR none sh (gup (gup g (81 + n) p (ckF C (fun q => c q + R q) (lo n) (hi n + 1 - lo n).toNat).1) (94 + n) p (ckF C (fun q => c q + R q) (lo n) (hi n + 1 - lo n).toNat).2)) := by
  have hbx := hb
  unfold isBd at hbx
  have hm := ro_many hB.1
  have hwn := hw n (by omega) (by omega)
  have hcR : ∀ q, lo n ≤ q → q ≤ hi n → 0 ≤ c q + R q := fun q a d => by have := hcb q a d; have := hRb q a d; omega
  have hrn := ro_pitch hB.1 n (by omega)
  have hp5 := pr5 hf (i := n) (by omega)
  refine gTri.of (by decide +kernel) rfl ?_
  show gWP f_Paper_choose _ _ _ 0 [(2, 31), (2, b), (0, n), (0, p), (0, aim), (9, 0), (9, 0), (9, 0), (9, 0), (9, 0)] [] sh g _
  refine gw_ldc (gc k_Paper_choose_0 0 rfl) cn_Paper_130 ?_
  refine gw_istore_5 (gc k_Paper_choose_0 1 rfl) rfl rfl ?_
  refine gw_aload_n (gc k_Paper_choose_0 2 rfl) rfl rfl ?_
  refine gw_getref (gc k_Paper_choose_0 3 rfl) fl_Paper_42 (by first | exact gAt hx rfl rfl | exact (ps5 hx (by omega)).1.1 | exact (ps5 hx (by omega)).1.2.1 | exact (ps5 hx (by omega)).1.2.2 | exact (ps5 hx (by omega)).2.1 | exact (ps5 hx (by omega)).2.2.1 | exact (ps5 hx (by omega)).2.2.2.1 | exact (ps5 hx (by omega)).2.2.2.2 | exact (bs hx hb).1 | exact (bs hx hb).2.1 | exact (bs hx hb).2.2.1 | exact (bs hx hb).2.2.2.1) (by first | exact gRf hf rfl rfl | exact (br hf hb).1 | exact (br hf hb).2.1 | exact (br hf hb).2.2.1 | exact (br hf hb).2.2.2.1 | exact (br hf hb).2.2.2.2.1 | exact (br hf hb).2.2.2.2.2) ?_
  refine gw_iload_n (gc k_Paper_choose_0 4 rfl) rfl ?_
  refine gw_iald (gc k_Paper_choose_0 5 rfl) (by first | exact gAt hx rfl rfl | exact (ps5 hx (by omega)).1.1 | exact (ps5 hx (by omega)).1.2.1 | exact (ps5 hx (by omega)).1.2.2 | exact (ps5 hx (by omega)).2.1 | exact (ps5 hx (by omega)).2.2.1 | exact (ps5 hx (by omega)).2.2.2.1 | exact (ps5 hx (by omega)).2.2.2.2 | exact (bs hx hb).1 | exact (bs hx hb).2.1 | exact (bs hx hb).2.2.1 | exact (bs hx hb).2.2.2.1) (by omega) ?_
  rw [hwn.1.1]
  refine gw_istore_6 (gc k_Paper_choose_0 6 rfl) rfl rfl ?_
  refine gw_aload_n (gc k_Paper_choose_0 7 rfl) rfl rfl ?_
  refine gw_getref (gc k_Paper_choose_0 8 rfl) fl_Paper_42 (by first | exact gAt hx rfl rfl | exact (ps5 hx (by omega)).1.1 | exact (ps5 hx (by omega)).1.2.1 | exact (ps5 hx (by omega)).1.2.2 | exact (ps5 hx (by omega)).2.1 | exact (ps5 hx (by omega)).2.2.1 | exact (ps5 hx (by omega)).2.2.2.1 | exact (ps5 hx (by omega)).2.2.2.2 | exact (bs hx hb).1 | exact (bs hx hb).2.1 | exact (bs hx hb).2.2.1 | exact (bs hx hb).2.2.2.1) (by first | exact gRf hf rfl rfl | exact (br hf hb).1 | exact (br hf hb).2.1 | exact (br hf hb).2.2.1 | exact (br hf hb).2.2.2.1 | exact (br hf hb).2.2.2.2.1 | exact (br hf hb).2.2.2.2.2) ?_
  refine gw_iload_n (gc k_Paper_choose_0 9 rfl) rfl ?_
  refine gw_iald (gc k_Paper_choose_0 10 rfl) (by first | exact gAt hx rfl rfl | exact (ps5 hx (by omega)).1.1 | exact (ps5 hx (by omega)).1.2.1 | exact (ps5 hx (by omega)).1.2.2 | exact (ps5 hx (by omega)).2.1 | exact (ps5 hx (by omega)).2.2.1 | exact (ps5 hx (by omega)).2.2.2.1 | exact (ps5 hx (by omega)).2.2.2.2 | exact (bs hx hb).1 | exact (bs hx hb).2.1 | exact (bs hx hb).2.2.1 | exact (bs hx hb).2.2.2.1) (by omega) ?_
  rw [hwn.1.1]
  refine gw_istore_7 (gc k_Paper_choose_0 11 rfl) rfl rfl ?_
  have e0 : ckF C (fun q => c q + R q) (lo n) (lo n - lo n).toNat = (1000000, lo n) := by rw [show (lo n - lo n).toNat = 0 by omega]; rfl
  refine gwloop (σ := Int × gV × gV) (fun zs => (lo n ≤ (zs.1) ∧ ((zs.1) ≤ hi n + 1 ∨ (zs.1) = lo n))) (fun zs => (hi n + 1 - (zs.1)).toNat) (fun zs => [(2, 31), (2, b), (0, n), (0, p), (0, aim), (0, (ckF C (fun q => c q + R q) (lo n) ((zs.1) - lo n).toNat).1), (0, (ckF C (fun q => c q + R q) (lo n) ((zs.1) - lo n).toNat).2), (0, (zs.1)), (zs.2.1), (zs.2.2)]) (fun zs => g) (lo n, (9, 0), (9, 0)) (show (lo n ≤ (lo n) ∧ ((lo n) ≤ hi n + 1 ∨ (lo n) = lo n)) from ⟨by omega, Or.inr rfl⟩) (by show [(2, 31), (2, b), (0, n), (0, p), (0, aim), (0, (ckF C (fun q => c q + R q) (lo n) ((lo n) - lo n).toNat).1), (0, (ckF C (fun q => c q + R q) (lo n) ((lo n) - lo n).toNat).2), (0, (lo n)), ((9, 0)), ((9, 0))] = _; rw [e0]) rfl (fun zs hI ih => ?_)
  obtain ⟨h, x8, x9⟩ := zs
  replace hI : (lo n ≤ h ∧ (h ≤ hi n + 1 ∨ h = lo n)) := hI
  have hh := hI
  show gWP _ _ _ _ _ [(2, 31), (2, b), (0, n), (0, p), (0, aim), (0, (ckF C (fun q => c q + R q) (lo n) (h - lo n).toNat).1), (0, (ckF C (fun q => c q + R q) (lo n) (h - lo n).toNat).2), (0, h), x8, x9] [] _ (g) _
  have hck := ckF_bd (C := C) (P := fun q => c q + R q) (lo := lo n) (h - lo n).toNat (fun q a d => hcR q a (by omega))
  refine gw_iload (gc k_Paper_choose_0 12 rfl) rfl ?_
  refine gw_aload_n (gc k_Paper_choose_0 13 rfl) rfl rfl ?_
  refine gw_getref (gc k_Paper_choose_0 14 rfl) fl_Paper_46 (by first | exact gAt hx rfl rfl | exact (ps5 hx (by omega)).1.1 | exact (ps5 hx (by omega)).1.2.1 | exact (ps5 hx (by omega)).1.2.2 | exact (ps5 hx (by omega)).2.1 | exact (ps5 hx (by omega)).2.2.1 | exact (ps5 hx (by omega)).2.2.2.1 | exact (ps5 hx (by omega)).2.2.2.2 | exact (bs hx hb).1 | exact (bs hx hb).2.1 | exact (bs hx hb).2.2.1 | exact (bs hx hb).2.2.2.1) (by first | exact gRf hf rfl rfl | exact (br hf hb).1 | exact (br hf hb).2.1 | exact (br hf hb).2.2.1 | exact (br hf hb).2.2.2.1 | exact (br hf hb).2.2.2.2.1 | exact (br hf hb).2.2.2.2.2) ?_
  refine gw_iload_n (gc k_Paper_choose_0 15 rfl) rfl ?_
  refine gw_iald (gc k_Paper_choose_0 16 rfl) (by first | exact gAt hx rfl rfl | exact (ps5 hx (by omega)).1.1 | exact (ps5 hx (by omega)).1.2.1 | exact (ps5 hx (by omega)).1.2.2 | exact (ps5 hx (by omega)).2.1 | exact (ps5 hx (by omega)).2.2.1 | exact (ps5 hx (by omega)).2.2.2.1 | exact (ps5 hx (by omega)).2.2.2.2 | exact (bs hx hb).1 | exact (bs hx hb).2.1 | exact (bs hx hb).2.2.1 | exact (bs hx hb).2.2.2.1) (by omega) ?_
  rw [hwn.1.2]
  refine gw_icmp_gt (tgt := 174) (gc k_Paper_choose_0 17 rfl) rfl (by omega) (fun c28 => ?_) (fun c28 => ?_)
  · refine gw_aload_n (gc k_Paper_choose_2 15 rfl) rfl rfl ?_
    refine gw_getref (gc k_Paper_choose_2 16 rfl) fl_Paper_28 (by first | exact gAt hx rfl rfl | exact (ps5 hx (by omega)).1.1 | exact (ps5 hx (by omega)).1.2.1 | exact (ps5 hx (by omega)).1.2.2 | exact (ps5 hx (by omega)).2.1 | exact (ps5 hx (by omega)).2.2.1 | exact (ps5 hx (by omega)).2.2.2.1 | exact (ps5 hx (by omega)).2.2.2.2 | exact (bs hx hb).1 | exact (bs hx hb).2.1 | exact (bs hx hb).2.2.1 | exact (bs hx hb).2.2.2.1) (by first | exact gRf hf rfl rfl | exact (br hf hb).1 | exact (br hf hb).2.1 | exact (br hf hb).2.2.1 | exact (br hf hb).2.2.2.1 | exact (br hf hb).2.2.2.2.1 | exact (br hf hb).2.2.2.2.2) ?_
    refine gw_iload_n (gc k_Paper_choose_2 17 rfl) rfl ?_
    refine gw_aald_ints (gc k_Paper_choose_2 18 rfl) (by first | exact gAt hx rfl rfl | exact (ps5 hx (by omega)).1.1 | exact (ps5 hx (by omega)).1.2.1 | exact (ps5 hx (by omega)).1.2.2 | exact (ps5 hx (by omega)).2.1 | exact (ps5 hx (by omega)).2.2.1 | exact (ps5 hx (by omega)).2.2.2.1 | exact (ps5 hx (by omega)).2.2.2.2 | exact (bs hx hb).1 | exact (bs hx hb).2.1 | exact (bs hx hb).2.2.1 | exact (bs hx hb).2.2.2.1) (by omega) ?_
    rw [hp5.2.1]
    refine gw_iload_n (gc k_Paper_choose_2 19 rfl) rfl ?_
    refine gw_iload (gc k_Paper_choose_2 20 rfl) rfl ?_
    refine gw_iastF (gc k_Paper_choose_2 21 rfl) (by first | exact gAt hx rfl rfl | exact (ps5 hx (by omega)).1.1 | exact (ps5 hx (by omega)).1.2.1 | exact (ps5 hx (by omega)).1.2.2 | exact (ps5 hx (by omega)).2.1 | exact (ps5 hx (by omega)).2.2.1 | exact (ps5 hx (by omega)).2.2.2.1 | exact (ps5 hx (by omega)).2.2.2.2 | exact (bs hx hb).1 | exact (bs hx hb).2.1 | exact (bs hx hb).2.2.1 | exact (bs hx hb).2.2.2.1) (by omega) hf (by first | rfl | exact ppA.nr (Or.inr (by omega)) _ | exact ppA.nr (Or.inl (by unfold ppA; omega)) _) (fun hf => ?_)
    refine gw_aload_n (gc k_Paper_choose_2 22 rfl) rfl rfl ?_
    refine gw_getref (gc k_Paper_choose_2 23 rfl) fl_Paper_31 (by first | exact gAt hx rfl rfl | exact (ps5 hx (by omega)).1.1 | exact (ps5 hx (by omega)).1.2.1 | exact (ps5 hx (by omega)).1.2.2 | exact (ps5 hx (by omega)).2.1 | exact (ps5 hx (by omega)).2.2.1 | exact (ps5 hx (by omega)).2.2.2.1 | exact (ps5 hx (by omega)).2.2.2.2 | exact (bs hx hb).1 | exact (bs hx hb).2.1 | exact (bs hx hb).2.2.1 | exact (bs hx hb).2.2.2.1) (by first | exact gRf hf rfl rfl | exact (br hf hb).1 | exact (br hf hb).2.1 | exact (br hf hb).2.2.1 | exact (br hf hb).2.2.2.1 | exact (br hf hb).2.2.2.2.1 | exact (br hf hb).2.2.2.2.2) ?_
    refine gw_iload_n (gc k_Paper_choose_2 24 rfl) rfl ?_
    refine gw_aald_ints (gc k_Paper_choose_2 25 rfl) (by first | exact gAt hx rfl rfl | exact (ps5 hx (by omega)).1.1 | exact (ps5 hx (by omega)).1.2.1 | exact (ps5 hx (by omega)).1.2.2 | exact (ps5 hx (by omega)).2.1 | exact (ps5 hx (by omega)).2.2.1 | exact (ps5 hx (by omega)).2.2.2.1 | exact (ps5 hx (by omega)).2.2.2.2 | exact (bs hx hb).1 | exact (bs hx hb).2.1 | exact (bs hx hb).2.2.1 | exact (bs hx hb).2.2.2.1) (by omega) ?_
    rw [(pr5 hf (i := n) (by omega)).2.2.1]
    refine gw_iload_n (gc k_Paper_choose_2 26 rfl) rfl ?_
    refine gw_iload (gc k_Paper_choose_2 27 rfl) rfl ?_
    refine gw_iastF (gc k_Paper_choose_2 28 rfl) (by first | exact gAt hx rfl rfl | exact (ps5 hx (by omega)).1.1 | exact (ps5 hx (by omega)).1.2.1 | exact (ps5 hx (by omega)).1.2.2 | exact (ps5 hx (by omega)).2.1 | exact (ps5 hx (by omega)).2.2.1 | exact (ps5 hx (by omega)).2.2.2.1 | exact (ps5 hx (by omega)).2.2.2.2 | exact (bs hx hb).1 | exact (bs hx hb).2.1 | exact (bs hx hb).2.2.1 | exact (bs hx hb).2.2.2.1) (by omega) hf (by first | rfl | exact ppA.nr (Or.inr (by omega)) _ | exact ppA.nr (Or.inl (by unfold ppA; omega)) _) (fun hf => ?_)
    refine gw_return (gc k_Paper_choose_2 29 rfl) rfl ?_
    have e : (h - lo n).toNat = (hi n + 1 - lo n).toNat := by omega
    rw [e]
    exact ⟨rfl, rfl, rfl⟩
  · refine gw_iload_n (gc k_Paper_choose_0 18 rfl) rfl ?_
    refine gw_bipush (gc k_Paper_choose_0 19 rfl) (by decide) ?_
    refine gw_imul (gc k_Paper_choose_0 20 rfl) ?_
    refine gw_iload (gc k_Paper_choose_0 21 rfl) rfl ?_
    refine gw_iadd (gc k_Paper_choose_0 22 rfl) ?_
    refine gw_istore_8 (gc k_Paper_choose_0 23 rfl) rfl rfl ?_
    refine gw_aload_n (gc k_Paper_choose_0 24 rfl) rfl rfl ?_
    refine gw_getref (gc k_Paper_choose_0 25 rfl) fl_Paper_23 (by first | exact gAt hx rfl rfl | exact (ps5 hx (by omega)).1.1 | exact (ps5 hx (by omega)).1.2.1 | exact (ps5 hx (by omega)).1.2.2 | exact (ps5 hx (by omega)).2.1 | exact (ps5 hx (by omega)).2.2.1 | exact (ps5 hx (by omega)).2.2.2.1 | exact (ps5 hx (by omega)).2.2.2.2 | exact (bs hx hb).1 | exact (bs hx hb).2.1 | exact (bs hx hb).2.2.1 | exact (bs hx hb).2.2.2.1) (by first | exact gRf hf rfl rfl | exact (br hf hb).1 | exact (br hf hb).2.1 | exact (br hf hb).2.2.1 | exact (br hf hb).2.2.2.1 | exact (br hf hb).2.2.2.2.1 | exact (br hf hb).2.2.2.2.2) ?_
    refine gw_getref (gc k_Paper_choose_0 26 rfl) fl_Paper_95 (by first | exact gAt hx rfl rfl | exact (ps5 hx (by omega)).1.1 | exact (ps5 hx (by omega)).1.2.1 | exact (ps5 hx (by omega)).1.2.2 | exact (ps5 hx (by omega)).2.1 | exact (ps5 hx (by omega)).2.2.1 | exact (ps5 hx (by omega)).2.2.2.1 | exact (ps5 hx (by omega)).2.2.2.2 | exact (bs hx hb).1 | exact (bs hx hb).2.1 | exact (bs hx hb).2.2.1 | exact (bs hx hb).2.2.2.1) (by first | exact gRf hf rfl rfl | exact (br hf hb).1 | exact (br hf hb).2.1 | exact (br hf hb).2.2.1 | exact (br hf hb).2.2.2.1 | exact (br hf hb).2.2.2.2.1 | exact (br hf hb).2.2.2.2.2) ?_
    refine gw_iload_n (gc k_Paper_choose_0 27 rfl) rfl ?_
    refine gw_aald_ints (gc k_Paper_choose_0 28 rfl) (by first | exact gAt hx rfl rfl | exact (ps5 hx (by omega)).1.1 | exact (ps5 hx (by omega)).1.2.1 | exact (ps5 hx (by omega)).1.2.2 | exact (ps5 hx (by omega)).2.1 | exact (ps5 hx (by omega)).2.2.1 | exact (ps5 hx (by omega)).2.2.2.1 | exact (ps5 hx (by omega)).2.2.2.2 | exact (bs hx hb).1 | exact (bs hx hb).2.1 | exact (bs hx hb).2.2.1 | exact (bs hx hb).2.2.2.1) (by omega) ?_
    rw [hp5.1.2.2]
    refine gw_iload (gc k_Paper_choose_0 29 rfl) rfl ?_
    refine gw_iald (gc k_Paper_choose_0 30 rfl) (by first | exact gAt hx rfl rfl | exact (ps5 hx (by omega)).1.1 | exact (ps5 hx (by omega)).1.2.1 | exact (ps5 hx (by omega)).1.2.2 | exact (ps5 hx (by omega)).2.1 | exact (ps5 hx (by omega)).2.2.1 | exact (ps5 hx (by omega)).2.2.2.1 | exact (ps5 hx (by omega)).2.2.2.2 | exact (bs hx hb).1 | exact (bs hx hb).2.1 | exact (bs hx hb).2.2.1 | exact (bs hx hb).2.2.2.1) (by omega) ?_
    have hCh := hC h hh.1 (by omega)
    rw [hCh.1]
    refine gw_if_eq (tgt := 58) (gc k_Paper_choose_0 31 rfl) rfl (by omega) (fun c52 => ?_) (fun c52 => ?_)
    · have hC1 : C h = 1 := by omega
      have hRh := hR h hh.1 (by omega)
      have hRb1 := hRb h hh.1 (by omega)
      refine gw_join0 83 (fun v => v = R h) (fun v58 hv58 => ?_) (fun kj58 => ?_)
      · have hRb2 := hRb h hh.1 (by omega)
        refine gw_istore_9 (gc k_Paper_choose_1 9 rfl) rfl rfl ?_
        have hc := hP h hh.1 (by omega)
        have hcb1 := hcb h hh.1 (by omega)
        refine gw_joinE 153 (fun v85 => [(2, 31), (2, b), (0, n), (0, p), (0, aim), (0, (ckF C (fun q => c q + R q) (lo n) (h - lo n).toNat).1), (0, (ckF C (fun q => c q + R q) (lo n) (h - lo n).toNat).2), (0, h), (0, p * 25 + h), (0, v85)]) (fun v => v = c h + R h) (fun v85 hv85 => ?_) (fun kj85 => ?_)
        · have hcb1 := hcb h hh.1 (by omega)
          refine gw_iload (gc k_Paper_choose_2 6 rfl) rfl ?_
          refine gw_iload (gc k_Paper_choose_2 7 rfl) rfl ?_
          refine gw_icmp_ge (tgt := 168) (gc k_Paper_choose_2 8 rfl) rfl (by omega) (fun c157 => ?_) (fun c157 => ?_)
          · refine gw_iinc_7 (gc k_Paper_choose_2 13 rfl) rfl rfl ?_
            refine gw_goto (tgt := 20) (gc k_Paper_choose_2 14 rfl) rfl ?_
            have hs : ckF C (fun q => c q + R q) (lo n) (h + 1 - lo n).toNat = (ckF C (fun q => c q + R q) (lo n) (h - lo n).toNat) := by
              rw [show (h + 1 - lo n).toNat = (h - lo n).toNat + 1 by omega]
              show (if C (lo n + ((h - lo n).toNat : Int)) = 1 ∧ c (lo n + ((h - lo n).toNat : Int)) + R (lo n + ((h - lo n).toNat : Int)) < (ckF C (fun q => c q + R q) (lo n) (h - lo n).toNat).1 then (c (lo n + ((h - lo n).toNat : Int)) + R (lo n + ((h - lo n).toNat : Int)), lo n + ((h - lo n).toNat : Int)) else ckF C (fun q => c q + R q) (lo n) (h - lo n).toNat) = _
              rw [show lo n + ((h - lo n).toNat : Int) = h by omega]
              rw [if_neg (fun z => by have := z.2; omega)]
            have hnew : lo n ≤ h + 1 ∧ (h + 1 ≤ hi n + 1 ∨ h + 1 = lo n) := ⟨by omega, Or.inl (by omega)⟩
            have q := ih (h + 1, (0, p * 25 + h), (0, v85)) hnew (by show (hi n + 1 - (h + 1)).toNat < (hi n + 1 - h).toNat; omega)
            replace q : gWP _ _ _ _ _ [(2, 31), (2, b), (0, n), (0, p), (0, aim), (0, (ckF C (fun q => c q + R q) (lo n) (h + 1 - lo n).toNat).1), (0, (ckF C (fun q => c q + R q) (lo n) (h + 1 - lo n).toNat).2), (0, h + 1), _, _] [] sh g _ := q
            rw [hs] at q
            exact q
          · refine gw_iload (gc k_Paper_choose_2 9 rfl) rfl ?_
            refine gw_istore_5 (gc k_Paper_choose_2 10 rfl) rfl rfl ?_
            refine gw_iload (gc k_Paper_choose_2 11 rfl) rfl ?_
            refine gw_istore_6 (gc k_Paper_choose_2 12 rfl) rfl rfl ?_
            refine gw_iinc_7 (gc k_Paper_choose_2 13 rfl) rfl rfl ?_
            refine gw_goto (tgt := 20) (gc k_Paper_choose_2 14 rfl) rfl ?_
            have hs : ckF C (fun q => c q + R q) (lo n) (h + 1 - lo n).toNat = (v85, h) := by
              rw [show (h + 1 - lo n).toNat = (h - lo n).toNat + 1 by omega]
              show (if C (lo n + ((h - lo n).toNat : Int)) = 1 ∧ c (lo n + ((h - lo n).toNat : Int)) + R (lo n + ((h - lo n).toNat : Int)) < (ckF C (fun q => c q + R q) (lo n) (h - lo n).toNat).1 then (c (lo n + ((h - lo n).toNat : Int)) + R (lo n + ((h - lo n).toNat : Int)), lo n + ((h - lo n).toNat : Int)) else ckF C (fun q => c q + R q) (lo n) (h - lo n).toNat) = _
              rw [show lo n + ((h - lo n).toNat : Int) = h by omega]
              rw [if_pos ⟨hC1, by omega⟩, hv85]
            have hnew : lo n ≤ h + 1 ∧ (h + 1 ≤ hi n + 1 ∨ h + 1 = lo n) := ⟨by omega, Or.inl (by omega)⟩
            have q := ih (h + 1, (0, p * 25 + h), (0, v85)) hnew (by show (hi n + 1 - (h + 1)).toNat < (hi n + 1 - h).toNat; omega)
            replace q : gWP _ _ _ _ _ [(2, 31), (2, b), (0, n), (0, p), (0, aim), (0, (ckF C (fun q => c q + R q) (lo n) (h + 1 - lo n).toNat).1), (0, (ckF C (fun q => c q + R q) (lo n) (h + 1 - lo n).toNat).2), (0, h + 1), _, _] [] sh g _ := q
            rw [hs] at q
            exact q
        · refine gw_iload (gc k_Paper_choose_1 10 rfl) rfl ?_
          refine gw_if_ne (tgt := 110) (gc k_Paper_choose_1 11 rfl) rfl (by omega) (fun c87 => ?_) (fun c87 => ?_)
          · refine gw_iload (gc k_Paper_choose_1 23 rfl) rfl ?_
            refine gw_iconst (gc k_Paper_choose_1 24 rfl) ?_
            refine gw_icmp_ne (tgt := 139) (gc k_Paper_choose_1 25 rfl) rfl (by omega) (fun c113 => ?_) (fun c113 => ?_)
            · refine gw_iload (gc k_Paper_choose_1 39 rfl) rfl ?_
              refine gw_aload_n (gc k_Paper_choose_2 0 rfl) rfl rfl ?_
              refine gw_getref (gc k_Paper_choose_2 1 rfl) fl_Paper_131 (by first | exact gAt hx rfl rfl | exact (ps5 hx (by omega)).1.1 | exact (ps5 hx (by omega)).1.2.1 | exact (ps5 hx (by omega)).1.2.2 | exact (ps5 hx (by omega)).2.1 | exact (ps5 hx (by omega)).2.2.1 | exact (ps5 hx (by omega)).2.2.2.1 | exact (ps5 hx (by omega)).2.2.2.2 | exact (bs hx hb).1 | exact (bs hx hb).2.1 | exact (bs hx hb).2.2.1 | exact (bs hx hb).2.2.2.1) (by first | exact gRf hf rfl rfl | exact (br hf hb).1 | exact (br hf hb).2.1 | exact (br hf hb).2.2.1 | exact (br hf hb).2.2.2.1 | exact (br hf hb).2.2.2.2.1 | exact (br hf hb).2.2.2.2.2) ?_
              refine gw_iload_n (gc k_Paper_choose_2 2 rfl) rfl ?_
              refine gw_iald (gc k_Paper_choose_2 3 rfl) (by first | exact gAt hx rfl rfl | exact (ps5 hx (by omega)).1.1 | exact (ps5 hx (by omega)).1.2.1 | exact (ps5 hx (by omega)).1.2.2 | exact (ps5 hx (by omega)).2.1 | exact (ps5 hx (by omega)).2.2.1 | exact (ps5 hx (by omega)).2.2.2.1 | exact (ps5 hx (by omega)).2.2.2.2 | exact (bs hx hb).1 | exact (bs hx hb).2.1 | exact (bs hx hb).2.2.1 | exact (bs hx hb).2.2.2.1) (by omega) ?_
              rw [(hB.2.2.1 n (by omega) (by omega)).2]
              refine gw_icmp_eq (tgt := 153) (gc k_Paper_choose_2 4 rfl) rfl (by omega) (fun c147 => ?_) (fun c147 => ?_)
              · exact kj85 _ ((by first | (rw [if_pos (by omega)] at hc; omega) | (rw [if_neg (by omega), if_pos (by omega)] at hc; omega) | (rw [if_neg (by omega), if_neg (by omega), if_pos (by omega)] at hc; omega) | (rw [if_neg (by omega), if_neg (by omega), if_neg (by omega)] at hc; omega)))
              · refine gw_iinc_9 (gc k_Paper_choose_2 5 rfl) rfl rfl ?_
                exact kj85 _ ((by first | (rw [if_pos (by omega)] at hc; omega) | (rw [if_neg (by omega), if_pos (by omega)] at hc; omega) | (rw [if_neg (by omega), if_neg (by omega), if_pos (by omega)] at hc; omega) | (rw [if_neg (by omega), if_neg (by omega), if_neg (by omega)] at hc; omega)))
            · refine gw_iload (gc k_Paper_choose_1 26 rfl) rfl ?_
              refine gw_bipush (gc k_Paper_choose_1 27 rfl) (by decide) ?_
              refine gw_aload_n (gc k_Paper_choose_1 28 rfl) rfl rfl ?_
              refine gw_getref (gc k_Paper_choose_1 29 rfl) fl_Paper_20 (by first | exact gAt hx rfl rfl | exact (ps5 hx (by omega)).1.1 | exact (ps5 hx (by omega)).1.2.1 | exact (ps5 hx (by omega)).1.2.2 | exact (ps5 hx (by omega)).2.1 | exact (ps5 hx (by omega)).2.2.1 | exact (ps5 hx (by omega)).2.2.2.1 | exact (ps5 hx (by omega)).2.2.2.2 | exact (bs hx hb).1 | exact (bs hx hb).2.1 | exact (bs hx hb).2.2.1 | exact (bs hx hb).2.2.2.1) (by first | exact gRf hf rfl rfl | exact (br hf hb).1 | exact (br hf hb).2.1 | exact (br hf hb).2.2.1 | exact (br hf hb).2.2.2.1 | exact (br hf hb).2.2.2.2.1 | exact (br hf hb).2.2.2.2.2) ?_
              refine gw_getref (gc k_Paper_choose_1 30 rfl) fl_Paper_95 (by first | exact gAt hx rfl rfl | exact (ps5 hx (by omega)).1.1 | exact (ps5 hx (by omega)).1.2.1 | exact (ps5 hx (by omega)).1.2.2 | exact (ps5 hx (by omega)).2.1 | exact (ps5 hx (by omega)).2.2.1 | exact (ps5 hx (by omega)).2.2.2.1 | exact (ps5 hx (by omega)).2.2.2.2 | exact (bs hx hb).1 | exact (bs hx hb).2.1 | exact (bs hx hb).2.2.1 | exact (bs hx hb).2.2.2.1) (by first | exact gRf hf rfl rfl | exact (br hf hb).1 | exact (br hf hb).2.1 | exact (br hf hb).2.2.1 | exact (br hf hb).2.2.2.1 | exact (br hf hb).2.2.2.2.1 | exact (br hf hb).2.2.2.2.2) ?_
              refine gw_iload_n (gc k_Paper_choose_1 31 rfl) rfl ?_
              refine gw_aald_ints (gc k_Paper_choose_1 32 rfl) (by first | exact gAt hx rfl rfl | exact (ps5 hx (by omega)).1.1 | exact (ps5 hx (by omega)).1.2.1 | exact (ps5 hx (by omega)).1.2.2 | exact (ps5 hx (by omega)).2.1 | exact (ps5 hx (by omega)).2.2.1 | exact (ps5 hx (by omega)).2.2.2.1 | exact (ps5 hx (by omega)).2.2.2.2 | exact (bs hx hb).1 | exact (bs hx hb).2.1 | exact (bs hx hb).2.2.1 | exact (bs hx hb).2.2.2.1) (by omega) ?_
              rw [hp5.1.2.1]
              refine gw_iload (gc k_Paper_choose_1 33 rfl) rfl ?_
              refine gw_iald (gc k_Paper_choose_1 34 rfl) (by first | exact gAt hx rfl rfl | exact (ps5 hx (by omega)).1.1 | exact (ps5 hx (by omega)).1.2.1 | exact (ps5 hx (by omega)).1.2.2 | exact (ps5 hx (by omega)).2.1 | exact (ps5 hx (by omega)).2.2.1 | exact (ps5 hx (by omega)).2.2.2.1 | exact (ps5 hx (by omega)).2.2.2.2 | exact (bs hx hb).1 | exact (bs hx hb).2.1 | exact (bs hx hb).2.2.1 | exact (bs hx hb).2.2.2.1) (by omega) ?_
              refine gw_isub (gc k_Paper_choose_1 35 rfl) ?_
              refine gw_iadd (gc k_Paper_choose_1 36 rfl) ?_
              refine gw_istore_9 (gc k_Paper_choose_1 37 rfl) rfl rfl ?_
              refine gw_goto (tgt := 153) (gc k_Paper_choose_1 38 rfl) rfl ?_
              exact kj85 _ ((by first | (rw [if_pos (by omega)] at hc; omega) | (rw [if_neg (by omega), if_pos (by omega)] at hc; omega) | (rw [if_neg (by omega), if_neg (by omega), if_pos (by omega)] at hc; omega) | (rw [if_neg (by omega), if_neg (by omega), if_neg (by omega)] at hc; omega)))
          · refine gw_iload (gc k_Paper_choose_1 12 rfl) rfl ?_
            refine gw_aload_n (gc k_Paper_choose_1 13 rfl) rfl rfl ?_
            refine gw_getref (gc k_Paper_choose_1 14 rfl) fl_Paper_14 (by first | exact gAt hx rfl rfl | exact (ps5 hx (by omega)).1.1 | exact (ps5 hx (by omega)).1.2.1 | exact (ps5 hx (by omega)).1.2.2 | exact (ps5 hx (by omega)).2.1 | exact (ps5 hx (by omega)).2.2.1 | exact (ps5 hx (by omega)).2.2.2.1 | exact (ps5 hx (by omega)).2.2.2.2 | exact (bs hx hb).1 | exact (bs hx hb).2.1 | exact (bs hx hb).2.2.1 | exact (bs hx hb).2.2.2.1) (by first | exact gRf hf rfl rfl | exact (br hf hb).1 | exact (br hf hb).2.1 | exact (br hf hb).2.2.1 | exact (br hf hb).2.2.2.1 | exact (br hf hb).2.2.2.2.1 | exact (br hf hb).2.2.2.2.2) ?_
            refine gw_getref (gc k_Paper_choose_1 15 rfl) fl_Paper_95 (by first | exact gAt hx rfl rfl | exact (ps5 hx (by omega)).1.1 | exact (ps5 hx (by omega)).1.2.1 | exact (ps5 hx (by omega)).1.2.2 | exact (ps5 hx (by omega)).2.1 | exact (ps5 hx (by omega)).2.2.1 | exact (ps5 hx (by omega)).2.2.2.1 | exact (ps5 hx (by omega)).2.2.2.2 | exact (bs hx hb).1 | exact (bs hx hb).2.1 | exact (bs hx hb).2.2.1 | exact (bs hx hb).2.2.2.1) (by first | exact gRf hf rfl rfl | exact (br hf hb).1 | exact (br hf hb).2.1 | exact (br hf hb).2.2.1 | exact (br hf hb).2.2.2.1 | exact (br hf hb).2.2.2.2.1 | exact (br hf hb).2.2.2.2.2) ?_
            refine gw_iload_n (gc k_Paper_choose_1 16 rfl) rfl ?_
            refine gw_aald_ints (gc k_Paper_choose_1 17 rfl) (by first | exact gAt hx rfl rfl | exact (ps5 hx (by omega)).1.1 | exact (ps5 hx (by omega)).1.2.1 | exact (ps5 hx (by omega)).1.2.2 | exact (ps5 hx (by omega)).2.1 | exact (ps5 hx (by omega)).2.2.1 | exact (ps5 hx (by omega)).2.2.2.1 | exact (ps5 hx (by omega)).2.2.2.2 | exact (bs hx hb).1 | exact (bs hx hb).2.1 | exact (bs hx hb).2.2.1 | exact (bs hx hb).2.2.2.1) (by omega) ?_
            rw [hp5.1.1]
            refine gw_iload (gc k_Paper_choose_1 18 rfl) rfl ?_
            refine gw_iald (gc k_Paper_choose_1 19 rfl) (by first | exact gAt hx rfl rfl | exact (ps5 hx (by omega)).1.1 | exact (ps5 hx (by omega)).1.2.1 | exact (ps5 hx (by omega)).1.2.2 | exact (ps5 hx (by omega)).2.1 | exact (ps5 hx (by omega)).2.2.1 | exact (ps5 hx (by omega)).2.2.2.1 | exact (ps5 hx (by omega)).2.2.2.2 | exact (bs hx hb).1 | exact (bs hx hb).2.1 | exact (bs hx hb).2.2.1 | exact (bs hx hb).2.2.2.1) (by omega) ?_
            refine gw_iadd (gc k_Paper_choose_1 20 rfl) ?_
            refine gw_istore_9 (gc k_Paper_choose_1 21 rfl) rfl rfl ?_
            refine gw_goto (tgt := 153) (gc k_Paper_choose_1 22 rfl) rfl ?_
            exact kj85 _ ((by first | (rw [if_pos (by omega)] at hc; omega) | (rw [if_neg (by omega), if_pos (by omega)] at hc; omega) | (rw [if_neg (by omega), if_neg (by omega), if_pos (by omega)] at hc; omega) | (rw [if_neg (by omega), if_neg (by omega), if_neg (by omega)] at hc; omega)))
      · refine gw_iload_n (gc k_Paper_choose_0 33 rfl) rfl ?_
        refine gw_iconst (gc k_Paper_choose_0 34 rfl) ?_
        refine gw_iadd (gc k_Paper_choose_0 35 rfl) ?_
        refine gw_aload_n (gc k_Paper_choose_0 36 rfl) rfl rfl ?_
        refine gw_getf 0 rfl (gc k_Paper_choose_0 37 rfl) fl_Paper_68 (by first | exact gAt hx rfl rfl | exact (ps5 hx (by omega)).1.1 | exact (ps5 hx (by omega)).1.2.1 | exact (ps5 hx (by omega)).1.2.2 | exact (ps5 hx (by omega)).2.1 | exact (ps5 hx (by omega)).2.2.1 | exact (ps5 hx (by omega)).2.2.2.1 | exact (ps5 hx (by omega)).2.2.2.2 | exact (bs hx hb).1 | exact (bs hx hb).2.1 | exact (bs hx hb).2.2.1 | exact (bs hx hb).2.2.2.1) ?_
        rw [hB.2.1]
        refine gw_icmp_ge (tgt := 82) (gc k_Paper_choose_0 38 rfl) rfl (by omega) (fun c65 => ?_) (fun c65 => ?_)
        · refine gw_iconst (gc k_Paper_choose_1 8 rfl) ?_
          exact kj58 _ ((by first | (rw [if_pos (by omega)] at hRh; exact hRh) | (rw [if_neg (by omega)] at hRh; exact hRh)))
        · refine gw_aload_n (gc k_Paper_choose_0 39 rfl) rfl rfl ?_
          refine gw_getref (gc k_Paper_choose_1 0 rfl) fl_Paper_28 (by first | exact gAt hx rfl rfl | exact (ps5 hx (by omega)).1.1 | exact (ps5 hx (by omega)).1.2.1 | exact (ps5 hx (by omega)).1.2.2 | exact (ps5 hx (by omega)).2.1 | exact (ps5 hx (by omega)).2.2.1 | exact (ps5 hx (by omega)).2.2.2.1 | exact (ps5 hx (by omega)).2.2.2.2 | exact (bs hx hb).1 | exact (bs hx hb).2.1 | exact (bs hx hb).2.2.1 | exact (bs hx hb).2.2.2.1) (by first | exact gRf hf rfl rfl | exact (br hf hb).1 | exact (br hf hb).2.1 | exact (br hf hb).2.2.1 | exact (br hf hb).2.2.2.1 | exact (br hf hb).2.2.2.2.1 | exact (br hf hb).2.2.2.2.2) ?_
          refine gw_iload_n (gc k_Paper_choose_1 1 rfl) rfl ?_
          refine gw_iconst (gc k_Paper_choose_1 2 rfl) ?_
          refine gw_iadd (gc k_Paper_choose_1 3 rfl) ?_
          refine gw_aald_ints (gc k_Paper_choose_1 4 rfl) (by first | exact gAt hx rfl rfl | exact (ps5 hx (by omega)).1.1 | exact (ps5 hx (by omega)).1.2.1 | exact (ps5 hx (by omega)).1.2.2 | exact (ps5 hx (by omega)).2.1 | exact (ps5 hx (by omega)).2.2.1 | exact (ps5 hx (by omega)).2.2.2.1 | exact (ps5 hx (by omega)).2.2.2.2 | exact (bs hx hb).1 | exact (bs hx hb).2.1 | exact (bs hx hb).2.2.1 | exact (bs hx hb).2.2.2.1) (by omega) ?_
          rw [(pr5 hf (i := n + 1) (by omega)).2.1]
          refine gw_iload (gc k_Paper_choose_1 5 rfl) rfl ?_
          refine gw_iald (gc k_Paper_choose_1 6 rfl) (by first | exact gAt hx rfl rfl | exact (ps5 hx (by omega)).1.1 | exact (ps5 hx (by omega)).1.2.1 | exact (ps5 hx (by omega)).1.2.2 | exact (ps5 hx (by omega)).2.1 | exact (ps5 hx (by omega)).2.2.1 | exact (ps5 hx (by omega)).2.2.2.1 | exact (ps5 hx (by omega)).2.2.2.2 | exact (bs hx hb).1 | exact (bs hx hb).2.1 | exact (bs hx hb).2.2.1 | exact (bs hx hb).2.2.2.1) (by omega) ?_
          rw [show 81 + (n + 1) = 82 + n by omega]
          refine gw_goto (tgt := 83) (gc k_Paper_choose_1 7 rfl) rfl ?_
          exact kj58 _ ((by first | (rw [if_pos (by omega)] at hRh; exact hRh) | (rw [if_neg (by omega)] at hRh; exact hRh)))
    · refine gw_goto (tgt := 168) (gc k_Paper_choose_0 32 rfl) rfl ?_
      refine gw_iinc_7 (gc k_Paper_choose_2 13 rfl) rfl rfl ?_
      refine gw_goto (tgt := 20) (gc k_Paper_choose_2 14 rfl) rfl ?_
      have hs : ckF C (fun q => c q + R q) (lo n) (h + 1 - lo n).toNat = (ckF C (fun q => c q + R q) (lo n) (h - lo n).toNat) := by
        rw [show (h + 1 - lo n).toNat = (h - lo n).toNat + 1 by omega]
        show (if C (lo n + ((h - lo n).toNat : Int)) = 1 ∧ c (lo n + ((h - lo n).toNat : Int)) + R (lo n + ((h - lo n).toNat : Int)) < (ckF C (fun q => c q + R q) (lo n) (h - lo n).toNat).1 then (c (lo n + ((h - lo n).toNat : Int)) + R (lo n + ((h - lo n).toNat : Int)), lo n + ((h - lo n).toNat : Int)) else ckF C (fun q => c q + R q) (lo n) (h - lo n).toNat) = _
        rw [show lo n + ((h - lo n).toNat : Int) = h by omega]
        rw [if_neg (fun z => by have := z.1; omega)]
      have hnew : lo n ≤ h + 1 ∧ (h + 1 ≤ hi n + 1 ∨ h + 1 = lo n) := ⟨by omega, Or.inl (by omega)⟩
      have q := ih (h + 1, (0, p * 25 + h), x9) hnew (by show (hi n + 1 - (h + 1)).toNat < (hi n + 1 - h).toNat; omega)
      replace q : gWP _ _ _ _ _ [(2, 31), (2, b), (0, n), (0, p), (0, aim), (0, (ckF C (fun q => c q + R q) (lo n) (h + 1 - lo n).toNat).1), (0, (ckF C (fun q => c q + R q) (lo n) (h + 1 - lo n).toNat).2), (0, h + 1), _, _] [] sh g _ := q
      rw [hs] at q
      exact q
