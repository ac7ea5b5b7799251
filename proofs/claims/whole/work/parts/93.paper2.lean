/-! ===== the least from the last note back ===== -/
def faL (f : Int → Int) (n : Int) : Int := if n = 0 then 0 else f (n - 1)
def vwC (r : Int → Int) (n h : Int) : Int → Int := fun q => 1 - vBar r n h q
def caF (r : Int → Int) (aim n h q : Int) : Int := if aim = 0 then vPay r n h q else if aim = 1 then 99 - tlR r (vW r n h q) 2 99 1 else if q = r n then 0 else 1
def laK (r : Int → Int) (aim : Int) (lo hi : Int → Int) : Nat → Int → Int → Int × Int
  | 0, n, h => ckF (vwC r n h) (fun q => caF r aim n h q + 0) (lo n) (hi n + 1 - lo n).toNat
  | m + 1, n, h => ckF (vwC r n h) (fun q => caF r aim n h q + (laK r aim lo hi m (n + 1) q).1) (lo n) (hi n + 1 - lo n).toNat
def laV (r : Int → Int) (aim : Int) (lo hi : Int → Int) (n h : Int) : Int × Int := laK r aim lo hi (r 41 - 1 - n).toNat n h
def raR (r : Int → Int) (aim : Int) (lo hi : Int → Int) (n q : Int) : Int := if n + 1 < r 41 then (laV r aim lo hi (n + 1) q).1 else 0
theorem laV_eq (r : Int → Int) (aim : Int) (lo hi : Int → Int) {n : Int} (hn : 0 ≤ n ∧ n < r 41) (h : Int) : laV r aim lo hi n h = ckF (vwC r n h) (fun q => caF r aim n h q + raR r aim lo hi n q) (lo n) (hi n + 1 - lo n).toNat := by
  by_cases z : n + 1 < r 41
  · have e : raR r aim lo hi n = fun q => (laV r aim lo hi (n + 1) q).1 := funext fun q => if_pos z
    rw [e]
    unfold laV
    rw [show (r 41 - 1 - n).toNat = (r 41 - 1 - (n + 1)).toNat + 1 by omega]
    rfl
  · have e : raR r aim lo hi n = fun _ => 0 := funext fun q => if_neg z
    rw [e]
    unfold laV
    rw [show (r 41 - 1 - n).toNat = 0 by omega]
    rfl
theorem vPay_j {Λ : Int → List PC} {sh : gS} {g : gM} {r : Int → Int} {a : Int} (hL : lwP Λ sh g r a) (n h q : Int) : vPay r n h q = jL (Λ a) (vW r n h q) 0 := by
  unfold vPay
  rw [hL.2]
  rfl
theorem vBar_j {Λ : Int → List PC} {sh : gS} {g : gM} {r : Int → Int} {a : Int} (hL : lwP Λ sh g r a) (n h q : Int) : vBar r n h q = jL (Λ a) (vW r n h q) 2 := by
  unfold vBar
  rw [hL.2]
  rfl
theorem gain_j {Λ : Int → List PC} {sh : gS} {g : gM} {r : Int → Int} {a : Int} (hL : lwP Λ sh g r a) (n h q : Int) : tlR r (vW r n h q) 2 99 1 = jL (Λ a) (vW r n h q) 1 := by
  rw [hL.2]
  rfl
theorem caF_bd {Λ : Int → List PC} {sh : gS} {g : gM} {r : Int → Int} {a : Int} (hL : lwP Λ sh g r a) (aim n h q : Int) (hh : 0 ≤ h ∧ h ≤ 24) (hq : 0 ≤ q ∧ q ≤ 24) : 0 ≤ caF r aim n h q ∧ caF r aim n h q ≤ 999 := by
  unfold caF
  by_cases z : aim = 0
  · rw [if_pos z, vPay_j hL]
    exact jL_bd (by show -999 ≤ (if 0 < n then q - h else 0) ∧ (if 0 < n then q - h else 0) ≤ 999; split <;> omega) (by decide)
  · rw [if_neg z]
    by_cases z2 : aim = 1
    · rw [if_pos z2, gain_j hL]
      have := jL_1 (L := Λ a) (W := vW r n h q)
      omega
    · rw [if_neg z2]; split <;> omega
theorem laK_bd {Λ : Int → List PC} {sh : gS} {g : gM} {r : Int → Int} {a : Int} (hL : lwP Λ sh g r a) (aim : Int) {lo hi : Int → Int} (hb : ∀ i, 0 ≤ i → i < 12 → (0 ≤ lo i ∧ lo i ≤ 24) ∧ (0 ≤ hi i ∧ hi i ≤ 24)) : ∀ (m : Nat) (n h : Int), 0 ≤ n → n + m < 12 → (0 ≤ h ∧ h ≤ 24) → 0 ≤ (laK r aim lo hi m n h).1 ∧ (laK r aim lo hi m n h).1 ≤ 1000000
  | 0, n, h, h0, h1, h2 => by
    have hw := hb n h0 (by omega)
    exact (ckF_bd _ (fun q x y => by have := caF_bd hL aim n h q h2 (by omega); show 0 ≤ caF r aim n h q + 0; omega)).1
  | m + 1, n, h, h0, h1, h2 => by
    have hw := hb n h0 (by omega)
    exact (ckF_bd _ (fun q x y => by
      have := caF_bd hL aim n h q h2 (by omega)
      have := laK_bd hL aim hb m (n + 1) q (by omega) (by omega) (by omega)
      show 0 ≤ caF r aim n h q + (laK r aim lo hi m (n + 1) q).1
      omega)).1
theorem raR_bd {Λ : Int → List PC} {sh : gS} {g : gM} {r : Int → Int} {a : Int} (hL : lwP Λ sh g r a) (ho : rowOK r) (aim : Int) {lo hi : Int → Int} (hb : ∀ i, 0 ≤ i → i < 12 → (0 ≤ lo i ∧ lo i ≤ 24) ∧ (0 ≤ hi i ∧ hi i ≤ 24)) (n q : Int) (hn : 0 ≤ n) (hq : 0 ≤ q ∧ q ≤ 24) : 0 ≤ raR r aim lo hi n q ∧ raR r aim lo hi n q ≤ 1000000 := by
  have hm := ro_many ho
  unfold raR
  split
  · exact laK_bd hL aim hb _ _ _ (by omega) (by omega) hq
  · decide
theorem ppW.bd {lo hi : Int → Int} {g : gM} (h : ppW lo hi g) : ∀ i, 0 ≤ i → i < 12 → (0 ≤ lo i ∧ lo i ≤ 24) ∧ (0 ≤ hi i ∧ hi i ≤ 24) := fun i a b => (h i a b).2
theorem faL_bd {lo hi : Int → Int} {g : gM} (h : ppW lo hi g) {i : Int} (hi2 : 0 ≤ i ∧ i < 12) : ((0 ≤ faL lo i ∧ faL lo i ≤ 24) ∧ (0 ≤ faL hi i ∧ faL hi i ≤ 24)) ∧ (i = 0 → faL lo i = 0 ∧ faL hi i = 0) := by
  unfold faL
  by_cases z : i = 0
  · rw [if_pos z, if_pos z]; omega
  · rw [if_neg z, if_neg z]
    have := (h (i - 1) (by omega) (by omega)).2
    omega
theorem fa_lo {lo hi : Int → Int} {g : gM} (h : ppW lo hi g) {i : Int} (hi2 : 0 ≤ i ∧ i < 12) : (if i = 0 then (0 : Int) else g 132 (i - 1)) = faL lo i := by
  unfold faL
  by_cases z : i = 0
  · rw [if_pos z, if_pos z]
  · rw [if_neg z, if_neg z, (h (i - 1) (by omega) (by omega)).1.1]
theorem fa_hi {lo hi : Int → Int} {g : gM} (h : ppW lo hi g) {i : Int} (hi2 : 0 ≤ i ∧ i < 12) : (if i = 0 then (0 : Int) else g 133 (i - 1)) = faL hi i := by
  unfold faL
  by_cases z : i = 0
  · rw [if_pos z, if_pos z]
  · rw [if_neg z, if_neg z, (h (i - 1) (by omega) (by omega)).1.2]
/-- the rows below note i are laid -/
def laI (Λ : Int → List PC) (sh : gS) (r : Int → Int) (aim : Int) (lo hi : Int → Int) (i : Int) (g g1 : gM) : Prop := ppJ g g1 ∧ ppS Λ sh g1 ∧ ∀ n p, i < n → n < r 41 → faL lo n ≤ p → p ≤ faL hi n → g1 (81 + n) p = (laV r aim lo hi n p).1 ∧ g1 (94 + n) p = (laV r aim lo hi n p).2
/-- the pages of note i -/
def pgP (Λ : Int → List PC) (r : Int → Int) (a aim i : Int) (g : gM) : Prop := pgK Λ g (66 + i) a r i 2 ∧ (aim = 0 → pgK Λ g (34 + i) a r i 0) ∧ (aim = 1 → pgK Λ g (50 + i) a r i 1)
theorem pgK.eq {Λ : Int → List PC} {g g2 : gM} {A a : Int} {r : Int → Int} {i k : Int} (h : pgK Λ g A a r i k) (he : ∀ y, g2 A y = g A y) : pgK Λ g2 A a r i k := fun x p a b c d z => by rw [he]; exact h x p a b c d z
theorem laI.renew {Λ : Int → List PC} {sh : gS} {r : Int → Int} {aim : Int} {lo hi : Int → Int} {i : Int} (hi2 : 0 ≤ i ∧ i < 12) {g g1 g2 : gM} (h : laI Λ sh r aim lo hi i g g1) {S k : Int} (hS : isSh S k) (hF : shW S i g1 g2) (hI : shI Λ sh g2 S k) : laI Λ sh r aim lo hi i g g2 := by
  have hSx := hS
  unfold isSh at hSx
  refine ⟨h.1.tr (hF.pp hS hi2), ?_, fun n p a b c d => ?_⟩
  · rcases hSx with ⟨rfl, rfl⟩ | ⟨rfl, rfl⟩ | ⟨rfl, rfl⟩
    · exact ⟨hI, h.2.1.2.1.oth iS1 hS (by decide) hi2 hF, h.2.1.2.2.oth iS2 hS (by decide) hi2 hF⟩
    · exact ⟨h.2.1.1.oth iS0 hS (by decide) hi2 hF, hI, h.2.1.2.2.oth iS2 hS (by decide) hi2 hF⟩
    · exact ⟨h.2.1.1.oth iS0 hS (by decide) hi2 hF, h.2.1.2.1.oth iS1 hS (by decide) hi2 hF, hI⟩
  · rw [hF _ _ (by omega) (by omega) (by omega) (by omega) (by omega) (by omega), hF _ _ (by omega) (by omega) (by omega) (by omega) (by omega) (by omega)]
    exact h.2.2 n p a b c d
/-- one cell more -/
theorem laI.cell {Λ : Int → List PC} {sh : gS} {r : Int → Int} (hm : r 41 ≤ 12) {aim : Int} {lo hi : Int → Int} {i : Int} (hi2 : 0 ≤ i ∧ i < 12) {g g1 : gM} (h : laI Λ sh r aim lo hi i g g1) (p v w : Int) : laI Λ sh r aim lo hi i g (gup (gup g1 (81 + i) p v) (94 + i) p w) := by
  refine ⟨(h.1.up _ _ (by unfold ppA; omega)).up _ _ (by unfold ppA; omega), h.2.1.keep (fun x y _ _ => by rw [gup_a _ _ _ _ _ (by omega), gup_a _ _ _ _ _ (by omega)]), fun n q a b c d => ?_⟩
  rw [gup_a _ _ _ _ _ (by omega), gup_a _ _ _ _ _ (by omega), gup_a _ _ _ _ _ (by omega), gup_a _ _ _ _ _ (by omega)]
  exact h.2.2 n q a b c d
theorem pgP.cell {Λ : Int → List PC} {r : Int → Int} {a aim i : Int} (hi2 : 0 ≤ i ∧ i < 12) {g : gM} (h : pgP Λ r a aim i g) (p v w : Int) : pgP Λ r a aim i (gup (gup g (81 + i) p v) (94 + i) p w) := by
  refine ⟨h.1.eq (fun y => ?_), fun z => (h.2.1 z).eq (fun y => ?_), fun z => (h.2.2 z).eq (fun y => ?_)⟩
  · rw [gup_a _ _ _ _ _ (by omega), gup_a _ _ _ _ _ (by omega)]
  · rw [gup_a _ _ _ _ _ (by omega), gup_a _ _ _ _ _ (by omega)]
  · rw [gup_a _ _ _ _ _ (by omega), gup_a _ _ _ _ _ (by omega)]
theorem pg_C {Λ : Int → List PC} {sh : gS} {g0 g : gM} {r : Int → Int} {a aim i : Int} (hL : lwP Λ sh g0 r a) (h : pgP Λ r a aim i g) {p q : Int} (hp : (0 ≤ p ∧ p < 25) ∧ (i = 0 → p = 0)) (hq : 0 ≤ q ∧ q < 25) : g (66 + i) (p * 25 + q) = 1 - vwC r i p q ∧ (vwC r i p q = 0 ∨ vwC r i p q = 1) := by
  have e := h.1 q p hq.1 hq.2 hp.1.1 hp.1.2 hp.2
  have e2 : jL (Λ a) (askW (askM r i q (0 < i) p)) 2 = vBar r i p q := (vBar_j hL i p q).symm
  have := vBar_01 r i p q
  unfold vwC
  rw [e, e2]
  omega
theorem pg_P {Λ : Int → List PC} {sh : gS} {g0 g : gM} {r : Int → Int} {a aim i : Int} (hL : lwP Λ sh g0 r a) (h : pgP Λ r a aim i g) {p q : Int} (hp : (0 ≤ p ∧ p < 25) ∧ (i = 0 → p = 0)) (hq : 0 ≤ q ∧ q < 25) : (if aim = 0 then g (34 + i) (p * 25 + q) else if aim = 1 then 99 - g (50 + i) (p * 25 + q) else if q = r i then 0 else 1) = caF r aim i p q := by
  unfold caF
  by_cases z : aim = 0
  · rw [if_pos z, if_pos z, h.2.1 z q p hq.1 hq.2 hp.1.1 hp.1.2 hp.2]
    exact (vPay_j hL i p q).symm
  · rw [if_neg z, if_neg z]
    by_cases z2 : aim = 1
    · rw [if_pos z2, if_pos z2, h.2.2 z2 q p hq.1 hq.2 hp.1.1 hp.1.2 hp.2]
      exact congrArg (99 - ·) (gain_j hL i p q).symm
    · rw [if_neg z2, if_neg z2]
theorem pg_R {Λ : Int → List PC} {sh : gS} {r : Int → Int} {aim : Int} {lo hi : Int → Int} {i : Int} (hi2 : 0 ≤ i) {g g1 : gM} (h : laI Λ sh r aim lo hi i g g1) {q : Int} (hq : lo i ≤ q ∧ q ≤ hi i) : (if i + 1 < r 41 then g1 (82 + i) q else 0) = raR r aim lo hi i q := by
  unfold raR
  by_cases z : i + 1 < r 41
  · rw [if_pos z, if_pos z]
    have e := (h.2.2 (i + 1) q (by omega) z (by unfold faL; rw [if_neg (by omega), show i + 1 - 1 = i by omega]; exact hq.1) (by unfold faL; rw [if_neg (by omega), show i + 1 - 1 = i by omega]; exact hq.2)).1
    rw [show 81 + (i + 1) = 82 + i by omega] at e
    exact e
  · rw [if_neg z, if_neg z]
def laR (r : Int → Int) (aim : Int) (lo hi : Int → Int) : Int := if r 41 = 0 then 0 else if (laV r aim lo hi 0 0).1 < 1000000 then (laV r aim lo hi 0 0).1 else -1
/-- the picks -/
def pkR (r : Int → Int) (aim : Int) (lo hi : Int → Int) (g : gM) : Prop := ∀ n p, 0 ≤ n → n < r 41 → faL lo n ≤ p → p ≤ faL hi n → g (94 + n) p = (laV r aim lo hi n p).2
/-- the paper's frame -/
def ppF (g g2 : gM) : Prop := ∀ a k, a ≠ 10 → a ≠ 11 → ¬ (a = 8 ∧ 2 ≤ k ∧ k ≤ 3) → ¬ (31 ≤ a ∧ a ≤ 140) → g2 a k = g a k
theorem ppF.tr {g g2 g3 : gM} (h : ppF g g2) (h2 : ppF g2 g3) : ppF g g3 := fun a k n m q z => (h2 a k n m q z).trans (h a k n m q z)
theorem ppJ.pf {g g2 : gM} (h : ppJ g g2) : ppF g g2 := fun a k n m q z => h a k n m q (fun e => z (by unfold ppA at e; omega))
set_option maxHeartbeats 8000000 in
theorem c_Paper_leastOf {sh : gS} {g : gM} (hx : gFix sh) (hf : gFin g) {Λ : Int → List PC} {r : Int → Int} {b : Int} (hb : isBd b) (hB : bdN r g b) {a : Int} (hL : lwP Λ sh g r a) (hS : ppS Λ sh g) {lo hi : Int → Int} (hw : ppW lo hi g) (aim : Int) (ha : aim = 0 ∨ aim = 1 ∨ aim = 3) : gTri f_Paper_leastOf 5 0 0 [(2, 31), (2, b), (2, a), (0, aim)] sh g (fun x s2 g2 => x = some (0, laR r aim lo hi) ∧ s2 = sh ∧ ppJ g g2 ∧ ppS Λ sh g2 ∧ pkR r aim lo hi g2) := by
  have hbx := hb
  unfold isBd at hbx
  have hm := ro_many hB.1
  have hf0 := hf
  refine gTri.of (by decide +kernel) rfl ?_
  show gWP f_Paper_leastOf _ _ _ 0 [(2, 31), (2, b), (2, a), (0, aim), (9, 0), (9, 0)] [] sh g _
  refine gw_aload_n (gc k_Paper_leastOf_0 0 rfl) rfl rfl ?_
  refine gw_getf 0 rfl (gc k_Paper_leastOf_0 1 rfl) fl_Paper_68 (by first | exact gAt hx rfl rfl | exact (ps5 hx (by omega)).1.1 | exact (ps5 hx (by omega)).1.2.1 | exact (ps5 hx (by omega)).1.2.2 | exact (ps5 hx (by omega)).2.1 | exact (ps5 hx (by omega)).2.2.1 | exact (ps5 hx (by omega)).2.2.2.1 | exact (ps5 hx (by omega)).2.2.2.2 | exact (bs hx hb).1 | exact (bs hx hb).2.1 | exact (bs hx hb).2.2.1 | exact (bs hx hb).2.2.2.1) ?_
  rw [hB.2.1]
  refine gw_if_ne (tgt := 9) (gc k_Paper_leastOf_0 2 rfl) rfl (by omega) (fun c4 => ?_) (fun c4 => ?_)
  · refine gw_aload_n (gc k_Paper_leastOf_0 5 rfl) rfl rfl ?_
    refine gw_getf 0 rfl (gc k_Paper_leastOf_0 6 rfl) fl_Paper_68 (by first | exact gAt hx rfl rfl | exact (ps5 hx (by omega)).1.1 | exact (ps5 hx (by omega)).1.2.1 | exact (ps5 hx (by omega)).1.2.2 | exact (ps5 hx (by omega)).2.1 | exact (ps5 hx (by omega)).2.2.1 | exact (ps5 hx (by omega)).2.2.2.1 | exact (ps5 hx (by omega)).2.2.2.2 | exact (bs hx hb).1 | exact (bs hx hb).2.1 | exact (bs hx hb).2.2.1 | exact (bs hx hb).2.2.2.1) ?_
    rw [hB.2.1]
    refine gw_iconst (gc k_Paper_leastOf_0 7 rfl) ?_
    refine gw_isub (gc k_Paper_leastOf_0 8 rfl) ?_
    refine gw_istore_4 (gc k_Paper_leastOf_0 9 rfl) rfl rfl ?_
    refine gwloop (σ := Int × gV × gM) (fun zs => (-1 ≤ (zs.1) ∧ (zs.1) < r 41) ∧ laI Λ sh r aim lo hi (zs.1) g (zs.2.2)) (fun zs => ((zs.1) + 1).toNat) (fun zs => [(2, 31), (2, b), (2, a), (0, aim), (0, (zs.1)), (zs.2.1)]) (fun zs => (zs.2.2)) (r 41 - 1, (9, 0), g) (show (-1 ≤ (r 41 - 1) ∧ (r 41 - 1) < r 41) ∧ laI Λ sh r aim lo hi (r 41 - 1) g g from ⟨⟨by omega, by omega⟩, ppJ.rf g, hS, fun n p x y => by omega⟩) rfl rfl (fun zs hI ih => ?_)
    obtain ⟨i, x5, g1⟩ := zs
    replace hI : (-1 ≤ i ∧ i < r 41) ∧ laI Λ sh r aim lo hi i g g1 := hI
    obtain ⟨hii, hI1⟩ := hI
    show gWP _ _ _ _ _ [(2, 31), (2, b), (2, a), (0, aim), (0, i), x5] [] _ (g1) _
    have hf := hI1.1.fin hf0
    refine gw_iload (gc k_Paper_leastOf_0 10 rfl) rfl ?_
    refine gw_if_lt (tgt := 120) (gc k_Paper_leastOf_0 11 rfl) rfl (by omega) (fun c19 => ?_) (fun c19 => ?_)
    · obtain rfl : i = -1 := by omega
      have h00 : g1 81 0 = (laV r aim lo hi 0 0).1 := (hI1.2.2 0 0 (by decide) (by omega) (Int.le_refl _) (Int.le_refl _)).1
      have hvb : 0 ≤ (laV r aim lo hi 0 0).1 ∧ (laV r aim lo hi 0 0).1 ≤ 1000000 := laK_bd hL aim hw.bd _ 0 0 (by decide) (by omega) (by decide)
      have hpk : pkR r aim lo hi g1 := fun n p x y z1 z2 => (hI1.2.2 n p (by omega) y z1 z2).2
      refine gw_aload_n (gc k_Paper_leastOf_1 21 rfl) rfl rfl ?_
      refine gw_getref (gc k_Paper_leastOf_1 22 rfl) fl_Paper_28 (by first | exact gAt hx rfl rfl | exact (ps5 hx (by omega)).1.1 | exact (ps5 hx (by omega)).1.2.1 | exact (ps5 hx (by omega)).1.2.2 | exact (ps5 hx (by omega)).2.1 | exact (ps5 hx (by omega)).2.2.1 | exact (ps5 hx (by omega)).2.2.2.1 | exact (ps5 hx (by omega)).2.2.2.2 | exact (bs hx hb).1 | exact (bs hx hb).2.1 | exact (bs hx hb).2.2.1 | exact (bs hx hb).2.2.2.1) (by first | exact gRf hf rfl rfl | exact (br hf hb).1 | exact (br hf hb).2.1 | exact (br hf hb).2.2.1 | exact (br hf hb).2.2.2.1 | exact (br hf hb).2.2.2.2.1 | exact (br hf hb).2.2.2.2.2) ?_
      refine gw_iconst (gc k_Paper_leastOf_1 23 rfl) ?_
      refine gw_aald_ints (gc k_Paper_leastOf_1 24 rfl) (by first | exact gAt hx rfl rfl | exact (ps5 hx (by omega)).1.1 | exact (ps5 hx (by omega)).1.2.1 | exact (ps5 hx (by omega)).1.2.2 | exact (ps5 hx (by omega)).2.1 | exact (ps5 hx (by omega)).2.2.1 | exact (ps5 hx (by omega)).2.2.2.1 | exact (ps5 hx (by omega)).2.2.2.2 | exact (bs hx hb).1 | exact (bs hx hb).2.1 | exact (bs hx hb).2.2.1 | exact (bs hx hb).2.2.2.1) (by omega) ?_
      rw [show g1 80 0 = 81 from gRf hf rfl rfl]
      refine gw_iconst (gc k_Paper_leastOf_1 25 rfl) ?_
      refine gw_iald (gc k_Paper_leastOf_1 26 rfl) (by first | exact gAt hx rfl rfl | exact (ps5 hx (by omega)).1.1 | exact (ps5 hx (by omega)).1.2.1 | exact (ps5 hx (by omega)).1.2.2 | exact (ps5 hx (by omega)).2.1 | exact (ps5 hx (by omega)).2.2.1 | exact (ps5 hx (by omega)).2.2.2.1 | exact (ps5 hx (by omega)).2.2.2.2 | exact (bs hx hb).1 | exact (bs hx hb).2.1 | exact (bs hx hb).2.2.1 | exact (bs hx hb).2.2.2.1) (by omega) ?_
      rw [h00]
      refine gw_ldc (gc k_Paper_leastOf_1 27 rfl) cn_Paper_130 ?_
      refine gw_icmp_ge (tgt := 144) (gc k_Paper_leastOf_1 28 rfl) rfl (by omega) (fun c130 => ?_) (fun c130 => ?_)
      · refine gw_iconst (gc k_Paper_leastOf_1 36 rfl) ?_
        refine gw_ireturn (gc k_Paper_leastOf_1 37 rfl) rfl ?_
        refine ⟨?_, rfl, hI1.1, hI1.2.1, hpk⟩
        unfold laR
        rw [if_neg (by omega), if_neg (by omega)]
      · refine gw_aload_n (gc k_Paper_leastOf_1 29 rfl) rfl rfl ?_
        refine gw_getref (gc k_Paper_leastOf_1 30 rfl) fl_Paper_28 (by first | exact gAt hx rfl rfl | exact (ps5 hx (by omega)).1.1 | exact (ps5 hx (by omega)).1.2.1 | exact (ps5 hx (by omega)).1.2.2 | exact (ps5 hx (by omega)).2.1 | exact (ps5 hx (by omega)).2.2.1 | exact (ps5 hx (by omega)).2.2.2.1 | exact (ps5 hx (by omega)).2.2.2.2 | exact (bs hx hb).1 | exact (bs hx hb).2.1 | exact (bs hx hb).2.2.1 | exact (bs hx hb).2.2.2.1) (by first | exact gRf hf rfl rfl | exact (br hf hb).1 | exact (br hf hb).2.1 | exact (br hf hb).2.2.1 | exact (br hf hb).2.2.2.1 | exact (br hf hb).2.2.2.2.1 | exact (br hf hb).2.2.2.2.2) ?_
        refine gw_iconst (gc k_Paper_leastOf_1 31 rfl) ?_
        refine gw_aald_ints (gc k_Paper_leastOf_1 32 rfl) (by first | exact gAt hx rfl rfl | exact (ps5 hx (by omega)).1.1 | exact (ps5 hx (by omega)).1.2.1 | exact (ps5 hx (by omega)).1.2.2 | exact (ps5 hx (by omega)).2.1 | exact (ps5 hx (by omega)).2.2.1 | exact (ps5 hx (by omega)).2.2.2.1 | exact (ps5 hx (by omega)).2.2.2.2 | exact (bs hx hb).1 | exact (bs hx hb).2.1 | exact (bs hx hb).2.2.1 | exact (bs hx hb).2.2.2.1) (by omega) ?_
        rw [show g1 80 0 = 81 from gRf hf rfl rfl]
        refine gw_iconst (gc k_Paper_leastOf_1 33 rfl) ?_
        refine gw_iald (gc k_Paper_leastOf_1 34 rfl) (by first | exact gAt hx rfl rfl | exact (ps5 hx (by omega)).1.1 | exact (ps5 hx (by omega)).1.2.1 | exact (ps5 hx (by omega)).1.2.2 | exact (ps5 hx (by omega)).2.1 | exact (ps5 hx (by omega)).2.2.1 | exact (ps5 hx (by omega)).2.2.2.1 | exact (ps5 hx (by omega)).2.2.2.2 | exact (bs hx hb).1 | exact (bs hx hb).2.1 | exact (bs hx hb).2.2.1 | exact (bs hx hb).2.2.2.1) (by omega) ?_
        rw [h00]
        refine gw_goto (tgt := 145) (gc k_Paper_leastOf_1 35 rfl) rfl ?_
        refine gw_ireturn (gc k_Paper_leastOf_1 37 rfl) rfl ?_
        refine ⟨?_, rfl, hI1.1, hI1.2.1, hpk⟩
        unfold laR
        rw [if_neg (by omega), if_pos (by omega)]
    · have hi12 : 0 ≤ i ∧ i < 12 := by omega
      have hwi := hw.bd i hi12.1 hi12.2
      refine gw_aload_n (gc k_Paper_leastOf_0 12 rfl) rfl rfl ?_
      refine gw_getref (gc k_Paper_leastOf_0 13 rfl) fl_Paper_23 (by first | exact gAt hx rfl rfl | exact (ps5 hx (by omega)).1.1 | exact (ps5 hx (by omega)).1.2.1 | exact (ps5 hx (by omega)).1.2.2 | exact (ps5 hx (by omega)).2.1 | exact (ps5 hx (by omega)).2.2.1 | exact (ps5 hx (by omega)).2.2.2.1 | exact (ps5 hx (by omega)).2.2.2.2 | exact (bs hx hb).1 | exact (bs hx hb).2.1 | exact (bs hx hb).2.2.1 | exact (bs hx hb).2.2.2.1) (by first | exact gRf hf rfl rfl | exact (br hf hb).1 | exact (br hf hb).2.1 | exact (br hf hb).2.2.1 | exact (br hf hb).2.2.2.1 | exact (br hf hb).2.2.2.2.1 | exact (br hf hb).2.2.2.2.2) ?_
      refine gw_aload_n (gc k_Paper_leastOf_0 14 rfl) rfl rfl ?_
      refine gw_iload (gc k_Paper_leastOf_0 15 rfl) rfl ?_
      refine gw_aload_n (gc k_Paper_leastOf_0 16 rfl) rfl rfl ?_
      refine gw_aload_n (gc k_Paper_leastOf_0 17 rfl) rfl rfl ?_
      refine gw_getref (gc k_Paper_leastOf_0 18 rfl) fl_Paper_56 (by first | exact gAt hx rfl rfl | exact (ps5 hx (by omega)).1.1 | exact (ps5 hx (by omega)).1.2.1 | exact (ps5 hx (by omega)).1.2.2 | exact (ps5 hx (by omega)).2.1 | exact (ps5 hx (by omega)).2.2.1 | exact (ps5 hx (by omega)).2.2.2.1 | exact (ps5 hx (by omega)).2.2.2.2 | exact (bs hx hb).1 | exact (bs hx hb).2.1 | exact (bs hx hb).2.2.1 | exact (bs hx hb).2.2.2.1) (by first | exact gRf hf rfl rfl | exact (br hf hb).1 | exact (br hf hb).2.1 | exact (br hf hb).2.2.1 | exact (br hf hb).2.2.2.1 | exact (br hf hb).2.2.2.2.1 | exact (br hf hb).2.2.2.2.2) ?_
      refine gw_xV1 (gc k_Paper_leastOf_0 19 rfl) y_Sheet_renew ln_Paper_84 (c_Sheet_renew hx hf iS2 hI1.2.1.2.2 hb (hI1.1.bdN hb hB) (hI1.1.lw hL.1) i (by omega)) rfl rfl (by first | exact gAt hx rfl rfl | exact (ps5 hx (by omega)).1.1 | exact (ps5 hx (by omega)).1.2.1 | exact (ps5 hx (by omega)).1.2.2 | exact (ps5 hx (by omega)).2.1 | exact (ps5 hx (by omega)).2.2.1 | exact (ps5 hx (by omega)).2.2.2.1 | exact (ps5 hx (by omega)).2.2.2.2 | exact (bs hx hb).1 | exact (bs hx hb).2.1 | exact (bs hx hb).2.2.1 | exact (bs hx hb).2.2.2.1) rfl rfl (fun r34 sh2 g34 hq34 => ?_)
      obtain ⟨rfl, hsh, hF34, hN34, hG34⟩ := hq34
      subst sh2
      have hI34 := hI1.renew hi12 iS2 hF34 hN34
      have hf := hI34.1.fin hf0
      refine gw_iload_n (gc k_Paper_leastOf_0 20 rfl) rfl ?_
      refine gw_if_ne (tgt := 59) (gc k_Paper_leastOf_0 21 rfl) rfl (by omega) (fun c38 => ?_) (fun c38 => ?_)
      · refine gw_iload_n (gc k_Paper_leastOf_0 31 rfl) rfl ?_
        refine gw_iconst (gc k_Paper_leastOf_0 32 rfl) ?_
        refine gw_icmp_ne (tgt := 79) (gc k_Paper_leastOf_0 33 rfl) rfl (by omega) (fun c61 => ?_) (fun c61 => ?_)
        · have hPg : pgP Λ r a aim i g34 := ⟨hG34, fun z => absurd z (by omega), fun z => absurd z (by omega)⟩
          refine gw_aload_n (gc k_Paper_leastOf_1 2 rfl) rfl rfl ?_
          refine gw_iload (gc k_Paper_leastOf_1 3 rfl) rfl ?_
          refine gw_cV1 (gc k_Paper_leastOf_1 4 rfl) y_Paper_firstAhead ln_Paper_88 (c_Paper_firstAhead hx hf i hi12) rfl rfl (by first | exact gAt hx rfl rfl | exact (ps5 hx (by omega)).1.1 | exact (ps5 hx (by omega)).1.2.1 | exact (ps5 hx (by omega)).1.2.2 | exact (ps5 hx (by omega)).2.1 | exact (ps5 hx (by omega)).2.2.1 | exact (ps5 hx (by omega)).2.2.2.1 | exact (ps5 hx (by omega)).2.2.2.2 | exact (bs hx hb).1 | exact (bs hx hb).2.1 | exact (bs hx hb).2.2.1 | exact (bs hx hb).2.2.2.1) rfl rfl ?_
          rw [fa_lo (hI34.1.w hw) hi12]
          have hfa := faL_bd hw hi12
          refine gw_istore_5 (gc k_Paper_leastOf_1 5 rfl) rfl rfl ?_
          refine gwloop (σ := Int × gM) (fun zs => (faL lo i ≤ (zs.1) ∧ ((zs.1) ≤ faL hi i + 1 ∨ (zs.1) = faL lo i)) ∧ laI Λ sh r aim lo hi i g (zs.2) ∧ pgP Λ r a aim i (zs.2) ∧ ∀ q, faL lo i ≤ q → q < (zs.1) → (zs.2) (81 + i) q = (laV r aim lo hi i q).1 ∧ (zs.2) (94 + i) q = (laV r aim lo hi i q).2) (fun zs => (25 - (zs.1)).toNat) (fun zs => [(2, 31), (2, b), (2, a), (0, aim), (0, i), (0, (zs.1))]) (fun zs => (zs.2)) (faL lo i, g34) (show (faL lo i ≤ (faL lo i) ∧ ((faL lo i) ≤ faL hi i + 1 ∨ (faL lo i) = faL lo i)) ∧ laI Λ sh r aim lo hi i g g34 ∧ pgP Λ r a aim i g34 ∧ ∀ q, faL lo i ≤ q → q < (faL lo i) → g34 (81 + i) q = (laV r aim lo hi i q).1 ∧ g34 (94 + i) q = (laV r aim lo hi i q).2 from ⟨⟨Int.le_refl _, Or.inr rfl⟩, hI34, hPg, fun q x y => by omega⟩) rfl rfl (fun zs hI ih2 => ?_)
          obtain ⟨p, g2⟩ := zs
          replace hI : (faL lo i ≤ p ∧ (p ≤ faL hi i + 1 ∨ p = faL lo i)) ∧ laI Λ sh r aim lo hi i g g2 ∧ pgP Λ r a aim i g2 ∧ ∀ q, faL lo i ≤ q → q < p → g2 (81 + i) q = (laV r aim lo hi i q).1 ∧ g2 (94 + i) q = (laV r aim lo hi i q).2 := hI
          obtain ⟨hp, hI2, hP2, hC⟩ := hI
          show gWP _ _ _ _ _ [(2, 31), (2, b), (2, a), (0, aim), (0, i), (0, p)] [] _ (g2) _
          have hf := hI2.1.fin hf0
          have hw2 := hI2.1.w hw
          refine gw_iload (gc k_Paper_leastOf_1 6 rfl) rfl ?_
          refine gw_aload_n (gc k_Paper_leastOf_1 7 rfl) rfl rfl ?_
          refine gw_iload (gc k_Paper_leastOf_1 8 rfl) rfl ?_
          refine gw_cV1 (gc k_Paper_leastOf_1 9 rfl) y_Paper_lastAhead ln_Paper_92 (c_Paper_lastAhead hx hf i hi12) rfl rfl (by first | exact gAt hx rfl rfl | exact (ps5 hx (by omega)).1.1 | exact (ps5 hx (by omega)).1.2.1 | exact (ps5 hx (by omega)).1.2.2 | exact (ps5 hx (by omega)).2.1 | exact (ps5 hx (by omega)).2.2.1 | exact (ps5 hx (by omega)).2.2.2.1 | exact (ps5 hx (by omega)).2.2.2.2 | exact (bs hx hb).1 | exact (bs hx hb).2.1 | exact (bs hx hb).2.2.1 | exact (bs hx hb).2.2.2.1) rfl rfl ?_
          rw [fa_hi hw2 hi12]
          refine gw_icmp_gt (tgt := 114) (gc k_Paper_leastOf_1 10 rfl) rfl (by omega) (fun c95 => ?_) (fun c95 => ?_)
          · refine gw_iinc_4 (gc k_Paper_leastOf_1 19 rfl) rfl rfl ?_
            refine gw_goto (tgt := 17) (gc k_Paper_leastOf_1 20 rfl) rfl ?_
            refine ih (i - 1, _, g2) ⟨⟨by omega, by omega⟩, hI2.1, hI2.2.1, fun n q x y z1 z2 => ?_⟩ (by show (i - 1 + 1).toNat < (i + 1).toNat; omega)
            by_cases e : n = i
            · subst e; exact hC q z1 (by omega)
            · exact hI2.2.2 n q (by omega) y z1 z2
          · refine gw_aload_n (gc k_Paper_leastOf_1 11 rfl) rfl rfl ?_
            refine gw_aload_n (gc k_Paper_leastOf_1 12 rfl) rfl rfl ?_
            refine gw_iload (gc k_Paper_leastOf_1 13 rfl) rfl ?_
            refine gw_iload (gc k_Paper_leastOf_1 14 rfl) rfl ?_
            refine gw_iload_n (gc k_Paper_leastOf_1 15 rfl) rfl ?_
            refine gw_cV0 (gc k_Paper_leastOf_1 16 rfl) y_Paper_choose ln_Paper_126 (c_Paper_choose hx hf hb (hI2.1.bdN hb hB) hw2 i p aim (by omega) (by omega) ha (vwC r i p) (caF r aim i p) (raR r aim lo hi i) (fun q x y => pg_C hL hP2 (by omega) (by omega)) (fun q x y => pg_P hL hP2 (by omega) (by omega)) (fun q x y => pg_R (by omega) hI2 ⟨x, y⟩) (fun q x y => caF_bd hL aim i p q (by omega) (by omega)) (fun q x y => raR_bd hL hB.1 aim hw.bd i q (by omega) (by omega))) rfl rfl (by first | exact gAt hx rfl rfl | exact (ps5 hx (by omega)).1.1 | exact (ps5 hx (by omega)).1.2.1 | exact (ps5 hx (by omega)).1.2.2 | exact (ps5 hx (by omega)).2.1 | exact (ps5 hx (by omega)).2.2.1 | exact (ps5 hx (by omega)).2.2.2.1 | exact (ps5 hx (by omega)).2.2.2.2 | exact (bs hx hb).1 | exact (bs hx hb).2.1 | exact (bs hx hb).2.2.1 | exact (bs hx hb).2.2.2.1) rfl rfl ?_
            refine gw_iinc_5 (gc k_Paper_leastOf_1 17 rfl) rfl rfl ?_
            refine gw_goto (tgt := 87) (gc k_Paper_leastOf_1 18 rfl) rfl ?_
            rw [← laV_eq r aim lo hi (by omega) p]
            have hnew : (faL lo i ≤ (p + 1) ∧ ((p + 1) ≤ faL hi i + 1 ∨ (p + 1) = faL lo i)) ∧ laI Λ sh r aim lo hi i g (gup (gup g2 (81 + i) p (laV r aim lo hi i p).1) (94 + i) p (laV r aim lo hi i p).2) ∧ pgP Λ r a aim i (gup (gup g2 (81 + i) p (laV r aim lo hi i p).1) (94 + i) p (laV r aim lo hi i p).2) ∧ ∀ q, faL lo i ≤ q → q < (p + 1) → (gup (gup g2 (81 + i) p (laV r aim lo hi i p).1) (94 + i) p (laV r aim lo hi i p).2) (81 + i) q = (laV r aim lo hi i q).1 ∧ (gup (gup g2 (81 + i) p (laV r aim lo hi i p).1) (94 + i) p (laV r aim lo hi i p).2) (94 + i) q = (laV r aim lo hi i q).2 := by
              refine ⟨⟨by omega, Or.inl (by omega)⟩, hI2.cell (by omega) hi12 p _ _, hP2.cell hi12 p _ _, fun q x y => ?_⟩
              by_cases e : q = p
              · subst e; rw [gup_s, gup_a _ _ _ _ _ (by omega), gup_s]; exact ⟨rfl, rfl⟩
              · rw [gup_a _ _ _ _ _ (by omega), gup_k _ _ _ _ e, gup_k _ _ _ _ e, gup_a _ _ _ _ _ (by omega)]; exact hC q x (by omega)
            exact ih2 (p + 1, gup (gup g2 (81 + i) p (laV r aim lo hi i p).1) (94 + i) p (laV r aim lo hi i p).2) hnew (by show (25 - (p + 1)).toNat < (25 - p).toNat; omega)
        · refine gw_aload_n (gc k_Paper_leastOf_0 34 rfl) rfl rfl ?_
          refine gw_getref (gc k_Paper_leastOf_0 35 rfl) fl_Paper_20 (by first | exact gAt hx rfl rfl | exact (ps5 hx (by omega)).1.1 | exact (ps5 hx (by omega)).1.2.1 | exact (ps5 hx (by omega)).1.2.2 | exact (ps5 hx (by omega)).2.1 | exact (ps5 hx (by omega)).2.2.1 | exact (ps5 hx (by omega)).2.2.2.1 | exact (ps5 hx (by omega)).2.2.2.2 | exact (bs hx hb).1 | exact (bs hx hb).2.1 | exact (bs hx hb).2.2.1 | exact (bs hx hb).2.2.2.1) (by first | exact gRf hf rfl rfl | exact (br hf hb).1 | exact (br hf hb).2.1 | exact (br hf hb).2.2.1 | exact (br hf hb).2.2.2.1 | exact (br hf hb).2.2.2.2.1 | exact (br hf hb).2.2.2.2.2) ?_
          refine gw_aload_n (gc k_Paper_leastOf_0 36 rfl) rfl rfl ?_
          refine gw_iload (gc k_Paper_leastOf_0 37 rfl) rfl ?_
          refine gw_aload_n (gc k_Paper_leastOf_0 38 rfl) rfl rfl ?_
          refine gw_aload_n (gc k_Paper_leastOf_0 39 rfl) rfl rfl ?_
          refine gw_getref (gc k_Paper_leastOf_1 0 rfl) fl_Paper_56 (by first | exact gAt hx rfl rfl | exact (ps5 hx (by omega)).1.1 | exact (ps5 hx (by omega)).1.2.1 | exact (ps5 hx (by omega)).1.2.2 | exact (ps5 hx (by omega)).2.1 | exact (ps5 hx (by omega)).2.2.1 | exact (ps5 hx (by omega)).2.2.2.1 | exact (ps5 hx (by omega)).2.2.2.2 | exact (bs hx hb).1 | exact (bs hx hb).2.1 | exact (bs hx hb).2.2.1 | exact (bs hx hb).2.2.2.1) (by first | exact gRf hf rfl rfl | exact (br hf hb).1 | exact (br hf hb).2.1 | exact (br hf hb).2.2.1 | exact (br hf hb).2.2.2.1 | exact (br hf hb).2.2.2.2.1 | exact (br hf hb).2.2.2.2.2) ?_
          refine gw_xV1 (gc k_Paper_leastOf_1 1 rfl) y_Sheet_renew ln_Paper_84 (c_Sheet_renew hx hf iS1 hI34.2.1.2.1 hb (hI34.1.bdN hb hB) (hI34.1.lw hL.1) i (by omega)) rfl rfl (by first | exact gAt hx rfl rfl | exact (ps5 hx (by omega)).1.1 | exact (ps5 hx (by omega)).1.2.1 | exact (ps5 hx (by omega)).1.2.2 | exact (ps5 hx (by omega)).2.1 | exact (ps5 hx (by omega)).2.2.1 | exact (ps5 hx (by omega)).2.2.2.1 | exact (ps5 hx (by omega)).2.2.2.2 | exact (bs hx hb).1 | exact (bs hx hb).2.1 | exact (bs hx hb).2.2.1 | exact (bs hx hb).2.2.2.1) rfl rfl (fun r76 sh2 g76 hq76 => ?_)
          obtain ⟨rfl, hsh, hF76, hN76, hG76⟩ := hq76
          subst sh2
          have hI76 := hI34.renew hi12 iS1 hF76 hN76
          have hf := hI76.1.fin hf0
          have hPg : pgP Λ r a aim i g76 := ⟨hG34.eq (fun y => hF76 _ _ (by omega) (by omega) (by omega) (by omega) (by omega) (by omega)), fun z => absurd z (by omega), fun _ => hG76⟩
          refine gw_aload_n (gc k_Paper_leastOf_1 2 rfl) rfl rfl ?_
          refine gw_iload (gc k_Paper_leastOf_1 3 rfl) rfl ?_
          refine gw_cV1 (gc k_Paper_leastOf_1 4 rfl) y_Paper_firstAhead ln_Paper_88 (c_Paper_firstAhead hx hf i hi12) rfl rfl (by first | exact gAt hx rfl rfl | exact (ps5 hx (by omega)).1.1 | exact (ps5 hx (by omega)).1.2.1 | exact (ps5 hx (by omega)).1.2.2 | exact (ps5 hx (by omega)).2.1 | exact (ps5 hx (by omega)).2.2.1 | exact (ps5 hx (by omega)).2.2.2.1 | exact (ps5 hx (by omega)).2.2.2.2 | exact (bs hx hb).1 | exact (bs hx hb).2.1 | exact (bs hx hb).2.2.1 | exact (bs hx hb).2.2.2.1) rfl rfl ?_
          rw [fa_lo (hI76.1.w hw) hi12]
          have hfa := faL_bd hw hi12
          refine gw_istore_5 (gc k_Paper_leastOf_1 5 rfl) rfl rfl ?_
          refine gwloop (σ := Int × gM) (fun zs => (faL lo i ≤ (zs.1) ∧ ((zs.1) ≤ faL hi i + 1 ∨ (zs.1) = faL lo i)) ∧ laI Λ sh r aim lo hi i g (zs.2) ∧ pgP Λ r a aim i (zs.2) ∧ ∀ q, faL lo i ≤ q → q < (zs.1) → (zs.2) (81 + i) q = (laV r aim lo hi i q).1 ∧ (zs.2) (94 + i) q = (laV r aim lo hi i q).2) (fun zs => (25 - (zs.1)).toNat) (fun zs => [(2, 31), (2, b), (2, a), (0, aim), (0, i), (0, (zs.1))]) (fun zs => (zs.2)) (faL lo i, g76) (show (faL lo i ≤ (faL lo i) ∧ ((faL lo i) ≤ faL hi i + 1 ∨ (faL lo i) = faL lo i)) ∧ laI Λ sh r aim lo hi i g g76 ∧ pgP Λ r a aim i g76 ∧ ∀ q, faL lo i ≤ q → q < (faL lo i) → g76 (81 + i) q = (laV r aim lo hi i q).1 ∧ g76 (94 + i) q = (laV r aim lo hi i q).2 from ⟨⟨Int.le_refl _, Or.inr rfl⟩, hI76, hPg, fun q x y => by omega⟩) rfl rfl (fun zs hI ih2 => ?_)
          obtain ⟨p, g2⟩ := zs
          replace hI : (faL lo i ≤ p ∧ (p ≤ faL hi i + 1 ∨ p = faL lo i)) ∧ laI Λ sh r aim lo hi i g g2 ∧ pgP Λ r a aim i g2 ∧ ∀ q, faL lo i ≤ q → q < p → g2 (81 + i) q = (laV r aim lo hi i q).1 ∧ g2 (94 + i) q = (laV r aim lo hi i q).2 := hI
          obtain ⟨hp, hI2, hP2, hC⟩ := hI
          show gWP _ _ _ _ _ [(2, 31), (2, b), (2, a), (0, aim), (0, i), (0, p)] [] _ (g2) _
          have hf := hI2.1.fin hf0
          have hw2 := hI2.1.w hw
          refine gw_iload (gc k_Paper_leastOf_1 6 rfl) rfl ?_
          refine gw_aload_n (gc k_Paper_leastOf_1 7 rfl) rfl rfl ?_
          refine gw_iload (gc k_Paper_leastOf_1 8 rfl) rfl ?_
          refine gw_cV1 (gc k_Paper_leastOf_1 9 rfl) y_Paper_lastAhead ln_Paper_92 (c_Paper_lastAhead hx hf i hi12) rfl rfl (by first | exact gAt hx rfl rfl | exact (ps5 hx (by omega)).1.1 | exact (ps5 hx (by omega)).1.2.1 | exact (ps5 hx (by omega)).1.2.2 | exact (ps5 hx (by omega)).2.1 | exact (ps5 hx (by omega)).2.2.1 | exact (ps5 hx (by omega)).2.2.2.1 | exact (ps5 hx (by omega)).2.2.2.2 | exact (bs hx hb).1 | exact (bs hx hb).2.1 | exact (bs hx hb).2.2.1 | exact (bs hx hb).2.2.2.1) rfl rfl ?_
          rw [fa_hi hw2 hi12]
          refine gw_icmp_gt (tgt := 114) (gc k_Paper_leastOf_1 10 rfl) rfl (by omega) (fun c95 => ?_) (fun c95 => ?_)
          · refine gw_iinc_4 (gc k_Paper_leastOf_1 19 rfl) rfl rfl ?_
            refine gw_goto (tgt := 17) (gc k_Paper_leastOf_1 20 rfl) rfl ?_
            refine ih (i - 1, _, g2) ⟨⟨by omega, by omega⟩, hI2.1, hI2.2.1, fun n q x y z1 z2 => ?_⟩ (by show (i - 1 + 1).toNat < (i + 1).toNat; omega)
            by_cases e : n = i
            · subst e; exact hC q z1 (by omega)
            · exact hI2.2.2 n q (by omega) y z1 z2
          · refine gw_aload_n (gc k_Paper_leastOf_1 11 rfl) rfl rfl ?_
            refine gw_aload_n (gc k_Paper_leastOf_1 12 rfl) rfl rfl ?_
            refine gw_iload (gc k_Paper_leastOf_1 13 rfl) rfl ?_
            refine gw_iload (gc k_Paper_leastOf_1 14 rfl) rfl ?_
            refine gw_iload_n (gc k_Paper_leastOf_1 15 rfl) rfl ?_
            refine gw_cV0 (gc k_Paper_leastOf_1 16 rfl) y_Paper_choose ln_Paper_126 (c_Paper_choose hx hf hb (hI2.1.bdN hb hB) hw2 i p aim (by omega) (by omega) ha (vwC r i p) (caF r aim i p) (raR r aim lo hi i) (fun q x y => pg_C hL hP2 (by omega) (by omega)) (fun q x y => pg_P hL hP2 (by omega) (by omega)) (fun q x y => pg_R (by omega) hI2 ⟨x, y⟩) (fun q x y => caF_bd hL aim i p q (by omega) (by omega)) (fun q x y => raR_bd hL hB.1 aim hw.bd i q (by omega) (by omega))) rfl rfl (by first | exact gAt hx rfl rfl | exact (ps5 hx (by omega)).1.1 | exact (ps5 hx (by omega)).1.2.1 | exact (ps5 hx (by omega)).1.2.2 | exact (ps5 hx (by omega)).2.1 | exact (ps5 hx (by omega)).2.2.1 | exact (ps5 hx (by omega)).2.2.2.1 | exact (ps5 hx (by omega)).2.2.2.2 | exact (bs hx hb).1 | exact (bs hx hb).2.1 | exact (bs hx hb).2.2.1 | exact (bs hx hb).2.2.2.1) rfl rfl ?_
            refine gw_iinc_5 (gc k_Paper_leastOf_1 17 rfl) rfl rfl ?_
            refine gw_goto (tgt := 87) (gc k_Paper_leastOf_1 18 rfl) rfl ?_
            rw [← laV_eq r aim lo hi (by omega) p]
            have hnew : (faL lo i ≤ (p + 1) ∧ ((p + 1) ≤ faL hi i + 1 ∨ (p + 1) = faL lo i)) ∧ laI Λ sh r aim lo hi i g (gup (gup g2 (81 + i) p (laV r aim lo hi i p).1) (94 + i) p (laV r aim lo hi i p).2) ∧ pgP Λ r a aim i (gup (gup g2 (81 + i) p (laV r aim lo hi i p).1) (94 + i) p (laV r aim lo hi i p).2) ∧ ∀ q, faL lo i ≤ q → q < (p + 1) → (gup (gup g2 (81 + i) p (laV r aim lo hi i p).1) (94 + i) p (laV r aim lo hi i p).2) (81 + i) q = (laV r aim lo hi i q).1 ∧ (gup (gup g2 (81 + i) p (laV r aim lo hi i p).1) (94 + i) p (laV r aim lo hi i p).2) (94 + i) q = (laV r aim lo hi i q).2 := by
              refine ⟨⟨by omega, Or.inl (by omega)⟩, hI2.cell (by omega) hi12 p _ _, hP2.cell hi12 p _ _, fun q x y => ?_⟩
              by_cases e : q = p
              · subst e; rw [gup_s, gup_a _ _ _ _ _ (by omega), gup_s]; exact ⟨rfl, rfl⟩
              · rw [gup_a _ _ _ _ _ (by omega), gup_k _ _ _ _ e, gup_k _ _ _ _ e, gup_a _ _ _ _ _ (by omega)]; exact hC q x (by omega)
            exact ih2 (p + 1, gup (gup g2 (81 + i) p (laV r aim lo hi i p).1) (94 + i) p (laV r aim lo hi i p).2) hnew (by show (25 - (p + 1)).toNat < (25 - p).toNat; omega)
      · refine gw_aload_n (gc k_Paper_leastOf_0 22 rfl) rfl rfl ?_
        refine gw_getref (gc k_Paper_leastOf_0 23 rfl) fl_Paper_14 (by first | exact gAt hx rfl rfl | exact (ps5 hx (by omega)).1.1 | exact (ps5 hx (by omega)).1.2.1 | exact (ps5 hx (by omega)).1.2.2 | exact (ps5 hx (by omega)).2.1 | exact (ps5 hx (by omega)).2.2.1 | exact (ps5 hx (by omega)).2.2.2.1 | exact (ps5 hx (by omega)).2.2.2.2 | exact (bs hx hb).1 | exact (bs hx hb).2.1 | exact (bs hx hb).2.2.1 | exact (bs hx hb).2.2.2.1) (by first | exact gRf hf rfl rfl | exact (br hf hb).1 | exact (br hf hb).2.1 | exact (br hf hb).2.2.1 | exact (br hf hb).2.2.2.1 | exact (br hf hb).2.2.2.2.1 | exact (br hf hb).2.2.2.2.2) ?_
        refine gw_aload_n (gc k_Paper_leastOf_0 24 rfl) rfl rfl ?_
        refine gw_iload (gc k_Paper_leastOf_0 25 rfl) rfl ?_
        refine gw_aload_n (gc k_Paper_leastOf_0 26 rfl) rfl rfl ?_
        refine gw_aload_n (gc k_Paper_leastOf_0 27 rfl) rfl rfl ?_
        refine gw_getref (gc k_Paper_leastOf_0 28 rfl) fl_Paper_56 (by first | exact gAt hx rfl rfl | exact (ps5 hx (by omega)).1.1 | exact (ps5 hx (by omega)).1.2.1 | exact (ps5 hx (by omega)).1.2.2 | exact (ps5 hx (by omega)).2.1 | exact (ps5 hx (by omega)).2.2.1 | exact (ps5 hx (by omega)).2.2.2.1 | exact (ps5 hx (by omega)).2.2.2.2 | exact (bs hx hb).1 | exact (bs hx hb).2.1 | exact (bs hx hb).2.2.1 | exact (bs hx hb).2.2.2.1) (by first | exact gRf hf rfl rfl | exact (br hf hb).1 | exact (br hf hb).2.1 | exact (br hf hb).2.2.1 | exact (br hf hb).2.2.2.1 | exact (br hf hb).2.2.2.2.1 | exact (br hf hb).2.2.2.2.2) ?_
        refine gw_xV1 (gc k_Paper_leastOf_0 29 rfl) y_Sheet_renew ln_Paper_84 (c_Sheet_renew hx hf iS0 hI34.2.1.1 hb (hI34.1.bdN hb hB) (hI34.1.lw hL.1) i (by omega)) rfl rfl (by first | exact gAt hx rfl rfl | exact (ps5 hx (by omega)).1.1 | exact (ps5 hx (by omega)).1.2.1 | exact (ps5 hx (by omega)).1.2.2 | exact (ps5 hx (by omega)).2.1 | exact (ps5 hx (by omega)).2.2.1 | exact (ps5 hx (by omega)).2.2.2.1 | exact (ps5 hx (by omega)).2.2.2.2 | exact (bs hx hb).1 | exact (bs hx hb).2.1 | exact (bs hx hb).2.2.1 | exact (bs hx hb).2.2.2.1) rfl rfl (fun r53 sh2 g53 hq53 => ?_)
        obtain ⟨rfl, hsh, hF53, hN53, hG53⟩ := hq53
        subst sh2
        have hI53 := hI34.renew hi12 iS0 hF53 hN53
        have hf := hI53.1.fin hf0
        refine gw_goto (tgt := 79) (gc k_Paper_leastOf_0 30 rfl) rfl ?_
        have hPg : pgP Λ r a aim i g53 := ⟨hG34.eq (fun y => hF53 _ _ (by omega) (by omega) (by omega) (by omega) (by omega) (by omega)), fun _ => hG53, fun z => absurd z (by omega)⟩
        refine gw_aload_n (gc k_Paper_leastOf_1 2 rfl) rfl rfl ?_
        refine gw_iload (gc k_Paper_leastOf_1 3 rfl) rfl ?_
        refine gw_cV1 (gc k_Paper_leastOf_1 4 rfl) y_Paper_firstAhead ln_Paper_88 (c_Paper_firstAhead hx hf i hi12) rfl rfl (by first | exact gAt hx rfl rfl | exact (ps5 hx (by omega)).1.1 | exact (ps5 hx (by omega)).1.2.1 | exact (ps5 hx (by omega)).1.2.2 | exact (ps5 hx (by omega)).2.1 | exact (ps5 hx (by omega)).2.2.1 | exact (ps5 hx (by omega)).2.2.2.1 | exact (ps5 hx (by omega)).2.2.2.2 | exact (bs hx hb).1 | exact (bs hx hb).2.1 | exact (bs hx hb).2.2.1 | exact (bs hx hb).2.2.2.1) rfl rfl ?_
        rw [fa_lo (hI53.1.w hw) hi12]
        have hfa := faL_bd hw hi12
        refine gw_istore_5 (gc k_Paper_leastOf_1 5 rfl) rfl rfl ?_
        refine gwloop (σ := Int × gM) (fun zs => (faL lo i ≤ (zs.1) ∧ ((zs.1) ≤ faL hi i + 1 ∨ (zs.1) = faL lo i)) ∧ laI Λ sh r aim lo hi i g (zs.2) ∧ pgP Λ r a aim i (zs.2) ∧ ∀ q, faL lo i ≤ q → q < (zs.1) → (zs.2) (81 + i) q = (laV r aim lo hi i q).1 ∧ (zs.2) (94 + i) q = (laV r aim lo hi i q).2) (fun zs => (25 - (zs.1)).toNat) (fun zs => [(2, 31), (2, b), (2, a), (0, aim), (0, i), (0, (zs.1))]) (fun zs => (zs.2)) (faL lo i, g53) (show (faL lo i ≤ (faL lo i) ∧ ((faL lo i) ≤ faL hi i + 1 ∨ (faL lo i) = faL lo i)) ∧ laI Λ sh r aim lo hi i g g53 ∧ pgP Λ r a aim i g53 ∧ ∀ q, faL lo i ≤ q → q < (faL lo i) → g53 (81 + i) q = (laV r aim lo hi i q).1 ∧ g53 (94 + i) q = (laV r aim lo hi i q).2 from ⟨⟨Int.le_refl _, Or.inr rfl⟩, hI53, hPg, fun q x y => by omega⟩) rfl rfl (fun zs hI ih2 => ?_)
        obtain ⟨p, g2⟩ := zs
        replace hI : (faL lo i ≤ p ∧ (p ≤ faL hi i + 1 ∨ p = faL lo i)) ∧ laI Λ sh r aim lo hi i g g2 ∧ pgP Λ r a aim i g2 ∧ ∀ q, faL lo i ≤ q → q < p → g2 (81 + i) q = (laV r aim lo hi i q).1 ∧ g2 (94 + i) q = (laV r aim lo hi i q).2 := hI
        obtain ⟨hp, hI2, hP2, hC⟩ := hI
        show gWP _ _ _ _ _ [(2, 31), (2, b), (2, a), (0, aim), (0, i), (0, p)] [] _ (g2) _
        have hf := hI2.1.fin hf0
        have hw2 := hI2.1.w hw
        refine gw_iload (gc k_Paper_leastOf_1 6 rfl) rfl ?_
        refine gw_aload_n (gc k_Paper_leastOf_1 7 rfl) rfl rfl ?_
        refine gw_iload (gc k_Paper_leastOf_1 8 rfl) rfl ?_
        refine gw_cV1 (gc k_Paper_leastOf_1 9 rfl) y_Paper_lastAhead ln_Paper_92 (c_Paper_lastAhead hx hf i hi12) rfl rfl (by first | exact gAt hx rfl rfl | exact (ps5 hx (by omega)).1.1 | exact (ps5 hx (by omega)).1.2.1 | exact (ps5 hx (by omega)).1.2.2 | exact (ps5 hx (by omega)).2.1 | exact (ps5 hx (by omega)).2.2.1 | exact (ps5 hx (by omega)).2.2.2.1 | exact (ps5 hx (by omega)).2.2.2.2 | exact (bs hx hb).1 | exact (bs hx hb).2.1 | exact (bs hx hb).2.2.1 | exact (bs hx hb).2.2.2.1) rfl rfl ?_
        rw [fa_hi hw2 hi12]
        refine gw_icmp_gt (tgt := 114) (gc k_Paper_leastOf_1 10 rfl) rfl (by omega) (fun c95 => ?_) (fun c95 => ?_)
        · refine gw_iinc_4 (gc k_Paper_leastOf_1 19 rfl) rfl rfl ?_
          refine gw_goto (tgt := 17) (gc k_Paper_leastOf_1 20 rfl) rfl ?_
          refine ih (i - 1, _, g2) ⟨⟨by omega, by omega⟩, hI2.1, hI2.2.1, fun n q x y z1 z2 => ?_⟩ (by show (i - 1 + 1).toNat < (i + 1).toNat; omega)
          by_cases e : n = i
          · subst e; exact hC q z1 (by omega)
          · exact hI2.2.2 n q (by omega) y z1 z2
        · refine gw_aload_n (gc k_Paper_leastOf_1 11 rfl) rfl rfl ?_
          refine gw_aload_n (gc k_Paper_leastOf_1 12 rfl) rfl rfl ?_
          refine gw_iload (gc k_Paper_leastOf_1 13 rfl) rfl ?_
          refine gw_iload (gc k_Paper_leastOf_1 14 rfl) rfl ?_
          refine gw_iload_n (gc k_Paper_leastOf_1 15 rfl) rfl ?_
          refine gw_cV0 (gc k_Paper_leastOf_1 16 rfl) y_Paper_choose ln_Paper_126 (c_Paper_choose hx hf hb (hI2.1.bdN hb hB) hw2 i p aim (by omega) (by omega) ha (vwC r i p) (caF r aim i p) (raR r aim lo hi i) (fun q x y => pg_C hL hP2 (by omega) (by omega)) (fun q x y => pg_P hL hP2 (by omega) (by omega)) (fun q x y => pg_R (by omega) hI2 ⟨x, y⟩) (fun q x y => caF_bd hL aim i p q (by omega) (by omega)) (fun q x y => raR_bd hL hB.1 aim hw.bd i q (by omega) (by omega))) rfl rfl (by first | exact gAt hx rfl rfl | exact (ps5 hx (by omega)).1.1 | exact (ps5 hx (by omega)).1.2.1 | exact (ps5 hx (by omega)).1.2.2 | exact (ps5 hx (by omega)).2.1 | exact (ps5 hx (by omega)).2.2.1 | exact (ps5 hx (by omega)).2.2.2.1 | exact (ps5 hx (by omega)).2.2.2.2 | exact (bs hx hb).1 | exact (bs hx hb).2.1 | exact (bs hx hb).2.2.1 | exact (bs hx hb).2.2.2.1) rfl rfl ?_
          refine gw_iinc_5 (gc k_Paper_leastOf_1 17 rfl) rfl rfl ?_
          refine gw_goto (tgt := 87) (gc k_Paper_leastOf_1 18 rfl) rfl ?_
          rw [← laV_eq r aim lo hi (by omega) p]
          have hnew : (faL lo i ≤ (p + 1) ∧ ((p + 1) ≤ faL hi i + 1 ∨ (p + 1) = faL lo i)) ∧ laI Λ sh r aim lo hi i g (gup (gup g2 (81 + i) p (laV r aim lo hi i p).1) (94 + i) p (laV r aim lo hi i p).2) ∧ pgP Λ r a aim i (gup (gup g2 (81 + i) p (laV r aim lo hi i p).1) (94 + i) p (laV r aim lo hi i p).2) ∧ ∀ q, faL lo i ≤ q → q < (p + 1) → (gup (gup g2 (81 + i) p (laV r aim lo hi i p).1) (94 + i) p (laV r aim lo hi i p).2) (81 + i) q = (laV r aim lo hi i q).1 ∧ (gup (gup g2 (81 + i) p (laV r aim lo hi i p).1) (94 + i) p (laV r aim lo hi i p).2) (94 + i) q = (laV r aim lo hi i q).2 := by
            refine ⟨⟨by omega, Or.inl (by omega)⟩, hI2.cell (by omega) hi12 p _ _, hP2.cell hi12 p _ _, fun q x y => ?_⟩
            by_cases e : q = p
            · subst e; rw [gup_s, gup_a _ _ _ _ _ (by omega), gup_s]; exact ⟨rfl, rfl⟩
            · rw [gup_a _ _ _ _ _ (by omega), gup_k _ _ _ _ e, gup_k _ _ _ _ e, gup_a _ _ _ _ _ (by omega)]; exact hC q x (by omega)
          exact ih2 (p + 1, gup (gup g2 (81 + i) p (laV r aim lo hi i p).1) (94 + i) p (laV r aim lo hi i p).2) hnew (by show (25 - (p + 1)).toNat < (25 - p).toNat; omega)
  · refine gw_iconst (gc k_Paper_leastOf_0 3 rfl) ?_
    refine gw_ireturn (gc k_Paper_leastOf_0 4 rfl) rfl ?_
    refine ⟨?_, rfl, ppJ.rf g, hS, fun n p x y => by omega⟩
    unfold laR
    rw [if_pos (by omega)]
