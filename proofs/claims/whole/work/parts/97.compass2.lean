/-! ===== compass and cheapest on paper ===== -/
def opR (r : Int → Int) (m : Int) (g : gM) : Prop := ∀ n p, 0 ≤ n → n < m → 0 ≤ p → p < 25 → (n = 0 → p = 0) → stB (g (120 + n) p) (fun q => vBar r n p q = 0)
theorem opR.eq {r : Int → Int} {m : Int} (hm : m ≤ 12) {g g2 : gM} (h : opR r m g) (he : ∀ a k, 120 ≤ a → a ≤ 131 → g2 a k = g a k) : opR r m g2 := fun n p a b c d e => by
  rw [he _ _ (by omega) (by omega)]; exact h n p a b c d e
def opI (Λ : Int → List PC) (sh : gS) (r : Int → Int) (i : Int) (g g1 : gM) : Prop := ppJ g g1 ∧ ppS Λ sh g1 ∧ opR r i g1
theorem opI.renew {Λ : Int → List PC} {sh : gS} {r : Int → Int} {i : Int} (hi2 : 0 ≤ i ∧ i < 12) {g g1 g2 : gM} (h : opI Λ sh r i g g1) (hF : shW 64 i g1 g2) (hI : shI Λ sh g2 64 2) : opI Λ sh r i g g2 := ⟨h.1.tr (hF.pp iS2 hi2), h.2.1.renew hi2 iS2 hF hI, h.2.2.eq (by omega) (fun a k x y => hF _ _ (by omega) (by omega) (by omega) (by omega) (by omega) (by omega))⟩
theorem opI.cell {Λ : Int → List PC} {sh : gS} {r : Int → Int} {i : Int} (hi2 : 0 ≤ i ∧ i < 12) {g g1 : gM} (h : opI Λ sh r i g g1) (p v : Int) : opI Λ sh r i g (gup g1 (120 + i) p v) := by
  refine ⟨h.1.up _ _ (by unfold ppA; omega), h.2.1.keep (fun x y _ _ => by rw [gup_a _ _ _ _ _ (by omega)]), fun n q a b c d e => ?_⟩
  rw [gup_a _ _ _ _ _ (by omega)]
  exact h.2.2 n q a b c d e
/-- the narrowest so far -/
def nwI (r : Int → Int) (low w nl : Int) : Prop := (w = -1 ∧ low = r 39) ∨ (0 ≤ w ∧ (r 39 ≤ nl ∧ nl < low ∧ nl + w ≤ r 40) ∧ hV r nl (nl + w) ∧ (∀ l, r 39 ≤ l → l < nl → ¬ hV r l (l + w)) ∧ ∀ l u, r 39 ≤ l → l < low → 0 ≤ u → u < w → l + u ≤ r 40 → ¬ hV r l (l + u))
theorem nwI.new {r : Int → Int} {low w nl h : Int} (H : nwI r low w nl) (hl : r 39 ≤ low ∧ low ≤ h ∧ h ≤ r 40) (hv : hV r low h) (hn : ∀ x, low ≤ x → x < h → ¬ hV r low x) (hw : w = -1 ∨ h - low < w) : nwI r (low + 1) (h - low) low := by
  have e : low + (h - low) = h := by omega
  refine Or.inr ⟨by omega, by omega, by rw [e]; exact hv, fun l a b => ?_, fun l u a b c d x => ?_⟩
  · rcases H with H | H
    · omega
    · exact H.2.2.2.2 l (h - low) a b (by omega) (by omega) (by omega)
  · by_cases z : l = low
    · subst z; exact hn _ (by omega) (by omega)
    · rcases H with H | H
      · omega
      · exact H.2.2.2.2 l u a (by omega) c (by omega) x
theorem nwI.old {r : Int → Int} {low w nl h : Int} (H : nwI r low w nl) (hl : low ≤ h) (hn : ∀ x, low ≤ x → x < h → ¬ hV r low x) (hw : ¬ w = -1) (hw2 : w ≤ h - low) : nwI r (low + 1) w nl := by
  rcases H with H | H
  · exact absurd H.1 hw
  · refine Or.inr ⟨H.1, by omega, H.2.2.1, H.2.2.2.1, fun l u a b c d x => ?_⟩
    by_cases z : l = low
    · subst z; exact hn _ (by omega) (by omega)
    · exact H.2.2.2.2 l u a (by omega) c d x
theorem nwI.fin {r : Int → Int} {low w nl : Int} (H : nwI r low w nl) (hno : ∀ l v, r 39 ≤ l → low ≤ l → 0 ≤ v → l + v ≤ r 40 → ¬ hV r l (l + v)) : w = comR r 0 ∧ (¬ comR r 0 = -1 → nl = comR r 1) := by
  unfold comR
  rw [if_pos (by decide), if_pos (by decide)]
  rcases H with H | H
  · rw [cmOut_none _ _ (by decide) (by omega) (fun l v a b c => hno l v a (by omega) b c)]
    exact ⟨H.1, fun z => absurd rfl z⟩
  · rw [cmOut_some (t := nl) (v := w) _ 0 (by decide) H.1 (by omega) (by omega) H.2.2.1 H.2.2.2.1 (fun l u a b c d => by
      by_cases z : l < low
      · exact H.2.2.2.2 l u a z b c d
      · exact hno l u a (by omega) b d)]
    exact ⟨(if_pos rfl).symm, fun _ => (if_neg (by decide)).symm⟩
/-- a law is asked alike where one told note is shifted -/
theorem lwP.sh {Λ : Int → List PC} {sh : gS} {g : gM} {r : Int → Int} {a : Int} (h : lwP Λ sh g r a) (ho : rowOK r) {n : Int} (hn : 0 ≤ n ∧ n < 12) (p : Int) : lwP Λ sh g (rSh r n p) a := ⟨h.1, fun w k top df => by
  have q := ho.2.2.2.2.2.2.2.2.2.1
  rw [tlR_eq (rSh_law r (n := n) (by omega) p) (rSh_k _ _ _ (by omega)) (by omega)]
  exact h.2 w k top df⟩
set_option maxHeartbeats 8000000 in
theorem c_Paper_markOpen {sh : gS} {g : gM} (hx : gFix sh) (hf : gFin g) {Λ : Int → List PC} {r : Int → Int} {b : Int} (hb : isBd b) (hB : bdN r g b) {a : Int} (hL : lwP Λ sh g r a) (hS : ppS Λ sh g) : gTri f_Paper_markOpen 5 0 0 [(2, 31), (2, b), (2, a)] sh g (fun x s2 g2 => x = none ∧ s2 = sh ∧ ppJ g g2 ∧ ppS Λ sh g2 ∧ opR r (r 41) g2) := by
  have hbx := hb
  unfold isBd at hbx
  have hm := ro_many hB.1
  have hf0 := hf
  refine gTri.of (by decide +kernel) rfl ?_
  show gWP f_Paper_markOpen _ _ _ 0 [(2, 31), (2, b), (2, a), (9, 0), (9, 0), (9, 0), (9, 0)] [] sh g _
  refine gw_iconst (gc k_Paper_markOpen_0 0 rfl) ?_
  refine gw_istore_3 (gc k_Paper_markOpen_0 1 rfl) rfl rfl ?_
  refine gwloop (σ := Int × gV × gV × gV × gM) (fun zs => (0 ≤ (zs.1) ∧ (zs.1) ≤ r 41) ∧ opI Λ sh r (zs.1) g (zs.2.2.2.2)) (fun zs => (r 41 - (zs.1)).toNat) (fun zs => [(2, 31), (2, b), (2, a), (0, (zs.1)), (zs.2.1), (zs.2.2.1), (zs.2.2.2.1)]) (fun zs => (zs.2.2.2.2)) (0, (9, 0), (9, 0), (9, 0), g) (show (0 ≤ (0 : Int) ∧ (0 : Int) ≤ r 41) ∧ opI Λ sh r (0 : Int) g g from ⟨⟨by omega, by omega⟩, ppJ.rf g, hS, fun n p x y => by omega⟩) rfl rfl (fun zs hI ih => ?_)
  obtain ⟨i, x4, x5, x6, g1⟩ := zs
  replace hI : (0 ≤ i ∧ i ≤ r 41) ∧ opI Λ sh r i g g1 := hI
  obtain ⟨hi, hI1⟩ := hI
  show gWP _ _ _ _ _ [(2, 31), (2, b), (2, a), (0, i), x4, x5, x6] [] _ (g1) _
  have hf := hI1.1.fin hf0
  refine gw_iload_n (gc k_Paper_markOpen_0 2 rfl) rfl ?_
  refine gw_aload_n (gc k_Paper_markOpen_0 3 rfl) rfl rfl ?_
  refine gw_getf 0 rfl (gc k_Paper_markOpen_0 4 rfl) fl_Paper_68 (by first | exact gAt hx rfl rfl | exact (ps5 hx (by omega)).1.1 | exact (ps5 hx (by omega)).1.2.1 | exact (ps5 hx (by omega)).1.2.2 | exact (ps5 hx (by omega)).2.1 | exact (ps5 hx (by omega)).2.2.1 | exact (ps5 hx (by omega)).2.2.2.1 | exact (ps5 hx (by omega)).2.2.2.2 | exact (bs hx hb).1 | exact (bs hx hb).2.1 | exact (bs hx hb).2.2.1 | exact (bs hx hb).2.2.2.1) ?_
  rw [(hI1.1.bdN hb hB).2.1]
  refine gw_icmp_ge (tgt := 106) (gc k_Paper_markOpen_0 5 rfl) rfl (by omega) (fun c7 => ?_) (fun c7 => ?_)
  · refine gw_return (gc k_Paper_markOpen_1 17 rfl) rfl ?_
    obtain rfl : i = r 41 := by omega
    exact ⟨rfl, rfl, hI1⟩
  · have hi12 : 0 ≤ i ∧ i < 12 := by omega
    refine gw_aload_n (gc k_Paper_markOpen_0 6 rfl) rfl rfl ?_
    refine gw_getref (gc k_Paper_markOpen_0 7 rfl) fl_Paper_23 (by first | exact gAt hx rfl rfl | exact (ps5 hx (by omega)).1.1 | exact (ps5 hx (by omega)).1.2.1 | exact (ps5 hx (by omega)).1.2.2 | exact (ps5 hx (by omega)).2.1 | exact (ps5 hx (by omega)).2.2.1 | exact (ps5 hx (by omega)).2.2.2.1 | exact (ps5 hx (by omega)).2.2.2.2 | exact (bs hx hb).1 | exact (bs hx hb).2.1 | exact (bs hx hb).2.2.1 | exact (bs hx hb).2.2.2.1) (by first | exact gRf hf rfl rfl | exact (br hf hb).1 | exact (br hf hb).2.1 | exact (br hf hb).2.2.1 | exact (br hf hb).2.2.2.1 | exact (br hf hb).2.2.2.2.1 | exact (br hf hb).2.2.2.2.2) ?_
    refine gw_aload_n (gc k_Paper_markOpen_0 8 rfl) rfl rfl ?_
    refine gw_iload_n (gc k_Paper_markOpen_0 9 rfl) rfl ?_
    refine gw_aload_n (gc k_Paper_markOpen_0 10 rfl) rfl rfl ?_
    refine gw_aload_n (gc k_Paper_markOpen_0 11 rfl) rfl rfl ?_
    refine gw_getref (gc k_Paper_markOpen_0 12 rfl) fl_Paper_56 (by first | exact gAt hx rfl rfl | exact (ps5 hx (by omega)).1.1 | exact (ps5 hx (by omega)).1.2.1 | exact (ps5 hx (by omega)).1.2.2 | exact (ps5 hx (by omega)).2.1 | exact (ps5 hx (by omega)).2.2.1 | exact (ps5 hx (by omega)).2.2.2.1 | exact (ps5 hx (by omega)).2.2.2.2 | exact (bs hx hb).1 | exact (bs hx hb).2.1 | exact (bs hx hb).2.2.1 | exact (bs hx hb).2.2.2.1) (by first | exact gRf hf rfl rfl | exact (br hf hb).1 | exact (br hf hb).2.1 | exact (br hf hb).2.2.1 | exact (br hf hb).2.2.2.1 | exact (br hf hb).2.2.2.2.1 | exact (br hf hb).2.2.2.2.2) ?_
    refine gw_xV1 (gc k_Paper_markOpen_0 13 rfl) y_Sheet_renew ln_Paper_84 (c_Sheet_renew hx hf iS2 hI1.2.1.2.2 hb (hI1.1.bdN hb hB) (hI1.1.lw hL.1) i (by omega)) rfl rfl (by first | exact gAt hx rfl rfl | exact (ps5 hx (by omega)).1.1 | exact (ps5 hx (by omega)).1.2.1 | exact (ps5 hx (by omega)).1.2.2 | exact (ps5 hx (by omega)).2.1 | exact (ps5 hx (by omega)).2.2.1 | exact (ps5 hx (by omega)).2.2.2.1 | exact (ps5 hx (by omega)).2.2.2.2 | exact (bs hx hb).1 | exact (bs hx hb).2.1 | exact (bs hx hb).2.2.1 | exact (bs hx hb).2.2.2.1) rfl rfl (fun r21 sh2 g21 hq21 => ?_)
    obtain ⟨rfl, hsh, hF21, hN21, hG21⟩ := hq21
    subst sh2
    have hI21 := hI1.renew hi12 hF21 hN21
    have hf := hI21.1.fin hf0
    refine gw_iconst (gc k_Paper_markOpen_0 14 rfl) ?_
    refine gw_istore_4 (gc k_Paper_markOpen_0 15 rfl) rfl rfl ?_
    refine gwloop (σ := Int × gV × gV × gM) (fun zs => (0 ≤ (zs.1) ∧ (zs.1) ≤ 25) ∧ opI Λ sh r i g (zs.2.2.2) ∧ pgK Λ (zs.2.2.2) (66 + i) a r i 2 ∧ ∀ q, 0 ≤ q → q < (zs.1) → (i = 0 → q = 0) → stB ((zs.2.2.2) (120 + i) q) (fun y => vBar r i q y = 0)) (fun zs => (25 - (zs.1)).toNat) (fun zs => [(2, 31), (2, b), (2, a), (0, i), (0, (zs.1)), (zs.2.1), (zs.2.2.1)]) (fun zs => (zs.2.2.2)) (0, x5, x6, g21) (show (0 ≤ (0 : Int) ∧ (0 : Int) ≤ 25) ∧ opI Λ sh r i g g21 ∧ pgK Λ g21 (66 + i) a r i 2 ∧ ∀ q, 0 ≤ q → q < (0 : Int) → (i = 0 → q = 0) → stB (g21 (120 + i) q) (fun y => vBar r i q y = 0) from ⟨⟨by omega, by omega⟩, hI21, hG21, fun q x y => by omega⟩) rfl rfl (fun zs hI ih2 => ?_)
    obtain ⟨p, x5, x6, g3⟩ := zs
    replace hI : (0 ≤ p ∧ p ≤ 25) ∧ opI Λ sh r i g g3 ∧ pgK Λ g3 (66 + i) a r i 2 ∧ ∀ q, 0 ≤ q → q < p → (i = 0 → q = 0) → stB (g3 (120 + i) q) (fun y => vBar r i q y = 0) := hI
    obtain ⟨hp, hI3, hP3, hC⟩ := hI
    show gWP _ _ _ _ _ [(2, 31), (2, b), (2, a), (0, i), (0, p), x5, x6] [] _ (g3) _
    have hf := hI3.1.fin hf0
    refine gw_iload (gc k_Paper_markOpen_0 16 rfl) rfl ?_
    refine gw_bipush (gc k_Paper_markOpen_0 17 rfl) (by decide) ?_
    refine gw_icmp_ge (tgt := 100) (gc k_Paper_markOpen_0 18 rfl) rfl (by omega) (fun c31 => ?_) (fun c31 => ?_)
    · refine gw_iinc_3 (gc k_Paper_markOpen_1 15 rfl) rfl rfl ?_
      refine gw_goto (tgt := 2) (gc k_Paper_markOpen_1 16 rfl) rfl ?_
      refine ih (i + 1, _, _, _, g3) ⟨⟨by omega, by omega⟩, hI3.1, hI3.2.1, fun n q x y z1 z2 z3 => ?_⟩ (by show (r 41 - (i + 1)).toNat < (r 41 - i).toNat; omega)
      by_cases e : n = i
      · subst e; exact hC q z1 (by omega) z3
      · exact hI3.2.2 n q x (by omega) z1 z2 z3
    · refine gw_iconst (gc k_Paper_markOpen_0 19 rfl) ?_
      refine gw_istore_5 (gc k_Paper_markOpen_0 20 rfl) rfl rfl ?_
      refine gw_iconst (gc k_Paper_markOpen_0 21 rfl) ?_
      refine gw_istore_6 (gc k_Paper_markOpen_0 22 rfl) rfl rfl ?_
      refine gwloop (σ := Int × Int) (fun zs => (0 ≤ (zs.1) ∧ (zs.1) ≤ 25) ∧ stB (zs.2) (fun q => q < (zs.1) ∧ g3 (66 + i) (p * 25 + q) = 0)) (fun zs => (25 - (zs.1)).toNat) (fun zs => [(2, 31), (2, b), (2, a), (0, i), (0, p), (0, (zs.2)), (0, (zs.1))]) (fun zs => g3) (0, 0) (show (0 ≤ (0 : Int) ∧ (0 : Int) ≤ 25) ∧ stB (0 : Int) (fun q => q < (0 : Int) ∧ g3 (66 + i) (p * 25 + q) = 0) from ⟨⟨by omega, by omega⟩, stB.none (fun q x y => by omega)⟩) rfl rfl (fun zs hI ih3 => ?_)
      obtain ⟨h, v⟩ := zs
      replace hI : (0 ≤ h ∧ h ≤ 25) ∧ stB v (fun q => q < h ∧ g3 (66 + i) (p * 25 + q) = 0) := hI
      obtain ⟨hh, hv⟩ := hI
      show gWP _ _ _ _ _ [(2, 31), (2, b), (2, a), (0, i), (0, p), (0, v), (0, h)] [] _ (g3) _
      
      refine gw_iload (gc k_Paper_markOpen_0 23 rfl) rfl ?_
      refine gw_bipush (gc k_Paper_markOpen_0 24 rfl) (by decide) ?_
      refine gw_icmp_ge (tgt := 83) (gc k_Paper_markOpen_0 25 rfl) rfl (by omega) (fun c44 => ?_) (fun c44 => ?_)
      · obtain rfl : h = 25 := by omega
        refine gw_aload_n (gc k_Paper_markOpen_1 6 rfl) rfl rfl ?_
        refine gw_getref (gc k_Paper_markOpen_1 7 rfl) fl_Paper_39 (by first | exact gAt hx rfl rfl | exact (ps5 hx (by omega)).1.1 | exact (ps5 hx (by omega)).1.2.1 | exact (ps5 hx (by omega)).1.2.2 | exact (ps5 hx (by omega)).2.1 | exact (ps5 hx (by omega)).2.2.1 | exact (ps5 hx (by omega)).2.2.2.1 | exact (ps5 hx (by omega)).2.2.2.2 | exact (bs hx hb).1 | exact (bs hx hb).2.1 | exact (bs hx hb).2.2.1 | exact (bs hx hb).2.2.2.1) (by first | exact gRf hf rfl rfl | exact (br hf hb).1 | exact (br hf hb).2.1 | exact (br hf hb).2.2.1 | exact (br hf hb).2.2.2.1 | exact (br hf hb).2.2.2.2.1 | exact (br hf hb).2.2.2.2.2) ?_
        refine gw_iload_n (gc k_Paper_markOpen_1 8 rfl) rfl ?_
        refine gw_aald_ints (gc k_Paper_markOpen_1 9 rfl) (by first | exact gAt hx rfl rfl | exact (ps5 hx (by omega)).1.1 | exact (ps5 hx (by omega)).1.2.1 | exact (ps5 hx (by omega)).1.2.2 | exact (ps5 hx (by omega)).2.1 | exact (ps5 hx (by omega)).2.2.1 | exact (ps5 hx (by omega)).2.2.2.1 | exact (ps5 hx (by omega)).2.2.2.2 | exact (bs hx hb).1 | exact (bs hx hb).2.1 | exact (bs hx hb).2.2.1 | exact (bs hx hb).2.2.2.1) (by omega) ?_
        rw [(pr5 hf (i := i) (by omega)).2.2.2.2]
        refine gw_iload (gc k_Paper_markOpen_1 10 rfl) rfl ?_
        refine gw_iload (gc k_Paper_markOpen_1 11 rfl) rfl ?_
        refine gw_iastF (gc k_Paper_markOpen_1 12 rfl) (by first | exact gAt hx rfl rfl | exact (ps5 hx (by omega)).1.1 | exact (ps5 hx (by omega)).1.2.1 | exact (ps5 hx (by omega)).1.2.2 | exact (ps5 hx (by omega)).2.1 | exact (ps5 hx (by omega)).2.2.1 | exact (ps5 hx (by omega)).2.2.2.1 | exact (ps5 hx (by omega)).2.2.2.2 | exact (bs hx hb).1 | exact (bs hx hb).2.1 | exact (bs hx hb).2.2.1 | exact (bs hx hb).2.2.2.1) (by omega) hf (by first | rfl | exact ppA.nr (Or.inr (by omega)) _ | exact ppA.nr (Or.inl (by unfold ppA; omega)) _) (fun hf => ?_)
        refine gw_iinc_4 (gc k_Paper_markOpen_1 13 rfl) rfl rfl ?_
        refine gw_goto (tgt := 27) (gc k_Paper_markOpen_1 14 rfl) rfl ?_
        have hvr : (i = 0 → p = 0) → stB v (fun y => vBar r i p y = 0) := fun z => hv.congr (fun q x y => by
          have e := (pgB hL hP3 (p := p) (q := q) (by omega) (by omega)).1
          rw [e]
          exact ⟨fun w => w.2, fun w => ⟨by omega, w⟩⟩)
        have hnew : (0 ≤ (p + 1) ∧ (p + 1) ≤ 25) ∧ opI Λ sh r i g (gup g3 (120 + i) p v) ∧ pgK Λ (gup g3 (120 + i) p v) (66 + i) a r i 2 ∧ ∀ q, 0 ≤ q → q < (p + 1) → (i = 0 → q = 0) → stB ((gup g3 (120 + i) p v) (120 + i) q) (fun y => vBar r i q y = 0) := by
          refine ⟨⟨by omega, by omega⟩, hI3.cell hi12 p _, hP3.eq (fun y => gup_a _ _ _ _ _ (by omega)), fun q x y z => ?_⟩
          by_cases e : q = p
          · subst e; rw [gup_s]; exact hvr z
          · rw [gup_k _ _ _ _ e]; exact hC q x (by omega) z
        exact ih2 (p + 1, _, _, gup g3 (120 + i) p v) hnew (by show (25 - (p + 1)).toNat < (25 - p).toNat; omega)
      · have hpb := (hI3.2.1.2.2.2 i hi12.1 hi12.2).2.2.2 (p * 25 + h) (by omega) (by omega)
        have hpb : 0 ≤ g3 (66 + i) (p * 25 + h) ∧ g3 (66 + i) (p * 25 + h) ≤ 999 := hpb
        refine gw_aload_n (gc k_Paper_markOpen_0 26 rfl) rfl rfl ?_
        refine gw_getref (gc k_Paper_markOpen_0 27 rfl) fl_Paper_23 (by first | exact gAt hx rfl rfl | exact (ps5 hx (by omega)).1.1 | exact (ps5 hx (by omega)).1.2.1 | exact (ps5 hx (by omega)).1.2.2 | exact (ps5 hx (by omega)).2.1 | exact (ps5 hx (by omega)).2.2.1 | exact (ps5 hx (by omega)).2.2.2.1 | exact (ps5 hx (by omega)).2.2.2.2 | exact (bs hx hb).1 | exact (bs hx hb).2.1 | exact (bs hx hb).2.2.1 | exact (bs hx hb).2.2.2.1) (by first | exact gRf hf rfl rfl | exact (br hf hb).1 | exact (br hf hb).2.1 | exact (br hf hb).2.2.1 | exact (br hf hb).2.2.2.1 | exact (br hf hb).2.2.2.2.1 | exact (br hf hb).2.2.2.2.2) ?_
        refine gw_getref (gc k_Paper_markOpen_0 28 rfl) fl_Paper_95 (by first | exact gAt hx rfl rfl | exact (ps5 hx (by omega)).1.1 | exact (ps5 hx (by omega)).1.2.1 | exact (ps5 hx (by omega)).1.2.2 | exact (ps5 hx (by omega)).2.1 | exact (ps5 hx (by omega)).2.2.1 | exact (ps5 hx (by omega)).2.2.2.1 | exact (ps5 hx (by omega)).2.2.2.2 | exact (bs hx hb).1 | exact (bs hx hb).2.1 | exact (bs hx hb).2.2.1 | exact (bs hx hb).2.2.2.1) (by first | exact gRf hf rfl rfl | exact (br hf hb).1 | exact (br hf hb).2.1 | exact (br hf hb).2.2.1 | exact (br hf hb).2.2.2.1 | exact (br hf hb).2.2.2.2.1 | exact (br hf hb).2.2.2.2.2) ?_
        refine gw_iload_n (gc k_Paper_markOpen_0 29 rfl) rfl ?_
        refine gw_aald_ints (gc k_Paper_markOpen_0 30 rfl) (by first | exact gAt hx rfl rfl | exact (ps5 hx (by omega)).1.1 | exact (ps5 hx (by omega)).1.2.1 | exact (ps5 hx (by omega)).1.2.2 | exact (ps5 hx (by omega)).2.1 | exact (ps5 hx (by omega)).2.2.1 | exact (ps5 hx (by omega)).2.2.2.1 | exact (ps5 hx (by omega)).2.2.2.2 | exact (bs hx hb).1 | exact (bs hx hb).2.1 | exact (bs hx hb).2.2.1 | exact (bs hx hb).2.2.2.1) (by omega) ?_
        rw [(pr5 hf (i := i) (by omega)).1.2.2]
        refine gw_iload (gc k_Paper_markOpen_0 31 rfl) rfl ?_
        refine gw_bipush (gc k_Paper_markOpen_0 32 rfl) (by decide) ?_
        refine gw_imul (gc k_Paper_markOpen_0 33 rfl) ?_
        refine gw_iload (gc k_Paper_markOpen_0 34 rfl) rfl ?_
        refine gw_iadd (gc k_Paper_markOpen_0 35 rfl) ?_
        refine gw_iald (gc k_Paper_markOpen_0 36 rfl) (by first | exact gAt hx rfl rfl | exact (ps5 hx (by omega)).1.1 | exact (ps5 hx (by omega)).1.2.1 | exact (ps5 hx (by omega)).1.2.2 | exact (ps5 hx (by omega)).2.1 | exact (ps5 hx (by omega)).2.2.1 | exact (ps5 hx (by omega)).2.2.2.1 | exact (ps5 hx (by omega)).2.2.2.2 | exact (bs hx hb).1 | exact (bs hx hb).2.1 | exact (bs hx hb).2.2.1 | exact (bs hx hb).2.2.2.1) (by omega) ?_
        refine gw_if_ne (tgt := 77) (gc k_Paper_markOpen_0 37 rfl) rfl (by omega) (fun c65 => ?_) (fun c65 => ?_)
        · refine gw_iinc_6 (gc k_Paper_markOpen_1 4 rfl) rfl rfl ?_
          refine gw_goto (tgt := 40) (gc k_Paper_markOpen_1 5 rfl) rfl ?_
          exact ih3 (h + 1, v) ⟨⟨by omega, by omega⟩, hv.congr (fun q x y => ⟨fun z => ⟨by omega, z.2⟩, fun z => ⟨Decidable.byContradiction (fun e => c65 (by rw [← show q = h by omega]; exact z.2)), z.2⟩⟩)⟩ (by show (25 - (h + 1)).toNat < (25 - h).toNat; omega)
        · refine gw_iload (gc k_Paper_markOpen_0 38 rfl) rfl ?_
          refine gw_iconst (gc k_Paper_markOpen_0 39 rfl) ?_
          refine gw_iload (gc k_Paper_markOpen_1 0 rfl) rfl ?_
          refine gw_ishl (gc k_Paper_markOpen_1 1 rfl) ?_
          refine gw_ior (gc k_Paper_markOpen_1 2 rfl) ?_
          refine gw_istore_5 (gc k_Paper_markOpen_1 3 rfl) rfl rfl ?_
          refine gw_iinc_6 (gc k_Paper_markOpen_1 4 rfl) rfl rfl ?_
          refine gw_goto (tgt := 40) (gc k_Paper_markOpen_1 5 rfl) rfl ?_
          exact ih3 (h + 1, gor v (gshl 1 h)) ⟨⟨by omega, by omega⟩, (hv.or (stB.one (k := h) (by omega))).congr (fun q x y => ⟨fun z => z.elim (fun z => ⟨by omega, z.2⟩) (fun z => by rw [z]; exact ⟨by omega, c65⟩), fun z => if e : q = h then Or.inr e else Or.inl ⟨by omega, z.2⟩⟩)⟩ (by show (25 - (h + 1)).toNat < (25 - h).toNat; omega)
set_option maxHeartbeats 8000000 in
theorem c_Paper_hasVoice {sh : gS} {g : gM} (hx : gFix sh) (hf : gFin g) {Λ : Int → List PC} {r : Int → Int} {b : Int} (hb : isBd b) (hB : bdN r g b) {a : Int} (hL : lwP Λ sh g r a) (hop : opR r (r 41) g) (lo hi : Int) (hlo : 0 ≤ lo ∧ lo ≤ hi) (hhi : hi ≤ 24) : gTri f_Paper_hasVoice 0 0 0 [(2, 31), (2, b), (0, lo), (0, hi)] sh g (gR (some (0, hvB r lo hi)) sh g) := by
  have hbx := hb
  unfold isBd at hbx
  have hm := ro_many hB.1
  refine gTri.of (by decide +kernel) rfl ?_
  show gWP f_Paper_hasVoice _ _ _ 0 [(2, 31), (2, b), (0, lo), (0, hi), (9, 0), (9, 0), (9, 0), (9, 0), (9, 0)] [] sh g _
  refine gw_iconst (gc k_Paper_hasVoice_0 0 rfl) ?_
  refine gw_iload_n (gc k_Paper_hasVoice_0 1 rfl) rfl ?_
  refine gw_iconst (gc k_Paper_hasVoice_0 2 rfl) ?_
  refine gw_iadd (gc k_Paper_hasVoice_0 3 rfl) ?_
  refine gw_ishl (gc k_Paper_hasVoice_0 4 rfl) ?_
  refine gw_iconst (gc k_Paper_hasVoice_0 5 rfl) ?_
  refine gw_iload_n (gc k_Paper_hasVoice_0 6 rfl) rfl ?_
  refine gw_ishl (gc k_Paper_hasVoice_0 7 rfl) ?_
  refine gw_isub (gc k_Paper_hasVoice_0 8 rfl) ?_
  obtain ⟨wv, hwe⟩ : ∃ w, w = gshl 1 (hi + 1) - gshl 1 lo := ⟨_, rfl⟩
  rw [← hwe]
  have hwv : stB wv (fun q => lo ≤ q ∧ q ≤ hi) := by rw [hwe]; exact stB.within hlo hhi
  refine gw_istore_4 (gc k_Paper_hasVoice_0 9 rfl) rfl rfl ?_
  refine gw_iload (gc k_Paper_hasVoice_0 10 rfl) rfl ?_
  refine gw_istore_5 (gc k_Paper_hasVoice_0 11 rfl) rfl rfl ?_
  refine gw_iconst (gc k_Paper_hasVoice_0 12 rfl) ?_
  refine gw_istore_6 (gc k_Paper_hasVoice_0 13 rfl) rfl rfl ?_
  refine gwloop (σ := Int × Int × gV × gV) (fun zs => (0 ≤ (zs.1) ∧ (zs.1) ≤ r 41) ∧ stB (zs.2.1) (rcS r lo hi (zs.1).toNat)) (fun zs => (r 41 - (zs.1)).toNat) (fun zs => [(2, 31), (2, b), (0, lo), (0, hi), (0, wv), (0, (zs.2.1)), (0, (zs.1)), (zs.2.2.1), (zs.2.2.2)]) (fun zs => g) (0, wv, (9, 0), (9, 0)) (show (0 ≤ (0 : Int) ∧ (0 : Int) ≤ r 41) ∧ stB wv (rcS r lo hi (0 : Int).toNat) from ⟨⟨by omega, by omega⟩, hwv⟩) rfl rfl (fun zs hI ih => ?_)
  obtain ⟨i, v, x7, x8⟩ := zs
  replace hI : (0 ≤ i ∧ i ≤ r 41) ∧ stB v (rcS r lo hi i.toNat) := hI
  obtain ⟨hi2, hv⟩ := hI
  show gWP _ _ _ _ _ [(2, 31), (2, b), (0, lo), (0, hi), (0, wv), (0, v), (0, i), x7, x8] [] _ (g) _
  have hvb := hv.1
  refine gw_iload (gc k_Paper_hasVoice_0 14 rfl) rfl ?_
  refine gw_aload_n (gc k_Paper_hasVoice_0 15 rfl) rfl rfl ?_
  refine gw_getf 0 rfl (gc k_Paper_hasVoice_0 16 rfl) fl_Paper_68 (by first | exact gAt hx rfl rfl | exact (ps5 hx (by omega)).1.1 | exact (ps5 hx (by omega)).1.2.1 | exact (ps5 hx (by omega)).1.2.2 | exact (ps5 hx (by omega)).2.1 | exact (ps5 hx (by omega)).2.2.1 | exact (ps5 hx (by omega)).2.2.2.1 | exact (ps5 hx (by omega)).2.2.2.2 | exact (bs hx hb).1 | exact (bs hx hb).2.1 | exact (bs hx hb).2.2.1 | exact (bs hx hb).2.2.2.1) ?_
  rw [hB.2.1]
  refine gw_icmp_ge (tgt := 110) (gc k_Paper_hasVoice_0 17 rfl) rfl (by omega) (fun c24 => ?_) (fun c24 => ?_)
  · refine gw_iload (gc k_Paper_hasVoice_1 22 rfl) rfl ?_
    refine gw_if_eq (tgt := 119) (gc k_Paper_hasVoice_1 23 rfl) rfl (by omega) (fun c112 => ?_) (fun c112 => ?_)
    · refine gw_iconst (gc k_Paper_hasVoice_1 26 rfl) ?_
      refine gw_zreturn (gc k_Paper_hasVoice_1 27 rfl) rfl (by omega) ?_
      refine ⟨?_, rfl, rfl⟩
      have hn : ¬ hV r lo hi := fun z => by
        obtain ⟨q, q1, -⟩ := (hV_rc hL hB.1 hlo hhi i.toNat (by omega)).mp z
        have qb := rcS_in _ _ q1
        exact (hv.zero.mp (by omega)) q (by omega) (by omega) q1
      rw [hvB_no hn]
    · refine gw_iconst (gc k_Paper_hasVoice_1 24 rfl) ?_
      refine gw_goto (tgt := 120) (gc k_Paper_hasVoice_1 25 rfl) rfl ?_
      refine gw_zreturn (gc k_Paper_hasVoice_1 27 rfl) rfl (by omega) ?_
      refine ⟨?_, rfl, rfl⟩
      have hy : hV r lo hi := Classical.byContradiction (fun hn => c112 (hv.zero.mpr (fun q x y z => hn ((hV_rc hL hB.1 hlo hhi i.toNat (by omega)).mpr ⟨q, z, fun _ y => absurd y (by omega), fun z => Or.inl (by omega)⟩))))
      rw [(hvB_V r lo hi).mpr hy]
  · refine gw_iload (gc k_Paper_hasVoice_0 18 rfl) rfl ?_
    refine gw_if_eq (tgt := 110) (gc k_Paper_hasVoice_0 19 rfl) rfl (by omega) (fun c29 => ?_) (fun c29 => ?_)
    · refine gw_iload (gc k_Paper_hasVoice_1 22 rfl) rfl ?_
      refine gw_if_eq (tgt := 119) (gc k_Paper_hasVoice_1 23 rfl) rfl (by omega) (fun c112 => ?_) (fun c112 => ?_)
      · refine gw_iconst (gc k_Paper_hasVoice_1 26 rfl) ?_
        refine gw_zreturn (gc k_Paper_hasVoice_1 27 rfl) rfl (by omega) ?_
        refine ⟨?_, rfl, rfl⟩
        have hn : ¬ hV r lo hi := fun z => by
          obtain ⟨q, q1, -⟩ := (hV_rc hL hB.1 hlo hhi i.toNat (by omega)).mp z
          have qb := rcS_in _ _ q1
          exact (hv.zero.mp (by omega)) q (by omega) (by omega) q1
        rw [hvB_no hn]
      · refine gw_iconst (gc k_Paper_hasVoice_1 24 rfl) ?_
        refine gw_goto (tgt := 120) (gc k_Paper_hasVoice_1 25 rfl) rfl ?_
        refine gw_zreturn (gc k_Paper_hasVoice_1 27 rfl) rfl (by omega) ?_
        refine ⟨?_, rfl, rfl⟩
        have hy : hV r lo hi := Classical.byContradiction (fun hn => c112 (hv.zero.mpr (fun q x y z => hn ((hV_rc hL hB.1 hlo hhi i.toNat (by omega)).mpr ⟨q, z, fun _ y => absurd y (by omega), fun z => Or.inl (by omega)⟩))))
        rw [(hvB_V r lo hi).mpr hy]
    · refine gw_iload (gc k_Paper_hasVoice_0 20 rfl) rfl ?_
      refine gw_join1 49 (fun w => stB w (fun q => i = 0 ∧ vBar r 0 0 q = 0)) (fun v34 hv34 => ?_) (fun kj34 => ?_)
      · refine gw_istore_7 (gc k_Paper_hasVoice_0 30 rfl) rfl rfl ?_
        refine gw_iload_n (gc k_Paper_hasVoice_0 31 rfl) rfl ?_
        refine gw_istore_8 (gc k_Paper_hasVoice_0 32 rfl) rfl rfl ?_
        refine gwloop (σ := Int × Int) (fun zs => (lo ≤ (zs.1) ∧ (zs.1) ≤ hi + 1) ∧ stB (zs.2) (fun q => (i = 0 ∧ vBar r 0 0 q = 0) ∨ (¬ i = 0 ∧ ∃ y, (lo ≤ y ∧ y < (zs.1)) ∧ rcS r lo hi i.toNat y ∧ vBar r i y q = 0))) (fun zs => (hi + 1 - (zs.1)).toNat) (fun zs => [(2, 31), (2, b), (0, lo), (0, hi), (0, wv), (0, v), (0, i), (0, (zs.2)), (0, (zs.1))]) (fun zs => g) (lo, v34) (show (lo ≤ lo ∧ lo ≤ hi + 1) ∧ stB v34 (fun q => (i = 0 ∧ vBar r 0 0 q = 0) ∨ (¬ i = 0 ∧ ∃ y, (lo ≤ y ∧ y < lo) ∧ rcS r lo hi i.toNat y ∧ vBar r i y q = 0)) from ⟨⟨Int.le_refl _, by omega⟩, hv34.congr (fun q x y => ⟨Or.inl, fun z => z.elim id (fun ⟨_, y, yy, _⟩ => by omega)⟩)⟩) rfl rfl (fun zs hI ih2 => ?_)
        obtain ⟨p, w⟩ := zs
        replace hI : (lo ≤ p ∧ p ≤ hi + 1) ∧ stB w (fun q => (i = 0 ∧ vBar r 0 0 q = 0) ∨ (¬ i = 0 ∧ ∃ y, (lo ≤ y ∧ y < p) ∧ rcS r lo hi i.toNat y ∧ vBar r i y q = 0)) := hI
        obtain ⟨hp, hw⟩ := hI
        show gWP _ _ _ _ _ [(2, 31), (2, b), (0, lo), (0, hi), (0, wv), (0, v), (0, i), (0, w), (0, p)] [] _ (g) _
        
        refine gw_iload (gc k_Paper_hasVoice_0 33 rfl) rfl ?_
        refine gw_iload_n (gc k_Paper_hasVoice_0 34 rfl) rfl ?_
        refine gw_icmp_gt (tgt := 97) (gc k_Paper_hasVoice_0 35 rfl) rfl (by omega) (fun c57 => ?_) (fun c57 => ?_)
        · refine gw_iload (gc k_Paper_hasVoice_1 16 rfl) rfl ?_
          refine gw_iload (gc k_Paper_hasVoice_1 17 rfl) rfl ?_
          refine gw_iand (gc k_Paper_hasVoice_1 18 rfl) ?_
          refine gw_istore_5 (gc k_Paper_hasVoice_1 19 rfl) rfl rfl ?_
          refine gw_iinc_6 (gc k_Paper_hasVoice_1 20 rfl) rfl rfl ?_
          refine gw_goto (tgt := 18) (gc k_Paper_hasVoice_1 21 rfl) rfl ?_
          refine ih (i + 1, _, _, _) ⟨⟨by omega, by omega⟩, (hw.and hwv).congr (fun q x y => ?_)⟩ (by show (r 41 - (i + 1)).toNat < (r 41 - i).toNat; omega)
          rw [show (i + 1).toNat = i.toNat + 1 by omega]
          show _ ↔ (lo ≤ q ∧ q ≤ hi) ∧ if i.toNat = 0 then vBar r 0 0 q = 0 else ∃ p, (lo ≤ p ∧ p ≤ hi) ∧ rcS r lo hi i.toNat p ∧ vBar r (i.toNat : Int) p q = 0
          rw [show ((i.toNat : Nat) : Int) = i by omega]
          by_cases z : i = 0
          · rw [if_pos (by omega)]
            exact ⟨fun t => ⟨t.2, t.1.elim (fun u => u.2) (fun u => absurd z u.1)⟩, fun t => ⟨Or.inl ⟨z, t.2⟩, t.1⟩⟩
          · rw [if_neg (by omega)]
            exact ⟨fun t => ⟨t.2, t.1.elim (fun u => absurd u.1 z) (fun ⟨_, y, y1, y2⟩ => ⟨y, by omega, y2⟩)⟩, fun ⟨t, y, y1, y2⟩ => ⟨Or.inr ⟨z, y, by omega, y2⟩, t⟩⟩
        · refine gw_iload (gc k_Paper_hasVoice_0 36 rfl) rfl ?_
          refine gw_if_le (tgt := 97) (gc k_Paper_hasVoice_0 37 rfl) rfl (by omega) (fun c62 => ?_) (fun c62 => ?_)
          · refine gw_iload (gc k_Paper_hasVoice_1 16 rfl) rfl ?_
            refine gw_iload (gc k_Paper_hasVoice_1 17 rfl) rfl ?_
            refine gw_iand (gc k_Paper_hasVoice_1 18 rfl) ?_
            refine gw_istore_5 (gc k_Paper_hasVoice_1 19 rfl) rfl rfl ?_
            refine gw_iinc_6 (gc k_Paper_hasVoice_1 20 rfl) rfl rfl ?_
            refine gw_goto (tgt := 18) (gc k_Paper_hasVoice_1 21 rfl) rfl ?_
            refine ih (i + 1, _, _, _) ⟨⟨by omega, by omega⟩, (hw.and hwv).congr (fun q x y => ?_)⟩ (by show (r 41 - (i + 1)).toNat < (r 41 - i).toNat; omega)
            rw [show (i + 1).toNat = i.toNat + 1 by omega]
            show _ ↔ (lo ≤ q ∧ q ≤ hi) ∧ if i.toNat = 0 then vBar r 0 0 q = 0 else ∃ p, (lo ≤ p ∧ p ≤ hi) ∧ rcS r lo hi i.toNat p ∧ vBar r (i.toNat : Int) p q = 0
            rw [show ((i.toNat : Nat) : Int) = i by omega]
            by_cases z : i = 0
            · rw [if_pos (by omega)]
              exact ⟨fun t => ⟨t.2, t.1.elim (fun u => u.2) (fun u => absurd z u.1)⟩, fun t => ⟨Or.inl ⟨z, t.2⟩, t.1⟩⟩
            · rw [if_neg (by omega)]
              exact ⟨fun t => ⟨t.2, t.1.elim (fun u => absurd u.1 z) (fun ⟨_, y, y1, y2⟩ => ⟨y, by omega, y2⟩)⟩, fun ⟨t, y, y1, y2⟩ => ⟨Or.inr ⟨z, y, by omega, y2⟩, t⟩⟩
          · have hbt := hv.bit (q := p) (by omega)
            refine gw_iload (gc k_Paper_hasVoice_0 38 rfl) rfl ?_
            refine gw_iload (gc k_Paper_hasVoice_0 39 rfl) rfl ?_
            refine gw_ishr (gc k_Paper_hasVoice_1 0 rfl) ?_
            refine gw_iconst (gc k_Paper_hasVoice_1 1 rfl) ?_
            refine gw_iand (gc k_Paper_hasVoice_1 2 rfl) ?_
            refine gw_iconst (gc k_Paper_hasVoice_1 3 rfl) ?_
            have hgb : gand (gshr v p) 1 = 0 ∨ gand (gshr v p) 1 = 1 := bitI_01 v p
            refine gw_icmp_ne (tgt := 91) (gc k_Paper_hasVoice_1 4 rfl) rfl (by omega) (fun c73 => ?_) (fun c73 => ?_)
            · refine gw_iinc_8 (gc k_Paper_hasVoice_1 14 rfl) rfl rfl ?_
              refine gw_goto (tgt := 54) (gc k_Paper_hasVoice_1 15 rfl) rfl ?_
              exact ih2 (p + 1, w) ⟨⟨by omega, by omega⟩, hw.congr (fun q x y => ⟨fun z => z.elim Or.inl (fun ⟨z1, t, z2, z3⟩ => Or.inr ⟨z1, t, by omega, z3⟩), fun z => z.elim Or.inl (fun ⟨z1, t, z2, z3⟩ => Or.inr ⟨z1, t, ⟨z2.1, Decidable.byContradiction (fun e => c73 (hbt.mpr (by rw [← show t = p by omega]; exact z3.1)))⟩, z3⟩)⟩)⟩ (by show (hi + 1 - (p + 1)).toNat < (hi + 1 - p).toNat; omega)
            · refine gw_iload (gc k_Paper_hasVoice_1 5 rfl) rfl ?_
              refine gw_aload_n (gc k_Paper_hasVoice_1 6 rfl) rfl rfl ?_
              refine gw_getref (gc k_Paper_hasVoice_1 7 rfl) fl_Paper_39 (by first | exact gAt hx rfl rfl | exact (ps5 hx (by omega)).1.1 | exact (ps5 hx (by omega)).1.2.1 | exact (ps5 hx (by omega)).1.2.2 | exact (ps5 hx (by omega)).2.1 | exact (ps5 hx (by omega)).2.2.1 | exact (ps5 hx (by omega)).2.2.2.1 | exact (ps5 hx (by omega)).2.2.2.2 | exact (bs hx hb).1 | exact (bs hx hb).2.1 | exact (bs hx hb).2.2.1 | exact (bs hx hb).2.2.2.1) (by first | exact gRf hf rfl rfl | exact (br hf hb).1 | exact (br hf hb).2.1 | exact (br hf hb).2.2.1 | exact (br hf hb).2.2.2.1 | exact (br hf hb).2.2.2.2.1 | exact (br hf hb).2.2.2.2.2) ?_
              refine gw_iload (gc k_Paper_hasVoice_1 8 rfl) rfl ?_
              refine gw_aald_ints (gc k_Paper_hasVoice_1 9 rfl) (by first | exact gAt hx rfl rfl | exact (ps5 hx (by omega)).1.1 | exact (ps5 hx (by omega)).1.2.1 | exact (ps5 hx (by omega)).1.2.2 | exact (ps5 hx (by omega)).2.1 | exact (ps5 hx (by omega)).2.2.1 | exact (ps5 hx (by omega)).2.2.2.1 | exact (ps5 hx (by omega)).2.2.2.2 | exact (bs hx hb).1 | exact (bs hx hb).2.1 | exact (bs hx hb).2.2.1 | exact (bs hx hb).2.2.2.1) (by omega) ?_
              rw [(pr5 hf (i := i) (by omega)).2.2.2.2]
              refine gw_iload (gc k_Paper_hasVoice_1 10 rfl) rfl ?_
              refine gw_iald (gc k_Paper_hasVoice_1 11 rfl) (by first | exact gAt hx rfl rfl | exact (ps5 hx (by omega)).1.1 | exact (ps5 hx (by omega)).1.2.1 | exact (ps5 hx (by omega)).1.2.2 | exact (ps5 hx (by omega)).2.1 | exact (ps5 hx (by omega)).2.2.1 | exact (ps5 hx (by omega)).2.2.2.1 | exact (ps5 hx (by omega)).2.2.2.2 | exact (bs hx hb).1 | exact (bs hx hb).2.1 | exact (bs hx hb).2.2.1 | exact (bs hx hb).2.2.2.1) (by omega) ?_
              refine gw_ior (gc k_Paper_hasVoice_1 12 rfl) ?_
              refine gw_istore_7 (gc k_Paper_hasVoice_1 13 rfl) rfl rfl ?_
              refine gw_iinc_8 (gc k_Paper_hasVoice_1 14 rfl) rfl rfl ?_
              refine gw_goto (tgt := 54) (gc k_Paper_hasVoice_1 15 rfl) rfl ?_
              exact ih2 (p + 1, gor w (g (120 + i) p)) ⟨⟨by omega, by omega⟩, (hw.or (hop i p (by omega) (by omega) (by omega) (by omega) (by omega))).congr (fun q x y => ⟨fun z => z.elim (fun z => z.elim Or.inl (fun ⟨z1, t, z2, z3⟩ => Or.inr ⟨z1, t, by omega, z3⟩)) (fun z => Or.inr ⟨by omega, p, by omega, hbt.mp c73, z⟩), fun z => z.elim (fun z => Or.inl (Or.inl z)) (fun ⟨z1, t, z2, z3⟩ => if e : t = p then Or.inr (by rw [← e]; exact z3.2) else Or.inl (Or.inr ⟨z1, t, by omega, z3⟩))⟩)⟩ (by show (hi + 1 - (p + 1)).toNat < (hi + 1 - p).toNat; omega)
      · refine gw_if_ne (tgt := 48) (gc k_Paper_hasVoice_0 21 rfl) rfl (by omega) (fun c34 => ?_) (fun c34 => ?_)
        · refine gw_iconst (gc k_Paper_hasVoice_0 29 rfl) ?_
          exact kj34 _ ((by first | exact (hop 0 0 (by omega) (by omega) (by omega) (by omega) (fun _ => rfl)).congr (fun q x y => ⟨fun z => ⟨by omega, z⟩, fun z => z.2⟩) | exact stB.none (fun q x y z => absurd z.1 (by omega))))
        · refine gw_aload_n (gc k_Paper_hasVoice_0 22 rfl) rfl rfl ?_
          refine gw_getref (gc k_Paper_hasVoice_0 23 rfl) fl_Paper_39 (by first | exact gAt hx rfl rfl | exact (ps5 hx (by omega)).1.1 | exact (ps5 hx (by omega)).1.2.1 | exact (ps5 hx (by omega)).1.2.2 | exact (ps5 hx (by omega)).2.1 | exact (ps5 hx (by omega)).2.2.1 | exact (ps5 hx (by omega)).2.2.2.1 | exact (ps5 hx (by omega)).2.2.2.2 | exact (bs hx hb).1 | exact (bs hx hb).2.1 | exact (bs hx hb).2.2.1 | exact (bs hx hb).2.2.2.1) (by first | exact gRf hf rfl rfl | exact (br hf hb).1 | exact (br hf hb).2.1 | exact (br hf hb).2.2.1 | exact (br hf hb).2.2.2.1 | exact (br hf hb).2.2.2.2.1 | exact (br hf hb).2.2.2.2.2) ?_
          refine gw_iconst (gc k_Paper_hasVoice_0 24 rfl) ?_
          refine gw_aald_ints (gc k_Paper_hasVoice_0 25 rfl) (by first | exact gAt hx rfl rfl | exact (ps5 hx (by omega)).1.1 | exact (ps5 hx (by omega)).1.2.1 | exact (ps5 hx (by omega)).1.2.2 | exact (ps5 hx (by omega)).2.1 | exact (ps5 hx (by omega)).2.2.1 | exact (ps5 hx (by omega)).2.2.2.1 | exact (ps5 hx (by omega)).2.2.2.2 | exact (bs hx hb).1 | exact (bs hx hb).2.1 | exact (bs hx hb).2.2.1 | exact (bs hx hb).2.2.2.1) (by omega) ?_
          rw [show g 119 0 = 120 from gRf hf rfl rfl]
          refine gw_iconst (gc k_Paper_hasVoice_0 26 rfl) ?_
          refine gw_iald (gc k_Paper_hasVoice_0 27 rfl) (by first | exact gAt hx rfl rfl | exact (ps5 hx (by omega)).1.1 | exact (ps5 hx (by omega)).1.2.1 | exact (ps5 hx (by omega)).1.2.2 | exact (ps5 hx (by omega)).2.1 | exact (ps5 hx (by omega)).2.2.1 | exact (ps5 hx (by omega)).2.2.2.1 | exact (ps5 hx (by omega)).2.2.2.2 | exact (bs hx hb).1 | exact (bs hx hb).2.1 | exact (bs hx hb).2.2.1 | exact (bs hx hb).2.2.2.1) (by omega) ?_
          refine gw_goto (tgt := 49) (gc k_Paper_hasVoice_0 28 rfl) rfl ?_
          exact kj34 _ ((by first | exact (hop 0 0 (by omega) (by omega) (by omega) (by omega) (fun _ => rfl)).congr (fun q x y => ⟨fun z => ⟨by omega, z⟩, fun z => z.2⟩) | exact stB.none (fun q x y z => absurd z.1 (by omega))))
