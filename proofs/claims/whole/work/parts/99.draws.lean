/-! ===== boards change; weeks on draws ===== -/
theorem bdX.low {Λ : Int → List PC} {sh : gS} {r ρ : Int → Int} {g g2 : gM} {b : Int} (h : bdX Λ sh r g b) (hs : sLow r ρ) (ho : rowOK ρ) (he : ∀ a k, (a = b ∨ (b + 3 ≤ a ∧ a ≤ b + 6 ∧ ¬ (a = b + 3 ∧ k = 0)) ∨ 201 ≤ a) → g2 a k = g a k) (hn : ∀ i, 0 ≤ i → i < r 41 → g2 (b + 1) i = ρ (12 + i) ∧ g2 (b + 2) i = ρ i) (hd : g2 (b + 3) 0 = ρ 24) : bdX Λ sh ρ g2 b := by
  have e : ∀ y, 25 ≤ y → ρ y = r y := fun y hy => hs y (Or.inr hy)
  obtain ⟨h1, ⟨b1, b2, b3, b4, b5, b6, b7⟩, h3⟩ := h
  have k0 : ∀ k, g2 b k = g b k := fun k => he b k (Or.inl rfl)
  refine ⟨⟨ho, h1.2⟩, ⟨?_, ?_, ?_, ?_, ?_, ?_, fun k c d => ?_⟩, fun i c d => ?_⟩
  · rw [k0, e 41 (by decide)]; exact b1
  · rw [k0, e 42 (by decide)]; exact b2
  · rw [k0, e 43 (by decide)]; exact b3
  · rw [k0, e 44 (by decide)]; exact b4
  · rw [e 41 (by decide)]; exact hn
  · rw [he _ 1 (Or.inr (Or.inl ⟨by omega, by omega, by omega⟩)), he _ 2 (Or.inr (Or.inl ⟨by omega, by omega, by omega⟩)), he _ 3 (Or.inr (Or.inl ⟨by omega, by omega, by omega⟩)), he _ 4 (Or.inr (Or.inl ⟨by omega, by omega, by omega⟩)), e 37 (by decide), e 38 (by decide), e 39 (by decide), e 40 (by decide)]
    exact ⟨hd, b6.2⟩
  · rw [e 42 (by decide)] at d
    rw [he (b + 4) k (Or.inr (Or.inl ⟨by omega, by omega, by omega⟩)), he (b + 5) k (Or.inr (Or.inl ⟨by omega, by omega, by omega⟩)), e (25 + 2 * k) (by omega), e (25 + 2 * k + 1) (by omega)]
    exact b7 k c d
  · rw [e 43 (by decide)] at d
    rw [he (b + 6) i (Or.inr (Or.inl ⟨by omega, by omega, by omega⟩)), rLaw_eq (fun y hy => e y (by omega)) i c]
    exact ⟨(h3 i c d).1, (h3 i c d).2.ext (fun x y hx => he x y (Or.inr (Or.inr hx)))⟩
theorem bdX.und {Λ : Int → List PC} {sh : gS} {r : Int → Int} {g : gM} {b : Int} (hb : isBd b) (h : bdX Λ sh r g b) {n p : Int} (hn : 0 ≤ n ∧ n < r 41) (hp : 0 ≤ p ∧ p ≤ 24) : bdX Λ sh (rSh r n p) (gup g (b + 1) n p) b := by
  have hm := ro_many h.1.1
  unfold isBd at hb
  refine h.low (fun y hy => rSh_k _ _ _ (by omega)) (rSh_ok h.1.1 (by omega) hp) (fun a k z => gup_a _ _ _ _ _ (by omega)) (fun i c d => ?_) ?_
  · have q := h.2.1.2.2.2.2.1 i c d
    rw [gup_a _ _ _ _ _ (show b + 2 ≠ b + 1 by omega), rSh_k r n p (y := i) (by omega)]
    refine ⟨?_, q.2⟩
    by_cases z : i = n
    · subst z; rw [gup_s, rSh_s]
    · rw [gup_k _ _ _ _ z, rSh_k _ _ _ (by omega)]; exact q.1
  · rw [gup_a _ _ _ _ _ (by omega), rSh_k _ _ _ (by omega)]; exact h.2.1.2.2.2.2.2.1.1
theorem bdX.her {Λ : Int → List PC} {sh : gS} {r : Int → Int} {g : gM} {b : Int} (hb : isBd b) (h : bdX Λ sh r g b) {n p : Int} (hn : 0 ≤ n ∧ n < r 41) (hp : 0 ≤ p ∧ p ≤ 24) : bdX Λ sh (rHr r n p) (gup g (b + 2) n p) b := by
  have hm := ro_many h.1.1
  unfold isBd at hb
  refine h.low (rHr_low r (by omega) p) (rHr_ok h.1.1 (by omega) hp) (fun a k z => gup_a _ _ _ _ _ (by omega)) (fun i c d => ?_) ?_
  · have q := h.2.1.2.2.2.2.1 i c d
    rw [gup_a _ _ _ _ _ (show b + 1 ≠ b + 2 by omega), show rHr r n p (12 + i) = r (12 + i) from if_neg (by omega)]
    refine ⟨q.1, ?_⟩
    by_cases z : i = n
    · subst z; rw [gup_s]; exact (if_pos rfl).symm
    · rw [gup_k _ _ _ _ z, show rHr r n p i = r i from if_neg z]; exact q.2
  · rw [gup_a _ _ _ _ _ (by omega), show rHr r n p 24 = r 24 from if_neg (by omega)]; exact h.2.1.2.2.2.2.2.1.1
theorem bdX.day {Λ : Int → List PC} {sh : gS} {r ρ : Int → Int} {g : gM} {b v : Int} (hb : isBd b) (h : bdX Λ sh r g b) (ho : rowOK ρ) (hr : ∀ y, y ≠ 24 → ρ y = r y) (hv : v = ρ 24) : bdX Λ sh ρ (gup g (b + 3) 0 v) b := by
  have hm := ro_many h.1.1
  unfold isBd at hb
  refine h.low (fun y hy => hr y (by omega)) ho (fun a k z => ?_) (fun i c d => ?_) ?_
  · by_cases e : a = b + 3
    · subst e; exact gup_k _ _ _ _ (by omega)
    · exact gup_a _ _ _ _ _ e
  · rw [gup_a _ _ _ _ _ (by omega), gup_a _ _ _ _ _ (by omega), hr _ (by omega), hr _ (by omega)]
    exact h.2.1.2.2.2.2.1 i c d
  · rw [gup_s]; exact hv
theorem bdX.exc {Λ : Int → List PC} {sh : gS} {r : Int → Int} {g : gM} {b : Int} (hb : isBd b) (h : bdX Λ sh r g b) : bdX Λ sh (exF r (r 41)) (gfr (gfr g (b + 1) (fun y => if 0 ≤ y ∧ y < g b 0 then g (b + 2) y else g (b + 1) y)) (b + 2) (fun y => if 0 ≤ y ∧ y < g b 0 then g (b + 1) y else g (b + 2) y)) b := by
  have hm := ro_many h.1.1
  have h0 := h.nums.1.1
  unfold isBd at hb
  refine h.low (exF_low r hm) (exF_ok h.1.1) (fun a k z => ?_) (fun i c d => ?_) ?_
  · rw [gfr_fn _ _ _ (by omega), gfr_fn _ _ _ (by omega)]
  · have q := h.2.1.2.2.2.2.1 i c d
    rw [gfr_fn _ _ _ (show b + 1 ≠ b + 2 by omega), gfr_s, gfr_s]
    show (if 0 ≤ i ∧ i < g b 0 then g (b + 2) i else g (b + 1) i) = _ ∧ (if 0 ≤ i ∧ i < g b 0 then g (b + 1) i else g (b + 2) i) = _
    rw [if_pos (by omega), if_pos (by omega), q.1, q.2]
    unfold exF
    rw [if_neg (by omega), if_pos (by omega), if_pos (by omega)]
    refine ⟨?_, rfl⟩
    congr 1; omega
  · rw [gfr_fn _ _ _ (by omega), gfr_fn _ _ _ (by omega)]
    unfold exF
    rw [if_neg (by omega), if_neg (by omega)]
    exact h.2.1.2.2.2.2.2.1.1
theorem cpS.bdX {Λ : Int → List PC} {sh : gS} {r : Int → Int} {g M : gM} {o p : Int} (ho : isBd o) (h : cpS g o p 6 M) (hX : bdX Λ sh r g p) : bdX Λ sh r M o := by
  unfold isBd at ho
  refine ⟨hX.1, h.bd hX.1.1 hX.2.1, fun i a b => ?_⟩
  have := hX.nums.2.2.1
  rw [h.2.1 6 i (by decide) (by decide) a (by show i < 6; omega)]
  exact ⟨(hX.2.2 i a b).1, (hX.2.2 i a b).2.ext (fun x k hx => h.1 x k (by omega))⟩
/-- what weeks by draws change -/
def dwF (g g2 : gM) : Prop := ∀ a k, a ≠ 10 → a ≠ 11 → ¬ (a = 8 ∧ 2 ≤ k ∧ k ≤ 3) → ¬ (a = 141 ∧ (k = 1 ∨ k = 2)) → ¬ (142 ≤ a ∧ a ≤ 148) → g2 a k = g a k
theorem iD : isBd 142 := by unfold isBd; omega
theorem bdT.keep {sh : gS} {g g2 : gM} {b : Int} (h : bdT sh g b) (he : ∀ k, g2 (b + 6) k = g (b + 6) k) : bdT sh g2 b := fun i a c => by rw [he]; exact h i a c
set_option maxHeartbeats 1000000 in
theorem c_Draws_draw {sh : gS} {g : gM} (hx : gFix sh) (hf : gFin g) (m : Int) (hl : 0 ≤ g 141 2 ∧ g 141 2 ≤ 1000002) (hm : 1 ≤ m ∧ m ≤ 25) : gTri f_Draws_draw 0 0 0 [(2, 141), (0, m)] sh g (gR (some (0, dr (g 141 2) % m)) sh (gup g 141 2 (dr (g 141 2)))) := by
  have hd := dr_bd (g 141 2)
  refine gTri.of (by decide +kernel) rfl ?_
  show gWP f_Draws_draw _ _ _ 0 [(2, 141), (0, m)] [] sh g _
  refine gw_aload_n (gc k_Draws_draw_0 0 rfl) rfl rfl ?_
  refine gw_aload_n (gc k_Draws_draw_0 1 rfl) rfl rfl ?_
  refine gw_getf 2 rfl (gc k_Draws_draw_0 2 rfl) fl_Draws_26 (by first | exact gAt hx rfl rfl | exact (bs hx iD).1 | exact (bs hx iD).2.1 | exact (bs hx iD).2.2.1 | exact (bs hx iD).2.2.2.1) ?_
  refine gw_ldc2 (gc k_Draws_draw_0 3 rfl) cn_Draws_61 ?_
  refine gw_lmul (gc k_Draws_draw_0 4 rfl) ?_
  refine gw_ldc2 (gc k_Draws_draw_0 5 rfl) cn_Draws_63 ?_
  refine gw_ladd (gc k_Draws_draw_0 6 rfl) ?_
  refine gw_ldc2 (gc k_Draws_draw_0 7 rfl) cn_Draws_65 ?_
  refine gw_lremN (gc k_Draws_draw_0 8 rfl) (by omega) ?_
  rw [show (g 141 2 * 1103 + 12345) % 1000003 = dr (g 141 2) from by unfold dr; rw [Int.mul_comm]]
  refine gw_putJK 2 rfl (gc k_Draws_draw_0 9 rfl) fl_Draws_26 (by first | exact gAt hx rfl rfl | exact (bs hx iD).1 | exact (bs hx iD).2.1 | exact (bs hx iD).2.2.1 | exact (bs hx iD).2.2.2.1) hf (by rfl) (fun hf => ?_)
  refine gw_iload_n (gc k_Draws_draw_0 10 rfl) rfl ?_
  refine gw_if_le (tgt := 35) (gc k_Draws_draw_0 11 rfl) rfl (by omega) (fun c21 => ?_) (fun c21 => ?_)
  · exact absurd c21 (by omega)
  · refine gw_aload_n (gc k_Draws_draw_0 12 rfl) rfl rfl ?_
    refine gw_getf 2 rfl (gc k_Draws_draw_0 13 rfl) fl_Draws_26 (by first | exact gAt hx rfl rfl | exact (bs hx iD).1 | exact (bs hx iD).2.1 | exact (bs hx iD).2.2.1 | exact (bs hx iD).2.2.2.1) ?_
    rw [gup_s]
    refine gw_iload_n (gc k_Draws_draw_0 14 rfl) rfl ?_
    refine gw_i2l (gc k_Draws_draw_0 15 rfl) (by omega) ?_
    refine gw_lremN (gc k_Draws_draw_0 16 rfl) (by omega) ?_
    refine gw_l2i (gc k_Draws_draw_0 17 rfl) ?_
    refine gw_goto (tgt := 36) (gc k_Draws_draw_0 18 rfl) rfl ?_
    refine gw_ireturn (gc k_Draws_draw_0 20 rfl) rfl ?_
    exact ⟨rfl, rfl, rfl⟩
set_option maxHeartbeats 8000000 in
theorem c_Draws_live {sh : gS} {g : gM} (hx : gFix sh) (hf : gFin g) {Λ : Int → List PC} {r : Int → Int} {b : Int} (hb : isBd b) (hne : 142 ≠ b) (hX : bdX Λ sh r g b) (hT : bdT sh g b) (seed n : Int) (hs : 0 ≤ seed ∧ seed ≤ 1000000) (hn : 1 ≤ n ∧ n ≤ 60) (h0 : 0 < r 41) : gTri f_Draws_live 5 0 0 [(2, 141), (2, b), (2, 8), (0, seed), (0, n)] sh g (fun x s2 g2 => x = some (0, (wkF n.toNat r seed 0).2) ∧ s2 = sh ∧ bdX Λ sh (wkF n.toNat r seed 0).1 g2 142 ∧ bdT sh g2 142 ∧ g2 141 1 = 1 ∧ dwF g g2 ∧ gFin g2) := by
  have hbx := hb
  unfold isBd at hbx
  have hm := ro_many hX.1.1
  refine gTri.of (by decide +kernel) rfl ?_
  show gWP f_Draws_live _ _ _ 0 [(2, 141), (2, b), (2, 8), (0, seed), (0, n), (9, 0), (9, 0), (9, 0), (9, 0), (9, 0)] [] sh g _
  refine gw_aload_n (gc k_Draws_live_0 0 rfl) rfl rfl ?_
  refine gw_getref (gc k_Draws_live_0 1 rfl) fl_Draws_12 (by first | exact gAt hx rfl rfl | exact (bs hx iD).1 | exact (bs hx iD).2.1 | exact (bs hx iD).2.2.1 | exact (bs hx iD).2.2.2.1) (by first | exact gRf hf rfl rfl | exact (br hf iD).1 | exact (br hf iD).2.1 | exact (br hf iD).2.2.1) ?_
  refine gw_aload_n (gc k_Draws_live_0 2 rfl) rfl rfl ?_
  refine gw_xV1 (gc k_Draws_live_0 3 rfl) y_Board_copyFrom ln_Draws_18 (c_Board_copyFrom hx hf iD hb hne hT) rfl rfl (by first | exact gAt hx rfl rfl | exact (bs hx iD).1 | exact (bs hx iD).2.1 | exact (bs hx iD).2.2.1 | exact (bs hx iD).2.2.2.1) rfl rfl (fun r5 sh2 g5 hq5 => ?_)
  obtain ⟨rfl, hsh, hcp⟩ := hq5
  subst sh2
  have hf := cpS.fin iD (by decide) hcp hf
  refine gw_aload_n (gc k_Draws_live_0 4 rfl) rfl rfl ?_
  refine gw_iconst (gc k_Draws_live_0 5 rfl) ?_
  refine gw_putZK 1 rfl (gc k_Draws_live_0 6 rfl) fl_Draws_22 (by first | exact gAt hx rfl rfl | exact (bs hx iD).1 | exact (bs hx iD).2.1 | exact (bs hx iD).2.2.1 | exact (bs hx iD).2.2.2.1) (by omega) hf (by rfl) (fun hf => ?_)
  refine gw_aload_n (gc k_Draws_live_0 7 rfl) rfl rfl ?_
  refine gw_iload_n (gc k_Draws_live_0 8 rfl) rfl ?_
  refine gw_i2l (gc k_Draws_live_0 9 rfl) (by omega) ?_
  refine gw_putJK 2 rfl (gc k_Draws_live_0 10 rfl) fl_Draws_26 (by first | exact gAt hx rfl rfl | exact (bs hx iD).1 | exact (bs hx iD).2.1 | exact (bs hx iD).2.2.1 | exact (bs hx iD).2.2.2.1) hf (by rfl) (fun hf => ?_)
  obtain ⟨gs, hgs⟩ : ∃ M, M = gup (gup g5 141 1 1) 141 2 seed := ⟨_, rfl⟩
  rw [← hgs]
  have hfs : gFin gs := by rw [hgs]; exact hf
  have hs2 : gs 141 2 = seed := by rw [hgs, gup_s]
  have hs1 : gs 141 1 = 1 := by rw [hgs, gup_k _ _ _ _ (by decide), gup_s]
  have hgs1 : ∀ a k, a ≠ 141 → gs a k = g5 a k := fun a k z => by rw [hgs, gup_a _ _ _ _ _ z, gup_a _ _ _ _ _ z]
  have hXs : bdX Λ sh r gs 142 := (hcp.bdX iD hX).of (fun a k z => hgs1 a k (by omega))
  have hTs : bdT sh gs 142 := (cpS.tx hcp hT).keep (fun k => hgs1 _ _ (by decide))
  have hFs : dwF g gs := fun a k z1 z2 z3 z4 z5 => by
    by_cases e : a = 141
    · subst e; rw [hgs, gup_k _ _ _ _ (by omega), gup_k _ _ _ _ (by omega)]; exact hcp.1 _ _ (by omega)
    · rw [hgs1 a k e]; exact hcp.1 a k (by omega)
  refine gw_iconst (gc k_Draws_live_0 11 rfl) ?_
  refine gw_istore_5 (gc k_Draws_live_0 12 rfl) rfl rfl ?_
  refine gw_iconst (gc k_Draws_live_0 13 rfl) ?_
  refine gw_istore_6 (gc k_Draws_live_0 14 rfl) rfl rfl ?_
  refine gwloop (σ := Int × (Int → Int) × Int × Int × gV × gV × gV × gM) (fun zs => (0 ≤ (zs.1) ∧ (zs.1) ≤ n) ∧ bdX Λ sh (zs.2.1) (zs.2.2.2.2.2.2.2) 142 ∧ sLow r (zs.2.1) ∧ ((zs.2.2.2.2.2.2.2) 141 2 = (zs.2.2.1) ∧ 0 ≤ (zs.2.2.1) ∧ (zs.2.2.1) ≤ 1000002) ∧ (0 ≤ (zs.2.2.2.1) ∧ (zs.2.2.2.1) ≤ 12 * (zs.1)) ∧ wkF n.toNat r seed 0 = wkF (n - (zs.1)).toNat (zs.2.1) (zs.2.2.1) (zs.2.2.2.1) ∧ dwF g (zs.2.2.2.2.2.2.2) ∧ bdT sh (zs.2.2.2.2.2.2.2) 142 ∧ (zs.2.2.2.2.2.2.2) 141 1 = 1 ∧ gFin (zs.2.2.2.2.2.2.2)) (fun zs => (n - (zs.1)).toNat) (fun zs => [(2, 141), (2, b), (2, 8), (0, seed), (0, n), (0, (zs.2.2.2.1)), (0, (zs.1)), (zs.2.2.2.2.1), (zs.2.2.2.2.2.1), (zs.2.2.2.2.2.2.1)]) (fun zs => (zs.2.2.2.2.2.2.2)) (0, r, seed, 0, (9, 0), (9, 0), (9, 0), gs) (show (0 ≤ (0 : Int) ∧ (0 : Int) ≤ n) ∧ bdX Λ sh r gs 142 ∧ sLow r r ∧ (gs 141 2 = seed ∧ 0 ≤ seed ∧ seed ≤ 1000002) ∧ (0 ≤ (0 : Int) ∧ (0 : Int) ≤ 12 * (0 : Int)) ∧ wkF n.toNat r seed 0 = wkF (n - (0 : Int)).toNat r seed (0 : Int) ∧ dwF g gs ∧ bdT sh gs 142 ∧ gs 141 1 = 1 ∧ gFin gs from ⟨⟨by omega, by omega⟩, hXs, fun _ _ => rfl, ⟨hs2, by omega, by omega⟩, ⟨by omega, by omega⟩, by rw [Int.sub_zero], hFs, hTs, hs1, hfs⟩) rfl rfl (fun zs hI ih => ?_)
  obtain ⟨k, ρ, l, s, x7, x8, x9, g1⟩ := zs
  replace hI : (0 ≤ k ∧ k ≤ n) ∧ bdX Λ sh ρ g1 142 ∧ sLow r ρ ∧ (g1 141 2 = l ∧ 0 ≤ l ∧ l ≤ 1000002) ∧ (0 ≤ s ∧ s ≤ 12 * k) ∧ wkF n.toNat r seed 0 = wkF (n - k).toNat ρ l s ∧ dwF g g1 ∧ bdT sh g1 142 ∧ g1 141 1 = 1 ∧ gFin g1 := hI
  obtain ⟨hk, hX1, hlow, hl, hsb, hw, hF, hT1, hk1, hf1⟩ := hI
  show gWP _ _ _ _ _ [(2, 141), (2, b), (2, 8), (0, seed), (0, n), (0, s), (0, k), x7, x8, x9] [] _ (g1) _
  have hf := hf1
  have hρm : ρ 41 = r 41 := hlow 41 (by omega)
  have hn1 := hX1.nums
  have hdy := ro_day hX1.1.1
  have hd1 := dr_bd l
  have hd2 := dr_bd (dr l)
  have hd3 := dr_bd (dr (dr l))
  refine gw_iload (gc k_Draws_live_0 15 rfl) rfl ?_
  refine gw_iload (gc k_Draws_live_0 16 rfl) rfl ?_
  refine gw_icmp_ge (tgt := 181) (gc k_Draws_live_0 17 rfl) rfl (by omega) (fun c29 => ?_) (fun c29 => ?_)
  · refine gw_iload (gc k_Draws_live_2 11 rfl) rfl ?_
    refine gw_ireturn (gc k_Draws_live_2 12 rfl) rfl ?_
    have hwe : wkF n.toNat r seed 0 = (ρ, s) := by
      rw [hw]
      rw [show (n - k).toNat = 0 by omega]
      rfl
    rw [hwe]
    exact ⟨rfl, rfl, hX1, hT1, hk1, hF, hf⟩
  · refine gw_aload_n (gc k_Draws_live_0 18 rfl) rfl rfl ?_
    refine gw_getref (gc k_Draws_live_0 19 rfl) fl_Draws_12 (by first | exact gAt hx rfl rfl | exact (bs hx iD).1 | exact (bs hx iD).2.1 | exact (bs hx iD).2.2.1 | exact (bs hx iD).2.2.2.1) (by first | exact gRf hf rfl rfl | exact (br hf iD).1 | exact (br hf iD).2.1 | exact (br hf iD).2.2.1) ?_
    refine gw_getref (gc k_Draws_live_0 20 rfl) fl_Draws_30 (by first | exact gAt hx rfl rfl | exact (bs hx iD).1 | exact (bs hx iD).2.1 | exact (bs hx iD).2.2.1 | exact (bs hx iD).2.2.2.1) (by first | exact gRf hf rfl rfl | exact (br hf iD).1 | exact (br hf iD).2.1 | exact (br hf iD).2.2.1) ?_
    refine gw_iconst (gc k_Draws_live_0 21 rfl) ?_
    refine gw_iald (gc k_Draws_live_0 22 rfl) (by first | exact gAt hx rfl rfl | exact (bs hx iD).1 | exact (bs hx iD).2.1 | exact (bs hx iD).2.2.1 | exact (bs hx iD).2.2.2.1) (by omega) ?_
    have hdc : g1 145 0 = ρ 24 := hX1.2.1.2.2.2.2.2.1.1
    rw [hdc]
    refine gw_sipush (gc k_Draws_live_0 23 rfl) (by decide) ?_
    refine gw_icmp_ge (tgt := 181) (gc k_Draws_live_0 24 rfl) rfl (by omega) (fun c44 => ?_) (fun c44 => ?_)
    · refine gw_iload (gc k_Draws_live_2 11 rfl) rfl ?_
      refine gw_ireturn (gc k_Draws_live_2 12 rfl) rfl ?_
      have hwe : wkF n.toNat r seed 0 = (ρ, s) := by
        rw [hw]
        rw [show (n - k).toNat = (n - (k + 1)).toNat + 1 by omega]
        exact if_neg (by omega)
      rw [hwe]
      exact ⟨rfl, rfl, hX1, hT1, hk1, hF, hf⟩
    · refine gw_aload_n (gc k_Draws_live_0 25 rfl) rfl rfl ?_
      refine gw_aload_n (gc k_Draws_live_0 26 rfl) rfl rfl ?_
      refine gw_getref (gc k_Draws_live_0 27 rfl) fl_Draws_12 (by first | exact gAt hx rfl rfl | exact (bs hx iD).1 | exact (bs hx iD).2.1 | exact (bs hx iD).2.2.1 | exact (bs hx iD).2.2.2.1) (by first | exact gRf hf rfl rfl | exact (br hf iD).1 | exact (br hf iD).2.1 | exact (br hf iD).2.2.1) ?_
      refine gw_getf 0 rfl (gc k_Draws_live_0 28 rfl) fl_Draws_34 (by first | exact gAt hx rfl rfl | exact (bs hx iD).1 | exact (bs hx iD).2.1 | exact (bs hx iD).2.2.1 | exact (bs hx iD).2.2.2.1) ?_
      rw [hn1.1.1]
      refine gw_cV1 (gc k_Draws_live_0 29 rfl) y_Draws_draw ln_Draws_38 (c_Draws_draw hx hf (ρ 41) (by omega) (by omega)) rfl rfl (by first | exact gAt hx rfl rfl | exact (bs hx iD).1 | exact (bs hx iD).2.1 | exact (bs hx iD).2.2.1 | exact (bs hx iD).2.2.2.1) rfl rfl ?_
      rw [hl.1]
      refine gw_istore_7 (gc k_Draws_live_0 30 rfl) rfl rfl ?_
      refine gw_aload_n (gc k_Draws_live_0 31 rfl) rfl rfl ?_
      refine gw_bipush (gc k_Draws_live_0 32 rfl) (by decide) ?_
      have hf2 : gFin (gup g1 141 2 (dr l)) := hf.up rfl
      refine gw_cV1 (gc k_Draws_live_0 33 rfl) y_Draws_draw ln_Draws_38 (c_Draws_draw hx hf2 25 (by rw [gup_s]; omega) (by decide)) rfl rfl (by first | exact gAt hx rfl rfl | exact (bs hx iD).1 | exact (bs hx iD).2.1 | exact (bs hx iD).2.2.1 | exact (bs hx iD).2.2.2.1) rfl rfl ?_
      rw [gup_s]
      refine gw_istore_8 (gc k_Draws_live_0 34 rfl) rfl rfl ?_
      refine gw_aload_n (gc k_Draws_live_0 35 rfl) rfl rfl ?_
      refine gw_iconst (gc k_Draws_live_0 36 rfl) ?_
      have hf3 : gFin (gup (gup g1 141 2 (dr l)) 141 2 (dr (dr l))) := hf2.up rfl
      refine gw_cV1 (gc k_Draws_live_0 37 rfl) y_Draws_draw ln_Draws_38 (c_Draws_draw hx hf3 4 (by rw [gup_s]; omega) (by decide)) rfl rfl (by first | exact gAt hx rfl rfl | exact (bs hx iD).1 | exact (bs hx iD).2.1 | exact (bs hx iD).2.2.1 | exact (bs hx iD).2.2.2.1) rfl rfl ?_
      rw [gup_s]
      obtain ⟨g4, hg4e⟩ : ∃ M, M = gup (gup (gup g1 141 2 (dr l)) 141 2 (dr (dr l))) 141 2 (dr (dr (dr l))) := ⟨_, rfl⟩
      rw [← hg4e]
      have hf4 : gFin g4 := by rw [hg4e]; exact hf3.up rfl
      have hf := hf4
      have hg4 : ∀ a k, ¬ (a = 141 ∧ k = 2) → g4 a k = g1 a k := fun a k z => by
        rw [hg4e]
        by_cases e : a = 141
        · subst e; rw [gup_k _ _ _ _ (fun q => z ⟨rfl, q⟩), gup_k _ _ _ _ (fun q => z ⟨rfl, q⟩), gup_k _ _ _ _ (fun q => z ⟨rfl, q⟩)]
        · rw [gup_a _ _ _ _ _ e, gup_a _ _ _ _ _ e, gup_a _ _ _ _ _ e]
      have h42 : g4 141 2 = dr (dr (dr l)) := by rw [hg4e, gup_s]
      have hX4 : bdX Λ sh ρ g4 142 := hX1.of (fun a k z => hg4 a k (by omega))
      have hn4 := hX4.nums
      have hnt : 0 ≤ dr l % ρ 41 ∧ dr l % ρ 41 < ρ 41 := drA_n hX1.1.1 (by omega) l
      refine gw_istore_9 (gc k_Draws_live_0 38 rfl) rfl rfl ?_
      refine gw_iload (gc k_Draws_live_0 39 rfl) rfl ?_
      refine gw_iconst (gc k_Draws_live_1 0 rfl) ?_
      refine gw_icmp_ne (tgt := 91) (gc k_Draws_live_1 1 rfl) rfl (by omega) (fun c78 => ?_) (fun c78 => ?_)
      · refine gw_iload (gc k_Draws_live_1 6 rfl) rfl ?_
        refine gw_iconst (gc k_Draws_live_1 7 rfl) ?_
        refine gw_icmp_ne (tgt := 124) (gc k_Draws_live_1 8 rfl) rfl (by omega) (fun c94 => ?_) (fun c94 => ?_)
        · refine gw_aload_n (gc k_Draws_live_1 21 rfl) rfl rfl ?_
          refine gw_getref (gc k_Draws_live_1 22 rfl) fl_Draws_12 (by first | exact gAt hx rfl rfl | exact (bs hx iD).1 | exact (bs hx iD).2.1 | exact (bs hx iD).2.2.1 | exact (bs hx iD).2.2.2.1) (by first | exact gRf hf rfl rfl | exact (br hf iD).1 | exact (br hf iD).2.1 | exact (br hf iD).2.2.1) ?_
          refine gw_iload (gc k_Draws_live_1 23 rfl) rfl ?_
          refine gw_cV1 (gc k_Draws_live_1 24 rfl) y_Board_has ln_Draws_45 (c_Board_has hx hf iD (dr l % ρ 41) (by omega) (by omega)) rfl rfl (by first | exact gAt hx rfl rfl | exact (bs hx iD).1 | exact (bs hx iD).2.1 | exact (bs hx iD).2.2.1 | exact (bs hx iD).2.2.2.1) rfl rfl ?_
          rw [hn4.1.1, bi_1 (show 0 ≤ dr l % ρ 41 ∧ dr l % ρ 41 < ρ 41 from hnt)]
          refine gw_if_eq (tgt := 148) (gc k_Draws_live_1 25 rfl) rfl (by omega) (fun c133 => ?_) (fun c133 => ?_)
          · exact absurd c133 (by decide)
          · refine gw_aload_n (gc k_Draws_live_1 26 rfl) rfl rfl ?_
            refine gw_getref (gc k_Draws_live_1 27 rfl) fl_Draws_12 (by first | exact gAt hx rfl rfl | exact (bs hx iD).1 | exact (bs hx iD).2.1 | exact (bs hx iD).2.2.1 | exact (bs hx iD).2.2.2.1) (by first | exact gRf hf rfl rfl | exact (br hf iD).1 | exact (br hf iD).2.1 | exact (br hf iD).2.2.1) ?_
            refine gw_getref (gc k_Draws_live_1 28 rfl) fl_Draws_52 (by first | exact gAt hx rfl rfl | exact (bs hx iD).1 | exact (bs hx iD).2.1 | exact (bs hx iD).2.2.1 | exact (bs hx iD).2.2.2.1) (by first | exact gRf hf rfl rfl | exact (br hf iD).1 | exact (br hf iD).2.1 | exact (br hf iD).2.2.1) ?_
            refine gw_iload (gc k_Draws_live_1 29 rfl) rfl ?_
            refine gw_iload (gc k_Draws_live_1 30 rfl) rfl ?_
            refine gw_iastF (gc k_Draws_live_1 31 rfl) (by first | exact gAt hx rfl rfl | exact (bs hx iD).1 | exact (bs hx iD).2.1 | exact (bs hx iD).2.2.1 | exact (bs hx iD).2.2.2.1) (by omega) hf (by rfl) (fun hf => ?_)
            obtain ⟨gm, hgm⟩ : ∃ M, M = gup g4 144 (dr l % ρ 41) (dr (dr l) % 25) := ⟨_, rfl⟩
            show gWP _ _ _ _ _ _ _ _ (gup g4 144 (dr l % ρ 41) (dr (dr l) % 25)) _
            rw [← hgm]
            have hXm : bdX Λ sh (drA ρ l) gm 142 := by
              rw [hgm, show drA ρ l = rHr ρ (dr l % ρ 41) (dr (dr l) % 25) by unfold drA; rw [if_neg (by omega), if_neg (by omega)]]
              exact hX4.her iD (by omega) (by omega)
            have hf : gFin gm := by rw [hgm]; exact hf4.up rfl
            have hFm : ∀ a k, a ≠ 143 → a ≠ 144 → gm a k = g4 a k := fun a k z z2 => by rw [hgm]; rw [gup_a _ _ _ _ _ (by omega)]
            have hdn := drA_ok hX1.1.1 (by omega) l
            have hdl := drA_low hX1.1.1 (by omega) l
            have hd24 := drA_24 hX1.1.1 (by omega) l
            refine gw_iload (gc k_Draws_live_1 32 rfl) rfl ?_
            refine gw_aload_n (gc k_Draws_live_1 33 rfl) rfl rfl ?_
            refine gw_aload_n (gc k_Draws_live_1 34 rfl) rfl rfl ?_
            refine gw_getref (gc k_Draws_live_1 35 rfl) fl_Draws_12 (by first | exact gAt hx rfl rfl | exact (bs hx iD).1 | exact (bs hx iD).2.1 | exact (bs hx iD).2.2.1 | exact (bs hx iD).2.2.2.1) (by first | exact gRf hf rfl rfl | exact (br hf iD).1 | exact (br hf iD).2.1 | exact (br hf iD).2.2.1) ?_
            refine gw_iconst (gc k_Draws_live_1 36 rfl) ?_
            refine gw_xV1 (gc k_Draws_live_1 37 rfl) y_Judge_total ln_Draws_55 (c_Judge_total hx hf iD hXm 2 (by decide)) rfl rfl (by first | exact gAt hx rfl rfl | exact (bs hx iD).1 | exact (bs hx iD).2.1 | exact (bs hx iD).2.2.1 | exact (bs hx iD).2.2.2.1) rfl rfl (fun r156 sh2 g156 hq156 => ?_)
            obtain ⟨rfl, hsh, hj⟩ := hq156
            subst sh2
            have hf := hj.fin hf
            have hab := allN_bd2 hdn
            refine gw_iadd (gc k_Draws_live_1 38 rfl) ?_
            refine gw_istore_5 (gc k_Draws_live_1 39 rfl) rfl rfl ?_
            refine gw_aload_n (gc k_Draws_live_2 0 rfl) rfl rfl ?_
            refine gw_getref (gc k_Draws_live_2 1 rfl) fl_Draws_12 (by first | exact gAt hx rfl rfl | exact (bs hx iD).1 | exact (bs hx iD).2.1 | exact (bs hx iD).2.2.1 | exact (bs hx iD).2.2.2.1) (by first | exact gRf hf rfl rfl | exact (br hf iD).1 | exact (br hf iD).2.1 | exact (br hf iD).2.2.1) ?_
            refine gw_getref (gc k_Draws_live_2 2 rfl) fl_Draws_30 (by first | exact gAt hx rfl rfl | exact (bs hx iD).1 | exact (bs hx iD).2.1 | exact (bs hx iD).2.2.1 | exact (bs hx iD).2.2.2.1) (by first | exact gRf hf rfl rfl | exact (br hf iD).1 | exact (br hf iD).2.1 | exact (br hf iD).2.2.1) ?_
            refine gw_iconst (gc k_Draws_live_2 3 rfl) ?_
            refine gw_dup2 (gc k_Draws_live_2 4 rfl) rfl ?_
            refine gw_iald (gc k_Draws_live_2 5 rfl) (by first | exact gAt hx rfl rfl | exact (bs hx iD).1 | exact (bs hx iD).2.1 | exact (bs hx iD).2.2.1 | exact (bs hx iD).2.2.2.1) (by omega) ?_
            have hdd := (hXm.jg iD hj).2.1.2.2.2.2.2.1.1
            rw [show g156 145 0 = drA ρ l 24 from hdd]
            refine gw_iconst (gc k_Draws_live_2 6 rfl) ?_
            refine gw_iadd (gc k_Draws_live_2 7 rfl) ?_
            refine gw_iastF (gc k_Draws_live_2 8 rfl) (by first | exact gAt hx rfl rfl | exact (bs hx iD).1 | exact (bs hx iD).2.1 | exact (bs hx iD).2.2.1 | exact (bs hx iD).2.2.2.1) (by omega) hf (by rfl) (fun hf => ?_)
            refine gw_iinc_6 (gc k_Draws_live_2 9 rfl) rfl rfl ?_
            refine gw_goto (tgt := 25) (gc k_Draws_live_2 10 rfl) rfl ?_
            obtain ⟨gn, hgn⟩ : ∃ M, M = gup g156 145 0 (drA ρ l 24 + 1) := ⟨_, rfl⟩
            rw [← hgn]
            have hXn : bdX Λ sh (rDa (drA ρ l)) gn 142 := by
              rw [hgn]
              exact (hXm.jg iD hj).day iD (rDa_ok hdn (by omega)) (fun y hy => if_neg hy) (if_pos rfl).symm
            have hfn : gFin gn := by rw [hgn]; exact hf
            have hGn : ∀ a k, a ≠ 10 → a ≠ 11 → ¬ (a = 8 ∧ 2 ≤ k ∧ k ≤ 3) → a ≠ 145 → a ≠ 143 → a ≠ 144 → gn a k = g4 a k := fun a k z1 z2 z3 z4 z5 z6 => by
              rw [hgn, gup_a _ _ _ _ _ z4, hj a k z1 z2 z3, hFm a k z5 z6]
            have hnew : (0 ≤ (k + 1) ∧ (k + 1) ≤ n) ∧ bdX Λ sh (rDa (drA ρ l)) gn 142 ∧ sLow r (rDa (drA ρ l)) ∧ (gn 141 2 = (dr (dr (dr l))) ∧ 0 ≤ (dr (dr (dr l))) ∧ (dr (dr (dr l))) ≤ 1000002) ∧ (0 ≤ (s + allN (drA ρ l) 2) ∧ (s + allN (drA ρ l) 2) ≤ 12 * (k + 1)) ∧ wkF n.toNat r seed 0 = wkF (n - (k + 1)).toNat (rDa (drA ρ l)) (dr (dr (dr l))) (s + allN (drA ρ l) 2) ∧ dwF g gn ∧ bdT sh gn 142 ∧ gn 141 1 = 1 ∧ gFin gn := by
              refine ⟨⟨by omega, by omega⟩, hXn, hlow.tr (hdl.tr (rDa_low _)), ⟨?_, by omega, by omega⟩, ⟨by omega, by omega⟩, ?_, fun a k z1 z2 z3 z4 z5 => ?_, hT1.keep (fun k => ?_), ?_, hfn⟩
              · rw [hGn _ _ (by decide) (by decide) (by decide) (by decide) (by decide) (by decide)]; exact h42
              · rw [hw, show (n - k).toNat = (n - (k + 1)).toNat + 1 by omega]
                exact if_pos (by omega)
              · rw [hGn a k z1 z2 z3 (by omega) (by omega) (by omega), hg4 a k (by omega)]; exact hF a k z1 z2 z3 z4 z5
              · rw [hGn _ _ (by decide) (by decide) (by omega) (by decide) (by decide) (by decide), hg4 _ _ (by omega)]
              · rw [hGn _ _ (by decide) (by decide) (by decide) (by decide) (by decide) (by decide), hg4 _ _ (by decide)]; exact hk1
            exact ih (k + 1, rDa (drA ρ l), dr (dr (dr l)), s + allN (drA ρ l) 2, (0, dr l % ρ 41), (0, dr (dr l) % 25), (0, dr (dr (dr l)) % 4), gn) hnew (by show (n - (k + 1)).toNat < (n - k).toNat; omega)
        · refine gw_aload_n (gc k_Draws_live_1 9 rfl) rfl rfl ?_
          refine gw_getref (gc k_Draws_live_1 10 rfl) fl_Draws_12 (by first | exact gAt hx rfl rfl | exact (bs hx iD).1 | exact (bs hx iD).2.1 | exact (bs hx iD).2.2.1 | exact (bs hx iD).2.2.2.1) (by first | exact gRf hf rfl rfl | exact (br hf iD).1 | exact (br hf iD).2.1 | exact (br hf iD).2.2.1) ?_
          refine gw_iload (gc k_Draws_live_1 11 rfl) rfl ?_
          refine gw_cV1 (gc k_Draws_live_1 12 rfl) y_Board_has ln_Draws_45 (c_Board_has hx hf iD (dr l % ρ 41) (by omega) (by omega)) rfl rfl (by first | exact gAt hx rfl rfl | exact (bs hx iD).1 | exact (bs hx iD).2.1 | exact (bs hx iD).2.2.1 | exact (bs hx iD).2.2.2.1) rfl rfl ?_
          rw [hn4.1.1, bi_1 (show 0 ≤ dr l % ρ 41 ∧ dr l % ρ 41 < ρ 41 from hnt)]
          refine gw_if_eq (tgt := 124) (gc k_Draws_live_1 13 rfl) rfl (by omega) (fun c106 => ?_) (fun c106 => ?_)
          · exact absurd c106 (by decide)
          · refine gw_aload_n (gc k_Draws_live_1 14 rfl) rfl rfl ?_
            refine gw_getref (gc k_Draws_live_1 15 rfl) fl_Draws_12 (by first | exact gAt hx rfl rfl | exact (bs hx iD).1 | exact (bs hx iD).2.1 | exact (bs hx iD).2.2.1 | exact (bs hx iD).2.2.2.1) (by first | exact gRf hf rfl rfl | exact (br hf iD).1 | exact (br hf iD).2.1 | exact (br hf iD).2.2.1) ?_
            refine gw_getref (gc k_Draws_live_1 16 rfl) fl_Draws_49 (by first | exact gAt hx rfl rfl | exact (bs hx iD).1 | exact (bs hx iD).2.1 | exact (bs hx iD).2.2.1 | exact (bs hx iD).2.2.2.1) (by first | exact gRf hf rfl rfl | exact (br hf iD).1 | exact (br hf iD).2.1 | exact (br hf iD).2.2.1) ?_
            refine gw_iload (gc k_Draws_live_1 17 rfl) rfl ?_
            refine gw_iload (gc k_Draws_live_1 18 rfl) rfl ?_
            refine gw_iastF (gc k_Draws_live_1 19 rfl) (by first | exact gAt hx rfl rfl | exact (bs hx iD).1 | exact (bs hx iD).2.1 | exact (bs hx iD).2.2.1 | exact (bs hx iD).2.2.2.1) (by omega) hf (by rfl) (fun hf => ?_)
            refine gw_goto (tgt := 148) (gc k_Draws_live_1 20 rfl) rfl ?_
            obtain ⟨gm, hgm⟩ : ∃ M, M = gup g4 143 (dr l % ρ 41) (dr (dr l) % 25) := ⟨_, rfl⟩
            show gWP _ _ _ _ _ _ _ _ (gup g4 143 (dr l % ρ 41) (dr (dr l) % 25)) _
            rw [← hgm]
            have hXm : bdX Λ sh (drA ρ l) gm 142 := by
              rw [hgm, show drA ρ l = rSh ρ (dr l % ρ 41) (dr (dr l) % 25) by unfold drA; rw [if_pos (by omega)]]
              exact hX4.und iD (by omega) (by omega)
            have hf : gFin gm := by rw [hgm]; exact hf4.up rfl
            have hFm : ∀ a k, a ≠ 143 → a ≠ 144 → gm a k = g4 a k := fun a k z z2 => by rw [hgm]; rw [gup_a _ _ _ _ _ (by omega)]
            have hdn := drA_ok hX1.1.1 (by omega) l
            have hdl := drA_low hX1.1.1 (by omega) l
            have hd24 := drA_24 hX1.1.1 (by omega) l
            refine gw_iload (gc k_Draws_live_1 32 rfl) rfl ?_
            refine gw_aload_n (gc k_Draws_live_1 33 rfl) rfl rfl ?_
            refine gw_aload_n (gc k_Draws_live_1 34 rfl) rfl rfl ?_
            refine gw_getref (gc k_Draws_live_1 35 rfl) fl_Draws_12 (by first | exact gAt hx rfl rfl | exact (bs hx iD).1 | exact (bs hx iD).2.1 | exact (bs hx iD).2.2.1 | exact (bs hx iD).2.2.2.1) (by first | exact gRf hf rfl rfl | exact (br hf iD).1 | exact (br hf iD).2.1 | exact (br hf iD).2.2.1) ?_
            refine gw_iconst (gc k_Draws_live_1 36 rfl) ?_
            refine gw_xV1 (gc k_Draws_live_1 37 rfl) y_Judge_total ln_Draws_55 (c_Judge_total hx hf iD hXm 2 (by decide)) rfl rfl (by first | exact gAt hx rfl rfl | exact (bs hx iD).1 | exact (bs hx iD).2.1 | exact (bs hx iD).2.2.1 | exact (bs hx iD).2.2.2.1) rfl rfl (fun r156 sh2 g156 hq156 => ?_)
            obtain ⟨rfl, hsh, hj⟩ := hq156
            subst sh2
            have hf := hj.fin hf
            have hab := allN_bd2 hdn
            refine gw_iadd (gc k_Draws_live_1 38 rfl) ?_
            refine gw_istore_5 (gc k_Draws_live_1 39 rfl) rfl rfl ?_
            refine gw_aload_n (gc k_Draws_live_2 0 rfl) rfl rfl ?_
            refine gw_getref (gc k_Draws_live_2 1 rfl) fl_Draws_12 (by first | exact gAt hx rfl rfl | exact (bs hx iD).1 | exact (bs hx iD).2.1 | exact (bs hx iD).2.2.1 | exact (bs hx iD).2.2.2.1) (by first | exact gRf hf rfl rfl | exact (br hf iD).1 | exact (br hf iD).2.1 | exact (br hf iD).2.2.1) ?_
            refine gw_getref (gc k_Draws_live_2 2 rfl) fl_Draws_30 (by first | exact gAt hx rfl rfl | exact (bs hx iD).1 | exact (bs hx iD).2.1 | exact (bs hx iD).2.2.1 | exact (bs hx iD).2.2.2.1) (by first | exact gRf hf rfl rfl | exact (br hf iD).1 | exact (br hf iD).2.1 | exact (br hf iD).2.2.1) ?_
            refine gw_iconst (gc k_Draws_live_2 3 rfl) ?_
            refine gw_dup2 (gc k_Draws_live_2 4 rfl) rfl ?_
            refine gw_iald (gc k_Draws_live_2 5 rfl) (by first | exact gAt hx rfl rfl | exact (bs hx iD).1 | exact (bs hx iD).2.1 | exact (bs hx iD).2.2.1 | exact (bs hx iD).2.2.2.1) (by omega) ?_
            have hdd := (hXm.jg iD hj).2.1.2.2.2.2.2.1.1
            rw [show g156 145 0 = drA ρ l 24 from hdd]
            refine gw_iconst (gc k_Draws_live_2 6 rfl) ?_
            refine gw_iadd (gc k_Draws_live_2 7 rfl) ?_
            refine gw_iastF (gc k_Draws_live_2 8 rfl) (by first | exact gAt hx rfl rfl | exact (bs hx iD).1 | exact (bs hx iD).2.1 | exact (bs hx iD).2.2.1 | exact (bs hx iD).2.2.2.1) (by omega) hf (by rfl) (fun hf => ?_)
            refine gw_iinc_6 (gc k_Draws_live_2 9 rfl) rfl rfl ?_
            refine gw_goto (tgt := 25) (gc k_Draws_live_2 10 rfl) rfl ?_
            obtain ⟨gn, hgn⟩ : ∃ M, M = gup g156 145 0 (drA ρ l 24 + 1) := ⟨_, rfl⟩
            rw [← hgn]
            have hXn : bdX Λ sh (rDa (drA ρ l)) gn 142 := by
              rw [hgn]
              exact (hXm.jg iD hj).day iD (rDa_ok hdn (by omega)) (fun y hy => if_neg hy) (if_pos rfl).symm
            have hfn : gFin gn := by rw [hgn]; exact hf
            have hGn : ∀ a k, a ≠ 10 → a ≠ 11 → ¬ (a = 8 ∧ 2 ≤ k ∧ k ≤ 3) → a ≠ 145 → a ≠ 143 → a ≠ 144 → gn a k = g4 a k := fun a k z1 z2 z3 z4 z5 z6 => by
              rw [hgn, gup_a _ _ _ _ _ z4, hj a k z1 z2 z3, hFm a k z5 z6]
            have hnew : (0 ≤ (k + 1) ∧ (k + 1) ≤ n) ∧ bdX Λ sh (rDa (drA ρ l)) gn 142 ∧ sLow r (rDa (drA ρ l)) ∧ (gn 141 2 = (dr (dr (dr l))) ∧ 0 ≤ (dr (dr (dr l))) ∧ (dr (dr (dr l))) ≤ 1000002) ∧ (0 ≤ (s + allN (drA ρ l) 2) ∧ (s + allN (drA ρ l) 2) ≤ 12 * (k + 1)) ∧ wkF n.toNat r seed 0 = wkF (n - (k + 1)).toNat (rDa (drA ρ l)) (dr (dr (dr l))) (s + allN (drA ρ l) 2) ∧ dwF g gn ∧ bdT sh gn 142 ∧ gn 141 1 = 1 ∧ gFin gn := by
              refine ⟨⟨by omega, by omega⟩, hXn, hlow.tr (hdl.tr (rDa_low _)), ⟨?_, by omega, by omega⟩, ⟨by omega, by omega⟩, ?_, fun a k z1 z2 z3 z4 z5 => ?_, hT1.keep (fun k => ?_), ?_, hfn⟩
              · rw [hGn _ _ (by decide) (by decide) (by decide) (by decide) (by decide) (by decide)]; exact h42
              · rw [hw, show (n - k).toNat = (n - (k + 1)).toNat + 1 by omega]
                exact if_pos (by omega)
              · rw [hGn a k z1 z2 z3 (by omega) (by omega) (by omega), hg4 a k (by omega)]; exact hF a k z1 z2 z3 z4 z5
              · rw [hGn _ _ (by decide) (by decide) (by omega) (by decide) (by decide) (by decide), hg4 _ _ (by omega)]
              · rw [hGn _ _ (by decide) (by decide) (by decide) (by decide) (by decide) (by decide), hg4 _ _ (by decide)]; exact hk1
            exact ih (k + 1, rDa (drA ρ l), dr (dr (dr l)), s + allN (drA ρ l) 2, (0, dr l % ρ 41), (0, dr (dr l) % 25), (0, dr (dr (dr l)) % 4), gn) hnew (by show (n - (k + 1)).toNat < (n - k).toNat; omega)
      · refine gw_aload_n (gc k_Draws_live_1 2 rfl) rfl rfl ?_
        refine gw_getref (gc k_Draws_live_1 3 rfl) fl_Draws_12 (by first | exact gAt hx rfl rfl | exact (bs hx iD).1 | exact (bs hx iD).2.1 | exact (bs hx iD).2.2.1 | exact (bs hx iD).2.2.2.1) (by first | exact gRf hf rfl rfl | exact (br hf iD).1 | exact (br hf iD).2.1 | exact (br hf iD).2.2.1) ?_
        refine gw_cV0 (gc k_Draws_live_1 4 rfl) y_Board_exchangeAll ln_Draws_42 (c_Board_exchangeAll hx hf iD (by omega)) rfl rfl (by first | exact gAt hx rfl rfl | exact (bs hx iD).1 | exact (bs hx iD).2.1 | exact (bs hx iD).2.2.1 | exact (bs hx iD).2.2.2.1) rfl rfl ?_
        refine gw_goto (tgt := 148) (gc k_Draws_live_1 5 rfl) rfl ?_
        obtain ⟨gm, hgm⟩ : ∃ M, M = gfr (gfr g4 (142 + 1) (fun y => if 0 ≤ y ∧ y < g4 142 0 then g4 (142 + 2) y else g4 (142 + 1) y)) (142 + 2) (fun y => if 0 ≤ y ∧ y < g4 142 0 then g4 (142 + 1) y else g4 (142 + 2) y) := ⟨_, rfl⟩
        show gWP _ _ _ _ _ _ _ _ (gfr (gfr g4 (142 + 1) (fun y => if 0 ≤ y ∧ y < g4 142 0 then g4 (142 + 2) y else g4 (142 + 1) y)) (142 + 2) (fun y => if 0 ≤ y ∧ y < g4 142 0 then g4 (142 + 1) y else g4 (142 + 2) y)) _
        rw [← hgm]
        have hXm : bdX Λ sh (drA ρ l) gm 142 := by
          rw [hgm, show drA ρ l = exF ρ (ρ 41) by unfold drA; rw [if_neg (by omega), if_pos (by omega)]]
          exact hX4.exc iD
        have hf : gFin gm := by rw [hgm]; exact (hf4.fr (fun _ => rfl)).fr (fun _ => rfl)
        have hFm : ∀ a k, a ≠ 143 → a ≠ 144 → gm a k = g4 a k := fun a k z z2 => by rw [hgm]; rw [gfr_fn _ _ _ (by omega), gfr_fn _ _ _ (by omega)]
        have hdn := drA_ok hX1.1.1 (by omega) l
        have hdl := drA_low hX1.1.1 (by omega) l
        have hd24 := drA_24 hX1.1.1 (by omega) l
        refine gw_iload (gc k_Draws_live_1 32 rfl) rfl ?_
        refine gw_aload_n (gc k_Draws_live_1 33 rfl) rfl rfl ?_
        refine gw_aload_n (gc k_Draws_live_1 34 rfl) rfl rfl ?_
        refine gw_getref (gc k_Draws_live_1 35 rfl) fl_Draws_12 (by first | exact gAt hx rfl rfl | exact (bs hx iD).1 | exact (bs hx iD).2.1 | exact (bs hx iD).2.2.1 | exact (bs hx iD).2.2.2.1) (by first | exact gRf hf rfl rfl | exact (br hf iD).1 | exact (br hf iD).2.1 | exact (br hf iD).2.2.1) ?_
        refine gw_iconst (gc k_Draws_live_1 36 rfl) ?_
        refine gw_xV1 (gc k_Draws_live_1 37 rfl) y_Judge_total ln_Draws_55 (c_Judge_total hx hf iD hXm 2 (by decide)) rfl rfl (by first | exact gAt hx rfl rfl | exact (bs hx iD).1 | exact (bs hx iD).2.1 | exact (bs hx iD).2.2.1 | exact (bs hx iD).2.2.2.1) rfl rfl (fun r156 sh2 g156 hq156 => ?_)
        obtain ⟨rfl, hsh, hj⟩ := hq156
        subst sh2
        have hf := hj.fin hf
        have hab := allN_bd2 hdn
        refine gw_iadd (gc k_Draws_live_1 38 rfl) ?_
        refine gw_istore_5 (gc k_Draws_live_1 39 rfl) rfl rfl ?_
        refine gw_aload_n (gc k_Draws_live_2 0 rfl) rfl rfl ?_
        refine gw_getref (gc k_Draws_live_2 1 rfl) fl_Draws_12 (by first | exact gAt hx rfl rfl | exact (bs hx iD).1 | exact (bs hx iD).2.1 | exact (bs hx iD).2.2.1 | exact (bs hx iD).2.2.2.1) (by first | exact gRf hf rfl rfl | exact (br hf iD).1 | exact (br hf iD).2.1 | exact (br hf iD).2.2.1) ?_
        refine gw_getref (gc k_Draws_live_2 2 rfl) fl_Draws_30 (by first | exact gAt hx rfl rfl | exact (bs hx iD).1 | exact (bs hx iD).2.1 | exact (bs hx iD).2.2.1 | exact (bs hx iD).2.2.2.1) (by first | exact gRf hf rfl rfl | exact (br hf iD).1 | exact (br hf iD).2.1 | exact (br hf iD).2.2.1) ?_
        refine gw_iconst (gc k_Draws_live_2 3 rfl) ?_
        refine gw_dup2 (gc k_Draws_live_2 4 rfl) rfl ?_
        refine gw_iald (gc k_Draws_live_2 5 rfl) (by first | exact gAt hx rfl rfl | exact (bs hx iD).1 | exact (bs hx iD).2.1 | exact (bs hx iD).2.2.1 | exact (bs hx iD).2.2.2.1) (by omega) ?_
        have hdd := (hXm.jg iD hj).2.1.2.2.2.2.2.1.1
        rw [show g156 145 0 = drA ρ l 24 from hdd]
        refine gw_iconst (gc k_Draws_live_2 6 rfl) ?_
        refine gw_iadd (gc k_Draws_live_2 7 rfl) ?_
        refine gw_iastF (gc k_Draws_live_2 8 rfl) (by first | exact gAt hx rfl rfl | exact (bs hx iD).1 | exact (bs hx iD).2.1 | exact (bs hx iD).2.2.1 | exact (bs hx iD).2.2.2.1) (by omega) hf (by rfl) (fun hf => ?_)
        refine gw_iinc_6 (gc k_Draws_live_2 9 rfl) rfl rfl ?_
        refine gw_goto (tgt := 25) (gc k_Draws_live_2 10 rfl) rfl ?_
        obtain ⟨gn, hgn⟩ : ∃ M, M = gup g156 145 0 (drA ρ l 24 + 1) := ⟨_, rfl⟩
        rw [← hgn]
        have hXn : bdX Λ sh (rDa (drA ρ l)) gn 142 := by
          rw [hgn]
          exact (hXm.jg iD hj).day iD (rDa_ok hdn (by omega)) (fun y hy => if_neg hy) (if_pos rfl).symm
        have hfn : gFin gn := by rw [hgn]; exact hf
        have hGn : ∀ a k, a ≠ 10 → a ≠ 11 → ¬ (a = 8 ∧ 2 ≤ k ∧ k ≤ 3) → a ≠ 145 → a ≠ 143 → a ≠ 144 → gn a k = g4 a k := fun a k z1 z2 z3 z4 z5 z6 => by
          rw [hgn, gup_a _ _ _ _ _ z4, hj a k z1 z2 z3, hFm a k z5 z6]
        have hnew : (0 ≤ (k + 1) ∧ (k + 1) ≤ n) ∧ bdX Λ sh (rDa (drA ρ l)) gn 142 ∧ sLow r (rDa (drA ρ l)) ∧ (gn 141 2 = (dr (dr (dr l))) ∧ 0 ≤ (dr (dr (dr l))) ∧ (dr (dr (dr l))) ≤ 1000002) ∧ (0 ≤ (s + allN (drA ρ l) 2) ∧ (s + allN (drA ρ l) 2) ≤ 12 * (k + 1)) ∧ wkF n.toNat r seed 0 = wkF (n - (k + 1)).toNat (rDa (drA ρ l)) (dr (dr (dr l))) (s + allN (drA ρ l) 2) ∧ dwF g gn ∧ bdT sh gn 142 ∧ gn 141 1 = 1 ∧ gFin gn := by
          refine ⟨⟨by omega, by omega⟩, hXn, hlow.tr (hdl.tr (rDa_low _)), ⟨?_, by omega, by omega⟩, ⟨by omega, by omega⟩, ?_, fun a k z1 z2 z3 z4 z5 => ?_, hT1.keep (fun k => ?_), ?_, hfn⟩
          · rw [hGn _ _ (by decide) (by decide) (by decide) (by decide) (by decide) (by decide)]; exact h42
          · rw [hw, show (n - k).toNat = (n - (k + 1)).toNat + 1 by omega]
            exact if_pos (by omega)
          · rw [hGn a k z1 z2 z3 (by omega) (by omega) (by omega), hg4 a k (by omega)]; exact hF a k z1 z2 z3 z4 z5
          · rw [hGn _ _ (by decide) (by decide) (by omega) (by decide) (by decide) (by decide), hg4 _ _ (by omega)]
          · rw [hGn _ _ (by decide) (by decide) (by decide) (by decide) (by decide) (by decide), hg4 _ _ (by decide)]; exact hk1
        exact ih (k + 1, rDa (drA ρ l), dr (dr (dr l)), s + allN (drA ρ l) 2, (0, dr l % ρ 41), (0, dr (dr l) % 25), (0, dr (dr (dr l)) % 4), gn) hnew (by show (n - (k + 1)).toNat < (n - k).toNat; omega)
