theorem runQ.v {g0 : gM} {r0 : Int → Int} {V : Option XS} {p2 : Int} {x : Option gV} {g2 : gM} (h : runQ g0 r0 V p2 x g2) : ∃ v, x = some (0, v) ∧ (v = 0 ∨ v = 1) ∧ ((v = 0 ∧ V = none ∧ orF g0 g2 ∧ sLow r0 (g2 179)) ∨ (v = 1 ∧ ∃ S' : XS, V = some S' ∧ stI g0 S'.1 S'.2.1 S'.2.2 g2 ∧ g2 177 42 = 2400 + p2 + 1 ∧ osOK r0 S'.1)) := by
  rcases h with ⟨h1, h2, h3⟩ | ⟨S', h1, h2, h3⟩
  · exact ⟨0, h2, Or.inl rfl, Or.inl ⟨rfl, h1, h3⟩⟩
  · exact ⟨1, h2, Or.inr rfl, Or.inr ⟨rfl, S', h1, h3⟩⟩
theorem rLaw_slot {r r2 : Int → Int} (i : Int) (h45 : r2 (45 + i) = r (45 + i)) (hC : ∀ p, 0 ≤ p → p < r (45 + i) → r2 (52 + (400 * i + p)) = r (52 + (400 * i + p)) ∧ r2 (2852 + (400 * i + p)) = r (2852 + (400 * i + p))) : rLaw r2 i = rLaw r i := by
  have eT : rT r2 i = rT r i := by
    funext p
    unfold rT
    rw [h45]
    by_cases z : 0 ≤ p ∧ 400 * i + p < 400 * i + r (45 + i)
    · rw [if_pos z, if_pos z, (hC p z.1 (by omega)).1]
    · rw [if_neg z, if_neg z]
  unfold rLaw
  rw [h45, eT]
  refine pLaw_V (fun p hp => ?_) _
  unfold rT at hp
  by_cases z : 0 ≤ p ∧ 400 * i + p < 400 * i + r (45 + i)
  · exact (hC p z.1 (by omega)).2
  · rw [if_neg z] at hp; cases hp
/-- rows alike but for the orders' place -/
def oRow (r r1 : Int → Int) : Prop := (∀ y, ¬ (y = 51 ∨ (2452 ≤ y ∧ y < 2852) ∨ (5252 ≤ y ∧ y < 5652)) → r1 y = r y) ∧ rowOK r1
theorem oRow.laws {r r1 : Int → Int} (ho : rowOK r) (h : oRow r r1) (hl : lawsOK r) : lawsOK r1 := fun i h0 h1 => by
  have ht := ro_told ho
  rw [h.1 43 (by omega)] at h1
  have hs := ro_size ho (45 + i) (by omega)
  rw [rLaw_slot (r := r) i (h.1 _ (by omega)) (fun p a b => ⟨h.1 _ (by omega), h.1 _ (by omega)⟩)]
  exact hl i h0 h1
theorem layF_ok {r : Int → Int} (ho : rowOK r) {t nt : Int} {C V : Int → Int} (ht : 0 ≤ t ∧ t ≤ 6) (hn : 0 ≤ nt ∧ nt ≤ 400) (hC : ∀ p, 0 ≤ p → p < nt → (0 ≤ C p ∧ C p ≤ 355) ∧ 0 ≤ V p ∧ V p ≤ 20000000) : rowOK (layF r t nt C V nt) := by
  have k : ∀ y, y < 45 → layF r t nt C V nt y = r y := fun y hy => by
    unfold layF
    rw [if_neg (by omega), if_neg (by omega), if_neg (by omega)]
  obtain ⟨h1, h2, h3, h4, h5, h6, h7, h8, h9, h10, h11, h12, h13, h14⟩ := ho
  refine ⟨by rw [k _ (by omega)]; exact h1, fun i a b => by rw [k _ (by omega)]; exact h2 i a b, by rw [k _ (by omega)]; exact h3, by rw [k _ (by omega)]; exact h4, by rw [k _ (by omega)]; exact h5, by rw [k _ (by omega)]; exact h6, by rw [k _ (by omega)]; exact h7, by rw [k _ (by omega)]; exact h8, by rw [k _ (by omega)]; exact h9, by rw [k 44 (by omega), k 43 (by omega)]; exact h10, fun j a b => by rw [k _ (by omega), k _ (by omega)]; exact h11 j a b, fun i a b => ?_, fun i a b => ?_, fun i a b => ?_⟩
  · unfold layF
    by_cases z : i = 45 + t
    · rw [if_pos z]; exact hn
    · rw [if_neg z, if_neg (by omega), if_neg (by omega)]; exact h12 i a b
  · unfold layF
    rw [if_neg (by omega)]
    by_cases z : 52 + 400 * t ≤ i ∧ i < 52 + 400 * t + nt
    · rw [if_pos z]; exact (hC _ (by omega) (by omega)).1
    · rw [if_neg z, if_neg (by omega)]; exact h13 i a b
  · unfold layF
    rw [if_neg (by omega), if_neg (by omega)]
    by_cases z : 2852 + 400 * t ≤ i ∧ i < 2852 + 400 * t + nt
    · rw [if_pos z]; exact (hC _ (by omega) (by omega)).2
    · rw [if_neg z]; exact h14 i a b
theorem tT_bd (g : gM) (len p : Int) : 0 ≤ tT (tB g) len p ∧ tT (tB g) len p ≤ 355 := by
  unfold tT
  split
  · exact tC_bd (tB_bd g) _ _
  · omega
theorem tW_bd (B : Int → Int) (len p : Int) : 0 ≤ tW B len p ∧ tW B len p ≤ 20000000 := by
  unfold tW
  split
  · next z => have := tV_bd B (len := len) z.2; omega
  · omega
theorem tT_neg (B : Int → Int) (len p : Int) (h : p < 0) : tT B len p = 0 := if_neg (by omega)
/-- tokens laid at place t of a row -/
theorem layF_T {r : Int → Int} {t nt : Int} {C V B : Int → Int} {len : Int} (ht : 0 ≤ t ∧ t ≤ 6) (hn : 0 ≤ nt ∧ nt ≤ 400) (hC : ∀ p, 0 ≤ p → p ≤ nt → C p = tT B len p ∧ V p = tW B len p) (h0 : ∀ p, nt ≤ p → tT B len p = 0) : layF r t nt C V nt (45 + t) = nt ∧ rT (layF r t nt C V nt) t = tT B len ∧ vSame (tT B len) (tW B len) (rV (layF r t nt C V nt) t) := by
  have e1 : layF r t nt C V nt (45 + t) = nt := if_pos rfl
  refine ⟨e1, ?_, fun p hp => ?_⟩
  · funext p
    unfold rT
    rw [e1]
    by_cases z : 0 ≤ p ∧ 400 * t + p < 400 * t + nt
    · rw [if_pos z]
      unfold layF
      rw [if_neg (by omega), if_pos (by omega), show 52 + (400 * t + p) - (52 + 400 * t) = p by omega]
      exact (hC p z.1 (by omega)).1
    · rw [if_neg z]
      by_cases z2 : p < 0
      · exact (tT_neg B len p z2).symm
      · exact (h0 p (by omega)).symm
  · have z : 0 ≤ p := Decidable.byContradiction fun q => by rw [tT_neg B len p (by omega)] at hp; omega
    have z2 : p < nt := Decidable.byContradiction fun q => by rw [h0 p (by omega)] at hp; omega
    unfold rV layF
    rw [if_neg (by omega), if_neg (by omega), if_pos (by omega), show 2852 + (400 * t + p) - (2852 + 400 * t) = p by omega]
    exact (hC p z (by omega)).2
theorem layF_ext {r : Int → Int} {t nt i : Int} {C V C2 V2 : Int → Int} (h : ∀ p, 0 ≤ p → p < i → C p = C2 p ∧ V p = V2 p) : layF r t nt C V i = layF r t nt C2 V2 i := funext fun y => by
  unfold layF
  by_cases z0 : y = 45 + t
  · rw [if_pos z0, if_pos z0]
  · rw [if_neg z0, if_neg z0]
    by_cases z1 : 52 + 400 * t ≤ y ∧ y < 52 + 400 * t + i
    · rw [if_pos z1, if_pos z1]; exact (h _ (by omega) (by omega)).1
    · rw [if_neg z1, if_neg z1]
      by_cases z2 : 2852 + 400 * t ≤ y ∧ y < 2852 + 400 * t + i
      · rw [if_pos z2, if_pos z2]; exact (h _ (by omega) (by omega)).2
      · rw [if_neg z2, if_neg z2]
theorem exL_n {c : OC} {R : List OC} {i : Int} {S : XS} (h : exC c.1 c.2.2.1 c.2.2.2.2.1 c.2.2.2.2.2.2.2 c.2.2.2.2.2.1.toNat S = none) : exL (c :: R) i S = .inl i := by
  obtain ⟨kd, c1, s1, c2, s2, tm, ok, t⟩ := c
  unfold exL
  have h' : exC kd s1 s2 t tm.toNat S = none := h
  rw [h']
theorem exL_s {c : OC} {R : List OC} {i : Int} {S S' : XS} (h : exC c.1 c.2.2.1 c.2.2.2.2.1 c.2.2.2.2.2.2.2 c.2.2.2.2.2.1.toNat S = some S') : exL (c :: R) i S = exL R (i + 1) S' := by
  obtain ⟨kd, c1, s1, c2, s2, tm, ok, t⟩ := c
  have h' : exC kd s1 s2 t tm.toNat S = some S' := h
  have e : exL ((kd, c1, s1, c2, s2, tm, ok, t) :: R) i S = (match exC kd s1 s2 t tm.toNat S with
    | none => .inl i
    | some S' => exL R (i + 1) S') := rfl
  rw [e, h']
def orN (g g1 : gM) : Prop := (∀ a k, ¬ (a = 179 ∨ a = 182 ∨ (186 ≤ a ∧ a ≤ 191) ∨ a = 199) → ¬ (a = 177 ∧ ((8 ≤ k ∧ k ≤ 10) ∨ k = 13 ∨ k = 14 ∨ (18 ≤ k ∧ k ≤ 25) ∨ (27 ≤ k ∧ k ≤ 30) ∨ k = 33 ∨ (41 ≤ k ∧ k ≤ 46))) → g1 a k = g a k) ∧ g1 177 13 = 0 ∧ g1 177 14 = -1
def orQ (g : gM) (x : Option gV) (g2 : gM) : Prop := (∃ b g7, ¬ b = -1 ∧ rdE (gup g 177 41 (-1)) pOrd b g7 ∧ x = some (0, -6) ∧ g2 = refM g7 (-6)) ∨ (∃ nt L r1, ((0 ≤ nt ∧ nt ≤ 400) ∧ ntQ (tB g) (g 177 13) nt ∧ ∀ p, nt ≤ p → tT (tB g) (g 177 13) p = 0) ∧ pOrd (tT (tB g) (g 177 13)) (tW (tB g) (g 177 13)) nt = .inr L ∧ (oRow (g 179) r1 ∧ r1 = layF (g 179) 6 nt (tT (tB g) (g 177 13)) (tW (tB g) (g 177 13)) nt) ∧
  ((∃ i g1, exL L 0 ((r1, g 190, g 177 33), 0, -1) = .inl i ∧ x = some (0, -3) ∧ g2 = refM g1 (-3) ∧ orN g g1 ∧ g1 179 = r1 ∧ (∀ y, 0 ≤ y → y < 416 → g1 190 y = g 190 y) ∧ g1 177 33 = g 177 33 ∧ g1 177 41 = i) ∨
   (∃ S g1, exL L 0 ((r1, g 190, g 177 33), 0, -1) = .inr S ∧ x = some (0, S.2.1) ∧ g2 = goodM g1 ∧ orN g g1 ∧ g1 179 = S.1.1 ∧ g1 190 = S.1.2.1 ∧ g1 177 33 = S.1.2.2 ∧ g1 177 41 = -1)))
set_option maxHeartbeats 8000000 in
theorem c_Model_orders {sh : gS} {g : gM} (hx : gFix sh) (hf : gFin g) (ho : rowOK (g 179)) (hl : lawsOK (g 179)) (ht : tapeOK g) (hWo : wordsOK g) (hu : 0 ≤ g 177 33 ∧ g 177 33 ≤ 16) : gTri f_Model_orders 48 0 0 [(2, 177)] sh g (fun x s2 g2 => s2 = sh ∧ orQ g x g2) := by
  refine gTri.of (by decide +kernel) rfl ?_
  show gWP f_Model_orders _ _ _ 0 [(2, 177), (9, 0), (9, 0), (9, 0), (9, 0)] [] sh g _
  refine gw_aload_n (gc k_Model_orders_0 0 rfl) rfl rfl ?_
  refine gw_iconst (gc k_Model_orders_0 1 rfl) ?_
  refine gw_putIK 41 rfl (gc k_Model_orders_0 2 rfl) fl_Model_94 (gAt hx rfl rfl) hf rfl (fun hf => ?_)
  refine gw_aload_n (gc k_Model_orders_0 3 rfl) rfl rfl ?_
  refine gw_iconst (gc k_Model_orders_0 4 rfl) ?_
  refine gw_xV1 (gc k_Model_orders_0 5 rfl) y_Model_readsAs ln_Model_248 (c_readsAsO hx hf (by unfold tapeOK; rw [gup_k _ _ _ _ (by decide), gup_fn _ _ _ _ (by decide)]; exact ht) (by unfold wordsOK; rw [gup_fn _ _ _ _ (by decide)]; exact hWo)) rfl rfl (gAt hx rfl rfl) rfl rfl (fun r7 sh2 g7 hq7 => ?_)
  obtain ⟨rfl, b, hb, rfl, hE⟩ := hq7
  have hf := hE.1.fin hf
  refine gw_bne (tgt := 20) (gc k_Model_orders_0 6 rfl) rfl (fun c10 => ?_) (fun c10 => ?_)
  · obtain ⟨hRd, h13, h14, nt, hnt, h18, hTV, ⟨hNQ, hT0⟩, hX⟩ := hE
    have eB : tB (gup g 177 41 (-1)) = tB g := tB_eq (gup_fn _ _ _ _ (by decide))
    have e13 : gup g 177 41 (-1) 177 13 = g 177 13 := gup_k _ _ _ _ (by decide)
    rw [eB, e13] at hTV hNQ hT0 hX
    have h7 : ∀ a k, a ≠ 186 → a ≠ 187 → a ≠ 188 → ¬ (a = 177 ∧ ((8 ≤ k ∧ k ≤ 10) ∨ k = 13 ∨ k = 14 ∨ (18 ≤ k ∧ k ≤ 21))) → ¬ (a = 177 ∧ k = 41) → g7 a k = g a k := fun a k q1 q2 q3 q4 q5 => (hRd a k q1 q2 q3 q4).trans (by
      by_cases z : a = 177
      · subst z; exact gup_k _ _ _ _ (fun z2 => q5 ⟨rfl, z2⟩)
      · exact gup_a _ _ _ _ _ z)
    have h741 : g7 177 41 = -1 := (hRd _ _ (by decide) (by decide) (by decide) (by omega)).trans (gup_s _ _ _ _)
    obtain ⟨L, hL⟩ : ∃ L, pOrd (tT (tB g) (g 177 13)) (tW (tB g) (g 177 13)) nt = .inr L := by
      rcases hX with ⟨e, q1, q2, q3, q4⟩ | ⟨L, q1, -⟩
      · have := tP_bd (tB g) ht.1.1 e.toNat
        have q5 : tPi (tB g) (g 177 13) e = tP (tB g) (g 177 13) e.toNat := rfl
        omega
      · exact ⟨L, q1⟩
    rw [c10] at h14
    refine gw_aload_n (gc k_Model_orders_0 11 rfl) rfl rfl ?_
    refine gw_iconst (gc k_Model_orders_0 12 rfl) ?_
    refine gw_cV0 (gc k_Model_orders_0 13 rfl) y_Model_laysAside ln_Model_443 (c_Model_laysAside hx hf 1 (by omega)) rfl rfl (gAt hx rfl rfl) rfl rfl ?_
    obtain ⟨M1, hM1⟩ : ∃ M, M = (gfr g7 182 (cpF (g7 182) (g7 179) (25 * 1) 0 25)) := ⟨_, rfl⟩
    rw [← hM1]
    have hf1 : gFin M1 := by rw [hM1]; exact hf.fr (fun _ => rfl)
    have hf := hf1
    refine gw_iconst (gc k_Model_orders_0 14 rfl) ?_
    refine gw_istore_1 (gc k_Model_orders_0 15 rfl) rfl rfl ?_
    refine cp_start 191 (0) (0) (M1 190) ?_
    refine gloop (σ := Int) (I := fun i => 0 ≤ i ∧ i ≤ 416) (μ := fun i => (416 - i).toNat) (P := fun i => gWP f_Model_orders _ _ _ 27 [(2, 177), (0, i), (9, 0), (9, 0), (9, 0)] [] _ (gfr M1 191 (cpF (M1 191) (M1 190) (0) (0) i)) _) (fun i hI ih => ?_) 0 (by omega)
    have hf := hf.fr (a := 191) (f := cpF (M1 191) (M1 190) (0) (0) i) (fun _ => rfl)
    refine gw_iload_n (gc k_Model_orders_0 16 rfl) rfl ?_
    refine gw_sipush (gc k_Model_orders_0 17 rfl) (by decide) ?_
    refine gw_icmp_ge (tgt := 52) (gc k_Model_orders_0 18 rfl) rfl (by omega) (fun c31 => ?_) (fun c31 => ?_)
    · obtain rfl : i = 416 := by omega
      obtain ⟨M2, hM2⟩ : ∃ M, M = gfr M1 191 (cpF (M1 191) (M1 190) 0 0 416) := ⟨_, rfl⟩
      rw [← hM2]
      have hf2 : gFin M2 := by rw [hM2]; exact hf1.fr (fun _ => rfl)
      have hf := hf2
      have k2 : ∀ a k, a ≠ 182 → a ≠ 191 → M2 a k = g7 a k := fun a k h1 h2 => by rw [hM2, gfr_a _ _ _ _ h2, hM1, gfr_a _ _ _ _ h1]
      refine gw_aload_n (gc k_Model_orders_0 29 rfl) rfl rfl ?_
      refine gw_getf 33 rfl (gc k_Model_orders_0 30 rfl) fl_Model_11 (gAt hx rfl rfl) ?_
      rw [k2 _ _ (by decide) (by decide), h7 _ _ (by decide) (by decide) (by decide) (by omega) (by omega)]
      refine gw_istore_1 (gc k_Model_orders_0 31 rfl) rfl rfl ?_
      refine gw_aload_n (gc k_Model_orders_0 32 rfl) rfl rfl ?_
      refine gw_bipush (gc k_Model_orders_0 33 rfl) (by decide) ?_
      refine gw_cV0 (gc k_Model_orders_0 34 rfl) y_Model_lays ln_Model_252 (c_Model_lays hx hf 6 (by omega) (by rw [k2 _ _ (by decide) (by decide), h18]; exact hnt)) rfl rfl (gAt hx rfl rfl) rfl rfl ?_
      have hf : gFin (layM M2 6) := hf2.fr (fun _ => rfl)
      refine gw_aload_n (gc k_Model_orders_0 35 rfl) rfl rfl ?_
      refine gw_iconst (gc k_Model_orders_0 36 rfl) ?_
      refine gw_putIK 27 rfl (gc k_Model_orders_0 37 rfl) fl_Model_297 (gAt hx rfl rfl) hf rfl (fun hf => ?_)
      refine gw_aload_n (gc k_Model_orders_0 38 rfl) rfl rfl ?_
      refine gw_iconst (gc k_Model_orders_0 39 rfl) ?_
      refine gw_putIK 28 rfl (gc k_Model_orders_1 0 rfl) fl_Model_300 (gAt hx rfl rfl) hf rfl (fun hf => ?_)
      refine gw_aload_n (gc k_Model_orders_1 1 rfl) rfl rfl ?_
      refine gw_sipush (gc k_Model_orders_1 2 rfl) (by decide) ?_
      refine gw_putIK 42 rfl (gc k_Model_orders_1 3 rfl) fl_Model_446 (gAt hx rfl rfl) hf rfl (fun hf => ?_)
      have hCV : ∀ p, 0 ≤ p → p ≤ nt → M2 186 p = tT (tB g) (g 177 13) p ∧ M2 187 p = tW (tB g) (g 177 13) p := fun p a b => by
        rw [k2 _ _ (by decide) (by decide), k2 _ _ (by decide) (by decide)]
        exact hTV p a b
      have e18 : M2 177 18 = nt := (k2 _ _ (by decide) (by decide)).trans h18
      have e179 : M2 179 = g 179 := funext fun k => (k2 179 k (by decide) (by decide)).trans (h7 179 k (by decide) (by decide) (by decide) (by omega) (by omega))
      obtain ⟨r1, hr1⟩ : ∃ r, r = layF (g 179) 6 nt (M2 186) (M2 187) nt := ⟨_, rfl⟩
      have eM3 : layM M2 6 = gfr M2 179 r1 := by unfold layM; rw [e18, e179, hr1]
      obtain ⟨M5, hM5⟩ : ∃ M, M = gup (gup (gup (layM M2 6) 177 27 0) 177 28 (-1)) 177 42 2400 := ⟨_, rfl⟩
      rw [← hM5]
      have hf5 : gFin M5 := by rw [hM5]; exact hf
      have hf := hf5
      rw [eM3] at hM5
      have hlt := layF_T (r := g 179) (t := 6) (by omega) hnt hCV hT0
      have hr1e : r1 = layF (g 179) 6 nt (tT (tB g) (g 177 13)) (tW (tB g) (g 177 13)) nt := hr1.trans (layF_ext (fun p a b => hCV p a (by omega)))
      have hor : rowOK r1 := by rw [hr1]; exact layF_ok ho (by omega) hnt (fun p a b => by rw [(hCV p a (by omega)).1, (hCV p a (by omega)).2]; exact ⟨tT_bd g _ _, tW_bd _ _ _⟩)
      have hoR : oRow (g 179) r1 := ⟨fun y hy => by rw [hr1]; unfold layF; rw [if_neg (by omega), if_neg (by omega), if_neg (by omega)], hor⟩
      have hlr := hoR.laws ho hl
      rw [← hr1] at hlt
      have h51 : r1 51 = nt := hlt.1
      have hoc : ordC (rT r1 6) (rV r1 6) = ordC (tT (tB g) (g 177 13)) (tW (tB g) (g 177 13)) := by rw [hlt.2.1]; exact ordC_V hlt.2.2
      have hk6 : pOK (rT r1 6) nt := by rw [← h51]; exact rT_ok r1 (by rw [h51]; exact hnt)
      have hP0 := orP_0 (T := rT r1 6) (V := rV r1 6) (L := L) hk6 (by rw [hoc, hlt.2.1]; exact hL)
      have h5179 : M5 179 = r1 := by rw [hM5, gup_fn _ _ _ _ (by decide), gup_fn _ _ _ _ (by decide), gup_fn _ _ _ _ (by decide), gfr_fs]
      have k5 : ∀ a k, a ≠ 179 → a ≠ 182 → a ≠ 191 → ¬ (a = 177 ∧ (k = 27 ∨ k = 28 ∨ k = 42)) → M5 a k = g7 a k := fun a k h1 h2 h3 h4 => by
        rw [hM5]
        by_cases z : a = 177
        · subst z; rw [gup_k _ _ _ _ (by omega), gup_k _ _ _ _ (by omega), gup_k _ _ _ _ (by omega), gfr_a _ _ _ _ h1]; exact k2 _ _ h2 h3
        · rw [gup_a _ _ _ _ _ z, gup_a _ _ _ _ _ z, gup_a _ _ _ _ _ z, gfr_a _ _ _ _ h1]; exact k2 _ _ h2 h3
      have h5190 : M5 190 = g 190 := funext fun k => (k5 190 k (by decide) (by decide) (by decide) (by omega)).trans (h7 190 k (by decide) (by decide) (by decide) (by omega) (by omega))
      have h533 : M5 177 33 = g 177 33 := (k5 _ _ (by decide) (by decide) (by decide) (by omega)).trans (h7 _ _ (by decide) (by decide) (by decide) (by omega) (by omega))
      have h527 : M5 177 27 = 0 := by rw [hM5, gup_k _ _ _ _ (by decide), gup_k _ _ _ _ (by decide), gup_s]
      have h528 : M5 177 28 = -1 := by rw [hM5, gup_k _ _ _ _ (by decide), gup_s]
      have h542 : M5 177 42 = 2400 + 0 := by rw [hM5, gup_s]; rfl
      have h5182 : ∀ y, 0 ≤ y → y < 25 → M5 182 (25 + y) = g 179 y := fun y a b => by
        rw [hM5, gup_fn _ _ _ _ (by decide), gup_fn _ _ _ _ (by decide), gup_fn _ _ _ _ (by decide), gfr_fn _ _ _ (by decide), hM2, gfr_fn _ _ _ (by decide), hM1, gfr_s, cpF_in _ _ (by omega)]
        rw [show g7 179 = g 179 from funext fun k => h7 179 k (by decide) (by decide) (by decide) (by omega) (by omega)]
        exact congrArg _ (by omega)
      have h5191 : ∀ y, 0 ≤ y → y < 416 → M5 191 y = g 190 y := fun y a b => by
        rw [hM5, gup_fn _ _ _ _ (by decide), gup_fn _ _ _ _ (by decide), gup_fn _ _ _ _ (by decide), gfr_fn _ _ _ (by decide), hM2, gfr_s, cpF_in _ _ (by omega), hM1, gfr_fn _ _ _ (by decide)]
        rw [show g7 190 = g 190 from funext fun k => h7 190 k (by decide) (by decide) (by decide) (by omega) (by omega)]
        exact congrArg _ (by omega)
      have h541 : M5 177 41 = -1 := (k5 _ _ (by decide) (by decide) (by decide) (by omega)).trans h741
      have h513 : M5 177 13 = 0 := (k5 _ _ (by decide) (by decide) (by decide) (by omega)).trans h13
      have h514 : M5 177 14 = -1 := (k5 _ _ (by decide) (by decide) (by decide) (by omega)).trans h14
      have n5 : ∀ a k, ¬ (a = 179 ∨ a = 182 ∨ (186 ≤ a ∧ a ≤ 191) ∨ a = 199) → ¬ (a = 177 ∧ ((8 ≤ k ∧ k ≤ 10) ∨ k = 13 ∨ k = 14 ∨ (18 ≤ k ∧ k ≤ 25) ∨ (27 ≤ k ∧ k ≤ 30) ∨ k = 33 ∨ (41 ≤ k ∧ k ≤ 46))) → M5 a k = g a k := fun a k h1 h2 => (k5 a k (by omega) (by omega) (by omega) (by omega)).trans (h7 a k (by omega) (by omega) (by omega) (by omega) (by omega))
      refine gw_aload_n (gc k_Model_orders_1 4 rfl) rfl rfl ?_
      refine gw_getf 42 rfl (gc k_Model_orders_1 5 rfl) fl_Model_446 (gAt hx rfl rfl) ?_
      rw [h542, Int.add_zero]
      refine gw_aload_n (gc k_Model_orders_1 6 rfl) rfl rfl ?_
      refine gw_getref (gc k_Model_orders_1 7 rfl) fl_Model_28 (gAt hx rfl rfl) (gRf hf rfl rfl) ?_
      refine gw_bipush (gc k_Model_orders_1 8 rfl) (by decide) ?_
      refine gw_iald (gc k_Model_orders_1 9 rfl) (gAt hx rfl rfl) (by omega) ?_
      rw [h5179, h51]
      refine gw_iadd (gc k_Model_orders_1 10 rfl) ?_
      refine gw_istore_2 (gc k_Model_orders_1 11 rfl) rfl rfl ?_
      refine gw_iconst (gc k_Model_orders_1 12 rfl) ?_
      refine gw_istore_3 (gc k_Model_orders_1 13 rfl) rfl rfl ?_
      refine gwloop (σ := (List OC) × (List OC) × XS × Int × gV × gM) (fun zs => orP (rT r1 6) nt (ordC (rT r1 6) (rV r1 6)) L (zs.1) (zs.2.1) (zs.2.2.2.1) ∧ stI M5 (zs.2.2.1).1 (zs.2.2.1).2.1 (zs.2.2.1).2.2 (zs.2.2.2.2.2) ∧ osOK r1 (zs.2.2.1).1 ∧ xsB (zs.2.2.1) (20 * (zs.1).length) ∧ (zs.2.2.2.2.2) 177 42 = 2400 + (zs.2.2.2.1) ∧ exL (zs.2.1) (zs.1).length (zs.2.2.1) = exL L 0 ((r1, g 190, g 177 33), 0, -1)) (fun zs => (zs.2.1).length) (fun zs => [(2, 177), (0, g 177 33), (0, 2400 + nt), (0, ((zs.1).length : Int)), (zs.2.2.2.2.1)]) (fun zs => (zs.2.2.2.2.2)) ([], L, ((r1, g 190, g 177 33), 0, -1), 0, (9, 0), M5) (show orP (rT r1 6) nt (ordC (rT r1 6) (rV r1 6)) L ([]) L (0 : Int) ∧ stI M5 (((r1, g 190, g 177 33), 0, -1)).1 (((r1, g 190, g 177 33), 0, -1)).2.1 (((r1, g 190, g 177 33), 0, -1)).2.2 M5 ∧ osOK r1 (((r1, g 190, g 177 33), 0, -1)).1 ∧ xsB (((r1, g 190, g 177 33), 0, -1)) (20 * ([]).length) ∧ M5 177 42 = 2400 + (0 : Int) ∧ exL L ([]).length (((r1, g 190, g 177 33), 0, -1)) = exL L 0 ((r1, g 190, g 177 33), 0, -1) from ⟨hP0.1, ⟨orF.rf M5, h5179, h5190, h533, h527, h528⟩, ⟨hor, fun _ _ => rfl, hu⟩, ⟨⟨Int.le_refl 0, by show (0 : Int) ≤ 20 * ((0 : Nat) : Int); omega⟩, by show (-1 : Int) ≤ -1; omega, by show (-1 : Int) ≤ 12; omega⟩, h542, rfl⟩) rfl rfl (fun zs hI ih => ?_)
      obtain ⟨A, R, S, pos, x4, g1⟩ := zs
      replace hI : orP (rT r1 6) nt (ordC (rT r1 6) (rV r1 6)) L A R pos ∧ stI M5 S.1 S.2.1 S.2.2 g1 ∧ osOK r1 S.1 ∧ xsB S (20 * A.length) ∧ g1 177 42 = 2400 + pos ∧ exL R A.length S = exL L 0 ((r1, g 190, g 177 33), 0, -1) := hI
      obtain ⟨hP, hI, hoS, hxS, h42, hV⟩ := hI
      show gWP _ _ _ _ _ [(2, 177), (0, g 177 33), (0, 2400 + nt), (0, (A.length : Int)), x4] [] _ (g1) _
      have hf := hI.1.fin hf5
      have hAl : A.length + R.length = L.length := by rw [hP.1, List.length_append]
      have hL12 := hP0.2
      have hpb : 0 ≤ pos ∧ pos ≤ 401 := by
        rcases hP.2 with ⟨-, q, q2⟩ | ⟨_, _, _, _, _, _, -, q, -⟩ <;> omega
      refine gw_aload_n (gc k_Model_orders_1 14 rfl) rfl rfl ?_
      refine gw_getf 42 rfl (gc k_Model_orders_1 15 rfl) fl_Model_446 (gAt hx rfl rfl) ?_
      rw [h42]
      refine gw_iload_n (gc k_Model_orders_1 16 rfl) rfl ?_
      refine gw_icmp_ge (tgt := 173) (gc k_Model_orders_1 17 rfl) rfl (by omega) (fun c100 => ?_) (fun c100 => ?_)
      · refine gw_aload_n (gc k_Model_orders_2 13 rfl) rfl rfl ?_
        refine gw_aload_n (gc k_Model_orders_2 14 rfl) rfl rfl ?_
        refine gw_getf 27 rfl (gc k_Model_orders_2 15 rfl) fl_Model_297 (gAt hx rfl rfl) ?_
        refine gw_cV1 (gc k_Model_orders_2 16 rfl) y_Model_good ln_Model_14 (c_Model_good hx hf _) rfl rfl (gAt hx rfl rfl) rfl rfl ?_
        refine gw_ireturn (gc k_Model_orders_2 17 rfl) rfl ?_
        have hR0 : R = [] := by
          rcases hP.2 with ⟨q, -⟩ | ⟨n, p2, n2, f, c, R2, q1, q2, -⟩
          · exact q
          · exfalso; omega
        subst hR0
        refine ⟨rfl, Or.inr ⟨nt, L, r1, ⟨hnt, hNQ, hT0⟩, hL, ⟨hoR, hr1e⟩, Or.inr ⟨S, g1, hV.symm, gsi hI.2.2.2.2.1, rfl, ⟨fun a k h1 h2 => (hI.1 a k (by omega) (by omega)).trans (n5 a k h1 h2), (hI.1 _ _ (by omega) (by omega)).trans h513, (hI.1 _ _ (by omega) (by omega)).trans h514⟩, hI.2.1, hI.2.2.1, hI.2.2.2.1, (hI.1 _ _ (by omega) (by omega)).trans h541⟩⟩⟩
      · obtain ⟨n, p2, n2, f, c, R2, rfl, hpp, hcl, hall⟩ : ∃ (n p2 n2 : Int) (f : Nat) (c : OC) (R2 : List OC), R = c :: R2 ∧ (0 ≤ pos ∧ pos < nt) ∧ ordC (rT r1 6) (rV r1 6) pos n = .inr (p2, n2, c) ∧ pAllL (rT r1 6) nt (ordC (rT r1 6) (rV r1 6)) f p2 n2 (A ++ [c]) = .inr L := by
          rcases hP.2 with ⟨-, q, -⟩ | q
          · exfalso; omega
          · exact q
        rw [List.length_cons] at hAl
        obtain ⟨kd, k1, s1, k2', s2, tm, ok, t, hc⟩ : ∃ kd k1 s1 k2' s2 tm ok t, c = (kd, k1, s1, k2', s2, tm, ok, t) := ⟨_, _, _, _, _, _, _, _, rfl⟩
        rw [hc] at hcl
        have hfr := pOr_far hk6 hcl
        refine gw_aload_n (gc k_Model_orders_1 18 rfl) rfl rfl ?_
        refine gw_iload_n (gc k_Model_orders_1 19 rfl) rfl ?_
        refine gw_xV1 (gc k_Model_orders_1 20 rfl) y_Model_runs ln_Model_449 (by have q := c_Model_runs hx hf hf5 hor hlr hI hoS hxS (by omega) (by omega) h42 hcl; rw [h51] at q; exact q) rfl rfl (gAt hx rfl rfl) rfl rfl (fun r105 sh2 g105 hq105 => ?_)
        obtain ⟨rfl, hq⟩ := hq105
        obtain ⟨v, rfl, hv01, hvv⟩ := hq.v
        refine gw_if_eq (tgt := 114) (gc k_Model_orders_1 21 rfl) rfl (by omega) (fun c108 => ?_) (fun c108 => ?_)
        · obtain ⟨hvn, hoF, hsl⟩ : exC kd s1 s2 t tm.toNat S = none ∧ orF M5 g105 ∧ sLow r1 (g105 179) := by
            rcases hvv with ⟨-, q⟩ | ⟨q, -⟩
            · exact q
            · omega
          have hf := hoF.fin hf5
          refine gw_aload_n (gc k_Model_orders_1 23 rfl) rfl rfl ?_
          refine gw_iconst (gc k_Model_orders_1 24 rfl) ?_
          refine gw_cV0 (gc k_Model_orders_1 25 rfl) y_Model_takesBack ln_Model_452 (c_Model_takesBack hx hf 1 (by omega)) rfl rfl (gAt hx rfl rfl) rfl rfl ?_
          obtain ⟨M6, hM6⟩ : ∃ M, M = gfr g105 179 (cpF (g105 179) (g105 182) 0 (25 * 1) 25) := ⟨_, rfl⟩
          rw [← hM6]
          have hf6 : gFin M6 := by rw [hM6]; exact hf.fr (fun _ => rfl)
          have hf := hf6
          refine gw_iconst (gc k_Model_orders_1 26 rfl) ?_
          refine gw_istore_4 (gc k_Model_orders_1 27 rfl) rfl rfl ?_
          refine cp_start 190 (0) (0) (M6 191) ?_
          refine gloop (σ := Int) (I := fun i => 0 ≤ i ∧ i ≤ 416) (μ := fun i => (416 - i).toNat) (P := fun i => gWP f_Model_orders _ _ _ 122 [(2, 177), (0, g 177 33), (0, 2400 + nt), (0, (A.length : Int)), (0, i)] [] _ (gfr M6 190 (cpF (M6 190) (M6 191) (0) (0) i)) _) (fun i hI ih => ?_) 0 (by omega)
          have hf := hf.fr (a := 190) (f := cpF (M6 190) (M6 191) (0) (0) i) (fun _ => rfl)
          refine gw_iload (gc k_Model_orders_1 28 rfl) rfl ?_
          refine gw_sipush (gc k_Model_orders_1 29 rfl) (by decide) ?_
          refine gw_icmp_ge (tgt := 150) (gc k_Model_orders_1 30 rfl) rfl (by omega) (fun c127 => ?_) (fun c127 => ?_)
          · refine gw_aload_n (gc k_Model_orders_2 1 rfl) rfl rfl ?_
            refine gw_iload_n (gc k_Model_orders_2 2 rfl) rfl ?_
            refine gw_putIK 33 rfl (gc k_Model_orders_2 3 rfl) fl_Model_11 (gAt hx rfl rfl) hf rfl (fun hf => ?_)
            refine gw_aload_n (gc k_Model_orders_2 4 rfl) rfl rfl ?_
            refine gw_iload_n (gc k_Model_orders_2 5 rfl) rfl ?_
            refine gw_putIK 41 rfl (gc k_Model_orders_2 6 rfl) fl_Model_94 (gAt hx rfl rfl) hf rfl (fun hf => ?_)
            refine gw_aload_n (gc k_Model_orders_2 7 rfl) rfl rfl ?_
            refine gw_bipush (gc k_Model_orders_2 8 rfl) (by decide) ?_
            refine gw_cV1 (gc k_Model_orders_2 9 rfl) y_Model_refuses ln_Model_106 (c_refuses hx hf (-3) (by omega)) rfl rfl (gAt hx rfl rfl) rfl rfl ?_
            refine gw_ireturn (gc k_Model_orders_2 10 rfl) rfl ?_
            obtain rfl : i = 416 := by omega
            have k8 : ∀ a k, ¬ (a = 177 ∧ (k = 33 ∨ k = 41)) → a ≠ 190 → a ≠ 179 → gup (gup (gfr M6 190 (cpF (M6 190) (M6 191) 0 0 416)) 177 33 (g 177 33)) 177 41 (A.length : Int) a k = g105 a k := fun a k h1 h2 h3 => by
              by_cases z : a = 177
              · subst z; rw [gup_k _ _ _ _ (by omega), gup_k _ _ _ _ (by omega), gfr_a _ _ _ _ (by decide), hM6, gfr_a _ _ _ _ (by decide)]
              · rw [gup_a _ _ _ _ _ z, gup_a _ _ _ _ _ z, gfr_a _ _ _ _ h2, hM6, gfr_a _ _ _ _ h3]
            refine ⟨rfl, Or.inr ⟨nt, L, r1, ⟨hnt, hNQ, hT0⟩, hL, ⟨hoR, hr1e⟩, Or.inl ⟨A.length, _, ?_, rfl, rfl, ⟨fun a k h1 h2 => ?_, ?_, ?_⟩, ?_, fun y a b => ?_, ?_, gup_s _ _ _ _⟩⟩⟩
            · rw [← hV, hc]; exact exL_n hvn
            · exact (k8 a k (by omega) (by omega) (by omega)).trans ((hoF a k (by omega) (by omega)).trans (n5 a k h1 h2))
            · exact (k8 _ _ (by omega) (by decide) (by decide)).trans ((hoF _ _ (by omega) (by omega)).trans h513)
            · exact (k8 _ _ (by omega) (by decide) (by decide)).trans ((hoF _ _ (by omega) (by omega)).trans h514)
            · rw [gup_fn _ _ _ _ (by decide), gup_fn _ _ _ _ (by decide), gfr_fn _ _ _ (by decide), hM6, gfr_fs]
              funext y
              by_cases z : 0 ≤ y ∧ y < 25
              · rw [cpF_in _ _ (by omega), hoF 182 _ (by omega) (by omega), show (25 * 1 + (y - 0) : Int) = 25 + y by omega, h5182 y z.1 z.2]
                exact (hoR.1 y (by omega)).symm
              · rw [cpF_out _ _ (by omega)]
                exact hsl y (by omega)
            · rw [gup_fn _ _ _ _ (by decide), gup_fn _ _ _ _ (by decide), gfr_s, cpF_in _ _ (by omega), hM6, gfr_a _ _ _ _ (by decide), hoF 191 _ (by omega) (by omega), show (0 + (y - 0) : Int) = y by omega]
              exact h5191 y a b
            · rw [gup_k _ _ _ _ (by decide), gup_s]
          · refine gw_aload_n (gc k_Model_orders_1 31 rfl) rfl rfl ?_
            refine gw_getref (gc k_Model_orders_1 32 rfl) fl_Model_66 (gAt hx rfl rfl) (gRf hf rfl rfl) ?_
            refine gw_iload (gc k_Model_orders_1 33 rfl) rfl ?_
            refine gw_aload_n (gc k_Model_orders_1 34 rfl) rfl rfl ?_
            refine gw_getref (gc k_Model_orders_1 35 rfl) fl_Model_69 (gAt hx rfl rfl) (gRf hf rfl rfl) ?_
            refine gw_iload (gc k_Model_orders_1 36 rfl) rfl ?_
            refine gw_iald (gc k_Model_orders_1 37 rfl) (gAt hx rfl rfl) (by omega) ?_
            refine gw_iastF (gc k_Model_orders_1 38 rfl) (gAt hx rfl rfl) (by omega) hf rfl (fun hf => ?_)
            refine gw_iinc_4 (gc k_Model_orders_1 39 rfl) rfl rfl ?_
            refine gw_goto (tgt := 122) (gc k_Model_orders_2 0 rfl) rfl ?_
            refine cp_step0 (by omega) (ih (i + 1) (by omega) (by omega)) ?_
            first | rfl | exact (gfr_a _ _ _ _ (by decide)).trans (congrArg _ (by omega)) | exact congrArg _ (by omega)
        · refine gw_goto (tgt := 167) (gc k_Model_orders_1 22 rfl) rfl ?_
          obtain ⟨S', hVs, hI', h42', hoS'⟩ : ∃ S' : XS, exC c.1 c.2.2.1 c.2.2.2.2.1 c.2.2.2.2.2.2.2 c.2.2.2.2.2.1.toNat S = some S' ∧ stI M5 S'.1 S'.2.1 S'.2.2 g105 ∧ g105 177 42 = 2400 + p2 + 1 ∧ osOK r1 S'.1 := by
            rcases hvv with ⟨q, -⟩ | ⟨-, q⟩
            · omega
            · rw [hc]; exact q
          have hbd := exC_bd (r0 := r1) hfr.2.1 tm.toNat S S' (20 * A.length) hoS hxS (by rw [hc] at hVs; exact hVs)
          refine gw_iinc_3 (gc k_Model_orders_2 11 rfl) rfl rfl ?_
          refine gw_goto (tgt := 95) (gc k_Model_orders_2 12 rfl) rfl ?_
          refine gWP.eqs ?_ rfl (ih (A ++ [c], R2, S', p2 + 1, x4, g105) (show orP (rT r1 6) nt (ordC (rT r1 6) (rV r1 6)) L (A ++ [c]) R2 (p2 + 1) ∧ stI M5 (S').1 (S').2.1 (S').2.2 g105 ∧ osOK r1 (S').1 ∧ xsB (S') (20 * (A ++ [c]).length) ∧ g105 177 42 = 2400 + (p2 + 1) ∧ exL R2 (A ++ [c]).length (S') = exL L 0 ((r1, g 190, g 177 33), 0, -1) from ⟨orP_s (by omega) hk6 hP.1 (by omega) (by rw [List.length_append, List.length_singleton]; omega) hall, hI', hoS', by have q := hbd.1; unfold xsB at q ⊢; rw [List.length_append, List.length_singleton]; omega, by rw [h42']; omega, by rw [← hV, exL_s hVs, List.length_append, List.length_singleton]; rfl⟩) (show R2.length < (c :: R2).length from by rw [List.length_cons]; omega))
          show [(2, 177), (0, g 177 33), (0, 2400 + nt), (0, ((A ++ [c]).length : Int)), x4] = _
          rw [List.length_append, List.length_singleton] <;> rfl
    · refine gw_aload_n (gc k_Model_orders_0 19 rfl) rfl rfl ?_
      refine gw_getref (gc k_Model_orders_0 20 rfl) fl_Model_69 (gAt hx rfl rfl) (gRf hf rfl rfl) ?_
      refine gw_iload_n (gc k_Model_orders_0 21 rfl) rfl ?_
      refine gw_aload_n (gc k_Model_orders_0 22 rfl) rfl rfl ?_
      refine gw_getref (gc k_Model_orders_0 23 rfl) fl_Model_66 (gAt hx rfl rfl) (gRf hf rfl rfl) ?_
      refine gw_iload_n (gc k_Model_orders_0 24 rfl) rfl ?_
      refine gw_iald (gc k_Model_orders_0 25 rfl) (gAt hx rfl rfl) (by omega) ?_
      refine gw_iastF (gc k_Model_orders_0 26 rfl) (gAt hx rfl rfl) (by omega) hf rfl (fun hf => ?_)
      refine gw_iinc_1 (gc k_Model_orders_0 27 rfl) rfl rfl ?_
      refine gw_goto (tgt := 27) (gc k_Model_orders_0 28 rfl) rfl ?_
      refine cp_step0 (by omega) (ih (i + 1) (by omega) (by omega)) ?_
      first | rfl | exact (gfr_a _ _ _ _ (by decide)).trans (congrArg _ (by omega)) | exact congrArg _ (by omega)
  · refine gw_aload_n (gc k_Model_orders_0 7 rfl) rfl rfl ?_
    refine gw_bipush (gc k_Model_orders_0 8 rfl) (by decide) ?_
    refine gw_cV1 (gc k_Model_orders_0 9 rfl) y_Model_refuses ln_Model_106 (c_refuses hx hf (-6) (by omega)) rfl rfl (gAt hx rfl rfl) rfl rfl ?_
    refine gw_ireturn (gc k_Model_orders_0 10 rfl) rfl ?_
    exact ⟨rfl, Or.inl ⟨b, g7, c10, hE, rfl, rfl⟩⟩
