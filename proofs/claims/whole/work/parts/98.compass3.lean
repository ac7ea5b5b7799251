/-! ===== narrowest, cheapest ===== -/
theorem sLaw_sh (r : Int → Int) {n : Int} (hn : 0 ≤ n ∧ n < 12) (p : Int) : sLaw r (rSh r n p) := fun y hy => rSh_k _ _ _ (by omega)
theorem cpS.bdN {r : Int → Int} {g M : gM} {o p : Int} (h : cpS g o p 6 M) (hB : bdN r g p) : bdN r M o := by
  have hm := ro_many hB.1
  have e := h.2.1
  refine ⟨hB.1, h.2.2.1.1.trans hB.2.1, fun i a b => ?_, ?_⟩
  · rw [e 1 i (by decide) (by decide) a (by show i < 12; omega), e 2 i (by decide) (by decide) a (by show i < 12; omega)]
    exact hB.2.2.1 i a b
  · rw [e 3 0 (by decide) (by decide) (by decide) (by decide), e 3 1 (by decide) (by decide) (by decide) (by decide), e 3 2 (by decide) (by decide) (by decide) (by decide), e 3 3 (by decide) (by decide) (by decide) (by decide), e 3 4 (by decide) (by decide) (by decide) (by decide)]
    exact hB.2.2.2
theorem iB : isBd 134 := by unfold isBd; omega
theorem ppF.bdN {r : Int → Int} {g g2 : gM} {b : Int} (hb : isBd b) (hne : b ≠ 134) (h : ppF g g2) (hB : bdN r g b) : bdN r g2 b := hB.of (fun a k h1 h2 => by
  unfold isBd at hb
  exact h a k (by omega) (by omega) (by omega) (by omega))
/-- the trial's told note set anew -/
theorem tr_up {r : Int → Int} (ho : rowOK r) {n w u : Int} (hn : 0 ≤ n ∧ n < r 41) (hu : 0 ≤ u ∧ u ≤ 24) {g : gM} (h : bdN (rSh r n w) g 134) : bdN (rSh r n u) (gup g 135 n u) 134 := by
  have hm := ro_many ho
  have k : ∀ y, 24 ≤ y → rSh r n u y = rSh r n w y := fun y hy => (rSh_k _ _ _ (by omega)).trans (rSh_k _ _ _ (by omega)).symm
  refine ⟨rSh_ok ho (by omega) hu, ?_, fun i a b => ?_, ?_⟩
  · rw [gup_a _ _ _ _ _ (by decide), k 41 (by decide)]; exact h.2.1
  · rw [k 41 (by decide)] at b
    have q := h.2.2.1 i a b
    rw [rSh_k _ _ _ (by omega)] at b
    rw [gup_a _ _ _ _ _ (show (134 : Int) + 2 ≠ 135 by decide), rSh_k r n u (y := i) (by omega)]
    rw [rSh_k r n w (y := i) (by omega)] at q
    refine ⟨?_, q.2⟩
    show gup g 135 n u 135 i = _
    by_cases z : i = n
    · subst z; rw [gup_s, rSh_s]
    · rw [gup_k _ _ _ _ z, rSh_k _ _ _ (by omega)]
      have q1 := q.1
      rw [rSh_k _ _ _ (by omega)] at q1
      exact q1
  · rw [gup_a _ _ _ _ _ (show (134 : Int) + 3 ≠ 135 by decide), k 24 (by decide), k 37 (by decide), k 38 (by decide), k 39 (by decide), k 40 (by decide)]
    exact h.2.2.2
theorem rSh_id {r : Int → Int} {n : Int} : rSh r n (r (12 + n)) = r := funext fun y => by
  unfold rSh
  split
  · next z => rw [z]
  · rfl
theorem chF_no {f : Int → Int} : ∀ m : Nat, (∀ p, -1 ≤ f p) → (chF f m).1 = -1 → (chF f m).2 = 100000000
  | 0, _, _ => rfl
  | m + 1, hf, h => by
    by_cases z : f m = -1 ∨ (chF f m).2 ≤ f m
    · rw [chF_0 z] at h ⊢
      exact chF_no m hf h
    · rw [chF_1 z] at h
      have h : (m : Int) = -1 := h
      omega
set_option maxHeartbeats 8000000 in
theorem c_Paper_narrowest {sh : gS} {g : gM} (hx : gFix sh) (hf : gFin g) {Λ : Int → List PC} {r : Int → Int} {b : Int} (hb : isBd b) (hB : bdN r g b) {a : Int} (hL : lwP Λ sh g r a) (hS : ppS Λ sh g) : gTri f_Paper_narrowest 6 0 0 [(2, 31), (2, b), (2, a)] sh g (fun x s2 g2 => x = some (0, comR r 0) ∧ s2 = sh ∧ ppQ Λ sh g g2 ∧ (¬ comR r 0 = -1 → g2 31 0 = comR r 1)) := by
  have hbx := hb
  unfold isBd at hbx
  have hm := ro_many hB.1
  have hlo := ro_low hB.1
  have hhi := ro_high hB.1
  have hT3 := hB.2.2.2.2.2.2.1
  have hT4 := hB.2.2.2.2.2.2.2
  refine gTri.of (by decide +kernel) rfl ?_
  show gWP f_Paper_narrowest _ _ _ 0 [(2, 31), (2, b), (2, a), (9, 0), (9, 0), (9, 0), (9, 0)] [] sh g _
  refine gw_aload_n (gc k_Paper_narrowest_0 0 rfl) rfl rfl ?_
  refine gw_getref (gc k_Paper_narrowest_0 1 rfl) fl_Paper_78 (by first | exact gAt hx rfl rfl | exact (ps5 hx (by omega)).1.1 | exact (ps5 hx (by omega)).1.2.1 | exact (ps5 hx (by omega)).1.2.2 | exact (ps5 hx (by omega)).2.1 | exact (ps5 hx (by omega)).2.2.1 | exact (ps5 hx (by omega)).2.2.2.1 | exact (ps5 hx (by omega)).2.2.2.2 | exact (bs hx hb).1 | exact (bs hx hb).2.1 | exact (bs hx hb).2.2.1 | exact (bs hx hb).2.2.2.1) (by first | exact gRf hf rfl rfl | exact (br hf hb).1 | exact (br hf hb).2.1 | exact (br hf hb).2.2.1 | exact (br hf hb).2.2.2.1 | exact (br hf hb).2.2.2.2.1 | exact (br hf hb).2.2.2.2.2) ?_
  refine gw_iconst (gc k_Paper_narrowest_0 2 rfl) ?_
  refine gw_iald (gc k_Paper_narrowest_0 3 rfl) (by first | exact gAt hx rfl rfl | exact (ps5 hx (by omega)).1.1 | exact (ps5 hx (by omega)).1.2.1 | exact (ps5 hx (by omega)).1.2.2 | exact (ps5 hx (by omega)).2.1 | exact (ps5 hx (by omega)).2.2.1 | exact (ps5 hx (by omega)).2.2.2.1 | exact (ps5 hx (by omega)).2.2.2.2 | exact (bs hx hb).1 | exact (bs hx hb).2.1 | exact (bs hx hb).2.2.1 | exact (bs hx hb).2.2.2.1) (by omega) ?_
  rw [hT4]
  refine gw_istore_3 (gc k_Paper_narrowest_0 4 rfl) rfl rfl ?_
  refine gw_iconst (gc k_Paper_narrowest_0 5 rfl) ?_
  refine gw_istore_4 (gc k_Paper_narrowest_0 6 rfl) rfl rfl ?_
  refine gw_aload_n (gc k_Paper_narrowest_0 7 rfl) rfl rfl ?_
  refine gw_aload_n (gc k_Paper_narrowest_0 8 rfl) rfl rfl ?_
  refine gw_aload_n (gc k_Paper_narrowest_0 9 rfl) rfl rfl ?_
  refine gw_xV1 (gc k_Paper_narrowest_0 10 rfl) y_Paper_markOpen ln_Paper_98 (c_Paper_markOpen hx hf hb hB hL hS) rfl rfl (by first | exact gAt hx rfl rfl | exact (ps5 hx (by omega)).1.1 | exact (ps5 hx (by omega)).1.2.1 | exact (ps5 hx (by omega)).1.2.2 | exact (ps5 hx (by omega)).2.1 | exact (ps5 hx (by omega)).2.2.1 | exact (ps5 hx (by omega)).2.2.2.1 | exact (ps5 hx (by omega)).2.2.2.2 | exact (bs hx hb).1 | exact (bs hx hb).2.1 | exact (bs hx hb).2.2.1 | exact (bs hx hb).2.2.2.1) rfl rfl (fun r13 sh2 g13 hq13 => ?_)
  obtain ⟨rfl, hsh, hJ, hS13, hop⟩ := hq13
  subst sh2
  have hf13 := hJ.fin hf
  have hf := hf13
  have hB13 := hJ.bdN hb hB
  have hL13 : lwP Λ sh g13 r a := ⟨hJ.lw hL.1, hL.2⟩
  refine gw_iconst (gc k_Paper_narrowest_0 11 rfl) ?_
  refine gw_istore_5 (gc k_Paper_narrowest_0 12 rfl) rfl rfl ?_
  refine gw_aload_n (gc k_Paper_narrowest_0 13 rfl) rfl rfl ?_
  refine gw_getref (gc k_Paper_narrowest_0 14 rfl) fl_Paper_78 (by first | exact gAt hx rfl rfl | exact (ps5 hx (by omega)).1.1 | exact (ps5 hx (by omega)).1.2.1 | exact (ps5 hx (by omega)).1.2.2 | exact (ps5 hx (by omega)).2.1 | exact (ps5 hx (by omega)).2.2.1 | exact (ps5 hx (by omega)).2.2.2.1 | exact (ps5 hx (by omega)).2.2.2.2 | exact (bs hx hb).1 | exact (bs hx hb).2.1 | exact (bs hx hb).2.2.1 | exact (bs hx hb).2.2.2.1) (by first | exact gRf hf rfl rfl | exact (br hf hb).1 | exact (br hf hb).2.1 | exact (br hf hb).2.2.1 | exact (br hf hb).2.2.2.1 | exact (br hf hb).2.2.2.2.1 | exact (br hf hb).2.2.2.2.2) ?_
  refine gw_iconst (gc k_Paper_narrowest_0 15 rfl) ?_
  refine gw_iald (gc k_Paper_narrowest_0 16 rfl) (by first | exact gAt hx rfl rfl | exact (ps5 hx (by omega)).1.1 | exact (ps5 hx (by omega)).1.2.1 | exact (ps5 hx (by omega)).1.2.2 | exact (ps5 hx (by omega)).2.1 | exact (ps5 hx (by omega)).2.2.1 | exact (ps5 hx (by omega)).2.2.2.1 | exact (ps5 hx (by omega)).2.2.2.2 | exact (bs hx hb).1 | exact (bs hx hb).2.1 | exact (bs hx hb).2.2.1 | exact (bs hx hb).2.2.2.1) (by omega) ?_
  rw [hB13.2.2.2.2.2.2.1]
  refine gw_istore_6 (gc k_Paper_narrowest_0 17 rfl) rfl rfl ?_
  refine gwloop (σ := Int × Int × Int × gM) (fun zs => (r 39 ≤ (zs.1) ∧ (zs.1) ≤ 25) ∧ (0 ≤ (zs.2.1) ∧ (zs.2.1) ≤ r 40) ∧ (∀ x y, ¬ (x = 31 ∧ y = 0) → (zs.2.2.2) x y = g13 x y) ∧ (∀ h, (zs.1) ≤ h → h < (zs.2.1) → ¬ hV r (zs.1) h) ∧ (-1 ≤ (zs.2.2.1) ∧ (zs.2.2.1) ≤ 24) ∧ nwI r (zs.1) (zs.2.2.1) ((zs.2.2.2) 31 0)) (fun zs => (25 - (zs.1)).toNat) (fun zs => [(2, 31), (2, b), (2, a), (0, r 40), (0, (zs.2.2.1)), (0, (zs.2.1)), (0, (zs.1))]) (fun zs => (zs.2.2.2)) (r 39, 0, -1, g13) (show (r 39 ≤ (r 39) ∧ (r 39) ≤ 25) ∧ (0 ≤ (0 : Int) ∧ (0 : Int) ≤ r 40) ∧ (∀ x y, ¬ (x = 31 ∧ y = 0) → g13 x y = g13 x y) ∧ (∀ h, (r 39) ≤ h → h < (0 : Int) → ¬ hV r (r 39) h) ∧ (-1 ≤ (-1 : Int) ∧ (-1 : Int) ≤ 24) ∧ nwI r (r 39) (-1 : Int) (g13 31 0) from ⟨⟨Int.le_refl _, by omega⟩, ⟨by decide, by omega⟩, fun _ _ _ => rfl, fun h x y => by omega, ⟨by decide, by decide⟩, Or.inl ⟨rfl, rfl⟩⟩) rfl rfl (fun zs hI ih => ?_)
  obtain ⟨low, hg, w, g1⟩ := zs
  replace hI : (r 39 ≤ low ∧ low ≤ 25) ∧ (0 ≤ hg ∧ hg ≤ r 40) ∧ (∀ x y, ¬ (x = 31 ∧ y = 0) → g1 x y = g13 x y) ∧ (∀ h, low ≤ h → h < hg → ¬ hV r low h) ∧ (-1 ≤ w ∧ w ≤ 24) ∧ nwI r low w (g1 31 0) := hI
  obtain ⟨hl, hhg, hF, hno, hwb, hN⟩ := hI
  show gWP _ _ _ _ _ [(2, 31), (2, b), (2, a), (0, r 40), (0, w), (0, hg), (0, low)] [] _ (g1) _
  have hf : gFin g1 := hf13.of (fun x y z => hF _ _ (fun e => z (by obtain ⟨e1, e2⟩ := e; rw [show x = 31 by omega, show y = 0 by omega]; rfl)))
  refine gw_iload (gc k_Paper_narrowest_0 18 rfl) rfl ?_
  refine gw_iload_n (gc k_Paper_narrowest_0 19 rfl) rfl ?_
  refine gw_icmp_gt (tgt := 110) (gc k_Paper_narrowest_0 20 rfl) rfl (by omega) (fun c30 => ?_) (fun c30 => ?_)
  · refine gw_iload (gc k_Paper_narrowest_1 17 rfl) rfl ?_
    refine gw_ireturn (gc k_Paper_narrowest_1 18 rfl) rfl ?_
    have q := hN.fin (fun l v x y z1 z2 z3 => by omega)
    refine ⟨by rw [q.1], rfl, ⟨fun x y n1 n2 n3 n4 => (hF x y (by omega)).trans (hJ.pf x y n1 n2 n3 n4), hf, hS13.keep (fun x y _ _ => hF x y (by omega))⟩, q.2⟩
  · refine gw_iload (gc k_Paper_narrowest_0 21 rfl) rfl ?_
    refine gw_iload (gc k_Paper_narrowest_0 22 rfl) rfl ?_
    refine gw_mmax (gc k_Paper_narrowest_0 23 rfl) y_Math_max ln_Paper_81 (by omega) rfl rfl ?_
    refine gw_istore_5 (gc k_Paper_narrowest_0 24 rfl) rfl rfl ?_
    obtain ⟨mx, hmx⟩ : ∃ v, v = (if hg < low then low else hg) := ⟨_, rfl⟩
    rw [← hmx]
    have hmb : (low ≤ mx ∧ mx ≤ r 40) ∧ (mx = low ∨ mx = hg) := by rw [hmx]; split <;> omega
    refine gwloop (σ := Int) (fun zs => (low ≤ zs ∧ zs ≤ r 40 + 1) ∧ (∀ h, low ≤ h → h < zs → ¬ hV r low h)) (fun zs => (r 40 + 1 - zs).toNat) (fun zs => [(2, 31), (2, b), (2, a), (0, r 40), (0, w), (0, zs), (0, low)]) (fun zs => g1) (mx) (show (low ≤ mx ∧ mx ≤ r 40 + 1) ∧ (∀ h, low ≤ h → h < mx → ¬ hV r low h) from ⟨⟨by omega, by omega⟩, fun h x y => hmb.2.elim (fun e => by omega) (fun e => hno h x (by omega))⟩) rfl rfl (fun zs hI ih2 => ?_)
    obtain ⟨h2, hzz⟩ : ∃ x, x = zs := ⟨_, rfl⟩
    subst hzz
    replace hI : (low ≤ h2 ∧ h2 ≤ r 40 + 1) ∧ (∀ h, low ≤ h → h < h2 → ¬ hV r low h) := hI
    obtain ⟨hh, hno2⟩ := hI
    show gWP _ _ _ _ _ [(2, 31), (2, b), (2, a), (0, r 40), (0, w), (0, h2), (0, low)] [] _ (g1) _
    
    refine gw_iload (gc k_Paper_narrowest_0 25 rfl) rfl ?_
    refine gw_iload_n (gc k_Paper_narrowest_0 26 rfl) rfl ?_
    refine gw_icmp_gt (tgt := 66) (gc k_Paper_narrowest_0 27 rfl) rfl (by omega) (fun c45 => ?_) (fun c45 => ?_)
    · refine gw_iload (gc k_Paper_narrowest_0 36 rfl) rfl ?_
      refine gw_iload_n (gc k_Paper_narrowest_0 37 rfl) rfl ?_
      refine gw_icmp_le (tgt := 75) (gc k_Paper_narrowest_0 38 rfl) rfl (by omega) (fun c69 => ?_) (fun c69 => ?_)
      · exact absurd c69 (by omega)
      · refine gw_goto (tgt := 110) (gc k_Paper_narrowest_0 39 rfl) rfl ?_
        refine gw_iload (gc k_Paper_narrowest_1 17 rfl) rfl ?_
        refine gw_ireturn (gc k_Paper_narrowest_1 18 rfl) rfl ?_
        have q := hN.fin (fun l v x y z1 z2 z3 => hno2 (l + v) (by omega) (by omega) (z3.mono hL hB.1 (by omega) (by omega)))
        refine ⟨by rw [q.1], rfl, ⟨fun x y n1 n2 n3 n4 => (hF x y (by omega)).trans (hJ.pf x y n1 n2 n3 n4), hf, hS13.keep (fun x y _ _ => hF x y (by omega))⟩, q.2⟩
    · have hB1 : bdN r g1 b := hB13.of (fun x y z1 z2 => hF x y (by omega))
      have hL1 : lwP Λ sh g1 r a := hL13.ext (fun x y z => hF x y (by omega))
      have hop1 := hop.eq (by omega) (fun x y z1 z2 => hF x y (by omega) : ∀ x y, 120 ≤ x → x ≤ 131 → g1 x y = g13 x y)
      refine gw_aload_n (gc k_Paper_narrowest_0 28 rfl) rfl rfl ?_
      refine gw_aload_n (gc k_Paper_narrowest_0 29 rfl) rfl rfl ?_
      refine gw_iload (gc k_Paper_narrowest_0 30 rfl) rfl ?_
      refine gw_iload (gc k_Paper_narrowest_0 31 rfl) rfl ?_
      refine gw_cV1 (gc k_Paper_narrowest_0 32 rfl) y_Paper_hasVoice ln_Paper_102 (c_Paper_hasVoice hx hf hb hB1 hL1 hop1 low h2 (by omega) (by omega)) rfl rfl (by first | exact gAt hx rfl rfl | exact (ps5 hx (by omega)).1.1 | exact (ps5 hx (by omega)).1.2.1 | exact (ps5 hx (by omega)).1.2.2 | exact (ps5 hx (by omega)).2.1 | exact (ps5 hx (by omega)).2.2.1 | exact (ps5 hx (by omega)).2.2.2.1 | exact (ps5 hx (by omega)).2.2.2.2 | exact (bs hx hb).1 | exact (bs hx hb).2.1 | exact (bs hx hb).2.2.1 | exact (bs hx hb).2.2.2.1) rfl rfl ?_
      have h01 := hvB_01 r low h2
      refine gw_if_ne (tgt := 66) (gc k_Paper_narrowest_0 33 rfl) rfl (by omega) (fun c57 => ?_) (fun c57 => ?_)
      · refine gw_iload (gc k_Paper_narrowest_0 36 rfl) rfl ?_
        refine gw_iload_n (gc k_Paper_narrowest_0 37 rfl) rfl ?_
        refine gw_icmp_le (tgt := 75) (gc k_Paper_narrowest_0 38 rfl) rfl (by omega) (fun c69 => ?_) (fun c69 => ?_)
        · have hv2 : hV r low h2 := (hvB_V r low h2).mp (by omega)
          refine gw_iload (gc k_Paper_narrowest_1 0 rfl) rfl ?_
          refine gw_iconst (gc k_Paper_narrowest_1 1 rfl) ?_
          refine gw_icmp_eq (tgt := 91) (gc k_Paper_narrowest_1 2 rfl) rfl (by omega) (fun c78 => ?_) (fun c78 => ?_)
          · refine gw_iload (gc k_Paper_narrowest_1 8 rfl) rfl ?_
            refine gw_iload (gc k_Paper_narrowest_1 9 rfl) rfl ?_
            refine gw_isub (gc k_Paper_narrowest_1 10 rfl) ?_
            refine gw_istore_4 (gc k_Paper_narrowest_1 11 rfl) rfl rfl ?_
            refine gw_aload_n (gc k_Paper_narrowest_1 12 rfl) rfl rfl ?_
            refine gw_iload (gc k_Paper_narrowest_1 13 rfl) rfl ?_
            refine gw_putIK 0 rfl (gc k_Paper_narrowest_1 14 rfl) fl_Paper_106 (by first | exact gAt hx rfl rfl | exact (ps5 hx (by omega)).1.1 | exact (ps5 hx (by omega)).1.2.1 | exact (ps5 hx (by omega)).1.2.2 | exact (ps5 hx (by omega)).2.1 | exact (ps5 hx (by omega)).2.2.1 | exact (ps5 hx (by omega)).2.2.2.1 | exact (ps5 hx (by omega)).2.2.2.2 | exact (bs hx hb).1 | exact (bs hx hb).2.1 | exact (bs hx hb).2.2.1 | exact (bs hx hb).2.2.2.1) hf (by first | rfl | exact ppA.nr (Or.inr (by omega)) _ | exact ppA.nr (Or.inl (by unfold ppA; omega)) _) (fun hf => ?_)
            refine gw_iinc_6 (gc k_Paper_narrowest_1 15 rfl) rfl rfl ?_
            refine gw_goto (tgt := 27) (gc k_Paper_narrowest_1 16 rfl) rfl ?_
            have hnew : (r 39 ≤ (low + 1) ∧ (low + 1) ≤ 25) ∧ (0 ≤ h2 ∧ h2 ≤ r 40) ∧ (∀ x y, ¬ (x = 31 ∧ y = 0) → (gup g1 31 0 low) x y = g13 x y) ∧ (∀ h, (low + 1) ≤ h → h < h2 → ¬ hV r (low + 1) h) ∧ (-1 ≤ (h2 - low) ∧ (h2 - low) ≤ 24) ∧ nwI r (low + 1) (h2 - low) ((gup g1 31 0 low) 31 0) := by
              refine ⟨⟨by omega, by omega⟩, ⟨by omega, by omega⟩, fun x y z => ?_, fun h x y z => hno2 h (by omega) y (z.mono hL hB.1 (by omega) (by omega)), ⟨by omega, by omega⟩, ?_⟩
              · by_cases e : x = 31
                · subst e; rw [gup_k _ _ _ _ (fun q => z ⟨rfl, q⟩)]; exact hF _ _ z
                · rw [gup_a _ _ _ _ _ e]; exact hF _ _ z
              · rw [gup_s]; exact hN.new (by omega) hv2 hno2 (by omega)
            exact ih (low + 1, h2, h2 - low, gup g1 31 0 low) hnew (by show (25 - (low + 1)).toNat < (25 - low).toNat; omega)
          · refine gw_iload (gc k_Paper_narrowest_1 3 rfl) rfl ?_
            refine gw_iload (gc k_Paper_narrowest_1 4 rfl) rfl ?_
            refine gw_isub (gc k_Paper_narrowest_1 5 rfl) ?_
            refine gw_iload (gc k_Paper_narrowest_1 6 rfl) rfl ?_
            refine gw_icmp_ge (tgt := 104) (gc k_Paper_narrowest_1 7 rfl) rfl (by omega) (fun c88 => ?_) (fun c88 => ?_)
            · refine gw_iinc_6 (gc k_Paper_narrowest_1 15 rfl) rfl rfl ?_
              refine gw_goto (tgt := 27) (gc k_Paper_narrowest_1 16 rfl) rfl ?_
              have hnew : (r 39 ≤ (low + 1) ∧ (low + 1) ≤ 25) ∧ (0 ≤ h2 ∧ h2 ≤ r 40) ∧ (∀ x y, ¬ (x = 31 ∧ y = 0) → g1 x y = g13 x y) ∧ (∀ h, (low + 1) ≤ h → h < h2 → ¬ hV r (low + 1) h) ∧ (-1 ≤ w ∧ w ≤ 24) ∧ nwI r (low + 1) w (g1 31 0) := ⟨⟨by omega, by omega⟩, ⟨by omega, by omega⟩, hF, fun h x y z => hno2 h (by omega) y (z.mono hL hB.1 (by omega) (by omega)), hwb, hN.old (by omega) hno2 (by omega) (by omega)⟩
              exact ih (low + 1, h2, w, g1) hnew (by show (25 - (low + 1)).toNat < (25 - low).toNat; omega)
            · refine gw_iload (gc k_Paper_narrowest_1 8 rfl) rfl ?_
              refine gw_iload (gc k_Paper_narrowest_1 9 rfl) rfl ?_
              refine gw_isub (gc k_Paper_narrowest_1 10 rfl) ?_
              refine gw_istore_4 (gc k_Paper_narrowest_1 11 rfl) rfl rfl ?_
              refine gw_aload_n (gc k_Paper_narrowest_1 12 rfl) rfl rfl ?_
              refine gw_iload (gc k_Paper_narrowest_1 13 rfl) rfl ?_
              refine gw_putIK 0 rfl (gc k_Paper_narrowest_1 14 rfl) fl_Paper_106 (by first | exact gAt hx rfl rfl | exact (ps5 hx (by omega)).1.1 | exact (ps5 hx (by omega)).1.2.1 | exact (ps5 hx (by omega)).1.2.2 | exact (ps5 hx (by omega)).2.1 | exact (ps5 hx (by omega)).2.2.1 | exact (ps5 hx (by omega)).2.2.2.1 | exact (ps5 hx (by omega)).2.2.2.2 | exact (bs hx hb).1 | exact (bs hx hb).2.1 | exact (bs hx hb).2.2.1 | exact (bs hx hb).2.2.2.1) hf (by first | rfl | exact ppA.nr (Or.inr (by omega)) _ | exact ppA.nr (Or.inl (by unfold ppA; omega)) _) (fun hf => ?_)
              refine gw_iinc_6 (gc k_Paper_narrowest_1 15 rfl) rfl rfl ?_
              refine gw_goto (tgt := 27) (gc k_Paper_narrowest_1 16 rfl) rfl ?_
              have hnew : (r 39 ≤ (low + 1) ∧ (low + 1) ≤ 25) ∧ (0 ≤ h2 ∧ h2 ≤ r 40) ∧ (∀ x y, ¬ (x = 31 ∧ y = 0) → (gup g1 31 0 low) x y = g13 x y) ∧ (∀ h, (low + 1) ≤ h → h < h2 → ¬ hV r (low + 1) h) ∧ (-1 ≤ (h2 - low) ∧ (h2 - low) ≤ 24) ∧ nwI r (low + 1) (h2 - low) ((gup g1 31 0 low) 31 0) := by
                refine ⟨⟨by omega, by omega⟩, ⟨by omega, by omega⟩, fun x y z => ?_, fun h x y z => hno2 h (by omega) y (z.mono hL hB.1 (by omega) (by omega)), ⟨by omega, by omega⟩, ?_⟩
                · by_cases e : x = 31
                  · subst e; rw [gup_k _ _ _ _ (fun q => z ⟨rfl, q⟩)]; exact hF _ _ z
                  · rw [gup_a _ _ _ _ _ e]; exact hF _ _ z
                · rw [gup_s]; exact hN.new (by omega) hv2 hno2 (by omega)
              exact ih (low + 1, h2, h2 - low, gup g1 31 0 low) hnew (by show (25 - (low + 1)).toNat < (25 - low).toNat; omega)
        · exact absurd c69 (by omega)
      · refine gw_iinc_5 (gc k_Paper_narrowest_0 34 rfl) rfl rfl ?_
        refine gw_goto (tgt := 42) (gc k_Paper_narrowest_0 35 rfl) rfl ?_
        exact ih2 (h2 + 1) ⟨⟨by omega, by omega⟩, fun h x y => if e : h = h2 then (by rw [e]; exact fun z => absurd ((hvB_V r low h2).mpr z) (by omega)) else hno2 h x (by omega)⟩ (by show (r 40 + 1 - (h2 + 1)).toNat < (r 40 + 1 - h2).toNat; omega)
set_option maxHeartbeats 8000000 in
theorem c_Paper_cheapestUnder {sh : gS} {g : gM} (hx : gFix sh) (hf : gFin g) {Λ : Int → List PC} {r : Int → Int} {b : Int} (hb : isBd b) (hne : b ≠ 134) (hX : bdX Λ sh r g b) (hT : bdT sh g b) (hS : ppS Λ sh g) (n : Int) (hn : 0 ≤ n ∧ n < r 41) : gTri f_Paper_cheapestUnder 7 0 0 [(2, 31), (2, b), (0, n)] sh g (fun x s2 g2 => x = some (0, (chF (chT r n) 25).1) ∧ s2 = sh ∧ ppQ Λ sh g g2 ∧ (¬ (chF (chT r n) 25).1 = -1 → g2 31 1 = (chF (chT r n) 25).2)) := by
  have hbx := hb
  unfold isBd at hbx
  have hB := hX.bdN
  have ho := hB.1
  have hm := ro_many ho
  have hrn := ro_pitch ho (12 + n) (by omega)
  have hnm := hX.nums
  obtain ⟨a, ha⟩ : ∃ a, a = bdF g b := ⟨_, rfl⟩
  have hL : lwP Λ sh g r a := by rw [ha]; exact hX.lwP
  refine gTri.of (by decide +kernel) rfl ?_
  show gWP f_Paper_cheapestUnder _ _ _ 0 [(2, 31), (2, b), (0, n), (9, 0), (9, 0), (9, 0), (9, 0)] [] sh g _
  refine gw_aload_n (gc k_Paper_cheapestUnder_0 0 rfl) rfl rfl ?_
  refine gw_cV1 (gc k_Paper_cheapestUnder_0 1 rfl) y_Board_lawInForce ln_Paper_109 (c_Board_lawInForce hx hf hb (by have := hnm.2.2.1; omega) (by have := hnm.2.2.2; omega)) rfl rfl (by first | exact gAt hx rfl rfl | exact (ps5 hx (by omega)).1.1 | exact (ps5 hx (by omega)).1.2.1 | exact (ps5 hx (by omega)).1.2.2 | exact (ps5 hx (by omega)).2.1 | exact (ps5 hx (by omega)).2.2.1 | exact (ps5 hx (by omega)).2.2.2.1 | exact (ps5 hx (by omega)).2.2.2.2 | exact (bs hx hb).1 | exact (bs hx hb).2.1 | exact (bs hx hb).2.2.1 | exact (bs hx hb).2.2.2.1 | exact (bs hx iB).2.1) rfl rfl ?_
  rw [← ha]
  refine gw_astore_3 (gc k_Paper_cheapestUnder_0 2 rfl) rfl rfl rfl ?_
  refine gw_iconst (gc k_Paper_cheapestUnder_0 3 rfl) ?_
  refine gw_istore_4 (gc k_Paper_cheapestUnder_0 4 rfl) rfl rfl ?_
  refine gw_aload_n (gc k_Paper_cheapestUnder_0 5 rfl) rfl rfl ?_
  refine gw_getref (gc k_Paper_cheapestUnder_0 6 rfl) fl_Paper_52 (by first | exact gAt hx rfl rfl | exact (ps5 hx (by omega)).1.1 | exact (ps5 hx (by omega)).1.2.1 | exact (ps5 hx (by omega)).1.2.2 | exact (ps5 hx (by omega)).2.1 | exact (ps5 hx (by omega)).2.2.1 | exact (ps5 hx (by omega)).2.2.2.1 | exact (ps5 hx (by omega)).2.2.2.2 | exact (bs hx hb).1 | exact (bs hx hb).2.1 | exact (bs hx hb).2.2.1 | exact (bs hx hb).2.2.2.1 | exact (bs hx iB).2.1) (by first | exact gRf hf rfl rfl | exact (br hf hb).1 | exact (br hf hb).2.1 | exact (br hf hb).2.2.1 | exact (br hf hb).2.2.2.1 | exact (br hf hb).2.2.2.2.1 | exact (br hf hb).2.2.2.2.2 | exact (br hf iB).1) ?_
  refine gw_aload_n (gc k_Paper_cheapestUnder_0 7 rfl) rfl rfl ?_
  refine gw_xV1 (gc k_Paper_cheapestUnder_0 8 rfl) y_Board_copyFrom ln_Paper_113 (c_Board_copyFrom hx hf iB hb (by omega) hT) rfl rfl (by first | exact gAt hx rfl rfl | exact (ps5 hx (by omega)).1.1 | exact (ps5 hx (by omega)).1.2.1 | exact (ps5 hx (by omega)).1.2.2 | exact (ps5 hx (by omega)).2.1 | exact (ps5 hx (by omega)).2.2.1 | exact (ps5 hx (by omega)).2.2.2.1 | exact (ps5 hx (by omega)).2.2.2.2 | exact (bs hx hb).1 | exact (bs hx hb).2.1 | exact (bs hx hb).2.2.1 | exact (bs hx hb).2.2.2.1 | exact (bs hx iB).2.1) rfl rfl (fun r13 sh2 g13 hq13 => ?_)
  obtain ⟨rfl, hsh, hcp⟩ := hq13
  subst sh2
  have hf13 := cpS.fin iB (by decide) hcp hf
  have hf := hf13
  have hB13 := hcp.bdN hB
  have hF13 : ppF g g13 := fun x y n1 n2 n3 n4 => hcp.1 x y (by omega)
  have hS13 : ppS Λ sh g13 := hS.keep (fun x y _ _ => hcp.1 x y (by omega))
  refine gw_iconst (gc k_Paper_cheapestUnder_0 9 rfl) ?_
  refine gw_istore_5 (gc k_Paper_cheapestUnder_0 10 rfl) rfl rfl ?_
  refine gwloop (σ := Int × gV × gM) (fun zs => (0 ≤ (zs.1) ∧ (zs.1) ≤ 25) ∧ ppF g (zs.2.2) ∧ gFin (zs.2.2) ∧ ppS Λ sh (zs.2.2) ∧ (∃ w, bdN (rSh r n w) (zs.2.2) 134) ∧ ((chF (chT r n) (zs.1).toNat).1 = -1 ∨ (zs.2.2) 31 1 = (chF (chT r n) (zs.1).toNat).2)) (fun zs => (25 - (zs.1)).toNat) (fun zs => [(2, 31), (2, b), (0, n), (2, a), (0, (chF (chT r n) (zs.1).toNat).1), (0, (zs.1)), (zs.2.1)]) (fun zs => (zs.2.2)) (0, (9, 0), g13) (show (0 ≤ (0 : Int) ∧ (0 : Int) ≤ 25) ∧ ppF g g13 ∧ gFin g13 ∧ ppS Λ sh g13 ∧ (∃ w, bdN (rSh r n w) g13 134) ∧ ((chF (chT r n) (0 : Int).toNat).1 = -1 ∨ g13 31 1 = (chF (chT r n) (0 : Int).toNat).2) from ⟨⟨by decide, by decide⟩, hF13, hf13, hS13, ⟨r (12 + n), by rw [rSh_id]; exact hB13⟩, Or.inl rfl⟩) rfl rfl (fun zs hI ih => ?_)
  obtain ⟨u, x6, g1⟩ := zs
  replace hI : (0 ≤ u ∧ u ≤ 25) ∧ ppF g g1 ∧ gFin g1 ∧ ppS Λ sh g1 ∧ (∃ w, bdN (rSh r n w) g1 134) ∧ ((chF (chT r n) u.toNat).1 = -1 ∨ g1 31 1 = (chF (chT r n) u.toNat).2) := hI
  obtain ⟨hu, hF, hf1, hS1, ⟨w, hw⟩, hc⟩ := hI
  show gWP _ _ _ _ _ [(2, 31), (2, b), (0, n), (2, a), (0, (chF (chT r n) u.toNat).1), (0, u), x6] [] _ (g1) _
  have hf := hf1
  have hBb := hF.bdN hb hne hB
  have hcb := chF_bd (chT_bd r n) u.toNat
  refine gw_iload (gc k_Paper_cheapestUnder_0 11 rfl) rfl ?_
  refine gw_bipush (gc k_Paper_cheapestUnder_0 12 rfl) (by decide) ?_
  refine gw_icmp_ge (tgt := 99) (gc k_Paper_cheapestUnder_0 13 rfl) rfl (by omega) (fun c23 => ?_) (fun c23 => ?_)
  · refine gw_iload (gc k_Paper_cheapestUnder_1 10 rfl) rfl ?_
    refine gw_ireturn (gc k_Paper_cheapestUnder_1 11 rfl) rfl ?_
    obtain rfl : u = 25 := by omega
    exact ⟨rfl, rfl, ⟨hF, hf, hS1⟩, fun z => hc.resolve_left z⟩
  · refine gw_iload (gc k_Paper_cheapestUnder_0 14 rfl) rfl ?_
    refine gw_aload_n (gc k_Paper_cheapestUnder_0 15 rfl) rfl rfl ?_
    refine gw_getref (gc k_Paper_cheapestUnder_0 16 rfl) fl_Paper_116 (by first | exact gAt hx rfl rfl | exact (ps5 hx (by omega)).1.1 | exact (ps5 hx (by omega)).1.2.1 | exact (ps5 hx (by omega)).1.2.2 | exact (ps5 hx (by omega)).2.1 | exact (ps5 hx (by omega)).2.2.1 | exact (ps5 hx (by omega)).2.2.2.1 | exact (ps5 hx (by omega)).2.2.2.2 | exact (bs hx hb).1 | exact (bs hx hb).2.1 | exact (bs hx hb).2.2.1 | exact (bs hx hb).2.2.2.1 | exact (bs hx iB).2.1) (by first | exact gRf hf rfl rfl | exact (br hf hb).1 | exact (br hf hb).2.1 | exact (br hf hb).2.2.1 | exact (br hf hb).2.2.2.1 | exact (br hf hb).2.2.2.2.1 | exact (br hf hb).2.2.2.2.2 | exact (br hf iB).1) ?_
    refine gw_iload_n (gc k_Paper_cheapestUnder_0 17 rfl) rfl ?_
    refine gw_iald (gc k_Paper_cheapestUnder_0 18 rfl) (by first | exact gAt hx rfl rfl | exact (ps5 hx (by omega)).1.1 | exact (ps5 hx (by omega)).1.2.1 | exact (ps5 hx (by omega)).1.2.2 | exact (ps5 hx (by omega)).2.1 | exact (ps5 hx (by omega)).2.2.1 | exact (ps5 hx (by omega)).2.2.2.1 | exact (ps5 hx (by omega)).2.2.2.2 | exact (bs hx hb).1 | exact (bs hx hb).2.1 | exact (bs hx hb).2.2.1 | exact (bs hx hb).2.2.2.1 | exact (bs hx iB).2.1) (by omega) ?_
    rw [(hBb.2.2.1 n hn.1 hn.2).1]
    refine gw_icmp_ne (tgt := 40) (gc k_Paper_cheapestUnder_0 19 rfl) rfl (by omega) (fun c34 => ?_) (fun c34 => ?_)
    · refine gw_aload_n (gc k_Paper_cheapestUnder_0 21 rfl) rfl rfl ?_
      refine gw_getref (gc k_Paper_cheapestUnder_0 22 rfl) fl_Paper_52 (by first | exact gAt hx rfl rfl | exact (ps5 hx (by omega)).1.1 | exact (ps5 hx (by omega)).1.2.1 | exact (ps5 hx (by omega)).1.2.2 | exact (ps5 hx (by omega)).2.1 | exact (ps5 hx (by omega)).2.2.1 | exact (ps5 hx (by omega)).2.2.2.1 | exact (ps5 hx (by omega)).2.2.2.2 | exact (bs hx hb).1 | exact (bs hx hb).2.1 | exact (bs hx hb).2.2.1 | exact (bs hx hb).2.2.2.1 | exact (bs hx iB).2.1) (by first | exact gRf hf rfl rfl | exact (br hf hb).1 | exact (br hf hb).2.1 | exact (br hf hb).2.2.1 | exact (br hf hb).2.2.2.1 | exact (br hf hb).2.2.2.2.1 | exact (br hf hb).2.2.2.2.2 | exact (br hf iB).1) ?_
      refine gw_getref (gc k_Paper_cheapestUnder_0 23 rfl) fl_Paper_116 (by first | exact gAt hx rfl rfl | exact (ps5 hx (by omega)).1.1 | exact (ps5 hx (by omega)).1.2.1 | exact (ps5 hx (by omega)).1.2.2 | exact (ps5 hx (by omega)).2.1 | exact (ps5 hx (by omega)).2.2.1 | exact (ps5 hx (by omega)).2.2.2.1 | exact (ps5 hx (by omega)).2.2.2.2 | exact (bs hx hb).1 | exact (bs hx hb).2.1 | exact (bs hx hb).2.2.1 | exact (bs hx hb).2.2.2.1 | exact (bs hx iB).2.1) (by first | exact gRf hf rfl rfl | exact (br hf hb).1 | exact (br hf hb).2.1 | exact (br hf hb).2.2.1 | exact (br hf hb).2.2.2.1 | exact (br hf hb).2.2.2.2.1 | exact (br hf hb).2.2.2.2.2 | exact (br hf iB).1) ?_
      refine gw_iload_n (gc k_Paper_cheapestUnder_0 24 rfl) rfl ?_
      refine gw_iload (gc k_Paper_cheapestUnder_0 25 rfl) rfl ?_
      refine gw_iastF (gc k_Paper_cheapestUnder_0 26 rfl) (by first | exact gAt hx rfl rfl | exact (ps5 hx (by omega)).1.1 | exact (ps5 hx (by omega)).1.2.1 | exact (ps5 hx (by omega)).1.2.2 | exact (ps5 hx (by omega)).2.1 | exact (ps5 hx (by omega)).2.2.1 | exact (ps5 hx (by omega)).2.2.2.1 | exact (ps5 hx (by omega)).2.2.2.2 | exact (bs hx hb).1 | exact (bs hx hb).2.1 | exact (bs hx hb).2.2.1 | exact (bs hx hb).2.2.2.1 | exact (bs hx iB).2.1) (by omega) hf (by first | rfl | exact ppA.nr (Or.inr (by omega)) _ | exact ppA.nr (Or.inl (by unfold ppA; omega)) _) (fun hf => ?_)
      have hBu := tr_up ho hn (u := u) (by omega) hw
      have hLu : lwP Λ sh (gup g1 135 n u) (rSh r n u) a := (hL.sh ho (by omega) u).ext (fun x y z => by rw [gup_a _ _ _ _ _ (by omega)]; exact hF x y (by omega) (by omega) (by omega) (by omega))
      have hSu : ppS Λ sh (gup g1 135 n u) := hS1.keep (fun x y _ _ => gup_a _ _ _ _ _ (by omega))
      refine gw_aload_n (gc k_Paper_cheapestUnder_0 27 rfl) rfl rfl ?_
      refine gw_aload_n (gc k_Paper_cheapestUnder_0 28 rfl) rfl rfl ?_
      refine gw_getref (gc k_Paper_cheapestUnder_0 29 rfl) fl_Paper_52 (by first | exact gAt hx rfl rfl | exact (ps5 hx (by omega)).1.1 | exact (ps5 hx (by omega)).1.2.1 | exact (ps5 hx (by omega)).1.2.2 | exact (ps5 hx (by omega)).2.1 | exact (ps5 hx (by omega)).2.2.1 | exact (ps5 hx (by omega)).2.2.2.1 | exact (ps5 hx (by omega)).2.2.2.2 | exact (bs hx hb).1 | exact (bs hx hb).2.1 | exact (bs hx hb).2.2.1 | exact (bs hx hb).2.2.2.1 | exact (bs hx iB).2.1) (by first | exact gRf hf rfl rfl | exact (br hf hb).1 | exact (br hf hb).2.1 | exact (br hf hb).2.2.1 | exact (br hf hb).2.2.2.1 | exact (br hf hb).2.2.2.2.1 | exact (br hf hb).2.2.2.2.2 | exact (br hf iB).1) ?_
      refine gw_aload_n (gc k_Paper_cheapestUnder_0 30 rfl) rfl rfl ?_
      refine gw_xV1 (gc k_Paper_cheapestUnder_0 31 rfl) y_Paper_leastCosts ln_Paper_119 (c_Paper_leastCosts hx hf iB hBu hLu hSu) rfl rfl (by first | exact gAt hx rfl rfl | exact (ps5 hx (by omega)).1.1 | exact (ps5 hx (by omega)).1.2.1 | exact (ps5 hx (by omega)).1.2.2 | exact (ps5 hx (by omega)).2.1 | exact (ps5 hx (by omega)).2.2.1 | exact (ps5 hx (by omega)).2.2.2.1 | exact (ps5 hx (by omega)).2.2.2.2 | exact (bs hx hb).1 | exact (bs hx hb).2.1 | exact (bs hx hb).2.2.1 | exact (bs hx hb).2.2.2.1 | exact (bs hx iB).2.1) rfl rfl (fun r57 sh2 g57 hq57 => ?_)
      obtain ⟨rfl, hsh, hK, hf57, hS57, -⟩ := hq57
      subst sh2
      have hf := hf57
      have hF57 : ppF g g57 := fun x y n1 n2 n3 n4 => (hK.pf x y n1 n2 n3 n4).trans ((gup_a _ _ _ _ _ (by omega)).trans (hF x y n1 n2 n3 n4))
      have hB57 : bdN (rSh r n u) g57 134 := hBu.of (fun x y h1 h2 => hK x y (by omega) (by omega) (by omega) (by unfold ppA; omega) (by omega) (by omega))
      have hc57 : (chF (chT r n) u.toNat).1 = -1 ∨ g57 31 1 = (chF (chT r n) u.toNat).2 := hc.imp id (fun z => ((hK 31 1 (by decide) (by decide) (by decide) (by unfold ppA; decide) (by decide) (by decide)).trans (gup_a _ _ _ _ _ (by decide))).trans z)
      have hlo := lo_la hLu hBu.1 (kp := 0) (Or.inl rfl)
      obtain ⟨lv, hlv⟩ : ∃ v, v = loF (rSh r n u) 0 := ⟨_, rfl⟩
      rw [show laR (rSh r n u) 0 (kF (rSh r n u 39)) (kF (rSh r n u 40)) = lv from (hlo.1.symm).trans hlv.symm]
      have hlb : -1 ≤ lv ∧ lv < 100000000 := by
        rw [hlv]
        have q := loF_bd (r := rSh r n u) (kp := 0)
        by_cases z : loF (rSh r n u) 0 = -1
        · omega
        · by_cases y : rSh r n u 41 = 0
          · rw [show loF (rSh r n u) 0 = 0 from if_pos y]; decide
          · have := loF_lt z y
            unfold loF at q ⊢
            rw [if_neg y] at q ⊢
            split <;> omega
      refine gw_istore_6 (gc k_Paper_cheapestUnder_0 32 rfl) rfl rfl ?_
      refine gw_iload (gc k_Paper_cheapestUnder_0 33 rfl) rfl ?_
      refine gw_iconst (gc k_Paper_cheapestUnder_0 34 rfl) ?_
      refine gw_icmp_eq (tgt := 93) (gc k_Paper_cheapestUnder_0 35 rfl) rfl (by omega) (fun c65 => ?_) (fun c65 => ?_)
      · refine gw_iinc_5 (gc k_Paper_cheapestUnder_1 8 rfl) rfl rfl ?_
        refine gw_goto (tgt := 19) (gc k_Paper_cheapestUnder_1 9 rfl) rfl ?_
        have em : ((u.toNat : Nat) : Int) = u := by omega
        have e1 : (u + 1).toNat = u.toNat + 1 := by omega
        have hcT : chT r n u = lv := by unfold chT; rw [if_neg c34]; exact hlv.symm
        have hs : chF (chT r n) (u + 1).toNat = chF (chT r n) u.toNat := by
          rw [e1]
          exact chF_0 (Or.inl (by rw [em, hcT]; exact c65))
        have hnew : (0 ≤ u + 1 ∧ u + 1 ≤ 25) ∧ ppF g g57 ∧ gFin g57 ∧ ppS Λ sh g57 ∧ (∃ w, bdN (rSh r n w) g57 134) ∧ ((chF (chT r n) (u + 1).toNat).1 = -1 ∨ g57 31 1 = (chF (chT r n) (u + 1).toNat).2) := ⟨by omega, hF57, hf, hS57, ⟨u, hB57⟩, by rw [hs]; exact hc57⟩
        have q := ih (u + 1, (0, lv), g57) hnew (by show (25 - (u + 1)).toNat < (25 - u).toNat; omega)
        replace q : gWP _ _ _ _ _ [(2, 31), (2, b), (0, n), (2, a), (0, (chF (chT r n) (u + 1).toNat).1), (0, u + 1), (0, lv)] [] sh _ _ := q
        rw [hs] at q
        exact q
      · refine gw_iload (gc k_Paper_cheapestUnder_0 36 rfl) rfl ?_
        refine gw_iconst (gc k_Paper_cheapestUnder_0 37 rfl) ?_
        refine gw_icmp_eq (tgt := 83) (gc k_Paper_cheapestUnder_0 38 rfl) rfl (by omega) (fun c71 => ?_) (fun c71 => ?_)
        · refine gw_iload (gc k_Paper_cheapestUnder_1 3 rfl) rfl ?_
          refine gw_istore_4 (gc k_Paper_cheapestUnder_1 4 rfl) rfl rfl ?_
          refine gw_aload_n (gc k_Paper_cheapestUnder_1 5 rfl) rfl rfl ?_
          refine gw_iload (gc k_Paper_cheapestUnder_1 6 rfl) rfl ?_
          refine gw_putIK 1 rfl (gc k_Paper_cheapestUnder_1 7 rfl) fl_Paper_123 (by first | exact gAt hx rfl rfl | exact (ps5 hx (by omega)).1.1 | exact (ps5 hx (by omega)).1.2.1 | exact (ps5 hx (by omega)).1.2.2 | exact (ps5 hx (by omega)).2.1 | exact (ps5 hx (by omega)).2.2.1 | exact (ps5 hx (by omega)).2.2.2.1 | exact (ps5 hx (by omega)).2.2.2.2 | exact (bs hx hb).1 | exact (bs hx hb).2.1 | exact (bs hx hb).2.2.1 | exact (bs hx hb).2.2.2.1 | exact (bs hx iB).2.1) hf (by first | rfl | exact ppA.nr (Or.inr (by omega)) _ | exact ppA.nr (Or.inl (by unfold ppA; omega)) _) (fun hf => ?_)
          refine gw_iinc_5 (gc k_Paper_cheapestUnder_1 8 rfl) rfl rfl ?_
          refine gw_goto (tgt := 19) (gc k_Paper_cheapestUnder_1 9 rfl) rfl ?_
          have em : ((u.toNat : Nat) : Int) = u := by omega
          have e1 : (u + 1).toNat = u.toNat + 1 := by omega
          have hcT : chT r n u = lv := by unfold chT; rw [if_neg c34]; exact hlv.symm
          obtain ⟨gw, hgw⟩ : ∃ M, M = gup g57 31 1 lv := ⟨_, rfl⟩
          rw [← hgw]
          have hw1 : ∀ x y, x ≠ 31 → gw x y = g57 x y := fun x y z => by rw [hgw, gup_a _ _ _ _ _ z]
          have hw2 : gw 31 1 = lv := by rw [hgw, gup_s]
          have hf : gFin gw := by rw [hgw]; exact hf
          have hFw : ppF g gw := fun x y n1 n2 n3 n4 => (hw1 x y (by omega)).trans (hF57 x y n1 n2 n3 n4)
          have hSw := hS57.keep (fun x y _ _ => hw1 x y (by omega))
          have hBw := hB57.of (fun x y _ _ => hw1 x y (by omega))
          have hno := chF_no u.toNat (fun p => (chT_bd r n p).1) (by omega)
          have hs : chF (chT r n) (u + 1).toNat = (u, lv) := by
            rw [e1]
            refine (chF_1 (fun z => by rw [em, hcT] at z; omega)).trans ?_
            rw [em, hcT]
          have hnew : (0 ≤ u + 1 ∧ u + 1 ≤ 25) ∧ ppF g gw ∧ gFin gw ∧ ppS Λ sh gw ∧ (∃ w, bdN (rSh r n w) gw 134) ∧ ((chF (chT r n) (u + 1).toNat).1 = -1 ∨ gw 31 1 = (chF (chT r n) (u + 1).toNat).2) := ⟨by omega, hFw, hf, hSw, ⟨u, hBw⟩, Or.inr (by rw [hs]; exact hw2)⟩
          have q := ih (u + 1, (0, lv), gw) hnew (by show (25 - (u + 1)).toNat < (25 - u).toNat; omega)
          replace q : gWP _ _ _ _ _ [(2, 31), (2, b), (0, n), (2, a), (0, (chF (chT r n) (u + 1).toNat).1), (0, u + 1), (0, lv)] [] sh _ _ := q
          rw [hs] at q
          exact q
        · refine gw_iload (gc k_Paper_cheapestUnder_0 39 rfl) rfl ?_
          refine gw_aload_n (gc k_Paper_cheapestUnder_1 0 rfl) rfl rfl ?_
          refine gw_getf 1 rfl (gc k_Paper_cheapestUnder_1 1 rfl) fl_Paper_123 (by first | exact gAt hx rfl rfl | exact (ps5 hx (by omega)).1.1 | exact (ps5 hx (by omega)).1.2.1 | exact (ps5 hx (by omega)).1.2.2 | exact (ps5 hx (by omega)).2.1 | exact (ps5 hx (by omega)).2.2.1 | exact (ps5 hx (by omega)).2.2.2.1 | exact (ps5 hx (by omega)).2.2.2.2 | exact (bs hx hb).1 | exact (bs hx hb).2.1 | exact (bs hx hb).2.2.1 | exact (bs hx hb).2.2.2.1 | exact (bs hx iB).2.1) ?_
          have hcc0 : -100000000 ≤ g57 31 1 ∧ g57 31 1 ≤ 100000000 := by have := hc57.resolve_left (by omega); omega
          refine gw_icmp_ge (tgt := 93) (gc k_Paper_cheapestUnder_1 2 rfl) rfl (by omega) (fun c80 => ?_) (fun c80 => ?_)
          · refine gw_iinc_5 (gc k_Paper_cheapestUnder_1 8 rfl) rfl rfl ?_
            refine gw_goto (tgt := 19) (gc k_Paper_cheapestUnder_1 9 rfl) rfl ?_
            have em : ((u.toNat : Nat) : Int) = u := by omega
            have e1 : (u + 1).toNat = u.toNat + 1 := by omega
            have hcT : chT r n u = lv := by unfold chT; rw [if_neg c34]; exact hlv.symm
            have hcc : g57 31 1 = (chF (chT r n) u.toNat).2 := hc57.resolve_left (by omega)
            have hs : chF (chT r n) (u + 1).toNat = chF (chT r n) u.toNat := by
              rw [e1]
              exact chF_0 (Or.inr (by rw [em, hcT]; omega))
            have hnew : (0 ≤ u + 1 ∧ u + 1 ≤ 25) ∧ ppF g g57 ∧ gFin g57 ∧ ppS Λ sh g57 ∧ (∃ w, bdN (rSh r n w) g57 134) ∧ ((chF (chT r n) (u + 1).toNat).1 = -1 ∨ g57 31 1 = (chF (chT r n) (u + 1).toNat).2) := ⟨by omega, hF57, hf, hS57, ⟨u, hB57⟩, by rw [hs]; exact hc57⟩
            have q := ih (u + 1, (0, lv), g57) hnew (by show (25 - (u + 1)).toNat < (25 - u).toNat; omega)
            replace q : gWP _ _ _ _ _ [(2, 31), (2, b), (0, n), (2, a), (0, (chF (chT r n) (u + 1).toNat).1), (0, u + 1), (0, lv)] [] sh _ _ := q
            rw [hs] at q
            exact q
          · refine gw_iload (gc k_Paper_cheapestUnder_1 3 rfl) rfl ?_
            refine gw_istore_4 (gc k_Paper_cheapestUnder_1 4 rfl) rfl rfl ?_
            refine gw_aload_n (gc k_Paper_cheapestUnder_1 5 rfl) rfl rfl ?_
            refine gw_iload (gc k_Paper_cheapestUnder_1 6 rfl) rfl ?_
            refine gw_putIK 1 rfl (gc k_Paper_cheapestUnder_1 7 rfl) fl_Paper_123 (by first | exact gAt hx rfl rfl | exact (ps5 hx (by omega)).1.1 | exact (ps5 hx (by omega)).1.2.1 | exact (ps5 hx (by omega)).1.2.2 | exact (ps5 hx (by omega)).2.1 | exact (ps5 hx (by omega)).2.2.1 | exact (ps5 hx (by omega)).2.2.2.1 | exact (ps5 hx (by omega)).2.2.2.2 | exact (bs hx hb).1 | exact (bs hx hb).2.1 | exact (bs hx hb).2.2.1 | exact (bs hx hb).2.2.2.1 | exact (bs hx iB).2.1) hf (by first | rfl | exact ppA.nr (Or.inr (by omega)) _ | exact ppA.nr (Or.inl (by unfold ppA; omega)) _) (fun hf => ?_)
            refine gw_iinc_5 (gc k_Paper_cheapestUnder_1 8 rfl) rfl rfl ?_
            refine gw_goto (tgt := 19) (gc k_Paper_cheapestUnder_1 9 rfl) rfl ?_
            have em : ((u.toNat : Nat) : Int) = u := by omega
            have e1 : (u + 1).toNat = u.toNat + 1 := by omega
            have hcT : chT r n u = lv := by unfold chT; rw [if_neg c34]; exact hlv.symm
            obtain ⟨gw, hgw⟩ : ∃ M, M = gup g57 31 1 lv := ⟨_, rfl⟩
            rw [← hgw]
            have hw1 : ∀ x y, x ≠ 31 → gw x y = g57 x y := fun x y z => by rw [hgw, gup_a _ _ _ _ _ z]
            have hw2 : gw 31 1 = lv := by rw [hgw, gup_s]
            have hf : gFin gw := by rw [hgw]; exact hf
            have hFw : ppF g gw := fun x y n1 n2 n3 n4 => (hw1 x y (by omega)).trans (hF57 x y n1 n2 n3 n4)
            have hSw := hS57.keep (fun x y _ _ => hw1 x y (by omega))
            have hBw := hB57.of (fun x y _ _ => hw1 x y (by omega))
            have hcc : g57 31 1 = (chF (chT r n) u.toNat).2 := hc57.resolve_left (by omega)
            have hs : chF (chT r n) (u + 1).toNat = (u, lv) := by
              rw [e1]
              refine (chF_1 (fun z => by rw [em, hcT] at z; omega)).trans ?_
              rw [em, hcT]
            have hnew : (0 ≤ u + 1 ∧ u + 1 ≤ 25) ∧ ppF g gw ∧ gFin gw ∧ ppS Λ sh gw ∧ (∃ w, bdN (rSh r n w) gw 134) ∧ ((chF (chT r n) (u + 1).toNat).1 = -1 ∨ gw 31 1 = (chF (chT r n) (u + 1).toNat).2) := ⟨by omega, hFw, hf, hSw, ⟨u, hBw⟩, Or.inr (by rw [hs]; exact hw2)⟩
            have q := ih (u + 1, (0, lv), gw) hnew (by show (25 - (u + 1)).toNat < (25 - u).toNat; omega)
            replace q : gWP _ _ _ _ _ [(2, 31), (2, b), (0, n), (2, a), (0, (chF (chT r n) (u + 1).toNat).1), (0, u + 1), (0, lv)] [] sh _ _ := q
            rw [hs] at q
            exact q
    · refine gw_goto (tgt := 93) (gc k_Paper_cheapestUnder_0 20 rfl) rfl ?_
      refine gw_iinc_5 (gc k_Paper_cheapestUnder_1 8 rfl) rfl rfl ?_
      refine gw_goto (tgt := 19) (gc k_Paper_cheapestUnder_1 9 rfl) rfl ?_
      have em : ((u.toNat : Nat) : Int) = u := by omega
      have e1 : (u + 1).toNat = u.toNat + 1 := by omega
      have hs : chF (chT r n) (u + 1).toNat = chF (chT r n) u.toNat := by
        rw [e1]
        exact chF_0 (Or.inl (by rw [em]; unfold chT; rw [if_pos c34]))
      have hnew : (0 ≤ u + 1 ∧ u + 1 ≤ 25) ∧ ppF g g1 ∧ gFin g1 ∧ ppS Λ sh g1 ∧ (∃ w, bdN (rSh r n w) g1 134) ∧ ((chF (chT r n) (u + 1).toNat).1 = -1 ∨ g1 31 1 = (chF (chT r n) (u + 1).toNat).2) := ⟨by omega, hF, hf, hS1, ⟨w, hw⟩, by rw [hs]; exact hc⟩
      have q := ih (u + 1, x6, g1) hnew (by show (25 - (u + 1)).toNat < (25 - u).toNat; omega)
      replace q : gWP _ _ _ _ _ [(2, 31), (2, b), (0, n), (2, a), (0, (chF (chT r n) (u + 1).toNat).1), (0, u + 1), x6] [] sh _ _ := q
      rw [hs] at q
      exact q
