/-! ===== rows ===== -/
/-- what row leaves at the desk -/
def rwD (Λ : Int → List PC) (sh : gS) (g : gM) (x : Option gV) (g1 : gM) : Prop := (g 177 13 = 0 ∧ x = some (0, -6) ∧ g1 = ansM g (-6)) ∨ (¬ g 177 13 = 0 ∧ x = some (0, (rwR g).2.1) ∧ ∃ M, g1 = ansM M 0 ∧ bdX Λ sh (rwR g).1 M 1 ∧ M 13 3 = 0 ∧ M 149 1 = 0 ∧ M 0 11 = (rwR g).2.2 ∧ gFin M ∧ ∀ a k, ¬ (a = 0 ∧ k = 11) → ¬ (1 ≤ a ∧ a ≤ 3) → ¬ (a = 13 ∧ k = 3) → ¬ (a = 149 ∧ k = 1) → M a k = g a k)
def rwJ (g g1 : gM) : Prop := ∀ a k, ¬ (a = 0 ∧ k = 11) → ¬ (1 ≤ a ∧ a ≤ 3) → g1 a k = g a k
theorem rwF_y {B : Int → Int} {m : Nat} {t : Int} {ρ : Int → Int} {n b : Int} (h : ρ 41 < 12 ∧ (0 ≤ B t ∧ B t ≤ 24) ∧ 0 ≤ B (t + 1) ∧ B (t + 1) ≤ 24) : rwF B (m + 1) t ρ n b = rwF B m (t + 2) (rAdd ρ (B t) (B (t + 1))) (n + 1) b := if_pos h
theorem rwF_n {B : Int → Int} {m : Nat} {t : Int} {ρ : Int → Int} {n b : Int} (h : ¬ (ρ 41 < 12 ∧ (0 ≤ B t ∧ B t ≤ 24) ∧ 0 ≤ B (t + 1) ∧ B (t + 1) ≤ 24)) : rwF B (m + 1) t ρ n b = rwF B m (t + 2) ρ n (b + 1) := if_neg h
set_option maxHeartbeats 8000000 in
theorem c_Desk_row {sh : gS} {g : gM} (hx : gFix sh) (hf : gFin g) {Λ : Int → List PC} (hR : relR Λ sh g) : gTri f_Desk_row 2 0 0 [(2, 0)] sh g (fun x s1 g1 => s1 = sh ∧ rwD Λ sh g x g1) := by
  have hro := hR.ro
  have hm := ro_many hro
  have h0 := hR.X.nums.1.1
  have hX := hR.X
  have htp := hR.2.2.1
  obtain ⟨len, hlen⟩ : ∃ n, g 177 13 = n := ⟨_, rfl⟩
  have hl0 : g 149 1 = len := htp.2.1.trans hlen
  have hlb : 0 ≤ len ∧ len ≤ 400 := by rw [← hlen]; exact htp.1.1
  unfold rwD
  rw [hlen]
  refine gTri.of (by decide +kernel) rfl ?_
  show gWP f_Desk_row _ _ _ 0 [(2, 0), (9, 0), (9, 0)] [] sh g _
  refine gw_aload_n (gc k_Desk_row_0 0 rfl) rfl rfl ?_
  refine gw_getref (gc k_Desk_row_0 1 rfl) fl_Desk_51 (by first | exact gAt hx rfl rfl) (by first | exact gRf hf rfl rfl) ?_
  refine gw_getf 1 rfl (gc k_Desk_row_0 2 rfl) fl_Desk_132 (by first | exact gAt hx rfl rfl) ?_
  rw [hl0]
  refine gw_if_ne (tgt := 17) (gc k_Desk_row_0 3 rfl) rfl (by omega) (fun c7 => ?_) (fun c7 => ?_)
  · refine gw_iconst (gc k_Desk_row_0 8 rfl) ?_
    refine gw_istore_1 (gc k_Desk_row_0 9 rfl) rfl rfl ?_
    refine gw_aload_n (gc k_Desk_row_0 10 rfl) rfl rfl ?_
    refine gw_iconst (gc k_Desk_row_0 11 rfl) ?_
    refine gw_putIK 11 rfl (gc k_Desk_row_0 12 rfl) fl_Desk_137 (by first | exact gAt hx rfl rfl) hf (by rfl) (fun hf => ?_)
    obtain ⟨gs, hgs⟩ : ∃ M, M = gup g 0 11 0 := ⟨_, rfl⟩
    rw [← hgs]
    have hfs : gFin gs := by rw [hgs]; exact hf
    have hs11 : gs 0 11 = 0 := by rw [hgs, gup_s]
    have hFs : rwJ g gs := fun a k z z2 => by
      rw [hgs]
      by_cases e : a = 0
      · subst e; exact gup_k _ _ _ _ (fun q => z ⟨rfl, q⟩)
      · exact gup_a _ _ _ _ _ e
    have hXs : bdX Λ sh (g 179) gs 1 := hX.of (fun a k z => by rw [hgs]; exact gup_a _ _ _ _ _ (by omega))
    refine gw_iconst (gc k_Desk_row_0 13 rfl) ?_
    refine gw_istore_2 (gc k_Desk_row_0 14 rfl) rfl rfl ?_
    refine gwloop (σ := Int × Int × Int × Nat × Int × (Int → Int) × gM) (fun zs => (0 ≤ (zs.1) ∧ (zs.1) ≤ len + 1 ∧ 0 ≤ (zs.2.1) ∧ (zs.2.1) ≤ (zs.1)) ∧ ((zs.2.2.2.2.1) = 0 ∨ (zs.2.2.2.2.1) = 1) ∧ ((zs.1) + 2 * ((zs.2.2.2.1) : Int) + (zs.2.2.2.2.1) = len ∨ ((zs.2.2.2.1) = 0 ∧ (zs.2.2.2.2.1) = 0 ∧ (zs.1) = len + 1)) ∧ rwF (g 184) (zs.2.2.2.1) (zs.1) (zs.2.2.2.2.2.1) (zs.2.1) ((zs.2.2.1) + (zs.2.2.2.2.1)) = rwR g ∧ bdX Λ sh (zs.2.2.2.2.2.1) (zs.2.2.2.2.2.2) 1 ∧ (zs.2.2.2.2.2.2) 0 11 = (zs.2.2.1) ∧ rwJ g (zs.2.2.2.2.2.2) ∧ gFin (zs.2.2.2.2.2.2)) (fun zs => (len + 2 - (zs.1)).toNat) (fun zs => [(2, 0), (0, (zs.2.1)), (0, (zs.1))]) (fun zs => (zs.2.2.2.2.2.2)) (0, 0, 0, (len / 2).toNat, len % 2, g 179, gs) (show (0 ≤ (0 : Int) ∧ (0 : Int) ≤ len + 1 ∧ 0 ≤ (0 : Int) ∧ (0 : Int) ≤ (0 : Int)) ∧ ((len % 2) = 0 ∨ (len % 2) = 1) ∧ ((0 : Int) + 2 * (((len / 2).toNat) : Int) + (len % 2) = len ∨ (((len / 2).toNat) = 0 ∧ (len % 2) = 0 ∧ (0 : Int) = len + 1)) ∧ rwF (g 184) ((len / 2).toNat) (0 : Int) (g 179) (0 : Int) ((0 : Int) + (len % 2)) = rwR g ∧ bdX Λ sh (g 179) gs 1 ∧ gs 0 11 = (0 : Int) ∧ rwJ g gs ∧ gFin gs from ⟨by omega, by omega, by omega, by rw [Int.zero_add, ← hlen]; rfl, hXs, hs11, hFs, hfs⟩) rfl rfl (fun zs hI ih => ?_)
    obtain ⟨t, n, w, m, o, ρ, g1⟩ := zs
    replace hI : (0 ≤ t ∧ t ≤ len + 1 ∧ 0 ≤ n ∧ n ≤ t) ∧ (o = 0 ∨ o = 1) ∧ (t + 2 * (m : Int) + o = len ∨ (m = 0 ∧ o = 0 ∧ t = len + 1)) ∧ rwF (g 184) m t ρ n (w + o) = rwR g ∧ bdX Λ sh ρ g1 1 ∧ g1 0 11 = w ∧ rwJ g g1 ∧ gFin g1 := hI
    obtain ⟨hb, ho, hlt, hE, hX1, hw, hF, hf⟩ := hI
    show gWP _ _ _ _ _ [(2, 0), (0, n), (0, t)] [] _ (g1) _
    have hl : g1 149 1 = len := (hF _ _ (by omega) (by omega)).trans hl0
    have hby : ∀ j, 0 ≤ j → j < 400 → g1 150 j = g 184 j % 256 := fun j a b => (hF _ _ (by omega) (by omega)).trans (htp.2.2 j a b)
    have hn1 := hX1.nums.1
    refine gw_iload_n (gc k_Desk_row_0 15 rfl) rfl ?_
    refine gw_aload_n (gc k_Desk_row_0 16 rfl) rfl rfl ?_
    refine gw_getref (gc k_Desk_row_0 17 rfl) fl_Desk_51 (by first | exact gAt hx rfl rfl) (by first | exact gRf hf rfl rfl) ?_
    refine gw_getf 1 rfl (gc k_Desk_row_0 18 rfl) fl_Desk_132 (by first | exact gAt hx rfl rfl) ?_
    rw [hl]
    refine gw_icmp_ge (tgt := 102) (gc k_Desk_row_0 19 rfl) rfl (by omega) (fun c34 => ?_) (fun c34 => ?_)
    · refine gw_aload_n (gc k_Desk_row_1 13 rfl) rfl rfl ?_
      refine gw_getref (gc k_Desk_row_1 14 rfl) fl_Desk_51 (by first | exact gAt hx rfl rfl) (by first | exact gRf hf rfl rfl) ?_
      refine gw_iconst (gc k_Desk_row_1 15 rfl) ?_
      refine gw_putIK 1 rfl (gc k_Desk_row_1 16 rfl) fl_Desk_132 (by first | exact gAt hx rfl rfl) hf (by rfl) (fun hf => ?_)
      refine gw_aload_n (gc k_Desk_row_1 17 rfl) rfl rfl ?_
      refine gw_getref (gc k_Desk_row_1 18 rfl) fl_Desk_28 (by first | exact gAt hx rfl rfl) (by first | exact gRf hf rfl rfl) ?_
      refine gw_getref (gc k_Desk_row_1 19 rfl) fl_Desk_94 (by first | exact gAt hx rfl rfl) (by first | exact gRf hf rfl rfl) ?_
      refine gw_iconst (gc k_Desk_row_1 20 rfl) ?_
      refine gw_putIK 3 rfl (gc k_Desk_row_1 21 rfl) fl_Desk_98 (by first | exact gAt hx rfl rfl) hf (by rfl) (fun hf => ?_)
      refine gw_aload_n (gc k_Desk_row_1 22 rfl) rfl rfl ?_
      refine gw_iload_n (gc k_Desk_row_1 23 rfl) rfl ?_
      refine gw_cV1 (gc k_Desk_row_1 24 rfl) y_Desk_answer ln_Desk_86 (c_Desk_answer hx hf n (by omega)) rfl rfl (by first | exact gAt hx rfl rfl) rfl rfl ?_
      refine gw_ireturn (gc k_Desk_row_1 25 rfl) rfl ?_
      have e : rwR g = (ρ, n, w) := by
        rw [← hE, show m = 0 by omega, show w + o = w by omega]
        rfl
      rw [e]
      refine ⟨rfl, Or.inr ⟨c7, rfl, gup (gup g1 149 1 0) 13 3 0, ansM_nn _ (by omega), hX1.of (fun a k z => by rw [gup_a _ _ _ _ _ (by omega), gup_a _ _ _ _ _ (by omega)]), gup_s _ _ _ _, by rw [gup_a _ _ _ _ _ (by decide), gup_s], by rw [gup_a _ _ _ _ _ (by decide), gup_a _ _ _ _ _ (by decide)]; exact hw, hf, fun a k z1 z2 z3 z4 => ?_⟩⟩
      have q : gup (gup g1 149 1 0) 13 3 0 a k = g1 a k := by
        by_cases e1 : a = 13
        · subst e1; rw [gup_k _ _ _ _ (fun q => z3 ⟨rfl, q⟩), gup_a _ _ _ _ _ (by decide)]
        · rw [gup_a _ _ _ _ _ e1]
          by_cases e2 : a = 149
          · subst e2; exact gup_k _ _ _ _ (fun q => z4 ⟨rfl, q⟩)
          · exact gup_a _ _ _ _ _ e2
      rw [q]; exact hF a k z1 z2
    · refine gw_iload_n (gc k_Desk_row_0 20 rfl) rfl ?_
      refine gw_iconst (gc k_Desk_row_0 21 rfl) ?_
      refine gw_iadd (gc k_Desk_row_0 22 rfl) ?_
      refine gw_aload_n (gc k_Desk_row_0 23 rfl) rfl rfl ?_
      refine gw_getref (gc k_Desk_row_0 24 rfl) fl_Desk_51 (by first | exact gAt hx rfl rfl) (by first | exact gRf hf rfl rfl) ?_
      refine gw_getf 1 rfl (gc k_Desk_row_0 25 rfl) fl_Desk_132 (by first | exact gAt hx rfl rfl) ?_
      rw [hl]
      refine gw_icmp_ge (tgt := 86) (gc k_Desk_row_0 26 rfl) rfl (by omega) (fun c47 => ?_) (fun c47 => ?_)
      · refine gw_aload_n (gc k_Desk_row_1 5 rfl) rfl rfl ?_
        refine gw_dup (gc k_Desk_row_1 6 rfl) rfl ?_
        refine gw_getf 11 rfl (gc k_Desk_row_1 7 rfl) fl_Desk_137 (by first | exact gAt hx rfl rfl) ?_
        rw [hw]
        refine gw_iconst (gc k_Desk_row_1 8 rfl) ?_
        refine gw_iadd (gc k_Desk_row_1 9 rfl) ?_
        refine gw_putIK 11 rfl (gc k_Desk_row_1 10 rfl) fl_Desk_137 (by first | exact gAt hx rfl rfl) hf (by rfl) (fun hf => ?_)
        refine gw_iinc_2 (gc k_Desk_row_1 11 rfl) rfl rfl ?_
        refine gw_goto (tgt := 26) (gc k_Desk_row_1 12 rfl) rfl ?_
        obtain rfl : m = 0 := by omega
        obtain rfl : o = 1 := by omega
        have hnew : (0 ≤ (t + 2) ∧ (t + 2) ≤ len + 1 ∧ 0 ≤ n ∧ n ≤ (t + 2)) ∧ ((0 : Int) = 0 ∨ (0 : Int) = 1) ∧ ((t + 2) + 2 * ((0 : Nat) : Int) + (0 : Int) = len ∨ ((0 : Nat) = 0 ∧ (0 : Int) = 0 ∧ (t + 2) = len + 1)) ∧ rwF (g 184) (0 : Nat) (t + 2) ρ n ((w + 1) + (0 : Int)) = rwR g ∧ bdX Λ sh ρ (gup g1 0 11 (w + 1)) 1 ∧ (gup g1 0 11 (w + 1)) 0 11 = (w + 1) ∧ rwJ g (gup g1 0 11 (w + 1)) ∧ gFin (gup g1 0 11 (w + 1)) := by
          refine ⟨by omega, by omega, by omega, by rw [← hE, Int.add_zero]; rfl, hX1.of (fun a k z => gup_a _ _ _ _ _ (by omega)), gup_s _ _ _ _, fun a k z z2 => ?_, hf⟩
          by_cases e : a = 0
          · subst e; rw [gup_k _ _ _ _ (fun q => z ⟨rfl, q⟩)]; exact hF _ k z z2
          · rw [gup_a _ _ _ _ _ e]; exact hF a k z z2
        exact ih (t + 2, n, w + 1, 0, 0, ρ, gup g1 0 11 (w + 1)) hnew (by show (len + 2 - (t + 2)).toNat < (len + 2 - t).toNat; omega)
      · have hb0 := htp.1.2 t (by omega) (by omega)
        have hb1 := htp.1.2 (t + 1) (by omega) (by omega)
        obtain ⟨m2, rfl⟩ : ∃ m2, m = m2 + 1 := ⟨m - 1, by omega⟩
        refine gw_aload_n (gc k_Desk_row_0 27 rfl) rfl rfl ?_
        refine gw_getref (gc k_Desk_row_0 28 rfl) fl_Desk_12 (by first | exact gAt hx rfl rfl) (by first | exact gRf hf rfl rfl) ?_
        refine gw_aload_n (gc k_Desk_row_0 29 rfl) rfl rfl ?_
        refine gw_getref (gc k_Desk_row_0 30 rfl) fl_Desk_51 (by first | exact gAt hx rfl rfl) (by first | exact gRf hf rfl rfl) ?_
        refine gw_getref (gc k_Desk_row_0 31 rfl) fl_Desk_140 (by first | exact gAt hx rfl rfl) (by first | exact gRf hf rfl rfl) ?_
        refine gw_iload_n (gc k_Desk_row_0 32 rfl) rfl ?_
        refine gw_iald (gc k_Desk_row_0 33 rfl) (by first | exact gAt hx rfl rfl) (by omega) ?_
        rw [hby t (by omega) (by omega)]
        refine gw_aload_n (gc k_Desk_row_0 34 rfl) rfl rfl ?_
        refine gw_getref (gc k_Desk_row_0 35 rfl) fl_Desk_51 (by first | exact gAt hx rfl rfl) (by first | exact gRf hf rfl rfl) ?_
        refine gw_getref (gc k_Desk_row_0 36 rfl) fl_Desk_140 (by first | exact gAt hx rfl rfl) (by first | exact gRf hf rfl rfl) ?_
        refine gw_iload_n (gc k_Desk_row_0 37 rfl) rfl ?_
        refine gw_iconst (gc k_Desk_row_0 38 rfl) ?_
        refine gw_iadd (gc k_Desk_row_0 39 rfl) ?_
        refine gw_iald (gc k_Desk_row_1 0 rfl) (by first | exact gAt hx rfl rfl) (by omega) ?_
        rw [hby (t + 1) (by omega) (by omega)]
        refine gw_xV1 (gc k_Desk_row_1 1 rfl) y_Board_add ln_Desk_90 (c_Board_add hx hf i1 (g 184 t % 256) (g 184 (t + 1) % 256) (by omega) (by omega) (by omega)) rfl rfl (by first | exact gAt hx rfl rfl) rfl rfl (fun r74 sh2 g74 hq74 => ?_)
        obtain ⟨hsh, hA⟩ := hq74
        subst sh2
        have hr : ∃ c, r74 = some (0, c) ∧ (c = 0 ∨ c = 1) ∧ (c = 0 → ¬ ((0 ≤ g 184 t % 256 ∧ g 184 t % 256 ≤ 24) ∧ (0 ≤ g 184 (t + 1) % 256 ∧ g 184 (t + 1) % 256 ≤ 24) ∧ ρ 41 < 12) ∧ g74 = g1) ∧ (c = 1 → ((0 ≤ g 184 t % 256 ∧ g 184 t % 256 ≤ 24) ∧ (0 ≤ g 184 (t + 1) % 256 ∧ g 184 (t + 1) % 256 ≤ 24) ∧ ρ 41 < 12) ∧ g74 = gup (gup (gup g1 (1 + 1) (g1 1 0) (g 184 t % 256)) (1 + 2) (g1 1 0) (g 184 (t + 1) % 256)) 1 0 (g1 1 0 + 1)) := by
          rw [hn1.1] at hA ⊢
          rcases hA with ⟨z, e, e2⟩ | ⟨z, e, e2⟩
          · exact ⟨0, e, Or.inl rfl, fun _ => ⟨z, e2⟩, fun y => absurd y (by decide)⟩
          · exact ⟨1, e, Or.inr rfl, fun y => absurd y (by decide), fun _ => ⟨z, e2⟩⟩
        obtain ⟨c, rfl, hc01, hc0, hc1⟩ := hr
        refine gw_if_eq (tgt := 86) (gc k_Desk_row_1 2 rfl) rfl (by omega) (fun c77 => ?_) (fun c77 => ?_)
        · obtain ⟨hcn, e74⟩ := hc0 (by omega)
          have e75 := e74.symm
          subst e75
          refine gw_aload_n (gc k_Desk_row_1 5 rfl) rfl rfl ?_
          refine gw_dup (gc k_Desk_row_1 6 rfl) rfl ?_
          refine gw_getf 11 rfl (gc k_Desk_row_1 7 rfl) fl_Desk_137 (by first | exact gAt hx rfl rfl) ?_
          rw [hw]
          refine gw_iconst (gc k_Desk_row_1 8 rfl) ?_
          refine gw_iadd (gc k_Desk_row_1 9 rfl) ?_
          refine gw_putIK 11 rfl (gc k_Desk_row_1 10 rfl) fl_Desk_137 (by first | exact gAt hx rfl rfl) hf (by rfl) (fun hf => ?_)
          refine gw_iinc_2 (gc k_Desk_row_1 11 rfl) rfl rfl ?_
          refine gw_goto (tgt := 26) (gc k_Desk_row_1 12 rfl) rfl ?_
          have hnew : (0 ≤ (t + 2) ∧ (t + 2) ≤ len + 1 ∧ 0 ≤ n ∧ n ≤ (t + 2)) ∧ (o = 0 ∨ o = 1) ∧ ((t + 2) + 2 * (m2 : Int) + o = len ∨ (m2 = 0 ∧ o = 0 ∧ (t + 2) = len + 1)) ∧ rwF (g 184) m2 (t + 2) ρ n ((w + 1) + o) = rwR g ∧ bdX Λ sh ρ (gup g1 0 11 (w + 1)) 1 ∧ (gup g1 0 11 (w + 1)) 0 11 = (w + 1) ∧ rwJ g (gup g1 0 11 (w + 1)) ∧ gFin (gup g1 0 11 (w + 1)) := by
            refine ⟨by omega, ho, by omega, by rw [← hE, rwF_n (fun z => hcn (by omega)), show w + o + 1 = w + 1 + o by omega], hX1.of (fun a k z => gup_a _ _ _ _ _ (by omega)), gup_s _ _ _ _, fun a k z z2 => ?_, hf⟩
            by_cases e : a = 0
            · subst e; rw [gup_k _ _ _ _ (fun q => z ⟨rfl, q⟩)]; exact hF _ k z z2
            · rw [gup_a _ _ _ _ _ e]; exact hF a k z z2
          exact ih (t + 2, n, w + 1, m2, o, ρ, gup g1 0 11 (w + 1)) hnew (by show (len + 2 - (t + 2)).toNat < (len + 2 - t).toNat; omega)
        · obtain ⟨hcy, e74⟩ := hc1 (by omega)
          have hfg : gFin g74 := by rw [e74]; exact ((hf.up rfl).up rfl).up rfl
          have hbt : g 184 t % 256 = g 184 t := by omega
          have hbt1 : g 184 (t + 1) % 256 = g 184 (t + 1) := by omega
          refine gw_iinc_1 (gc k_Desk_row_1 3 rfl) rfl rfl ?_
          refine gw_goto (tgt := 96) (gc k_Desk_row_1 4 rfl) rfl ?_
          refine gw_iinc_2 (gc k_Desk_row_1 11 rfl) rfl rfl ?_
          refine gw_goto (tgt := 26) (gc k_Desk_row_1 12 rfl) rfl ?_
          have hnew : (0 ≤ (t + 2) ∧ (t + 2) ≤ len + 1 ∧ 0 ≤ (n + 1) ∧ (n + 1) ≤ (t + 2)) ∧ (o = 0 ∨ o = 1) ∧ ((t + 2) + 2 * (m2 : Int) + o = len ∨ (m2 = 0 ∧ o = 0 ∧ (t + 2) = len + 1)) ∧ rwF (g 184) m2 (t + 2) (rAdd ρ (g 184 t) (g 184 (t + 1))) (n + 1) (w + o) = rwR g ∧ bdX Λ sh (rAdd ρ (g 184 t) (g 184 (t + 1))) g74 1 ∧ g74 0 11 = w ∧ rwJ g g74 ∧ gFin g74 := by
            refine ⟨by omega, ho, by omega, by rw [← hE, rwF_y (by omega)], ?_, ?_, fun a k z z2 => ?_, hfg⟩
            · rw [e74, hbt, hbt1]; exact hX1.add i1 (by omega) (by omega) (by omega)
            · rw [e74, gup_a _ _ _ _ _ (by decide), gup_a _ _ _ _ _ (by decide), gup_a _ _ _ _ _ (by decide)]; exact hw
            · rw [e74, gup_a _ _ _ _ _ (by omega), gup_a _ _ _ _ _ (by omega), gup_a _ _ _ _ _ (by omega)]; exact hF a k z z2
          exact ih (t + 2, n + 1, w, m2, o, rAdd ρ (g 184 t) (g 184 (t + 1)), g74) hnew (by show (len + 2 - (t + 2)).toNat < (len + 2 - t).toNat; omega)
  · refine gw_aload_n (gc k_Desk_row_0 4 rfl) rfl rfl ?_
    refine gw_bipush (gc k_Desk_row_0 5 rfl) (by decide) ?_
    refine gw_cV1 (gc k_Desk_row_0 6 rfl) y_Desk_answer ln_Desk_86 (c_Desk_answer hx hf (-6) (by decide)) rfl rfl (by first | exact gAt hx rfl rfl) rfl rfl ?_
    refine gw_ireturn (gc k_Desk_row_0 7 rfl) rfl ?_
    exact ⟨rfl, Or.inl ⟨c7, rfl, rfl⟩⟩
theorem rwR_q {g g1 : gM} (h1 : g1 184 = g 184) (h2 : g1 177 13 = g 177 13) (h3 : g1 179 = g 179) : rwR g1 = rwR g := by
  unfold rwR
  rw [h1, h2, h3]
theorem pr_row {sh : gS} {g : gM} {Λ : Int → List PC} (hR : relR Λ sh g) : prP f_Desk_row f_Model_row 2 2 0 0 [] Λ sh g := by
  refine (c_Desk_row hR.1.1 hR.1.2 hR).mono ?_
  have ht := hR.2.2.1
  rintro x s1 g1 ⟨rfl, ⟨z, rfl, rfl⟩ | ⟨z, rfl, M, rfl, hXn, h13, h149, h011, hfM, hF⟩⟩
  · have c : ∀ a k, 177 ≤ a → ansM g (-6) a k = g a k := fun a k q => ansM_k _ _ (by omega) (by omega)
    have e13 : ansM g (-6) 177 13 = 0 := (c _ _ (by decide)).trans z
    have e179 : ansM g (-6) 179 = g 179 := funext fun y => c _ _ (by decide)
    have htk : tapeOK (ansM g (-6)) := by
      refine ⟨by rw [e13]; decide, fun j p q => ?_⟩
      rw [c _ _ (by decide)]; exact ht.1.2 j p q
    refine ⟨(0, -6), rfl, Nat.zero_le _, hR.1.1, (c_Model_row hR.1.1 (ansM_fin hR.1.2 (-6)) (by rw [e179]; exact hR.ro) htk).mono ?_⟩
    rintro y s2 g2 ⟨rfl, ⟨w, rfl, rfl⟩ | ⟨w, -⟩⟩
    · rw [gup_id e13]
      refine ⟨rfl, app0 _, Λ, ?_⟩
      have q := refM_at (ansM g (-6)) (-6)
      have hW : mdW (ansM g (-6)) (refM (ansM g (-6)) (-6)) := fun a k z => q.2.2 a k (fun e => by unfold mNum at z; omega) (by omega)
      refine hR.fin1 (v := -6) hR.2.1.1 hR.2.1.2 hR.1.2 (fun _ _ _ => rfl) hW (by rw [ref_os, ans_os]) (rf_bad hR.2.2.2.1 (by decide) (fun _ => rfl) hW q.1 (fun k => ?_)) (fun a k z => ?_)
      · rw [q.2.1, ansM_k _ _ (by omega) (by decide), ansM_k _ _ (by omega) (by decide)]
      · rw [q.2.2 a k (by omega) (by omega), ansM_k _ _ (by omega) (by omega)]
    · exact absurd e13 w
  · have c : ∀ a k, 150 ≤ a → a ≠ 175 → ansM M 0 a k = g a k := fun a k q q2 => (ansM_k _ _ (by omega) q2).trans (hF a k (by omega) (by omega) (by omega) (by omega))
    have e13 : ansM M 0 177 13 = g 177 13 := c _ _ (by decide) (by decide)
    have e179 : ansM M 0 179 = g 179 := funext fun y => c _ _ (by decide) (by decide)
    have e184 : ansM M 0 184 = g 184 := funext fun y => c _ _ (by decide) (by decide)
    have htk : tapeOK (ansM M 0) := by
      refine ⟨by rw [e13]; exact ht.1.1, fun j p q => ?_⟩
      rw [e184]; exact ht.1.2 j p q
    refine ⟨(0, (rwR g).2.1), rfl, Nat.zero_le _, hR.1.1, (c_Model_row hR.1.1 (ansM_fin hfM 0) (by rw [e179]; exact hR.ro) htk).mono ?_⟩
    rintro y s2 g2 ⟨rfl, ⟨w, -⟩ | ⟨w, rfl, rfl⟩⟩
    · rw [e13] at w; exact absurd w z
    · rw [rwR_q e184 e13 e179]
      refine ⟨rfl, app0 _, Λ, ?_⟩
      obtain ⟨g1, hg1⟩ : ∃ G, G = ansM M 0 := ⟨_, rfl⟩
      obtain ⟨N, hN⟩ : ∃ N, N = gup (rwM g1 (rwR g).1 (rwR g).2.2) 177 33 0 := ⟨_, rfl⟩
      have eG : setM (rwM (ansM M 0) (rwR g).1 (rwR g).2.2) = goodM N := by rw [hN, hg1]; rfl
      rw [eG]
      have q := goodM_at N
      have cN : ∀ a k, ¬ (a = 177 ∧ (k = 6 ∨ k = 13 ∨ k = 33)) → a ≠ 179 → N a k = g1 a k := fun a k q1 q2 => by
        rw [hN]
        by_cases e : a = 177
        · subst e
          rw [gup_k _ _ _ _ (by omega)]
          unfold rwM
          rw [gup_k _ _ _ _ (by omega), gup_k _ _ _ _ (by omega), gfr_a _ _ _ _ (by decide)]
        · rw [gup_a _ _ _ _ _ e]
          unfold rwM
          rw [gup_a _ _ _ _ _ e, gup_a _ _ _ _ _ e, gfr_a _ _ _ _ q2]
      have n6 : N 177 6 = (rwR g).2.2 := by rw [hN, gup_k _ _ _ _ (by decide)]; exact rwM_6 _ _ _
      have n13 : N 177 13 = 0 := by rw [hN, gup_k _ _ _ _ (by decide)]; unfold rwM; rw [gup_k _ _ _ _ (by decide), gup_s]
      have n33 : N 177 33 = 0 := by rw [hN, gup_s]
      have n179 : N 179 = (rwR g).1 := by rw [hN, gup_fn _ _ _ _ (by decide)]; exact rwM_179 _ _ _
      have cG : ∀ a k, ¬ (a = 177 ∧ (k = 0 ∨ k = 6 ∨ k = 13 ∨ k = 33)) → a ≠ 179 → goodM N a k = ansM M 0 a k := fun a k q1 q2 => by
        rw [q.2 a k (by omega), cN a k (by omega) q2, hg1]
      have hW : mdW (ansM M 0) (goodM N) := fun a k z => cG a k (fun e => by unfold mNum at z; omega) (by omega)
      have hm := ro_many hR.ro
      refine hR.fin2 (v := 0) (σ := ((rwR g).1, g 190, 0)) ⟨hXn, trI.zero _ _ h13⟩ (hR.2.1.2.keep (fun k => hF _ _ (by omega) (by decide) (by omega) (by omega))) hfM (fun a k z => hF a k (by unfold cS2 cS1 at z; omega) (by unfold cS2 cS1 at z; omega) (by unfold cS2 cS1 at z; omega) (by unfold cS2 cS1 at z; omega)) hW ?_ (rf_good hR.2.2.2.1 (fun k => hF _ _ (by omega) (by decide) (by omega) (by omega)) hW q.1 (fun k => ?_)) ⟨⟨?_, fun j a b => ?_⟩, ?_, fun j a b => ?_⟩ ⟨?_, ?_, ?_⟩ (fun a k z => ?_)
      · rw [good_os]
        unfold osM
        rw [n179, n33, show N 190 = g 190 from funext fun y => (cN _ _ (by omega) (by decide)).trans (by rw [hg1]; exact c _ _ (by decide) (by decide))]
      · rw [cG _ _ (by omega) (by decide)]; exact c _ _ (by decide) (by decide)
      · rw [q.2 _ _ (by omega), n13]; decide
      · rw [cG _ _ (by omega) (by decide), c _ _ (by decide) (by decide)]; exact ht.1.2 j a b
      · rw [cG _ _ (by omega) (by decide), ansM_k _ _ (by omega) (by decide), h149, q.2 _ _ (by omega), n13]
      · rw [cG _ _ (by omega) (by decide), c _ _ (by decide) (by decide), cG _ _ (by omega) (by decide), c _ _ (by decide) (by decide)]; exact ht.2.2 j a b
      · rw [cG _ _ (by omega) (by decide), ansM_k _ _ (by omega) (by decide), h011, q.2 _ _ (by omega), n6]
      · rw [cG _ _ (by omega) (by decide), ansM_k _ _ (by omega) (by decide), hF _ _ (by omega) (by decide) (by omega) (by omega), cG _ _ (by omega) (by decide), c _ _ (by decide) (by decide)]; exact hR.2.2.2.2.1.2.1
      · rw [cG _ _ (by omega) (by decide), ansM_k _ _ (by omega) (by decide), hF _ _ (by omega) (by decide) (by omega) (by omega), cG _ _ (by omega) (by decide), c _ _ (by decide) (by decide)]; exact hR.2.2.2.2.1.2.2
      · rw [cG a k (by omega) (by omega)]; exact c a k (by omega) (by omega)
