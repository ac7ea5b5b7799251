/-! ===== the desk's questions by loops ===== -/
theorem cnF_01 (r : Int → Int) (d h : Int) : ∀ (m : Nat) (n : Int), cnF r d h m n = 0 ∨ cnF r d h m n = 1
  | 0, n => Or.inr rfl
  | m + 1, n => by
    unfold cnF
    split
    · split
      · exact Or.inl rfl
      · exact cnF_01 r d h m (n + 1)
    · exact Or.inl rfl
theorem gor_gor0 (x y : Int) : gor (gor x y) 0 = gor x y := by
  unfold gor
  simp [Int32.ofInt_toInt]
theorem parN_0 (r : Int → Int) (a : Int) : ∀ n : Nat, gor (parN r a n) 0 = parN r a n
  | 0 => gor_0 (a := 0) (by decide)
  | n + 1 => gor_gor0 _ _
theorem parN_y {r : Int → Int} {a i : Int} (hi : 1 ≤ i) (h : parP r a i) : parN r a (i + 1 - 1).toNat = gor (parN r a (i - 1).toNat) (gshl 1 i) := by
  obtain ⟨m, rfl⟩ : ∃ m : Nat, i = (m : Int) + 1 := ⟨(i - 1).toNat, by omega⟩
  rw [show ((m : Int) + 1 + 1 - 1).toNat = m + 1 by omega, show ((m : Int) + 1 - 1).toNat = m by omega]
  show gor _ (if parP r a ((m : Int) + 1) then gshl 1 ((m : Int) + 1) else 0) = _
  rw [if_pos h]
theorem parN_n {r : Int → Int} {a i : Int} (hi : 1 ≤ i) (h : ¬ parP r a i) : parN r a (i + 1 - 1).toNat = parN r a (i - 1).toNat := by
  obtain ⟨m, rfl⟩ : ∃ m : Nat, i = (m : Int) + 1 := ⟨(i - 1).toNat, by omega⟩
  rw [show ((m : Int) + 1 + 1 - 1).toNat = m + 1 by omega, show ((m : Int) + 1 - 1).toNat = m by omega]
  show gor _ (if parP r a ((m : Int) + 1) then gshl 1 ((m : Int) + 1) else 0) = _
  rw [if_neg h, parN_0]
theorem ap_iv {Λ : Int → List PC} {sh : gS} {g : gM} {r : Int → Int} (hX : bdX Λ sh r g 1) {i : Int} (hi : 0 ≤ i ∧ i < r 41) : (if g (1 + 2) i - g (1 + 1) i < 0 then -(g (1 + 2) i - g (1 + 1) i) else g (1 + 2) i - g (1 + 1) i) % 12 = ivM r i := by
  rw [(hX.note hi).1.1, (hX.note hi).2.1]
  rfl
theorem ivM_bd (r : Int → Int) (n : Int) : 0 ≤ ivM r n ∧ ivM r n < 12 := by unfold ivM; omega
theorem dqQ.sl {Λ : Int → List PC} {sh : gS} {g g2 : gM} (h : relR Λ sh g) (hF : ∀ a y, a ≠ 176 → g2 a y = g a y) (hf : gFin g2) (v : gV) : dqQ Λ sh g v (some v) sh g2 := ⟨rfl, rfl, fun a k z => hF a k (fun e => z (by unfold qS; omega)), hf, h.S.keep (fun a k x y => hF a k (by omega))⟩
set_option maxHeartbeats 1000000 in
theorem c_Desk_canon {sh : gS} {g : gM} (hx : gFix sh) (hf : gFin g) {Λ : Int → List PC} (hR : relR Λ sh g) (d : Int) (i : Int) (hd : (-2147483648 ≤ d ∧ d ≤ 2147483647)) (hi : (-2147483648 ≤ i ∧ i ≤ 2147483647)) : gTri f_Desk_canon 5 0 0 [(2, 0), (0, d), (0, i)] sh g (fun x s2 g2 => dqQ Λ sh g (0, canR (g 179) d i) x s2 g2) := by
  have hro := hR.ro
  have hm := ro_many hro
  have h0 := hR.X.nums.1.1
  have hX := hR.X
  refine gTri.of (by decide +kernel) rfl ?_
  show gWP f_Desk_canon _ _ _ 0 [(2, 0), (0, d), (0, i), (9, 0), (9, 0)] [] sh g _
  refine gw_iload_n (gc k_Desk_canon_0 0 rfl) rfl ?_
  refine gw_iconst (gc k_Desk_canon_0 1 rfl) ?_
  refine gw_icmp_lt (tgt := 21) (gc k_Desk_canon_0 2 rfl) rfl (by omega) (fun c2 => ?_) (fun c2 => ?_)
  · refine gw_sipush (gc k_Desk_canon_0 11 rfl) (by decide) ?_
    refine gw_ireturn (gc k_Desk_canon_0 12 rfl) rfl ?_
    have e : canR (g 179) d i = -1000 := by
      unfold canR; rw [if_neg (by omega)]
    rw [e]
    exact dqQ.rf hR _
  · refine gw_iload_n (gc k_Desk_canon_0 3 rfl) rfl ?_
    refine gw_aload_n (gc k_Desk_canon_0 4 rfl) rfl rfl ?_
    refine gw_getref (gc k_Desk_canon_0 5 rfl) fl_Desk_12 (by first | exact gAt hx rfl rfl) (by first | exact gRf hf rfl rfl) ?_
    refine gw_getf 0 rfl (gc k_Desk_canon_0 6 rfl) fl_Desk_103 (by first | exact gAt hx rfl rfl) ?_
    rw [h0]
    refine gw_icmp_ge (tgt := 21) (gc k_Desk_canon_0 7 rfl) rfl (by omega) (fun c13 => ?_) (fun c13 => ?_)
    · refine gw_sipush (gc k_Desk_canon_0 11 rfl) (by decide) ?_
      refine gw_ireturn (gc k_Desk_canon_0 12 rfl) rfl ?_
      have e : canR (g 179) d i = -1000 := by
        unfold canR; rw [if_neg (by omega)]
      rw [e]
      exact dqQ.rf hR _
    · refine gw_iload_n (gc k_Desk_canon_0 8 rfl) rfl ?_
      refine gw_iconst (gc k_Desk_canon_0 9 rfl) ?_
      refine gw_icmp_ge (tgt := 25) (gc k_Desk_canon_0 10 rfl) rfl (by omega) (fun c18 => ?_) (fun c18 => ?_)
      · refine gw_iconst (gc k_Desk_canon_0 13 rfl) ?_
        refine gw_istore_3 (gc k_Desk_canon_0 14 rfl) rfl rfl ?_
        refine gw_bipush (gc k_Desk_canon_0 15 rfl) (by decide) ?_
        refine gw_istore_4 (gc k_Desk_canon_0 16 rfl) rfl rfl ?_
        refine gwloop (σ := Int × Int × gM) (fun zs => (-24 ≤ (zs.1) ∧ (zs.1) ≤ 25) ∧ (0 ≤ (zs.2.1) ∧ (zs.2.1) ≤ (zs.1) + 24) ∧ jgF g (zs.2.2) ∧ gFin (zs.2.2) ∧ cnL (g 179) d i (25 - (zs.1)).toNat (zs.1) (zs.2.1) = canR (g 179) d i) (fun zs => (25 - (zs.1)).toNat) (fun zs => [(2, 0), (0, d), (0, i), (0, (zs.2.1)), (0, (zs.1))]) (fun zs => (zs.2.2)) (-24, 0, g) (show (-24 ≤ (-24 : Int) ∧ (-24 : Int) ≤ 25) ∧ (0 ≤ (0 : Int) ∧ (0 : Int) ≤ (-24 : Int) + 24) ∧ jgF g g ∧ gFin g ∧ cnL (g 179) d i (25 - (-24 : Int)).toNat (-24 : Int) (0 : Int) = canR (g 179) d i from ⟨by decide, by decide, jgF.rf g, hf, by unfold canR; rw [if_pos (by omega)]; rfl⟩) rfl rfl (fun zs hI ih => ?_)
        obtain ⟨h, n, g1⟩ := zs
        replace hI : (-24 ≤ h ∧ h ≤ 25) ∧ (0 ≤ n ∧ n ≤ h + 24) ∧ jgF g g1 ∧ gFin g1 ∧ cnL (g 179) d i (25 - h).toNat h n = canR (g 179) d i := hI
        obtain ⟨hh, hn, hj, hf, hE⟩ := hI
        show gWP _ _ _ _ _ [(2, 0), (0, d), (0, i), (0, n), (0, h)] [] _ (g1) _
        have hX1 := hX.jg i1 hj
        refine gw_iload (gc k_Desk_canon_0 17 rfl) rfl ?_
        refine gw_bipush (gc k_Desk_canon_0 18 rfl) (by decide) ?_
        refine gw_icmp_ge (tgt := 75) (gc k_Desk_canon_0 19 rfl) rfl (by omega) (fun c35 => ?_) (fun c35 => ?_)
        · refine gw_iload_n (gc k_Desk_canon_0 37 rfl) rfl ?_
          refine gw_iconst (gc k_Desk_canon_0 38 rfl) ?_
          refine gw_icmp_ne (tgt := 84) (gc k_Desk_canon_0 39 rfl) rfl (by omega) (fun c77 => ?_) (fun c77 => ?_)
          · refine gw_sipush (gc k_Desk_canon_1 2 rfl) (by decide) ?_
            refine gw_ireturn (gc k_Desk_canon_1 3 rfl) rfl ?_
            have e : canR (g 179) d i = -1000 := by
              rw [← hE, show (25 - h).toNat = 0 by omega]
              exact if_neg c77
            rw [e]
            exact dqQ.jg hR hj _
          · refine gw_iload_n (gc k_Desk_canon_1 0 rfl) rfl ?_
            refine gw_goto (tgt := 87) (gc k_Desk_canon_1 1 rfl) rfl ?_
            refine gw_ireturn (gc k_Desk_canon_1 3 rfl) rfl ?_
            have e : canR (g 179) d i = n := by
              rw [← hE, show (25 - h).toNat = 0 by omega]
              exact if_pos c77
            rw [e]
            exact dqQ.jg hR hj _
        · refine gw_aload_n (gc k_Desk_canon_0 20 rfl) rfl rfl ?_
          refine gw_getref (gc k_Desk_canon_0 21 rfl) fl_Desk_19 (by first | exact gAt hx rfl rfl) (by first | exact gRf hf rfl rfl) ?_
          refine gw_aload_n (gc k_Desk_canon_0 22 rfl) rfl rfl ?_
          refine gw_getref (gc k_Desk_canon_0 23 rfl) fl_Desk_12 (by first | exact gAt hx rfl rfl) (by first | exact gRf hf rfl rfl) ?_
          refine gw_iload_n (gc k_Desk_canon_0 24 rfl) rfl ?_
          refine gw_iload (gc k_Desk_canon_0 25 rfl) rfl ?_
          refine gw_xV1 (gc k_Desk_canon_0 26 rfl) y_Judge_goesWithItself ln_Desk_230 (c_Judge_goesWithItself hx hf i1 hX1 d h (by omega) (by omega)) rfl rfl (by first | exact gAt hx rfl rfl) rfl rfl (fun r49 sh2 g49 hq49 => ?_)
          obtain ⟨rfl, hsh, hj2⟩ := hq49
          subst sh2
          have hf := hj2.fin hf
          have hc01 : cnC (g 179) d h = 0 ∨ cnC (g 179) d h = 1 := cnF_01 _ _ _ _ _
          refine gw_if_ne (tgt := 58) (gc k_Desk_canon_0 27 rfl) rfl (by omega) (fun c52 => ?_) (fun c52 => ?_)
          · refine gw_iload_n (gc k_Desk_canon_0 29 rfl) rfl ?_
            refine gw_iload_n (gc k_Desk_canon_0 30 rfl) rfl ?_
            refine gw_icmp_ne (tgt := 66) (gc k_Desk_canon_0 31 rfl) rfl (by omega) (fun c60 => ?_) (fun c60 => ?_)
            · refine gw_iinc_3 (gc k_Desk_canon_0 34 rfl) rfl rfl ?_
              refine gw_iinc_4 (gc k_Desk_canon_0 35 rfl) rfl rfl ?_
              refine gw_goto (tgt := 31) (gc k_Desk_canon_0 36 rfl) rfl ?_
              have hnew : (-24 ≤ (h + 1) ∧ (h + 1) ≤ 25) ∧ (0 ≤ (n + 1) ∧ (n + 1) ≤ (h + 1) + 24) ∧ jgF g g49 ∧ gFin g49 ∧ cnL (g 179) d i (25 - (h + 1)).toNat (h + 1) (n + 1) = canR (g 179) d i := ⟨by omega, by omega, hj.tr hj2, hf, by rw [← hE, show (25 - h).toNat = (25 - (h + 1)).toNat + 1 by omega, cnL_c (by omega) c60]⟩
              exact ih (h + 1, n + 1, g49) hnew (by show (25 - (h + 1)).toNat < (25 - h).toNat; omega)
            · refine gw_iload (gc k_Desk_canon_0 32 rfl) rfl ?_
              refine gw_ireturn (gc k_Desk_canon_0 33 rfl) rfl ?_
              have e : canR (g 179) d i = h := by
                rw [← hE, show (25 - h).toNat = (25 - (h + 1)).toNat + 1 by omega, cnL_b (by omega) c60]
              rw [e]
              exact dqQ.jg hR (hj.tr hj2) _
          · refine gw_goto (tgt := 69) (gc k_Desk_canon_0 28 rfl) rfl ?_
            refine gw_iinc_4 (gc k_Desk_canon_0 35 rfl) rfl rfl ?_
            refine gw_goto (tgt := 31) (gc k_Desk_canon_0 36 rfl) rfl ?_
            have hnew : (-24 ≤ (h + 1) ∧ (h + 1) ≤ 25) ∧ (0 ≤ n ∧ n ≤ (h + 1) + 24) ∧ jgF g g49 ∧ gFin g49 ∧ cnL (g 179) d i (25 - (h + 1)).toNat (h + 1) n = canR (g 179) d i := ⟨by omega, by omega, hj.tr hj2, hf, by rw [← hE, show (25 - h).toNat = (25 - (h + 1)).toNat + 1 by omega, cnL_a (by omega)]⟩
            exact ih (h + 1, n, g49) hnew (by show (25 - (h + 1)).toNat < (25 - h).toNat; omega)
      · refine gw_sipush (gc k_Desk_canon_0 11 rfl) (by decide) ?_
        refine gw_ireturn (gc k_Desk_canon_0 12 rfl) rfl ?_
        have e : canR (g 179) d i = -1000 := by
          unfold canR; rw [if_neg (by omega)]
        rw [e]
        exact dqQ.rf hR _
set_option maxHeartbeats 1000000 in
theorem c_Desk_parallels {sh : gS} {g : gM} (hx : gFix sh) (hf : gFin g) {Λ : Int → List PC} (hR : relR Λ sh g) (a : Int) (ha : (-2147483648 ≤ a ∧ a ≤ 2147483647)) : gTri f_Desk_parallels 2 0 0 [(2, 0), (0, a)] sh g (fun x s2 g2 => dqQ Λ sh g (0, parR (g 179) a) x s2 g2) := by
  have hro := hR.ro
  have hm := ro_many hro
  have h0 := hR.X.nums.1.1
  have hX := hR.X
  refine gTri.of (by decide +kernel) rfl ?_
  show gWP f_Desk_parallels _ _ _ 0 [(2, 0), (0, a), (9, 0), (9, 0), (9, 0)] [] sh g _
  refine gw_iload_n (gc k_Desk_parallels_0 0 rfl) rfl ?_
  refine gw_if_lt (tgt := 10) (gc k_Desk_parallels_0 1 rfl) rfl (by omega) (fun c1 => ?_) (fun c1 => ?_)
  · refine gw_iconst (gc k_Desk_parallels_0 5 rfl) ?_
    refine gw_ireturn (gc k_Desk_parallels_0 6 rfl) rfl ?_
    have e : parR (g 179) a = -1 := by
      unfold parR; rw [if_neg (by omega)]
    rw [e]
    exact dqQ.rf hR _
  · refine gw_iload_n (gc k_Desk_parallels_0 2 rfl) rfl ?_
    refine gw_bipush (gc k_Desk_parallels_0 3 rfl) (by decide) ?_
    refine gw_icmp_lt (tgt := 12) (gc k_Desk_parallels_0 4 rfl) rfl (by omega) (fun c7 => ?_) (fun c7 => ?_)
    · refine gw_iconst (gc k_Desk_parallels_0 7 rfl) ?_
      refine gw_istore_2 (gc k_Desk_parallels_0 8 rfl) rfl rfl ?_
      refine gw_iconst (gc k_Desk_parallels_0 9 rfl) ?_
      refine gw_istore_3 (gc k_Desk_parallels_0 10 rfl) rfl rfl ?_
      refine gwloop (σ := Int × Int × gV) (fun zs => (1 ≤ (zs.1) ∧ ((zs.1) = 1 ∨ (zs.1) ≤ g 179 41)) ∧ (zs.2.1) = parN (g 179) a ((zs.1) - 1).toNat) (fun zs => (13 - (zs.1)).toNat) (fun zs => [(2, 0), (0, a), (0, (zs.2.1)), (0, (zs.1)), (zs.2.2)]) (fun zs => g) (1, 0, (9, 0)) (show (1 ≤ (1 : Int) ∧ ((1 : Int) = 1 ∨ (1 : Int) ≤ g 179 41)) ∧ (0 : Int) = parN (g 179) a ((1 : Int) - 1).toNat from ⟨by omega, rfl⟩) rfl rfl (fun zs hI ih => ?_)
      obtain ⟨i, acc, x4⟩ := zs
      replace hI : (1 ≤ i ∧ (i = 1 ∨ i ≤ g 179 41)) ∧ acc = parN (g 179) a (i - 1).toNat := hI
      obtain ⟨hi, hacc⟩ := hI
      show gWP _ _ _ _ _ [(2, 0), (0, a), (0, acc), (0, i), x4] [] _ (g) _
      
      refine gw_iload_n (gc k_Desk_parallels_0 11 rfl) rfl ?_
      refine gw_aload_n (gc k_Desk_parallels_0 12 rfl) rfl rfl ?_
      refine gw_getref (gc k_Desk_parallels_0 13 rfl) fl_Desk_12 (by first | exact gAt hx rfl rfl) (by first | exact gRf hf rfl rfl) ?_
      refine gw_getf 0 rfl (gc k_Desk_parallels_0 14 rfl) fl_Desk_103 (by first | exact gAt hx rfl rfl) ?_
      rw [h0]
      refine gw_icmp_ge (tgt := 100) (gc k_Desk_parallels_0 15 rfl) rfl (by omega) (fun c24 => ?_) (fun c24 => ?_)
      · refine gw_iload_n (gc k_Desk_parallels_1 17 rfl) rfl ?_
        refine gw_ireturn (gc k_Desk_parallels_1 18 rfl) rfl ?_
        have e : parR (g 179) a = acc := by
          unfold parR; rw [if_pos (by omega), hacc, show (g 179 41 - 1).toNat = (i - 1).toNat by omega]
        rw [e]
        exact dqQ.rf hR _
      · refine gw_join0 58 (fun v => v = bi (ivM (g 179) i = a ∧ ivM (g 179) (i - 1) = a)) (fun v27 hv27 => ?_) (fun kj27 => ?_)
        · subst hv27
          refine gw_istore_4 (gc k_Desk_parallels_0 33 rfl) rfl rfl ?_
          refine gw_iload (gc k_Desk_parallels_0 34 rfl) rfl ?_
          refine gw_beq (tgt := 94) (gc k_Desk_parallels_0 35 rfl) rfl (fun c62 => ?_) (fun c62 => ?_)
          · refine gw_iinc_3 (gc k_Desk_parallels_1 15 rfl) rfl rfl ?_
            refine gw_goto (tgt := 16) (gc k_Desk_parallels_1 16 rfl) rfl ?_
            have hnew : (1 ≤ (i + 1) ∧ ((i + 1) = 1 ∨ (i + 1) ≤ g 179 41)) ∧ acc = parN (g 179) a ((i + 1) - 1).toNat := ⟨by omega, by rw [hacc, parN_n hi.1 (fun z => c62 ⟨z.1, z.2.1⟩)]⟩
            exact ih (i + 1, acc, _) hnew (by show (13 - (i + 1)).toNat < (13 - i).toNat; omega)
          · refine gw_aload_n (gc k_Desk_parallels_0 36 rfl) rfl rfl ?_
            refine gw_getref (gc k_Desk_parallels_0 37 rfl) fl_Desk_12 (by first | exact gAt hx rfl rfl) (by first | exact gRf hf rfl rfl) ?_
            refine gw_getref (gc k_Desk_parallels_0 38 rfl) fl_Desk_112 (by first | exact gAt hx rfl rfl) (by first | exact gRf hf rfl rfl) ?_
            refine gw_iload_n (gc k_Desk_parallels_0 39 rfl) rfl ?_
            refine gw_iald (gc k_Desk_parallels_1 0 rfl) (by first | exact gAt hx rfl rfl) (by omega) ?_
            refine gw_aload_n (gc k_Desk_parallels_1 1 rfl) rfl rfl ?_
            refine gw_getref (gc k_Desk_parallels_1 2 rfl) fl_Desk_12 (by first | exact gAt hx rfl rfl) (by first | exact gRf hf rfl rfl) ?_
            refine gw_getref (gc k_Desk_parallels_1 3 rfl) fl_Desk_112 (by first | exact gAt hx rfl rfl) (by first | exact gRf hf rfl rfl) ?_
            refine gw_iload_n (gc k_Desk_parallels_1 4 rfl) rfl ?_
            refine gw_iconst (gc k_Desk_parallels_1 5 rfl) ?_
            refine gw_isub (gc k_Desk_parallels_1 6 rfl) ?_
            refine gw_iald (gc k_Desk_parallels_1 7 rfl) (by first | exact gAt hx rfl rfl) (by omega) ?_
            rw [show g 3 i = g 179 i from (hX.note (i := i) (by omega)).2.1, show g 3 (i - 1) = g 179 (i - 1) from (hX.note (i := i - 1) (by omega)).2.1]
            have hp1 := (hX.note (i := i) (by omega)).2.2
            have hp2 := (hX.note (i := i - 1) (by omega)).2.2
            refine gw_icmp_eq (tgt := 94) (gc k_Desk_parallels_1 8 rfl) rfl (by omega) (fun c85 => ?_) (fun c85 => ?_)
            · refine gw_iinc_3 (gc k_Desk_parallels_1 15 rfl) rfl rfl ?_
              refine gw_goto (tgt := 16) (gc k_Desk_parallels_1 16 rfl) rfl ?_
              have hnew : (1 ≤ (i + 1) ∧ ((i + 1) = 1 ∨ (i + 1) ≤ g 179 41)) ∧ acc = parN (g 179) a ((i + 1) - 1).toNat := ⟨by omega, by rw [hacc, parN_n hi.1 (fun z => z.2.2 c85)]⟩
              exact ih (i + 1, acc, _) hnew (by show (13 - (i + 1)).toNat < (13 - i).toNat; omega)
            · refine gw_iload_n (gc k_Desk_parallels_1 9 rfl) rfl ?_
              refine gw_iconst (gc k_Desk_parallels_1 10 rfl) ?_
              refine gw_iload_n (gc k_Desk_parallels_1 11 rfl) rfl ?_
              refine gw_ishl (gc k_Desk_parallels_1 12 rfl) ?_
              refine gw_ior (gc k_Desk_parallels_1 13 rfl) ?_
              refine gw_istore_2 (gc k_Desk_parallels_1 14 rfl) rfl rfl ?_
              refine gw_iinc_3 (gc k_Desk_parallels_1 15 rfl) rfl rfl ?_
              refine gw_goto (tgt := 16) (gc k_Desk_parallels_1 16 rfl) rfl ?_
              have hnew : (1 ≤ (i + 1) ∧ ((i + 1) = 1 ∨ (i + 1) ≤ g 179 41)) ∧ (gor acc (gshl 1 i)) = parN (g 179) a ((i + 1) - 1).toNat := ⟨by omega, by rw [hacc, parN_y hi.1 ⟨c62.1, c62.2, c85⟩]⟩
              exact ih (i + 1, gor acc (gshl 1 i), _) hnew (by show (13 - (i + 1)).toNat < (13 - i).toNat; omega)
        · refine gw_aload_n (gc k_Desk_parallels_0 16 rfl) rfl rfl ?_
          refine gw_getref (gc k_Desk_parallels_0 17 rfl) fl_Desk_12 (by first | exact gAt hx rfl rfl) (by first | exact gRf hf rfl rfl) ?_
          refine gw_iload_n (gc k_Desk_parallels_0 18 rfl) rfl ?_
          refine gw_cV1 (gc k_Desk_parallels_0 19 rfl) y_Board_apart ln_Desk_234 (c_Board_apart hx hf i1 i (by omega) (by rw [(hX.note (i := i) (by omega)).1.1]; exact (hX.note (i := i) (by omega)).1.2) (by rw [(hX.note (i := i) (by omega)).2.1]; exact (hX.note (i := i) (by omega)).2.2)) rfl rfl (by first | exact gAt hx rfl rfl) rfl rfl ?_
          rw [ap_iv hX (i := i) (by omega)]
          have hb1 := ivM_bd (g 179) i
          refine gw_iload_n (gc k_Desk_parallels_0 20 rfl) rfl ?_
          refine gw_icmp_ne (tgt := 57) (gc k_Desk_parallels_0 21 rfl) rfl (by omega) (fun c36 => ?_) (fun c36 => ?_)
          · refine gw_iconst (gc k_Desk_parallels_0 32 rfl) ?_
            exact kj27 _ ((by first | exact (bi_1 (by omega)).symm | exact (bi_0 (by omega)).symm))
          · refine gw_aload_n (gc k_Desk_parallels_0 22 rfl) rfl rfl ?_
            refine gw_getref (gc k_Desk_parallels_0 23 rfl) fl_Desk_12 (by first | exact gAt hx rfl rfl) (by first | exact gRf hf rfl rfl) ?_
            refine gw_iload_n (gc k_Desk_parallels_0 24 rfl) rfl ?_
            refine gw_iconst (gc k_Desk_parallels_0 25 rfl) ?_
            refine gw_isub (gc k_Desk_parallels_0 26 rfl) ?_
            refine gw_cV1 (gc k_Desk_parallels_0 27 rfl) y_Board_apart ln_Desk_234 (c_Board_apart hx hf i1 (i - 1) (by omega) (by rw [(hX.note (i := i - 1) (by omega)).1.1]; exact (hX.note (i := i - 1) (by omega)).1.2) (by rw [(hX.note (i := i - 1) (by omega)).2.1]; exact (hX.note (i := i - 1) (by omega)).2.2)) rfl rfl (by first | exact gAt hx rfl rfl) rfl rfl ?_
            rw [ap_iv hX (i := i - 1) (by omega)]
            have hb2 := ivM_bd (g 179) (i - 1)
            refine gw_iload_n (gc k_Desk_parallels_0 28 rfl) rfl ?_
            refine gw_icmp_ne (tgt := 57) (gc k_Desk_parallels_0 29 rfl) rfl (by omega) (fun c50 => ?_) (fun c50 => ?_)
            · refine gw_iconst (gc k_Desk_parallels_0 32 rfl) ?_
              exact kj27 _ ((by first | exact (bi_1 (by omega)).symm | exact (bi_0 (by omega)).symm))
            · refine gw_iconst (gc k_Desk_parallels_0 30 rfl) ?_
              refine gw_goto (tgt := 58) (gc k_Desk_parallels_0 31 rfl) rfl ?_
              exact kj27 _ ((by first | exact (bi_1 (by omega)).symm | exact (bi_0 (by omega)).symm))
    · refine gw_iconst (gc k_Desk_parallels_0 5 rfl) ?_
      refine gw_ireturn (gc k_Desk_parallels_0 6 rfl) rfl ?_
      have e : parR (g 179) a = -1 := by
        unfold parR; rw [if_neg (by omega)]
      rw [e]
      exact dqQ.rf hR _
set_option maxHeartbeats 1000000 in
theorem c_Desk_listen {sh : gS} {g : gM} (hx : gFix sh) (hf : gFin g) {Λ : Int → List PC} (hR : relR Λ sh g) (k : Int) (hk : (-2147483648 ≤ k ∧ k ≤ 2147483647)) : gTri f_Desk_listen 7 0 0 [(2, 0), (0, k)] sh g (fun x s2 g2 => dqQ Λ sh g (0, liR (g 179) k) x s2 g2) := by
  have hro := hR.ro
  have hm := ro_many hro
  have h0 := hR.X.nums.1.1
  have hX := hR.X
  refine gTri.of (by decide +kernel) rfl ?_
  show gWP f_Desk_listen _ _ _ 0 [(2, 0), (0, k), (9, 0), (9, 0), (9, 0), (9, 0), (9, 0)] [] sh g _
  refine gw_aload_n (gc k_Desk_listen_0 0 rfl) rfl rfl ?_
  refine gw_getref (gc k_Desk_listen_0 1 rfl) fl_Desk_19 (by first | exact gAt hx rfl rfl) (by first | exact gRf hf rfl rfl) ?_
  refine gw_aload_n (gc k_Desk_listen_0 2 rfl) rfl rfl ?_
  refine gw_getref (gc k_Desk_listen_0 3 rfl) fl_Desk_12 (by first | exact gAt hx rfl rfl) (by first | exact gRf hf rfl rfl) ?_
  refine gw_xV1 (gc k_Desk_listen_0 4 rfl) y_Judge_candidates ln_Desk_246 (c_Judge_candidates hx hf i1 hX) rfl rfl (by first | exact gAt hx rfl rfl) rfl rfl (fun r8 sh2 g8 hq8 => ?_)
  obtain ⟨rfl, hsh, hj⟩ := hq8
  subst sh2
  have hf := hj.fin hf
  have hX8 := hX.jg i1 hj
  have hcb := cbR_bd hro
  obtain ⟨s, hs⟩ : ∃ s, s = cbR (g 179) := ⟨_, rfl⟩
  rw [← hs] at hcb ⊢
  refine gw_istore_2 (gc k_Desk_listen_0 5 rfl) rfl rfl ?_
  refine gw_iload_n (gc k_Desk_listen_0 6 rfl) rfl ?_
  refine gw_if_eq (tgt := 25) (gc k_Desk_listen_0 7 rfl) rfl (by omega) (fun c13 => ?_) (fun c13 => ?_)
  · refine gw_iconst (gc k_Desk_listen_0 13 rfl) ?_
    refine gw_ireturn (gc k_Desk_listen_0 14 rfl) rfl ?_
    have e : liR (g 179) k = -1 := by
      unfold liR; rw [← hs, if_neg (by omega)]
    rw [e]
    exact dqQ.jg hR hj _
  · refine gw_iload_n (gc k_Desk_listen_0 8 rfl) rfl ?_
    refine gw_if_lt (tgt := 25) (gc k_Desk_listen_0 9 rfl) rfl (by omega) (fun c17 => ?_) (fun c17 => ?_)
    · refine gw_iconst (gc k_Desk_listen_0 13 rfl) ?_
      refine gw_ireturn (gc k_Desk_listen_0 14 rfl) rfl ?_
      have e : liR (g 179) k = -1 := by
        unfold liR; rw [← hs, if_neg (by omega)]
      rw [e]
      exact dqQ.jg hR hj _
    · refine gw_iload_n (gc k_Desk_listen_0 10 rfl) rfl ?_
      refine gw_iconst (gc k_Desk_listen_0 11 rfl) ?_
      refine gw_icmp_le (tgt := 27) (gc k_Desk_listen_0 12 rfl) rfl (by omega) (fun c22 => ?_) (fun c22 => ?_)
      · refine gw_iconst (gc k_Desk_listen_0 15 rfl) ?_
        refine gw_istore_3 (gc k_Desk_listen_0 16 rfl) rfl rfl ?_
        refine gw_aload_n (gc k_Desk_listen_0 17 rfl) rfl rfl ?_
        refine gw_getref (gc k_Desk_listen_0 18 rfl) fl_Desk_19 (by first | exact gAt hx rfl rfl) (by first | exact gRf hf rfl rfl) ?_
        refine gw_aload_n (gc k_Desk_listen_0 19 rfl) rfl rfl ?_
        refine gw_getref (gc k_Desk_listen_0 20 rfl) fl_Desk_12 (by first | exact gAt hx rfl rfl) (by first | exact gRf hf rfl rfl) ?_
        refine gw_iload_n (gc k_Desk_listen_0 21 rfl) rfl ?_
        refine gw_iconst (gc k_Desk_listen_0 22 rfl) ?_
        refine gw_xV1 (gc k_Desk_listen_0 23 rfl) y_Judge_mostAlike ln_Desk_250 (c_Judge_mostAlike hx hf i1 hX8 s 0 (by decide)) rfl rfl (by first | exact gAt hx rfl rfl) rfl rfl (fun r39 sh2 g39 hq39 => ?_)
        obtain ⟨rfl, hsh, hj2⟩ := hq39
        subst sh2
        have hf := hj2.fin hf
        have hm0 : 0 ≤ mlR (g 179) s 0 ∧ mlR (g 179) s 0 ≤ 12 := mlM_bd hro s 0 _
        refine gw_istore_4 (gc k_Desk_listen_0 24 rfl) rfl rfl ?_
        refine gw_iconst (gc k_Desk_listen_0 25 rfl) ?_
        refine gw_istore_5 (gc k_Desk_listen_0 26 rfl) rfl rfl ?_
        refine gwloop (σ := Int × Int × Int × gV × gM) (fun zs => (1 ≤ (zs.1) ∧ (zs.1) ≤ 4) ∧ jgF g (zs.2.2.2.2) ∧ gFin (zs.2.2.2.2) ∧ liF (mlR (g 179) s) (zs.1).toNat = ((zs.2.1), (zs.2.2.1)) ∧ (0 ≤ (zs.2.1) ∧ (zs.2.1) ≤ 3) ∧ 0 ≤ (zs.2.2.1) ∧ (zs.2.2.1) ≤ 12) (fun zs => (4 - (zs.1)).toNat) (fun zs => [(2, 0), (0, k), (0, s), (0, (zs.2.1)), (0, (zs.2.2.1)), (0, (zs.1)), (zs.2.2.2.1)]) (fun zs => (zs.2.2.2.2)) (1, 0, mlR (g 179) s 0, (9, 0), g39) (show (1 ≤ (1 : Int) ∧ (1 : Int) ≤ 4) ∧ jgF g g39 ∧ gFin g39 ∧ liF (mlR (g 179) s) (1 : Int).toNat = ((0 : Int), (mlR (g 179) s 0)) ∧ (0 ≤ (0 : Int) ∧ (0 : Int) ≤ 3) ∧ 0 ≤ (mlR (g 179) s 0) ∧ (mlR (g 179) s 0) ≤ 12 from ⟨by decide, hj.tr hj2, hf, liF_1 (f := mlR (g 179) s) (m := 0) (show ¬ 100000000 ≤ mlR (g 179) s 0 by omega), by decide, hm0⟩) rfl rfl (fun zs hI ih => ?_)
        obtain ⟨f, fact, few, x6, g1⟩ := zs
        replace hI : (1 ≤ f ∧ f ≤ 4) ∧ jgF g g1 ∧ gFin g1 ∧ liF (mlR (g 179) s) f.toNat = (fact, few) ∧ (0 ≤ fact ∧ fact ≤ 3) ∧ 0 ≤ few ∧ few ≤ 12 := hI
        obtain ⟨hfb, hjl, hf, hE, hfa, hfe⟩ := hI
        show gWP _ _ _ _ _ [(2, 0), (0, k), (0, s), (0, fact), (0, few), (0, f), x6] [] _ (g1) _
        have hX1 := hX.jg i1 hjl
        refine gw_iload (gc k_Desk_listen_0 27 rfl) rfl ?_
        refine gw_iconst (gc k_Desk_listen_0 28 rfl) ?_
        refine gw_icmp_ge (tgt := 89) (gc k_Desk_listen_0 29 rfl) rfl (by omega) (fun c50 => ?_) (fun c50 => ?_)
        · refine gw_iload_n (gc k_Desk_listen_1 7 rfl) rfl ?_
          refine gw_if_ne (tgt := 97) (gc k_Desk_listen_1 8 rfl) rfl (by omega) (fun c90 => ?_) (fun c90 => ?_)
          · refine gw_iload (gc k_Desk_listen_1 11 rfl) rfl ?_
            refine gw_ireturn (gc k_Desk_listen_1 12 rfl) rfl ?_
            have e : liR (g 179) k = few := by
              unfold liR
              rw [← hs, if_pos (by omega), show (4 : Nat) = f.toNat by omega, hE, if_neg c90]
            rw [e]
            exact dqQ.jg hR hjl _
          · refine gw_iload_n (gc k_Desk_listen_1 9 rfl) rfl ?_
            refine gw_goto (tgt := 99) (gc k_Desk_listen_1 10 rfl) rfl ?_
            refine gw_ireturn (gc k_Desk_listen_1 12 rfl) rfl ?_
            have e : liR (g 179) k = fact := by
              unfold liR
              rw [← hs, if_pos (by omega), show (4 : Nat) = f.toNat by omega, hE, if_pos c90]
            rw [e]
            exact dqQ.jg hR hjl _
        · refine gw_aload_n (gc k_Desk_listen_0 30 rfl) rfl rfl ?_
          refine gw_getref (gc k_Desk_listen_0 31 rfl) fl_Desk_19 (by first | exact gAt hx rfl rfl) (by first | exact gRf hf rfl rfl) ?_
          refine gw_aload_n (gc k_Desk_listen_0 32 rfl) rfl rfl ?_
          refine gw_getref (gc k_Desk_listen_0 33 rfl) fl_Desk_12 (by first | exact gAt hx rfl rfl) (by first | exact gRf hf rfl rfl) ?_
          refine gw_iload_n (gc k_Desk_listen_0 34 rfl) rfl ?_
          refine gw_iload (gc k_Desk_listen_0 35 rfl) rfl ?_
          refine gw_xV1 (gc k_Desk_listen_0 36 rfl) y_Judge_mostAlike ln_Desk_250 (c_Judge_mostAlike hx hf i1 hX1 s f (by omega)) rfl rfl (by first | exact gAt hx rfl rfl) rfl rfl (fun r64 sh2 g64 hq64 => ?_)
          obtain ⟨rfl, hsh, hj3⟩ := hq64
          subst sh2
          have hf := hj3.fin hf
          have hmf : 0 ≤ mlR (g 179) s f ∧ mlR (g 179) s f ≤ 12 := mlM_bd hro s f _
          refine gw_istore_6 (gc k_Desk_listen_0 37 rfl) rfl rfl ?_
          refine gw_iload (gc k_Desk_listen_0 38 rfl) rfl ?_
          refine gw_iload (gc k_Desk_listen_0 39 rfl) rfl ?_
          refine gw_icmp_ge (tgt := 83) (gc k_Desk_listen_1 0 rfl) rfl (by omega) (fun c73 => ?_) (fun c73 => ?_)
          · refine gw_iinc_5 (gc k_Desk_listen_1 5 rfl) rfl rfl ?_
            refine gw_goto (tgt := 47) (gc k_Desk_listen_1 6 rfl) rfl ?_
            have hnew : (1 ≤ (f + 1) ∧ (f + 1) ≤ 4) ∧ jgF g g64 ∧ gFin g64 ∧ liF (mlR (g 179) s) (f + 1).toNat = (fact, few) ∧ (0 ≤ fact ∧ fact ≤ 3) ∧ 0 ≤ few ∧ few ≤ 12 := ⟨by omega, hjl.tr hj3, hf, by rw [show (f + 1).toNat = f.toNat + 1 by omega, liF_0 (by rw [hE, show ((f.toNat : Nat) : Int) = f by omega]; exact c73), hE], hfa, hfe⟩
            exact ih (f + 1, fact, few, _, g64) hnew (by show (4 - (f + 1)).toNat < (4 - f).toNat; omega)
          · refine gw_iload (gc k_Desk_listen_1 1 rfl) rfl ?_
            refine gw_istore_4 (gc k_Desk_listen_1 2 rfl) rfl rfl ?_
            refine gw_iload (gc k_Desk_listen_1 3 rfl) rfl ?_
            refine gw_istore_3 (gc k_Desk_listen_1 4 rfl) rfl rfl ?_
            refine gw_iinc_5 (gc k_Desk_listen_1 5 rfl) rfl rfl ?_
            refine gw_goto (tgt := 47) (gc k_Desk_listen_1 6 rfl) rfl ?_
            have hnew : (1 ≤ (f + 1) ∧ (f + 1) ≤ 4) ∧ jgF g g64 ∧ gFin g64 ∧ liF (mlR (g 179) s) (f + 1).toNat = (f, (mlR (g 179) s f)) ∧ (0 ≤ f ∧ f ≤ 3) ∧ 0 ≤ (mlR (g 179) s f) ∧ (mlR (g 179) s f) ≤ 12 := ⟨by omega, hjl.tr hj3, hf, by rw [show (f + 1).toNat = f.toNat + 1 by omega, liF_1 (by rw [hE, show ((f.toNat : Nat) : Int) = f by omega]; show ¬ few ≤ _; omega), show ((f.toNat : Nat) : Int) = f by omega], by omega, hmf⟩
            exact ih (f + 1, f, mlR (g 179) s f, _, g64) hnew (by show (4 - (f + 1)).toNat < (4 - f).toNat; omega)
      · refine gw_iconst (gc k_Desk_listen_0 13 rfl) ?_
        refine gw_ireturn (gc k_Desk_listen_0 14 rfl) rfl ?_
        have e : liR (g 179) k = -1 := by
          unfold liR; rw [← hs, if_neg (by omega)]
        rw [e]
        exact dqQ.jg hR hj _
set_option maxHeartbeats 8000000 in
theorem c_Desk_few {sh : gS} {g : gM} (hx : gFix sh) (hf : gFin g) {Λ : Int → List PC} (hR : relR Λ sh g) (k : Int) (n : Int) (hk : (-2147483648 ≤ k ∧ k ≤ 2147483647)) (hn : (-2147483648 ≤ n ∧ n ≤ 2147483647)) : gTri f_Desk_few 0 0 0 [(2, 0), (0, k), (0, n)] sh g (fun x s2 g2 => dqQ Λ sh g (1, fewR (g 179 37) k n) x s2 g2) := by
  have hro := hR.ro
  have hm := ro_many hro
  have h0 := hR.X.nums.1.1
  have hX := hR.X
  obtain ⟨s, hse⟩ : ∃ s, s = g 179 37 := ⟨_, rfl⟩
  have hs : 0 ≤ s ∧ s ≤ 10 := by rw [hse]; exact ro_slips hro
  have ht1 : g 4 1 = s := by rw [hse]; exact hX.bdN.2.2.2.2.1
  refine gTri.of (by decide +kernel) rfl ?_
  show gWP f_Desk_few _ _ _ 0 [(2, 0), (0, k), (0, n), (9, 0), (9, 0), (9, 0), (9, 0), (9, 0)] [] sh g _
  refine gw_iload_n (gc k_Desk_few_0 0 rfl) rfl ?_
  refine gw_iconst (gc k_Desk_few_0 1 rfl) ?_
  refine gw_icmp_lt (tgt := 21) (gc k_Desk_few_0 2 rfl) rfl (by omega) (fun c2 => ?_) (fun c2 => ?_)
  · refine gw_ldc2 (gc k_Desk_few_0 11 rfl) cn_Desk_253 ?_
    refine gw_lreturn (gc k_Desk_few_0 12 rfl) rfl ?_
    have e : fewR (g 179 37) k n = -1 := by
      unfold fewR; rw [if_neg (by omega)]
    rw [e]
    exact dqQ.rf hR _
  · refine gw_iload_n (gc k_Desk_few_0 3 rfl) rfl ?_
    refine gw_bipush (gc k_Desk_few_0 4 rfl) (by decide) ?_
    refine gw_icmp_gt (tgt := 21) (gc k_Desk_few_0 5 rfl) rfl (by omega) (fun c8 => ?_) (fun c8 => ?_)
    · refine gw_ldc2 (gc k_Desk_few_0 11 rfl) cn_Desk_253 ?_
      refine gw_lreturn (gc k_Desk_few_0 12 rfl) rfl ?_
      have e : fewR (g 179 37) k n = -1 := by
        unfold fewR; rw [if_neg (by omega)]
      rw [e]
      exact dqQ.rf hR _
    · refine gw_iload_n (gc k_Desk_few_0 6 rfl) rfl ?_
      refine gw_if_lt (tgt := 21) (gc k_Desk_few_0 7 rfl) rfl (by omega) (fun c12 => ?_) (fun c12 => ?_)
      · refine gw_ldc2 (gc k_Desk_few_0 11 rfl) cn_Desk_253 ?_
        refine gw_lreturn (gc k_Desk_few_0 12 rfl) rfl ?_
        have e : fewR (g 179 37) k n = -1 := by
          unfold fewR; rw [if_neg (by omega)]
        rw [e]
        exact dqQ.rf hR _
      · refine gw_iload_n (gc k_Desk_few_0 8 rfl) rfl ?_
        refine gw_bipush (gc k_Desk_few_0 9 rfl) (by decide) ?_
        refine gw_icmp_le (tgt := 25) (gc k_Desk_few_0 10 rfl) rfl (by omega) (fun c18 => ?_) (fun c18 => ?_)
        · refine gw_aload_n (gc k_Desk_few_0 13 rfl) rfl rfl ?_
          refine gw_getref (gc k_Desk_few_0 14 rfl) fl_Desk_12 (by first | exact gAt hx rfl rfl) (by first | exact gRf hf rfl rfl) ?_
          refine gw_getref (gc k_Desk_few_0 15 rfl) fl_Desk_129 (by first | exact gAt hx rfl rfl) (by first | exact gRf hf rfl rfl) ?_
          refine gw_iconst (gc k_Desk_few_0 16 rfl) ?_
          refine gw_iald (gc k_Desk_few_0 17 rfl) (by first | exact gAt hx rfl rfl) (by omega) ?_
          rw [ht1]
          refine gw_istore_3 (gc k_Desk_few_0 18 rfl) rfl rfl ?_
          refine gw_iconst (gc k_Desk_few_0 19 rfl) ?_
          refine gw_istore_4 (gc k_Desk_few_0 20 rfl) rfl rfl ?_
          refine gwloop (σ := Int × gM) (fun zs => (1 ≤ (zs.1) ∧ (zs.1) ≤ k) ∧ (∀ a y, a ≠ 176 → (zs.2) a y = g a y) ∧ gFin (zs.2) ∧ ∀ y, 1 ≤ y → y < (zs.1) → (zs.2) 176 y = 0) (fun zs => (k - (zs.1)).toNat) (fun zs => [(2, 0), (0, k), (0, n), (0, s), (0, (zs.1)), (9, 0), (9, 0), (9, 0)]) (fun zs => (zs.2)) (1, g) (show (1 ≤ (1 : Int) ∧ (1 : Int) ≤ k) ∧ (∀ a y, a ≠ 176 → g a y = g a y) ∧ gFin g ∧ ∀ y, 1 ≤ y → y < (1 : Int) → g 176 y = 0 from ⟨by omega, fun _ _ _ => rfl, hf, fun y a b => by omega⟩) rfl rfl (fun zs hI ih => ?_)
          obtain ⟨j, g1⟩ := zs
          replace hI : (1 ≤ j ∧ j ≤ k) ∧ (∀ a y, a ≠ 176 → g1 a y = g a y) ∧ gFin g1 ∧ ∀ y, 1 ≤ y → y < j → g1 176 y = 0 := hI
          obtain ⟨hj, hF, hf, hv⟩ := hI
          show gWP _ _ _ _ _ [(2, 0), (0, k), (0, n), (0, s), (0, j), (9, 0), (9, 0), (9, 0)] [] _ (g1) _
          
          refine gw_iload (gc k_Desk_few_0 21 rfl) rfl ?_
          refine gw_iload_n (gc k_Desk_few_0 22 rfl) rfl ?_
          refine gw_icmp_ge (tgt := 58) (gc k_Desk_few_0 23 rfl) rfl (by omega) (fun c41 => ?_) (fun c41 => ?_)
          · refine gw_aload_n (gc k_Desk_few_0 31 rfl) rfl rfl ?_
            refine gw_getref (gc k_Desk_few_0 32 rfl) fl_Desk_74 (by first | exact gAt hx rfl rfl) (by first | exact gRf hf rfl rfl) ?_
            refine gw_iconst (gc k_Desk_few_0 33 rfl) ?_
            refine gw_ldc2 (gc k_Desk_few_0 34 rfl) cn_Desk_255 ?_
            refine gw_lastF (gc k_Desk_few_0 35 rfl) (by first | exact gAt hx rfl rfl) (by omega) hf (by rfl) (fun hf => ?_)
            obtain ⟨gB, hgB⟩ : ∃ M, M = gup g1 176 0 1000000000000 := ⟨_, rfl⟩
            rw [← hgB]
            have hfB : gFin gB := by rw [hgB]; exact hf
            have hFB : ∀ a y, a ≠ 176 → gB a y = g a y := fun a y z => by rw [hgB, gup_a _ _ _ _ _ z]; exact hF a y z
            have hvB : ∀ y, 0 ≤ y → y < k → gB 176 y = fwS s (0 : Int).toNat y := fun y a b => by
              show _ = if y = 0 then 1000000000000 else 0
              by_cases z : y = 0
              · rw [if_pos z, hgB, z, gup_s]
              · rw [if_neg z, hgB, gup_k _ _ _ _ z]; exact hv y (by omega) (by omega)
            refine gw_iconst (gc k_Desk_few_0 36 rfl) ?_
            refine gw_istore_4 (gc k_Desk_few_0 37 rfl) rfl rfl ?_
            refine gwloop (σ := Int × gV × gV × gV × gM) (fun zs => (0 ≤ (zs.1) ∧ (zs.1) ≤ n) ∧ (∀ a y, a ≠ 176 → (zs.2.2.2.2) a y = g a y) ∧ gFin (zs.2.2.2.2) ∧ ∀ y, 0 ≤ y → y < k → (zs.2.2.2.2) 176 y = fwS s (zs.1).toNat y) (fun zs => (n - (zs.1)).toNat) (fun zs => [(2, 0), (0, k), (0, n), (0, s), (0, (zs.1)), (zs.2.1), (zs.2.2.1), (zs.2.2.2.1)]) (fun zs => (zs.2.2.2.2)) (0, (9, 0), (9, 0), (9, 0), gB) (show (0 ≤ (0 : Int) ∧ (0 : Int) ≤ n) ∧ (∀ a y, a ≠ 176 → gB a y = g a y) ∧ gFin gB ∧ ∀ y, 0 ≤ y → y < k → gB 176 y = fwS s (0 : Int).toNat y from ⟨by omega, hFB, hfB, hvB⟩) rfl rfl (fun zs hI ih => ?_)
            obtain ⟨c, x5, x6, x7, g1⟩ := zs
            replace hI : (0 ≤ c ∧ c ≤ n) ∧ (∀ a y, a ≠ 176 → g1 a y = g a y) ∧ gFin g1 ∧ ∀ y, 0 ≤ y → y < k → g1 176 y = fwS s c.toNat y := hI
            obtain ⟨hc, hF, hf, hv⟩ := hI
            show gWP _ _ _ _ _ [(2, 0), (0, k), (0, n), (0, s), (0, c), x5, x6, x7] [] _ (g1) _
            have ihB := ih
            refine gw_iload (gc k_Desk_few_0 38 rfl) rfl ?_
            refine gw_iload_n (gc k_Desk_few_0 39 rfl) rfl ?_
            refine gw_icmp_ge (tgt := 152) (gc k_Desk_few_1 0 rfl) rfl (by omega) (fun c73 => ?_) (fun c73 => ?_)
            · refine gw_lconst0 (gc k_Desk_few_2 4 rfl) ?_
              refine gw_lstore_4 (gc k_Desk_few_2 5 rfl) rfl rfl ?_
              refine gw_iconst (gc k_Desk_few_2 6 rfl) ?_
              refine gw_istore_6 (gc k_Desk_few_2 7 rfl) rfl rfl ?_
              refine gwloop (σ := Int × Int × gV) (fun zs => (0 ≤ (zs.1) ∧ (zs.1) ≤ k) ∧ (zs.2.1) = smN (fwS s n.toNat) (zs.1).toNat) (fun zs => (k - (zs.1)).toNat) (fun zs => [(2, 0), (0, k), (0, n), (0, s), (1, (zs.2.1)), (9, 0), (0, (zs.1)), (zs.2.2)]) (fun zs => g1) (0, 0, x7) (show (0 ≤ (0 : Int) ∧ (0 : Int) ≤ k) ∧ (0 : Int) = smN (fwS s n.toNat) (0 : Int).toNat from ⟨by omega, rfl⟩) rfl rfl (fun zs hI ih => ?_)
              obtain ⟨j, acc, z7⟩ := zs
              replace hI : (0 ≤ j ∧ j ≤ k) ∧ acc = smN (fwS s n.toNat) j.toNat := hI
              obtain ⟨hj, hacc⟩ := hI
              show gWP _ _ _ _ _ [(2, 0), (0, k), (0, n), (0, s), (1, acc), (9, 0), (0, j), z7] [] _ (g1) _
              
              refine gw_iload (gc k_Desk_few_2 8 rfl) rfl ?_
              refine gw_iload_n (gc k_Desk_few_2 9 rfl) rfl ?_
              refine gw_icmp_ge (tgt := 182) (gc k_Desk_few_2 10 rfl) rfl (by omega) (fun c161 => ?_) (fun c161 => ?_)
              · refine gw_lload (gc k_Desk_few_2 20 rfl) rfl ?_
                refine gw_lreturn (gc k_Desk_few_2 21 rfl) rfl ?_
                have e : fewR (g 179 37) k n = acc := by
                  unfold fewR; rw [if_pos (by omega), ← hse, hacc, show k.toNat = j.toNat by omega]
                rw [e]
                exact dqQ.sl hR hF hf _
              · refine gw_lload (gc k_Desk_few_2 11 rfl) rfl ?_
                refine gw_aload_n (gc k_Desk_few_2 12 rfl) rfl rfl ?_
                refine gw_getref (gc k_Desk_few_2 13 rfl) fl_Desk_74 (by first | exact gAt hx rfl rfl) (by first | exact gRf hf rfl rfl) ?_
                refine gw_iload (gc k_Desk_few_2 14 rfl) rfl ?_
                refine gw_lald (gc k_Desk_few_2 15 rfl) (by first | exact gAt hx rfl rfl) (by omega) ?_
                rw [hv j (by omega) (by omega), show c = n by omega]
                refine gw_ladd (gc k_Desk_few_2 16 rfl) ?_
                refine gw_lstore_4 (gc k_Desk_few_2 17 rfl) rfl rfl ?_
                refine gw_iinc_6 (gc k_Desk_few_2 18 rfl) rfl rfl ?_
                refine gw_goto (tgt := 158) (gc k_Desk_few_2 19 rfl) rfl ?_
                have hnew : (0 ≤ (j + 1) ∧ (j + 1) ≤ k) ∧ (acc + fwS s n.toNat j) = smN (fwS s n.toNat) (j + 1).toNat := ⟨by omega, by rw [hacc, show (j + 1).toNat = j.toNat + 1 by omega]; show _ = smN _ j.toNat + fwS s n.toNat ((j.toNat : Nat) : Int); rw [show ((j.toNat : Nat) : Int) = j by omega]⟩
                exact ih (j + 1, acc + fwS s n.toNat j, z7) hnew (by show (k - (j + 1)).toNat < (k - j).toNat; omega)
            · refine gw_iload_n (gc k_Desk_few_1 1 rfl) rfl ?_
              refine gw_iconst (gc k_Desk_few_1 2 rfl) ?_
              refine gw_isub (gc k_Desk_few_1 3 rfl) ?_
              refine gw_istore_5 (gc k_Desk_few_1 4 rfl) rfl rfl ?_
              refine gwloop (σ := Int × gV × gV × gM) (fun zs => (-1 ≤ (zs.1) ∧ (zs.1) < k) ∧ (∀ a y, a ≠ 176 → (zs.2.2.2) a y = g a y) ∧ gFin (zs.2.2.2) ∧ ∀ y, 0 ≤ y → y < k → (zs.2.2.2) 176 y = if y ≤ (zs.1) then fwS s c.toNat y else fwS s (c.toNat + 1) y) (fun zs => ((zs.1) + 1).toNat) (fun zs => [(2, 0), (0, k), (0, n), (0, s), (0, c), (0, (zs.1)), (zs.2.1), (zs.2.2.1)]) (fun zs => (zs.2.2.2)) (k - 1, x6, x7, g1) (show (-1 ≤ (k - 1) ∧ (k - 1) < k) ∧ (∀ a y, a ≠ 176 → g1 a y = g a y) ∧ gFin g1 ∧ ∀ y, 0 ≤ y → y < k → g1 176 y = if y ≤ (k - 1) then fwS s c.toNat y else fwS s (c.toNat + 1) y from ⟨by omega, hF, hf, fun y a b => by rw [if_pos (by omega)]; exact hv y a b⟩) rfl rfl (fun zs hI ih => ?_)
              obtain ⟨j, y6, y7, g2⟩ := zs
              replace hI : (-1 ≤ j ∧ j < k) ∧ (∀ a y, a ≠ 176 → g2 a y = g a y) ∧ gFin g2 ∧ ∀ y, 0 ≤ y → y < k → g2 176 y = if y ≤ j then fwS s c.toNat y else fwS s (c.toNat + 1) y := hI
              obtain ⟨hj, hF2, hf, hv2⟩ := hI
              show gWP _ _ _ _ _ [(2, 0), (0, k), (0, n), (0, s), (0, c), (0, j), y6, y7] [] _ (g2) _
              
              refine gw_iload (gc k_Desk_few_1 5 rfl) rfl ?_
              refine gw_if_lt (tgt := 146) (gc k_Desk_few_1 6 rfl) rfl (by omega) (fun c83 => ?_) (fun c83 => ?_)
              · refine gw_iinc_4 (gc k_Desk_few_2 2 rfl) rfl rfl ?_
                refine gw_goto (tgt := 70) (gc k_Desk_few_2 3 rfl) rfl ?_
                have hnew : (0 ≤ (c + 1) ∧ (c + 1) ≤ n) ∧ (∀ a y, a ≠ 176 → g2 a y = g a y) ∧ gFin g2 ∧ ∀ y, 0 ≤ y → y < k → g2 176 y = fwS s (c + 1).toNat y := ⟨by omega, hF2, hf, fun y a b => by rw [hv2 y a b, if_neg (by omega), show (c + 1).toNat = c.toNat + 1 by omega]⟩
                exact ihB (c + 1, (0, j), y6, y7, g2) hnew (by show (n - (c + 1)).toNat < (n - c).toNat; omega)
              · refine gw_joinL0 111 (fun v => v = if j = 0 then 0 else fwS s c.toNat (j - 1) * s / 10) (fun v86 hv86 => ?_) (fun kj86 => ?_)
                · refine gw_lstore_6 (gc k_Desk_few_1 22 rfl) rfl rfl ?_
                  refine gw_aload_n (gc k_Desk_few_1 23 rfl) rfl rfl ?_
                  refine gw_getref (gc k_Desk_few_1 24 rfl) fl_Desk_74 (by first | exact gAt hx rfl rfl) (by first | exact gRf hf rfl rfl) ?_
                  refine gw_iload (gc k_Desk_few_1 25 rfl) rfl ?_
                  refine gw_aload_n (gc k_Desk_few_1 26 rfl) rfl rfl ?_
                  refine gw_getref (gc k_Desk_few_1 27 rfl) fl_Desk_74 (by first | exact gAt hx rfl rfl) (by first | exact gRf hf rfl rfl) ?_
                  refine gw_iload (gc k_Desk_few_1 28 rfl) rfl ?_
                  refine gw_lald (gc k_Desk_few_1 29 rfl) (by first | exact gAt hx rfl rfl) (by omega) ?_
                  rw [hv2 j (by omega) (by omega), if_pos (by omega)]
                  have hq2 := fw_rng hs (fwS_bd hs c.toNat j)
                  refine gw_bipush (gc k_Desk_few_1 30 rfl) (by decide) ?_
                  refine gw_iload_n (gc k_Desk_few_1 31 rfl) rfl ?_
                  refine gw_isub (gc k_Desk_few_1 32 rfl) ?_
                  refine gw_i2l (gc k_Desk_few_1 33 rfl) (by omega) ?_
                  refine gw_lmul (gc k_Desk_few_1 34 rfl) ?_
                  refine gw_ldc2 (gc k_Desk_few_1 35 rfl) cn_Desk_257 ?_
                  refine gw_ldivN (gc k_Desk_few_1 36 rfl) (by omega) ?_
                  refine gw_lload (gc k_Desk_few_1 37 rfl) rfl ?_
                  refine gw_ladd (gc k_Desk_few_1 38 rfl) ?_
                  refine gw_lastF (gc k_Desk_few_1 39 rfl) (by first | exact gAt hx rfl rfl) (by omega) hf (by rfl) (fun hf => ?_)
                  refine gw_iinc_5 (gc k_Desk_few_2 0 rfl) rfl rfl ?_
                  refine gw_goto (tgt := 81) (gc k_Desk_few_2 1 rfl) rfl ?_
                  have hnew : (-1 ≤ (j + -1) ∧ (j + -1) < k) ∧ (∀ a y, a ≠ 176 → (gup g2 176 j (fwS s c.toNat j * (10 - s) / 10 + v86)) a y = g a y) ∧ gFin (gup g2 176 j (fwS s c.toNat j * (10 - s) / 10 + v86)) ∧ ∀ y, 0 ≤ y → y < k → (gup g2 176 j (fwS s c.toNat j * (10 - s) / 10 + v86)) 176 y = if y ≤ (j + -1) then fwS s c.toNat y else fwS s (c.toNat + 1) y := ⟨by omega, fun a y z => (gup_a _ _ _ _ _ z).trans (hF2 a y z), hf, fun y a b => by
                    by_cases z : y = j
                    · rw [z, gup_s, if_neg (by omega), hv86]
                      rfl
                    · rw [gup_k _ _ _ _ z, hv2 y a b]
                      by_cases z2 : y ≤ j
                      · rw [if_pos z2, if_pos (by omega)]
                      · rw [if_neg z2, if_neg (by omega)]⟩
                  exact ih (j + -1, (1, v86), (9, 0), gup g2 176 j (fwS s c.toNat j * (10 - s) / 10 + v86)) hnew (by show ((j + -1) + 1).toNat < (j + 1).toNat; omega)
                · refine gw_iload (gc k_Desk_few_1 7 rfl) rfl ?_
                  refine gw_if_le (tgt := 110) (gc k_Desk_few_1 8 rfl) rfl (by omega) (fun c88 => ?_) (fun c88 => ?_)
                  · refine gw_lconst0 (gc k_Desk_few_1 21 rfl) ?_
                    exact kj86 _ ((by first | rw [if_pos (by omega)] | rw [if_neg (by omega)]))
                  · refine gw_aload_n (gc k_Desk_few_1 9 rfl) rfl rfl ?_
                    refine gw_getref (gc k_Desk_few_1 10 rfl) fl_Desk_74 (by first | exact gAt hx rfl rfl) (by first | exact gRf hf rfl rfl) ?_
                    refine gw_iload (gc k_Desk_few_1 11 rfl) rfl ?_
                    refine gw_iconst (gc k_Desk_few_1 12 rfl) ?_
                    refine gw_isub (gc k_Desk_few_1 13 rfl) ?_
                    refine gw_lald (gc k_Desk_few_1 14 rfl) (by first | exact gAt hx rfl rfl) (by omega) ?_
                    rw [hv2 (j - 1) (by omega) (by omega), if_pos (by omega)]
                    refine gw_iload_n (gc k_Desk_few_1 15 rfl) rfl ?_
                    refine gw_i2l (gc k_Desk_few_1 16 rfl) (by omega) ?_
                    refine gw_lmul (gc k_Desk_few_1 17 rfl) ?_
                    have hq1 := (fw_rng hs (fwS_bd hs c.toNat (j - 1))).1
                    refine gw_ldc2 (gc k_Desk_few_1 18 rfl) cn_Desk_257 ?_
                    refine gw_ldivN (gc k_Desk_few_1 19 rfl) (by omega) ?_
                    refine gw_goto (tgt := 111) (gc k_Desk_few_1 20 rfl) rfl ?_
                    exact kj86 _ ((by first | rw [if_pos (by omega)] | rw [if_neg (by omega)]))
          · refine gw_aload_n (gc k_Desk_few_0 24 rfl) rfl rfl ?_
            refine gw_getref (gc k_Desk_few_0 25 rfl) fl_Desk_74 (by first | exact gAt hx rfl rfl) (by first | exact gRf hf rfl rfl) ?_
            refine gw_iload (gc k_Desk_few_0 26 rfl) rfl ?_
            refine gw_lconst0 (gc k_Desk_few_0 27 rfl) ?_
            refine gw_lastF (gc k_Desk_few_0 28 rfl) (by first | exact gAt hx rfl rfl) (by omega) hf (by rfl) (fun hf => ?_)
            refine gw_iinc_4 (gc k_Desk_few_0 29 rfl) rfl rfl ?_
            refine gw_goto (tgt := 38) (gc k_Desk_few_0 30 rfl) rfl ?_
            have hnew : (1 ≤ (j + 1) ∧ (j + 1) ≤ k) ∧ (∀ a y, a ≠ 176 → (gup g1 176 j 0) a y = g a y) ∧ gFin (gup g1 176 j 0) ∧ ∀ y, 1 ≤ y → y < (j + 1) → (gup g1 176 j 0) 176 y = 0 := ⟨by omega, fun a y z => (gup_a _ _ _ _ _ z).trans (hF a y z), hf, fun y a b => by
              by_cases z : y = j
              · rw [z, gup_s]
              · rw [gup_k _ _ _ _ z]; exact hv y a (by omega)⟩
            exact ih (j + 1, gup g1 176 j 0) hnew (by show (k - (j + 1)).toNat < (k - j).toNat; omega)
        · refine gw_ldc2 (gc k_Desk_few_0 11 rfl) cn_Desk_253 ?_
          refine gw_lreturn (gc k_Desk_few_0 12 rfl) rfl ?_
          have e : fewR (g 179 37) k n = -1 := by
            unfold fewR; rw [if_neg (by omega)]
          rw [e]
          exact dqQ.rf hR _
