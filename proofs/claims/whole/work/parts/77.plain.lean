theorem lpI.kle {B : Int → Int} {len K : Int} {o : Bool} {g : gM} {Lc : Int} {c : PK} {p n : Int} {g1 : gM} (h : lpI B len K o g Lc c p n g1) {K2 : Int} (hK : 0 ≤ K2 ∧ K2 ≤ K) : lpI B len K2 o g Lc c p n g1 := by
  obtain ⟨h1, ⟨b1, b2, b3, b4, b5, b6, b7⟩, h3⟩ := h
  exact ⟨h1, ⟨b1, b2, b3, b4, b5, by omega, by omega⟩, h3⟩
theorem po_se {T : Int → Int} {f sm : Int → Int → PR} {p n e : Int} (h : T p = 140) (hf : f (p + 1) n = .inl e) : pPosW T (some f) sm p n = .inl e := by
  unfold pPosW; rw [if_pos h]; dsimp only; rw [hf]
theorem po_si {T : Int → Int} {f sm : Int → Int → PR} {p n p2 n2 : Int} {c : PK} {s : PS} (h : T p = 140) (hf : f (p + 1) n = .inr (p2, n2, c, s)) : pPosW T (some f) sm p n = if T p2 = 141 then .inr (p2 + 1, n2, c, s) else .inl p2 := by
  unfold pPosW; rw [if_pos h]; dsimp only; rw [hf]
theorem po_1e {T : Int → Int} {sub : Option (Int → Int → PR)} {sm : Int → Int → PR} {p n e : Int} (h : ¬ T p = 140) (hs : sm p n = .inl e) : pPosW T sub sm p n = .inl e := by
  unfold pPosW; rw [if_neg h, hs]
theorem po_r {T : Int → Int} {sub : Option (Int → Int → PR)} {sm : Int → Int → PR} {p n p2 n2 : Int} {c : PK} {s : PS} (h : ¬ T p = 140) (hs : sm p n = .inr (p2, n2, c, s)) (hr : ¬ (T p2 = 160 ∨ T p2 = 162 ∨ T p2 = 161)) : pPosW T sub sm p n = .inl p2 := by
  unfold pPosW; rw [if_neg h, hs]; dsimp only; rw [if_neg hr]
theorem po_2e {T : Int → Int} {sub : Option (Int → Int → PR)} {sm : Int → Int → PR} {p n p2 n2 e : Int} {c : PK} {s : PS} (h : ¬ T p = 140) (hs : sm p n = .inr (p2, n2, c, s)) (hr : T p2 = 160 ∨ T p2 = 162 ∨ T p2 = 161) (hs2 : sm (p2 + 1) n2 = .inl e) : pPosW T sub sm p n = .inl e := by
  unfold pPosW; rw [if_neg h, hs]; dsimp only; rw [if_pos hr, hs2]
theorem po_2i {T : Int → Int} {sub : Option (Int → Int → PR)} {sm : Int → Int → PR} {p n p2 n2 p3 n3 : Int} {c c3 : PK} {s s3 : PS} (h : ¬ T p = 140) (hs : sm p n = .inr (p2, n2, c, s)) (hr : T p2 = 160 ∨ T p2 = 162 ∨ T p2 = 161) (hs2 : sm (p2 + 1) n2 = .inr (p3, n3, c3, s3)) {op : Int} (hop : op = if T p2 = 160 then 10 else if T p2 = 162 then 11 else 12) : pPosW T sub sm p n = .inr (p3, n3, c ++ c3 ++ [(op, 0)], pjs op s s3) := by
  unfold pPosW; rw [if_neg h, hs]; dsimp only; rw [if_pos hr, hs2, ← hop]
theorem pl_e {T : Int → Int} {sub : Option (Int → Int → PR)} {sm : Int → Int → PR} {p n e : Int} (h : pPosW T sub sm (pNots T 401 p false).1 n = .inl e) : pPlainW T sub sm p n = .inl e := by
  unfold pPlainW; rw [h]
theorem pl_i {T : Int → Int} {sub : Option (Int → Int → PR)} {sm : Int → Int → PR} {p n p2 n2 : Int} {c : PK} {s : PS} (h : pPosW T sub sm (pNots T 401 p false).1 n = .inr (p2, n2, c, s)) : pPlainW T sub sm p n = if (pNots T 401 p false).2 then .inr (p2, n2, c ++ [(2, 0)], pnot s) else .inr (p2, n2, c, s) := by
  unfold pPlainW; rw [h]
theorem pNots_f {T : Int → Int} {p : Int} (h : ¬ T p = 7) (f : Nat) (b : Bool) : pNots T f p b = (p, b) := by
  cases f with
  | zero => rfl
  | succ f => unfold pNots; rw [if_neg h]
def tuB (b : Bool) : Int := if b = true then 1 else 0
def nOK (T : Int → Int) (p p1 tu : Int) : Prop := ∃ (f7 : Nat) (bb : Bool), pNots T f7 p1 bb = pNots T 401 p false ∧ 401 ≤ f7 + p1 ∧ tu = tuB bb
set_option maxHeartbeats 8000000 in
theorem rc_plain0 {sh : gS} (hx : gFix sh) {B : Int → Int} {len nt : Int} {o : Bool} (hk : pOK (tT B len) nt) (hnt : nt ≤ 400) {D D1 : Nat} (hD : 9 ≤ D) (hD1 : D1 + 1 ≤ D) {sm : Int → Int → PR} (hfarS : pFar nt sm) (hSm : RcL B len o sh f_Reader_sum D1 [(2, 151), (0, 8)] sm) : RcL B len o sh f_Reader_plain D [(2, 151), (0, 8)] (pPlainW (tT B len) none sm) := by
  intro g p n Lc K hf h3 hcS hlb2
  have hf0 := hf
  have hKK := hcS.2.2.2.2.2.1.2
  have hpp := hcS.2.2.2.2.1.1
  refine gTri.of (by decide +kernel) rfl ?_
  show gWP f_Reader_plain _ _ _ 0 [(2, 151), (0, 8), (9, 0), (9, 0)] [] sh g _
  refine gw_iconst (gc k_Reader_plain_0 0 rfl) ?_
  refine gw_istore_2 (gc k_Reader_plain_0 1 rfl) rfl rfl ?_
  refine gw_iconst (gc k_Reader_plain_0 2 rfl) ?_
  refine gw_istore_3 (gc k_Reader_plain_0 3 rfl) rfl rfl ?_
  refine gwloop (σ := Int × Int × Int × Int × gM) (fun zs => (0 ≤ (zs.1) ∧ (zs.1) ≤ (zs.2.2.1) ∧ (zs.1) ≤ 400) ∧ ((zs.2.1) = 0 ∨ (zs.2.1) = 1) ∧ (K ≤ (zs.2.2.2.1) ∧ ((zs.2.1) = 1 → K + 1 ≤ (zs.2.2.2.1))) ∧ lpI B len (zs.2.2.2.1) o g Lc [] (zs.2.2.1) n (zs.2.2.2.2) ∧ nOK (tT B len) p (zs.2.2.1) (zs.2.1)) (fun zs => (500 - (zs.2.2.1)).toNat) (fun zs => [(2, 151), (0, 8), (0, (zs.2.1)), (0, (zs.1))]) (fun zs => (zs.2.2.2.2)) (0, 0, p, K, g) (show (0 ≤ (0 : Int) ∧ (0 : Int) ≤ p ∧ (0 : Int) ≤ 400) ∧ ((0 : Int) = 0 ∨ (0 : Int) = 1) ∧ (K ≤ K ∧ ((0 : Int) = 1 → K + 1 ≤ K)) ∧ lpI B len K o g Lc [] p n g ∧ nOK (tT B len) p p (0 : Int) from ⟨⟨by omega, by omega, by omega⟩, Or.inl rfl, ⟨Int.le_refl _, fun q => absurd q (by decide)⟩, ⟨clF.rf g, by rw [show Lc + (([] : PK).length : Int) = Lc from Int.add_zero _]; exact hcS, trivial, fun _ _ => ⟨rfl, rfl⟩, (lbV_no _ hlb2 rfl).symm⟩, ⟨401, false, rfl, by omega, rfl⟩⟩) rfl rfl (fun zs hI ih => ?_)
  obtain ⟨i, tu, p1, K1, g1⟩ := zs
  replace hI : (0 ≤ i ∧ i ≤ p1 ∧ i ≤ 400) ∧ (tu = 0 ∨ tu = 1) ∧ (K ≤ K1 ∧ (tu = 1 → K + 1 ≤ K1)) ∧ lpI B len K1 o g Lc [] p1 n g1 ∧ nOK (tT B len) p p1 tu := hI
  obtain ⟨hi, htu, hK1, hI, hN⟩ := hI
  show gWP _ _ _ _ _ [(2, 151), (0, 8), (0, tu), (0, i)] [] _ (g1) _
  have hf := hI.1.fin hf0
  have hB1 := hI.2.1.1
  have hP1 := hI.2.1.2.1
  have hp1 := hI.2.1.2.2.2.2.1.1
  have hpk1 := hk p1
  refine gw_iload_n (gc k_Reader_plain_0 4 rfl) rfl ?_
  refine gw_sipush (gc k_Reader_plain_0 5 rfl) (by decide) ?_
  refine gw_icmp_ge (tgt := 36) (gc k_Reader_plain_0 6 rfl) rfl (by omega) (fun c8 => ?_) (fun c8 => ?_)
  · have hT7 : ¬ tT B len p1 = 7 := by first | exact c17 | (intro q7; have := hpk1 (by omega); omega)
    obtain ⟨hIa, hpN, htuN⟩ : lpI B len K1 o g Lc [] p1 n g1 ∧ (pNots (tT B len) 401 p false).1 = p1 ∧ tu = tuB (pNots (tT B len) 401 p false).2 := by
      obtain ⟨f7, bb, e7, e8, e9⟩ := hN
      rw [pNots_f hT7] at e7
      exact ⟨hI, by rw [← e7], by rw [← e7]; exact e9⟩
    obtain ⟨ga, hga⟩ : ∃ G, G = g1 := ⟨_, rfl⟩
    rw [← hga] at hIa ⊢
    have hfa := hIa.1.fin hf0
    have hf := hfa
    have hBa := hIa.2.1.1
    have hPa := hIa.2.1.2.1
    have hcla := hIa.1
    have hla3 : ga 151 3 = (if o = true then 0 else 1) := (hcla _ _ (by omega) (by omega) (by decide) (by decide)).trans h3
    have hlbA : ga 152 2 = 0 ∨ ga 152 2 = 1 := by rw [hIa.2.2.2.2]; exact lbV_01 _ _ _
    refine gw_aload_n (gc k_Reader_plain_0 19 rfl) rfl rfl ?_
    refine gw_bipush (gc k_Reader_plain_0 20 rfl) (by decide) ?_
    refine gw_cV1 (gc k_Reader_plain_0 21 rfl) y_Reader_isSign ln_Reader_110 (c_Reader_isSign hx hfa hBa p1 hp1 hPa 40 (by omega)) rfl rfl (gAt hx rfl rfl) rfl (gble (by omega)) ?_
    rw [show (100 : Int) + 40 = 140 from rfl]
    refine gw_beq (tgt := 78) (gc k_Reader_plain_0 22 rfl) rfl (fun c42 => ?_) (fun c42 => ?_)
    · refine gw_aload_n (gc k_Reader_plain_1 2 rfl) rfl rfl ?_
      refine gw_iload_n (gc k_Reader_plain_1 3 rfl) rfl ?_
      refine gw_xV1 (gc k_Reader_plain_1 4 rfl) y_Reader_sum ln_Reader_125 (hSm ga p1 n (Lc + ([] : PK).length) K1 hfa hla3 hIa.2.1 hlbA) rfl rfl (gAt hx rfl rfl) rfl (gble (by omega)) (fun r80 sh2 g80 hq80 => ?_)
      obtain ⟨rfl, hQ8⟩ := hq80
      obtain ⟨v8, rfl, hv801, hcl8, hQv8⟩ := hQ8.v
      have hf := hcl8.fin hfa
      refine gw_if_ne (tgt := 88) (gc k_Reader_plain_1 5 rfl) rfl (by omega) (fun c83 => ?_) (fun c83 => ?_)
      · obtain ⟨p2, n2, c, s, hr, hcS2, hcd, hpre, hlbv⟩ := orL hQv8 c83
        clear hQv8
        have hI9 : lpI B len K1 o g Lc c p2 n2 g80 := hIa.app hcl8 hcS2 hcd hpre hlbv
        have hf9 := hI9.1.fin hf0
        have hp9 := hI9.2.1.2.2.2.2.1.1
        refine gw_aload_n (gc k_Reader_plain_1 8 rfl) rfl rfl ?_
        refine gw_bipush (gc k_Reader_plain_1 9 rfl) (by decide) ?_
        refine gw_cV1 (gc k_Reader_plain_1 10 rfl) y_Reader_isSign ln_Reader_110 (c_Reader_isSign hx hf9 hI9.2.1.1 p2 hp9 hI9.2.1.2.1 60 (by omega)) rfl rfl (gAt hx rfl rfl) rfl (gble (by omega)) ?_
        rw [show (100 : Int) + 60 = 160 from rfl]
        refine gw_beq (tgt := 102) (gc k_Reader_plain_1 11 rfl) rfl (fun c94 => ?_) (fun c94 => ?_)
        · refine gw_aload_n (gc k_Reader_plain_1 14 rfl) rfl rfl ?_
          refine gw_bipush (gc k_Reader_plain_1 15 rfl) (by decide) ?_
          refine gw_cV1 (gc k_Reader_plain_1 16 rfl) y_Reader_isSign ln_Reader_110 (c_Reader_isSign hx hf9 hI9.2.1.1 p2 hp9 hI9.2.1.2.1 62 (by omega)) rfl rfl (gAt hx rfl rfl) rfl (gble (by omega)) ?_
          rw [show (100 : Int) + 62 = 162 from rfl]
          refine gw_beq (tgt := 116) (gc k_Reader_plain_1 17 rfl) rfl (fun c108 => ?_) (fun c108 => ?_)
          · refine gw_bipush (gc k_Reader_plain_1 20 rfl) (by decide) ?_
            refine gw_istore_3 (gc k_Reader_plain_1 21 rfl) rfl rfl ?_
            refine gw_iload_n (gc k_Reader_plain_1 22 rfl) rfl ?_
            refine gw_bipush (gc k_Reader_plain_1 23 rfl) (by decide) ?_
            refine gw_icmp_ne (tgt := 136) (gc k_Reader_plain_1 24 rfl) rfl (by omega) (fun c122 => ?_) (fun c122 => ?_)
            · exact absurd rfl c122
            · refine gw_aload_n (gc k_Reader_plain_1 25 rfl) rfl rfl ?_
              refine gw_bipush (gc k_Reader_plain_1 26 rfl) (by decide) ?_
              refine gw_cV1 (gc k_Reader_plain_1 27 rfl) y_Reader_isSign ln_Reader_110 (c_Reader_isSign hx hf9 hI9.2.1.1 p2 hp9 hI9.2.1.2.1 61 (by omega)) rfl rfl (gAt hx rfl rfl) rfl (gble (by omega)) ?_
              rw [show (100 : Int) + 61 = 161 from rfl]
              refine gw_bne (tgt := 136) (gc k_Reader_plain_1 28 rfl) rfl (fun c131 => ?_) (fun c131 => ?_)
              · refine gw_aload_n (gc k_Reader_plain_1 31 rfl) rfl rfl ?_
                refine gw_xV1 (gc k_Reader_plain_1 32 rfl) y_Reader_advance ln_Reader_56 (c_advP hx hf9 hI9.2.1.1 p2 hp9 hI9.2.1.2.1) rfl rfl (gAt hx rfl rfl) rfl (gble (by omega)) (fun r137 sh2 g137 hq137 => ?_)
                obtain ⟨rfl, rfl, hF10, hP10⟩ := hq137
                have hI10 := hI9.k hF10 hP10
                have hf10 := hI10.1.fin hf0
                have hf := hf10
                refine gw_aload_n (gc k_Reader_plain_1 33 rfl) rfl rfl ?_
                refine gw_iload_n (gc k_Reader_plain_1 34 rfl) rfl ?_
                refine gw_xV1 (gc k_Reader_plain_1 35 rfl) y_Reader_sum ln_Reader_125 (hSm g137 (p2 + 1) n2 (Lc + c.length) (K1 + 1) hf10 ((hI10.1 _ _ (by omega) (by omega) (by decide) (by decide)).trans h3) hI10.2.1 (by rw [hI10.2.2.2.2]; exact lbV_01 _ _ _)) rfl rfl (gAt hx rfl rfl) rfl (gble (by omega)) (fun r142 sh2 g142 hq142 => ?_)
                obtain ⟨rfl, hQ11⟩ := hq142
                obtain ⟨v11, rfl, hv1101, hcl11, hQv11⟩ := hQ11.v
                have hf := hcl11.fin hf10
                refine gw_if_ne (tgt := 150) (gc k_Reader_plain_1 36 rfl) rfl (by omega) (fun c145 => ?_) (fun c145 => ?_)
                · obtain ⟨p3, n3, c3, s3, hr3, hcS3, hcd3, hpre3, hlbv3⟩ := orL hQv11 c145
                  clear hQv11
                  have hI12 := hI10.app hcl11 hcS3 hcd3 hpre3 hlbv3
                  have hf12 := hI12.1.fin hf0
                  have hL12 := hI12.2.1.2.2.2.1
                  have hL13 := hI12.2.1.2.2.2.2
                  have hpk3 := hk p2
                  have hrel : tT B len p2 = 160 ∨ tT B len p2 = 162 ∨ tT B len p2 = 161 := (Or.inr (Or.inr c131))
                  have hbnd : Lc + ((c ++ c3).length : Int) ≤ 399 := by
                    have q := hfarS _ _ _ _ _ _ hr3
                    omega
                  refine gw_aload_n (gc k_Reader_plain_1 39 rfl) rfl rfl ?_
                  refine gw_iload_n (gc k_Reader_plain_2 0 rfl) rfl ?_
                  refine gw_iconst (gc k_Reader_plain_2 1 rfl) ?_
                  refine gw_cV1 (gc k_Reader_plain_2 2 rfl) y_Reader_step ln_Reader_156 (c_Reader_step hx hf12 12 0 (by have := hbnd; rw [hL12]; omega)) rfl rfl (gAt hx rfl rfl) rfl (gble (by omega)) ?_
                  refine gw_pop (gc k_Reader_plain_2 3 rfl) rfl ?_
                  have hE := hI12.st (K := K1) (by omega) (op := 12) (a := 0) (a2 := 0) (by decide) rfl
                  have hPos : pPosW (tT B len) none sm (pNots (tT B len) 401 p false).1 n = .inr (p3, n3, c ++ c3 ++ [(12, 0)], pjs 12 s s3) := by rw [hpN]; exact po_2i (by omega) hr hrel hr3 (by rw [if_neg c94, if_neg c108])
                  have hfE := hE.1.fin hf0
                  have hLE := hE.2.1.2.2.2.1
                  have hLE2 := hE.2.1.2.2.2.2
                  have hfr9 := hfarS _ _ _ _ _ _ hr3
                  have hf := hfE
                  refine gw_iload_n (gc k_Reader_plain_2 4 rfl) rfl ?_
                  refine gw_if_eq (tgt := 168) (gc k_Reader_plain_2 5 rfl) rfl (by omega) (fun c158 => ?_) (fun c158 => ?_)
                  · refine gw_iconst (gc k_Reader_plain_2 11 rfl) ?_
                    refine gw_zreturn (gc k_Reader_plain_2 12 rfl) rfl (by omega) ?_
                    have hb2 : (pNots (tT B len) 401 p false).2 = false := by
                      cases hbb : (pNots (tT B len) 401 p false).2
                      · rfl
                      · rw [hbb] at htuN; exact absurd (c158.symm.trans htuN) (by decide)
                    exact ⟨rfl, (hE.kle (K2 := K) (by omega)).q (by rw [pl_i hPos, hb2]; rfl)⟩
                  · refine gw_aload_n (gc k_Reader_plain_2 6 rfl) rfl rfl ?_
                    refine gw_iconst (gc k_Reader_plain_2 7 rfl) ?_
                    refine gw_iconst (gc k_Reader_plain_2 8 rfl) ?_
                    refine gw_cV1 (gc k_Reader_plain_2 9 rfl) y_Reader_step ln_Reader_156 (c_Reader_step hx hfE 2 0 (by rw [hLE]; omega)) rfl rfl (gAt hx rfl rfl) rfl (gble (by omega)) ?_
                    refine gw_pop (gc k_Reader_plain_2 10 rfl) rfl ?_
                    refine gw_iconst (gc k_Reader_plain_2 11 rfl) ?_
                    refine gw_zreturn (gc k_Reader_plain_2 12 rfl) rfl (by omega) ?_
                    have hb2 : (pNots (tT B len) 401 p false).2 = true := by
                      cases hbb : (pNots (tT B len) 401 p false).2
                      · rw [hbb] at htuN; exact absurd htuN c158
                      · rfl
                    have hE2 := (hE.kle (K2 := K + 1) (by omega)).st (K := K) hKK (op := 2) (a := 0) (a2 := 0) (by decide) rfl
                    exact ⟨rfl, hE2.q (by rw [pl_i hPos, hb2]; rfl)⟩
                · refine gw_iconst (gc k_Reader_plain_1 37 rfl) ?_
                  refine gw_zreturn (gc k_Reader_plain_1 38 rfl) rfl (by omega) ?_
                  obtain ⟨e, hr3, hPe, he0⟩ := orR hQv11 c145
                  clear hQv11
                  exact ⟨rfl, hI10.1.tr hcl11, Or.inl ⟨e, pl_e (by rw [hpN]; exact po_2e (by omega) hr (Or.inr (Or.inr c131)) hr3), rfl, hPe, he0⟩⟩
              · refine gw_iconst (gc k_Reader_plain_1 29 rfl) ?_
                refine gw_zreturn (gc k_Reader_plain_1 30 rfl) rfl (by omega) ?_
                exact ⟨rfl, hI9.1, Or.inl ⟨p2, pl_e (by rw [hpN]; exact po_r (by omega) hr (fun q => by omega)), rfl, hI9.2.1.2.1, hp9⟩⟩
          · refine gw_bipush (gc k_Reader_plain_1 18 rfl) (by decide) ?_
            refine gw_goto (tgt := 118) (gc k_Reader_plain_1 19 rfl) rfl ?_
            refine gw_istore_3 (gc k_Reader_plain_1 21 rfl) rfl rfl ?_
            refine gw_iload_n (gc k_Reader_plain_1 22 rfl) rfl ?_
            refine gw_bipush (gc k_Reader_plain_1 23 rfl) (by decide) ?_
            refine gw_icmp_ne (tgt := 136) (gc k_Reader_plain_1 24 rfl) rfl (by omega) (fun c122 => ?_) (fun c122 => ?_)
            · refine gw_aload_n (gc k_Reader_plain_1 31 rfl) rfl rfl ?_
              refine gw_xV1 (gc k_Reader_plain_1 32 rfl) y_Reader_advance ln_Reader_56 (c_advP hx hf9 hI9.2.1.1 p2 hp9 hI9.2.1.2.1) rfl rfl (gAt hx rfl rfl) rfl (gble (by omega)) (fun r137 sh2 g137 hq137 => ?_)
              obtain ⟨rfl, rfl, hF10, hP10⟩ := hq137
              have hI10 := hI9.k hF10 hP10
              have hf10 := hI10.1.fin hf0
              have hf := hf10
              refine gw_aload_n (gc k_Reader_plain_1 33 rfl) rfl rfl ?_
              refine gw_iload_n (gc k_Reader_plain_1 34 rfl) rfl ?_
              refine gw_xV1 (gc k_Reader_plain_1 35 rfl) y_Reader_sum ln_Reader_125 (hSm g137 (p2 + 1) n2 (Lc + c.length) (K1 + 1) hf10 ((hI10.1 _ _ (by omega) (by omega) (by decide) (by decide)).trans h3) hI10.2.1 (by rw [hI10.2.2.2.2]; exact lbV_01 _ _ _)) rfl rfl (gAt hx rfl rfl) rfl (gble (by omega)) (fun r142 sh2 g142 hq142 => ?_)
              obtain ⟨rfl, hQ11⟩ := hq142
              obtain ⟨v11, rfl, hv1101, hcl11, hQv11⟩ := hQ11.v
              have hf := hcl11.fin hf10
              refine gw_if_ne (tgt := 150) (gc k_Reader_plain_1 36 rfl) rfl (by omega) (fun c145 => ?_) (fun c145 => ?_)
              · obtain ⟨p3, n3, c3, s3, hr3, hcS3, hcd3, hpre3, hlbv3⟩ := orL hQv11 c145
                clear hQv11
                have hI12 := hI10.app hcl11 hcS3 hcd3 hpre3 hlbv3
                have hf12 := hI12.1.fin hf0
                have hL12 := hI12.2.1.2.2.2.1
                have hL13 := hI12.2.1.2.2.2.2
                have hpk3 := hk p2
                have hrel : tT B len p2 = 160 ∨ tT B len p2 = 162 ∨ tT B len p2 = 161 := (Or.inr (Or.inl c108))
                have hbnd : Lc + ((c ++ c3).length : Int) ≤ 399 := by
                  have q := hfarS _ _ _ _ _ _ hr3
                  omega
                refine gw_aload_n (gc k_Reader_plain_1 39 rfl) rfl rfl ?_
                refine gw_iload_n (gc k_Reader_plain_2 0 rfl) rfl ?_
                refine gw_iconst (gc k_Reader_plain_2 1 rfl) ?_
                refine gw_cV1 (gc k_Reader_plain_2 2 rfl) y_Reader_step ln_Reader_156 (c_Reader_step hx hf12 11 0 (by have := hbnd; rw [hL12]; omega)) rfl rfl (gAt hx rfl rfl) rfl (gble (by omega)) ?_
                refine gw_pop (gc k_Reader_plain_2 3 rfl) rfl ?_
                have hE := hI12.st (K := K1) (by omega) (op := 11) (a := 0) (a2 := 0) (by decide) rfl
                have hPos : pPosW (tT B len) none sm (pNots (tT B len) 401 p false).1 n = .inr (p3, n3, c ++ c3 ++ [(11, 0)], pjs 11 s s3) := by rw [hpN]; exact po_2i (by omega) hr hrel hr3 (by rw [if_neg c94, if_pos c108])
                have hfE := hE.1.fin hf0
                have hLE := hE.2.1.2.2.2.1
                have hLE2 := hE.2.1.2.2.2.2
                have hfr9 := hfarS _ _ _ _ _ _ hr3
                have hf := hfE
                refine gw_iload_n (gc k_Reader_plain_2 4 rfl) rfl ?_
                refine gw_if_eq (tgt := 168) (gc k_Reader_plain_2 5 rfl) rfl (by omega) (fun c158 => ?_) (fun c158 => ?_)
                · refine gw_iconst (gc k_Reader_plain_2 11 rfl) ?_
                  refine gw_zreturn (gc k_Reader_plain_2 12 rfl) rfl (by omega) ?_
                  have hb2 : (pNots (tT B len) 401 p false).2 = false := by
                    cases hbb : (pNots (tT B len) 401 p false).2
                    · rfl
                    · rw [hbb] at htuN; exact absurd (c158.symm.trans htuN) (by decide)
                  exact ⟨rfl, (hE.kle (K2 := K) (by omega)).q (by rw [pl_i hPos, hb2]; rfl)⟩
                · refine gw_aload_n (gc k_Reader_plain_2 6 rfl) rfl rfl ?_
                  refine gw_iconst (gc k_Reader_plain_2 7 rfl) ?_
                  refine gw_iconst (gc k_Reader_plain_2 8 rfl) ?_
                  refine gw_cV1 (gc k_Reader_plain_2 9 rfl) y_Reader_step ln_Reader_156 (c_Reader_step hx hfE 2 0 (by rw [hLE]; omega)) rfl rfl (gAt hx rfl rfl) rfl (gble (by omega)) ?_
                  refine gw_pop (gc k_Reader_plain_2 10 rfl) rfl ?_
                  refine gw_iconst (gc k_Reader_plain_2 11 rfl) ?_
                  refine gw_zreturn (gc k_Reader_plain_2 12 rfl) rfl (by omega) ?_
                  have hb2 : (pNots (tT B len) 401 p false).2 = true := by
                    cases hbb : (pNots (tT B len) 401 p false).2
                    · rw [hbb] at htuN; exact absurd htuN c158
                    · rfl
                  have hE2 := (hE.kle (K2 := K + 1) (by omega)).st (K := K) hKK (op := 2) (a := 0) (a2 := 0) (by decide) rfl
                  exact ⟨rfl, hE2.q (by rw [pl_i hPos, hb2]; rfl)⟩
              · refine gw_iconst (gc k_Reader_plain_1 37 rfl) ?_
                refine gw_zreturn (gc k_Reader_plain_1 38 rfl) rfl (by omega) ?_
                obtain ⟨e, hr3, hPe, he0⟩ := orR hQv11 c145
                clear hQv11
                exact ⟨rfl, hI10.1.tr hcl11, Or.inl ⟨e, pl_e (by rw [hpN]; exact po_2e (by omega) hr (Or.inr (Or.inl c108)) hr3), rfl, hPe, he0⟩⟩
            · exact absurd c122 (by decide)
        · refine gw_bipush (gc k_Reader_plain_1 12 rfl) (by decide) ?_
          refine gw_goto (tgt := 118) (gc k_Reader_plain_1 13 rfl) rfl ?_
          refine gw_istore_3 (gc k_Reader_plain_1 21 rfl) rfl rfl ?_
          refine gw_iload_n (gc k_Reader_plain_1 22 rfl) rfl ?_
          refine gw_bipush (gc k_Reader_plain_1 23 rfl) (by decide) ?_
          refine gw_icmp_ne (tgt := 136) (gc k_Reader_plain_1 24 rfl) rfl (by omega) (fun c122 => ?_) (fun c122 => ?_)
          · refine gw_aload_n (gc k_Reader_plain_1 31 rfl) rfl rfl ?_
            refine gw_xV1 (gc k_Reader_plain_1 32 rfl) y_Reader_advance ln_Reader_56 (c_advP hx hf9 hI9.2.1.1 p2 hp9 hI9.2.1.2.1) rfl rfl (gAt hx rfl rfl) rfl (gble (by omega)) (fun r137 sh2 g137 hq137 => ?_)
            obtain ⟨rfl, rfl, hF10, hP10⟩ := hq137
            have hI10 := hI9.k hF10 hP10
            have hf10 := hI10.1.fin hf0
            have hf := hf10
            refine gw_aload_n (gc k_Reader_plain_1 33 rfl) rfl rfl ?_
            refine gw_iload_n (gc k_Reader_plain_1 34 rfl) rfl ?_
            refine gw_xV1 (gc k_Reader_plain_1 35 rfl) y_Reader_sum ln_Reader_125 (hSm g137 (p2 + 1) n2 (Lc + c.length) (K1 + 1) hf10 ((hI10.1 _ _ (by omega) (by omega) (by decide) (by decide)).trans h3) hI10.2.1 (by rw [hI10.2.2.2.2]; exact lbV_01 _ _ _)) rfl rfl (gAt hx rfl rfl) rfl (gble (by omega)) (fun r142 sh2 g142 hq142 => ?_)
            obtain ⟨rfl, hQ11⟩ := hq142
            obtain ⟨v11, rfl, hv1101, hcl11, hQv11⟩ := hQ11.v
            have hf := hcl11.fin hf10
            refine gw_if_ne (tgt := 150) (gc k_Reader_plain_1 36 rfl) rfl (by omega) (fun c145 => ?_) (fun c145 => ?_)
            · obtain ⟨p3, n3, c3, s3, hr3, hcS3, hcd3, hpre3, hlbv3⟩ := orL hQv11 c145
              clear hQv11
              have hI12 := hI10.app hcl11 hcS3 hcd3 hpre3 hlbv3
              have hf12 := hI12.1.fin hf0
              have hL12 := hI12.2.1.2.2.2.1
              have hL13 := hI12.2.1.2.2.2.2
              have hpk3 := hk p2
              have hrel : tT B len p2 = 160 ∨ tT B len p2 = 162 ∨ tT B len p2 = 161 := (Or.inl c94)
              have hbnd : Lc + ((c ++ c3).length : Int) ≤ 399 := by
                have q := hfarS _ _ _ _ _ _ hr3
                omega
              refine gw_aload_n (gc k_Reader_plain_1 39 rfl) rfl rfl ?_
              refine gw_iload_n (gc k_Reader_plain_2 0 rfl) rfl ?_
              refine gw_iconst (gc k_Reader_plain_2 1 rfl) ?_
              refine gw_cV1 (gc k_Reader_plain_2 2 rfl) y_Reader_step ln_Reader_156 (c_Reader_step hx hf12 10 0 (by have := hbnd; rw [hL12]; omega)) rfl rfl (gAt hx rfl rfl) rfl (gble (by omega)) ?_
              refine gw_pop (gc k_Reader_plain_2 3 rfl) rfl ?_
              have hE := hI12.st (K := K1) (by omega) (op := 10) (a := 0) (a2 := 0) (by decide) rfl
              have hPos : pPosW (tT B len) none sm (pNots (tT B len) 401 p false).1 n = .inr (p3, n3, c ++ c3 ++ [(10, 0)], pjs 10 s s3) := by rw [hpN]; exact po_2i (by omega) hr hrel hr3 (by rw [if_pos c94])
              have hfE := hE.1.fin hf0
              have hLE := hE.2.1.2.2.2.1
              have hLE2 := hE.2.1.2.2.2.2
              have hfr9 := hfarS _ _ _ _ _ _ hr3
              have hf := hfE
              refine gw_iload_n (gc k_Reader_plain_2 4 rfl) rfl ?_
              refine gw_if_eq (tgt := 168) (gc k_Reader_plain_2 5 rfl) rfl (by omega) (fun c158 => ?_) (fun c158 => ?_)
              · refine gw_iconst (gc k_Reader_plain_2 11 rfl) ?_
                refine gw_zreturn (gc k_Reader_plain_2 12 rfl) rfl (by omega) ?_
                have hb2 : (pNots (tT B len) 401 p false).2 = false := by
                  cases hbb : (pNots (tT B len) 401 p false).2
                  · rfl
                  · rw [hbb] at htuN; exact absurd (c158.symm.trans htuN) (by decide)
                exact ⟨rfl, (hE.kle (K2 := K) (by omega)).q (by rw [pl_i hPos, hb2]; rfl)⟩
              · refine gw_aload_n (gc k_Reader_plain_2 6 rfl) rfl rfl ?_
                refine gw_iconst (gc k_Reader_plain_2 7 rfl) ?_
                refine gw_iconst (gc k_Reader_plain_2 8 rfl) ?_
                refine gw_cV1 (gc k_Reader_plain_2 9 rfl) y_Reader_step ln_Reader_156 (c_Reader_step hx hfE 2 0 (by rw [hLE]; omega)) rfl rfl (gAt hx rfl rfl) rfl (gble (by omega)) ?_
                refine gw_pop (gc k_Reader_plain_2 10 rfl) rfl ?_
                refine gw_iconst (gc k_Reader_plain_2 11 rfl) ?_
                refine gw_zreturn (gc k_Reader_plain_2 12 rfl) rfl (by omega) ?_
                have hb2 : (pNots (tT B len) 401 p false).2 = true := by
                  cases hbb : (pNots (tT B len) 401 p false).2
                  · rw [hbb] at htuN; exact absurd htuN c158
                  · rfl
                have hE2 := (hE.kle (K2 := K + 1) (by omega)).st (K := K) hKK (op := 2) (a := 0) (a2 := 0) (by decide) rfl
                exact ⟨rfl, hE2.q (by rw [pl_i hPos, hb2]; rfl)⟩
            · refine gw_iconst (gc k_Reader_plain_1 37 rfl) ?_
              refine gw_zreturn (gc k_Reader_plain_1 38 rfl) rfl (by omega) ?_
              obtain ⟨e, hr3, hPe, he0⟩ := orR hQv11 c145
              clear hQv11
              exact ⟨rfl, hI10.1.tr hcl11, Or.inl ⟨e, pl_e (by rw [hpN]; exact po_2e (by omega) hr (Or.inl c94) hr3), rfl, hPe, he0⟩⟩
          · exact absurd c122 (by decide)
      · refine gw_iconst (gc k_Reader_plain_1 6 rfl) ?_
        refine gw_zreturn (gc k_Reader_plain_1 7 rfl) rfl (by omega) ?_
        obtain ⟨e, hr, hPe, he0⟩ := orR hQv8 c83
        clear hQv8
        exact ⟨rfl, hcla.tr hcl8, Or.inl ⟨e, pl_e (by rw [hpN]; exact po_1e (by omega) hr), rfl, hPe, he0⟩⟩
    · refine gw_iload_n (gc k_Reader_plain_0 23 rfl) rfl ?_
      refine gw_bipush (gc k_Reader_plain_0 24 rfl) (by decide) ?_
      refine gw_icmp_lt (tgt := 53) (gc k_Reader_plain_0 25 rfl) rfl (by omega) (fun c48 => ?_) (fun c48 => ?_)
      · exact absurd c48 (by decide)
      · refine gw_iconst (gc k_Reader_plain_0 26 rfl) ?_
        refine gw_zreturn (gc k_Reader_plain_0 27 rfl) rfl (by omega) ?_
        exact ⟨rfl, hcla, Or.inl ⟨p1, pl_e (by rw [hpN]; exact pPo_no (by omega)), rfl, hPa, hp1⟩⟩
  · refine gw_aload_n (gc k_Reader_plain_0 7 rfl) rfl rfl ?_
    refine gw_ldcS (k := 24) (gc k_Reader_plain_0 8 rfl) rfl rfl ?_
    refine gw_xV1 (gc k_Reader_plain_0 9 rfl) y_Reader_takeWord ln_Reader_115 (c_Reader_takeWord hx hf hB1 p1 hp1 hP1 24 (by decide)) rfl rfl (gAt hx rfl rfl) rfl (gble (by omega)) (fun r14 sh2 g14 hq14 => ?_)
    rw [show wc 24 = 7 from rfl] at hq14
    obtain ⟨rfl, rfl, hFq, hPq⟩ := hq14
    have hf := hFq.fin hf
    refine gw_beq (tgt := 36) (gc k_Reader_plain_0 10 rfl) rfl (fun c17 => ?_) (fun c17 => ?_)
    · rw [if_neg c17] at hPq
      have hT7 : ¬ tT B len p1 = 7 := by first | exact c17 | (intro q7; have := hpk1 (by omega); omega)
      obtain ⟨hIa, hpN, htuN⟩ : lpI B len K1 o g Lc [] p1 n g14 ∧ (pNots (tT B len) 401 p false).1 = p1 ∧ tu = tuB (pNots (tT B len) 401 p false).2 := by
        obtain ⟨f7, bb, e7, e8, e9⟩ := hN
        rw [pNots_f hT7] at e7
        exact ⟨(hI.rc hFq hPq (Int.le_refl _)), by rw [← e7], by rw [← e7]; exact e9⟩
      obtain ⟨ga, hga⟩ : ∃ G, G = g14 := ⟨_, rfl⟩
      rw [← hga] at hIa ⊢
      have hfa := hIa.1.fin hf0
      have hf := hfa
      have hBa := hIa.2.1.1
      have hPa := hIa.2.1.2.1
      have hcla := hIa.1
      have hla3 : ga 151 3 = (if o = true then 0 else 1) := (hcla _ _ (by omega) (by omega) (by decide) (by decide)).trans h3
      have hlbA : ga 152 2 = 0 ∨ ga 152 2 = 1 := by rw [hIa.2.2.2.2]; exact lbV_01 _ _ _
      refine gw_aload_n (gc k_Reader_plain_0 19 rfl) rfl rfl ?_
      refine gw_bipush (gc k_Reader_plain_0 20 rfl) (by decide) ?_
      refine gw_cV1 (gc k_Reader_plain_0 21 rfl) y_Reader_isSign ln_Reader_110 (c_Reader_isSign hx hfa hBa p1 hp1 hPa 40 (by omega)) rfl rfl (gAt hx rfl rfl) rfl (gble (by omega)) ?_
      rw [show (100 : Int) + 40 = 140 from rfl]
      refine gw_beq (tgt := 78) (gc k_Reader_plain_0 22 rfl) rfl (fun c42 => ?_) (fun c42 => ?_)
      · refine gw_aload_n (gc k_Reader_plain_1 2 rfl) rfl rfl ?_
        refine gw_iload_n (gc k_Reader_plain_1 3 rfl) rfl ?_
        refine gw_xV1 (gc k_Reader_plain_1 4 rfl) y_Reader_sum ln_Reader_125 (hSm ga p1 n (Lc + ([] : PK).length) K1 hfa hla3 hIa.2.1 hlbA) rfl rfl (gAt hx rfl rfl) rfl (gble (by omega)) (fun r80 sh2 g80 hq80 => ?_)
        obtain ⟨rfl, hQ8⟩ := hq80
        obtain ⟨v8, rfl, hv801, hcl8, hQv8⟩ := hQ8.v
        have hf := hcl8.fin hfa
        refine gw_if_ne (tgt := 88) (gc k_Reader_plain_1 5 rfl) rfl (by omega) (fun c83 => ?_) (fun c83 => ?_)
        · obtain ⟨p2, n2, c, s, hr, hcS2, hcd, hpre, hlbv⟩ := orL hQv8 c83
          clear hQv8
          have hI9 : lpI B len K1 o g Lc c p2 n2 g80 := hIa.app hcl8 hcS2 hcd hpre hlbv
          have hf9 := hI9.1.fin hf0
          have hp9 := hI9.2.1.2.2.2.2.1.1
          refine gw_aload_n (gc k_Reader_plain_1 8 rfl) rfl rfl ?_
          refine gw_bipush (gc k_Reader_plain_1 9 rfl) (by decide) ?_
          refine gw_cV1 (gc k_Reader_plain_1 10 rfl) y_Reader_isSign ln_Reader_110 (c_Reader_isSign hx hf9 hI9.2.1.1 p2 hp9 hI9.2.1.2.1 60 (by omega)) rfl rfl (gAt hx rfl rfl) rfl (gble (by omega)) ?_
          rw [show (100 : Int) + 60 = 160 from rfl]
          refine gw_beq (tgt := 102) (gc k_Reader_plain_1 11 rfl) rfl (fun c94 => ?_) (fun c94 => ?_)
          · refine gw_aload_n (gc k_Reader_plain_1 14 rfl) rfl rfl ?_
            refine gw_bipush (gc k_Reader_plain_1 15 rfl) (by decide) ?_
            refine gw_cV1 (gc k_Reader_plain_1 16 rfl) y_Reader_isSign ln_Reader_110 (c_Reader_isSign hx hf9 hI9.2.1.1 p2 hp9 hI9.2.1.2.1 62 (by omega)) rfl rfl (gAt hx rfl rfl) rfl (gble (by omega)) ?_
            rw [show (100 : Int) + 62 = 162 from rfl]
            refine gw_beq (tgt := 116) (gc k_Reader_plain_1 17 rfl) rfl (fun c108 => ?_) (fun c108 => ?_)
            · refine gw_bipush (gc k_Reader_plain_1 20 rfl) (by decide) ?_
              refine gw_istore_3 (gc k_Reader_plain_1 21 rfl) rfl rfl ?_
              refine gw_iload_n (gc k_Reader_plain_1 22 rfl) rfl ?_
              refine gw_bipush (gc k_Reader_plain_1 23 rfl) (by decide) ?_
              refine gw_icmp_ne (tgt := 136) (gc k_Reader_plain_1 24 rfl) rfl (by omega) (fun c122 => ?_) (fun c122 => ?_)
              · exact absurd rfl c122
              · refine gw_aload_n (gc k_Reader_plain_1 25 rfl) rfl rfl ?_
                refine gw_bipush (gc k_Reader_plain_1 26 rfl) (by decide) ?_
                refine gw_cV1 (gc k_Reader_plain_1 27 rfl) y_Reader_isSign ln_Reader_110 (c_Reader_isSign hx hf9 hI9.2.1.1 p2 hp9 hI9.2.1.2.1 61 (by omega)) rfl rfl (gAt hx rfl rfl) rfl (gble (by omega)) ?_
                rw [show (100 : Int) + 61 = 161 from rfl]
                refine gw_bne (tgt := 136) (gc k_Reader_plain_1 28 rfl) rfl (fun c131 => ?_) (fun c131 => ?_)
                · refine gw_aload_n (gc k_Reader_plain_1 31 rfl) rfl rfl ?_
                  refine gw_xV1 (gc k_Reader_plain_1 32 rfl) y_Reader_advance ln_Reader_56 (c_advP hx hf9 hI9.2.1.1 p2 hp9 hI9.2.1.2.1) rfl rfl (gAt hx rfl rfl) rfl (gble (by omega)) (fun r137 sh2 g137 hq137 => ?_)
                  obtain ⟨rfl, rfl, hF10, hP10⟩ := hq137
                  have hI10 := hI9.k hF10 hP10
                  have hf10 := hI10.1.fin hf0
                  have hf := hf10
                  refine gw_aload_n (gc k_Reader_plain_1 33 rfl) rfl rfl ?_
                  refine gw_iload_n (gc k_Reader_plain_1 34 rfl) rfl ?_
                  refine gw_xV1 (gc k_Reader_plain_1 35 rfl) y_Reader_sum ln_Reader_125 (hSm g137 (p2 + 1) n2 (Lc + c.length) (K1 + 1) hf10 ((hI10.1 _ _ (by omega) (by omega) (by decide) (by decide)).trans h3) hI10.2.1 (by rw [hI10.2.2.2.2]; exact lbV_01 _ _ _)) rfl rfl (gAt hx rfl rfl) rfl (gble (by omega)) (fun r142 sh2 g142 hq142 => ?_)
                  obtain ⟨rfl, hQ11⟩ := hq142
                  obtain ⟨v11, rfl, hv1101, hcl11, hQv11⟩ := hQ11.v
                  have hf := hcl11.fin hf10
                  refine gw_if_ne (tgt := 150) (gc k_Reader_plain_1 36 rfl) rfl (by omega) (fun c145 => ?_) (fun c145 => ?_)
                  · obtain ⟨p3, n3, c3, s3, hr3, hcS3, hcd3, hpre3, hlbv3⟩ := orL hQv11 c145
                    clear hQv11
                    have hI12 := hI10.app hcl11 hcS3 hcd3 hpre3 hlbv3
                    have hf12 := hI12.1.fin hf0
                    have hL12 := hI12.2.1.2.2.2.1
                    have hL13 := hI12.2.1.2.2.2.2
                    have hpk3 := hk p2
                    have hrel : tT B len p2 = 160 ∨ tT B len p2 = 162 ∨ tT B len p2 = 161 := (Or.inr (Or.inr c131))
                    have hbnd : Lc + ((c ++ c3).length : Int) ≤ 399 := by
                      have q := hfarS _ _ _ _ _ _ hr3
                      omega
                    refine gw_aload_n (gc k_Reader_plain_1 39 rfl) rfl rfl ?_
                    refine gw_iload_n (gc k_Reader_plain_2 0 rfl) rfl ?_
                    refine gw_iconst (gc k_Reader_plain_2 1 rfl) ?_
                    refine gw_cV1 (gc k_Reader_plain_2 2 rfl) y_Reader_step ln_Reader_156 (c_Reader_step hx hf12 12 0 (by have := hbnd; rw [hL12]; omega)) rfl rfl (gAt hx rfl rfl) rfl (gble (by omega)) ?_
                    refine gw_pop (gc k_Reader_plain_2 3 rfl) rfl ?_
                    have hE := hI12.st (K := K1) (by omega) (op := 12) (a := 0) (a2 := 0) (by decide) rfl
                    have hPos : pPosW (tT B len) none sm (pNots (tT B len) 401 p false).1 n = .inr (p3, n3, c ++ c3 ++ [(12, 0)], pjs 12 s s3) := by rw [hpN]; exact po_2i (by omega) hr hrel hr3 (by rw [if_neg c94, if_neg c108])
                    have hfE := hE.1.fin hf0
                    have hLE := hE.2.1.2.2.2.1
                    have hLE2 := hE.2.1.2.2.2.2
                    have hfr9 := hfarS _ _ _ _ _ _ hr3
                    have hf := hfE
                    refine gw_iload_n (gc k_Reader_plain_2 4 rfl) rfl ?_
                    refine gw_if_eq (tgt := 168) (gc k_Reader_plain_2 5 rfl) rfl (by omega) (fun c158 => ?_) (fun c158 => ?_)
                    · refine gw_iconst (gc k_Reader_plain_2 11 rfl) ?_
                      refine gw_zreturn (gc k_Reader_plain_2 12 rfl) rfl (by omega) ?_
                      have hb2 : (pNots (tT B len) 401 p false).2 = false := by
                        cases hbb : (pNots (tT B len) 401 p false).2
                        · rfl
                        · rw [hbb] at htuN; exact absurd (c158.symm.trans htuN) (by decide)
                      exact ⟨rfl, (hE.kle (K2 := K) (by omega)).q (by rw [pl_i hPos, hb2]; rfl)⟩
                    · refine gw_aload_n (gc k_Reader_plain_2 6 rfl) rfl rfl ?_
                      refine gw_iconst (gc k_Reader_plain_2 7 rfl) ?_
                      refine gw_iconst (gc k_Reader_plain_2 8 rfl) ?_
                      refine gw_cV1 (gc k_Reader_plain_2 9 rfl) y_Reader_step ln_Reader_156 (c_Reader_step hx hfE 2 0 (by rw [hLE]; omega)) rfl rfl (gAt hx rfl rfl) rfl (gble (by omega)) ?_
                      refine gw_pop (gc k_Reader_plain_2 10 rfl) rfl ?_
                      refine gw_iconst (gc k_Reader_plain_2 11 rfl) ?_
                      refine gw_zreturn (gc k_Reader_plain_2 12 rfl) rfl (by omega) ?_
                      have hb2 : (pNots (tT B len) 401 p false).2 = true := by
                        cases hbb : (pNots (tT B len) 401 p false).2
                        · rw [hbb] at htuN; exact absurd htuN c158
                        · rfl
                      have hE2 := (hE.kle (K2 := K + 1) (by omega)).st (K := K) hKK (op := 2) (a := 0) (a2 := 0) (by decide) rfl
                      exact ⟨rfl, hE2.q (by rw [pl_i hPos, hb2]; rfl)⟩
                  · refine gw_iconst (gc k_Reader_plain_1 37 rfl) ?_
                    refine gw_zreturn (gc k_Reader_plain_1 38 rfl) rfl (by omega) ?_
                    obtain ⟨e, hr3, hPe, he0⟩ := orR hQv11 c145
                    clear hQv11
                    exact ⟨rfl, hI10.1.tr hcl11, Or.inl ⟨e, pl_e (by rw [hpN]; exact po_2e (by omega) hr (Or.inr (Or.inr c131)) hr3), rfl, hPe, he0⟩⟩
                · refine gw_iconst (gc k_Reader_plain_1 29 rfl) ?_
                  refine gw_zreturn (gc k_Reader_plain_1 30 rfl) rfl (by omega) ?_
                  exact ⟨rfl, hI9.1, Or.inl ⟨p2, pl_e (by rw [hpN]; exact po_r (by omega) hr (fun q => by omega)), rfl, hI9.2.1.2.1, hp9⟩⟩
            · refine gw_bipush (gc k_Reader_plain_1 18 rfl) (by decide) ?_
              refine gw_goto (tgt := 118) (gc k_Reader_plain_1 19 rfl) rfl ?_
              refine gw_istore_3 (gc k_Reader_plain_1 21 rfl) rfl rfl ?_
              refine gw_iload_n (gc k_Reader_plain_1 22 rfl) rfl ?_
              refine gw_bipush (gc k_Reader_plain_1 23 rfl) (by decide) ?_
              refine gw_icmp_ne (tgt := 136) (gc k_Reader_plain_1 24 rfl) rfl (by omega) (fun c122 => ?_) (fun c122 => ?_)
              · refine gw_aload_n (gc k_Reader_plain_1 31 rfl) rfl rfl ?_
                refine gw_xV1 (gc k_Reader_plain_1 32 rfl) y_Reader_advance ln_Reader_56 (c_advP hx hf9 hI9.2.1.1 p2 hp9 hI9.2.1.2.1) rfl rfl (gAt hx rfl rfl) rfl (gble (by omega)) (fun r137 sh2 g137 hq137 => ?_)
                obtain ⟨rfl, rfl, hF10, hP10⟩ := hq137
                have hI10 := hI9.k hF10 hP10
                have hf10 := hI10.1.fin hf0
                have hf := hf10
                refine gw_aload_n (gc k_Reader_plain_1 33 rfl) rfl rfl ?_
                refine gw_iload_n (gc k_Reader_plain_1 34 rfl) rfl ?_
                refine gw_xV1 (gc k_Reader_plain_1 35 rfl) y_Reader_sum ln_Reader_125 (hSm g137 (p2 + 1) n2 (Lc + c.length) (K1 + 1) hf10 ((hI10.1 _ _ (by omega) (by omega) (by decide) (by decide)).trans h3) hI10.2.1 (by rw [hI10.2.2.2.2]; exact lbV_01 _ _ _)) rfl rfl (gAt hx rfl rfl) rfl (gble (by omega)) (fun r142 sh2 g142 hq142 => ?_)
                obtain ⟨rfl, hQ11⟩ := hq142
                obtain ⟨v11, rfl, hv1101, hcl11, hQv11⟩ := hQ11.v
                have hf := hcl11.fin hf10
                refine gw_if_ne (tgt := 150) (gc k_Reader_plain_1 36 rfl) rfl (by omega) (fun c145 => ?_) (fun c145 => ?_)
                · obtain ⟨p3, n3, c3, s3, hr3, hcS3, hcd3, hpre3, hlbv3⟩ := orL hQv11 c145
                  clear hQv11
                  have hI12 := hI10.app hcl11 hcS3 hcd3 hpre3 hlbv3
                  have hf12 := hI12.1.fin hf0
                  have hL12 := hI12.2.1.2.2.2.1
                  have hL13 := hI12.2.1.2.2.2.2
                  have hpk3 := hk p2
                  have hrel : tT B len p2 = 160 ∨ tT B len p2 = 162 ∨ tT B len p2 = 161 := (Or.inr (Or.inl c108))
                  have hbnd : Lc + ((c ++ c3).length : Int) ≤ 399 := by
                    have q := hfarS _ _ _ _ _ _ hr3
                    omega
                  refine gw_aload_n (gc k_Reader_plain_1 39 rfl) rfl rfl ?_
                  refine gw_iload_n (gc k_Reader_plain_2 0 rfl) rfl ?_
                  refine gw_iconst (gc k_Reader_plain_2 1 rfl) ?_
                  refine gw_cV1 (gc k_Reader_plain_2 2 rfl) y_Reader_step ln_Reader_156 (c_Reader_step hx hf12 11 0 (by have := hbnd; rw [hL12]; omega)) rfl rfl (gAt hx rfl rfl) rfl (gble (by omega)) ?_
                  refine gw_pop (gc k_Reader_plain_2 3 rfl) rfl ?_
                  have hE := hI12.st (K := K1) (by omega) (op := 11) (a := 0) (a2 := 0) (by decide) rfl
                  have hPos : pPosW (tT B len) none sm (pNots (tT B len) 401 p false).1 n = .inr (p3, n3, c ++ c3 ++ [(11, 0)], pjs 11 s s3) := by rw [hpN]; exact po_2i (by omega) hr hrel hr3 (by rw [if_neg c94, if_pos c108])
                  have hfE := hE.1.fin hf0
                  have hLE := hE.2.1.2.2.2.1
                  have hLE2 := hE.2.1.2.2.2.2
                  have hfr9 := hfarS _ _ _ _ _ _ hr3
                  have hf := hfE
                  refine gw_iload_n (gc k_Reader_plain_2 4 rfl) rfl ?_
                  refine gw_if_eq (tgt := 168) (gc k_Reader_plain_2 5 rfl) rfl (by omega) (fun c158 => ?_) (fun c158 => ?_)
                  · refine gw_iconst (gc k_Reader_plain_2 11 rfl) ?_
                    refine gw_zreturn (gc k_Reader_plain_2 12 rfl) rfl (by omega) ?_
                    have hb2 : (pNots (tT B len) 401 p false).2 = false := by
                      cases hbb : (pNots (tT B len) 401 p false).2
                      · rfl
                      · rw [hbb] at htuN; exact absurd (c158.symm.trans htuN) (by decide)
                    exact ⟨rfl, (hE.kle (K2 := K) (by omega)).q (by rw [pl_i hPos, hb2]; rfl)⟩
                  · refine gw_aload_n (gc k_Reader_plain_2 6 rfl) rfl rfl ?_
                    refine gw_iconst (gc k_Reader_plain_2 7 rfl) ?_
                    refine gw_iconst (gc k_Reader_plain_2 8 rfl) ?_
                    refine gw_cV1 (gc k_Reader_plain_2 9 rfl) y_Reader_step ln_Reader_156 (c_Reader_step hx hfE 2 0 (by rw [hLE]; omega)) rfl rfl (gAt hx rfl rfl) rfl (gble (by omega)) ?_
                    refine gw_pop (gc k_Reader_plain_2 10 rfl) rfl ?_
                    refine gw_iconst (gc k_Reader_plain_2 11 rfl) ?_
                    refine gw_zreturn (gc k_Reader_plain_2 12 rfl) rfl (by omega) ?_
                    have hb2 : (pNots (tT B len) 401 p false).2 = true := by
                      cases hbb : (pNots (tT B len) 401 p false).2
                      · rw [hbb] at htuN; exact absurd htuN c158
                      · rfl
                    have hE2 := (hE.kle (K2 := K + 1) (by omega)).st (K := K) hKK (op := 2) (a := 0) (a2 := 0) (by decide) rfl
                    exact ⟨rfl, hE2.q (by rw [pl_i hPos, hb2]; rfl)⟩
                · refine gw_iconst (gc k_Reader_plain_1 37 rfl) ?_
                  refine gw_zreturn (gc k_Reader_plain_1 38 rfl) rfl (by omega) ?_
                  obtain ⟨e, hr3, hPe, he0⟩ := orR hQv11 c145
                  clear hQv11
                  exact ⟨rfl, hI10.1.tr hcl11, Or.inl ⟨e, pl_e (by rw [hpN]; exact po_2e (by omega) hr (Or.inr (Or.inl c108)) hr3), rfl, hPe, he0⟩⟩
              · exact absurd c122 (by decide)
          · refine gw_bipush (gc k_Reader_plain_1 12 rfl) (by decide) ?_
            refine gw_goto (tgt := 118) (gc k_Reader_plain_1 13 rfl) rfl ?_
            refine gw_istore_3 (gc k_Reader_plain_1 21 rfl) rfl rfl ?_
            refine gw_iload_n (gc k_Reader_plain_1 22 rfl) rfl ?_
            refine gw_bipush (gc k_Reader_plain_1 23 rfl) (by decide) ?_
            refine gw_icmp_ne (tgt := 136) (gc k_Reader_plain_1 24 rfl) rfl (by omega) (fun c122 => ?_) (fun c122 => ?_)
            · refine gw_aload_n (gc k_Reader_plain_1 31 rfl) rfl rfl ?_
              refine gw_xV1 (gc k_Reader_plain_1 32 rfl) y_Reader_advance ln_Reader_56 (c_advP hx hf9 hI9.2.1.1 p2 hp9 hI9.2.1.2.1) rfl rfl (gAt hx rfl rfl) rfl (gble (by omega)) (fun r137 sh2 g137 hq137 => ?_)
              obtain ⟨rfl, rfl, hF10, hP10⟩ := hq137
              have hI10 := hI9.k hF10 hP10
              have hf10 := hI10.1.fin hf0
              have hf := hf10
              refine gw_aload_n (gc k_Reader_plain_1 33 rfl) rfl rfl ?_
              refine gw_iload_n (gc k_Reader_plain_1 34 rfl) rfl ?_
              refine gw_xV1 (gc k_Reader_plain_1 35 rfl) y_Reader_sum ln_Reader_125 (hSm g137 (p2 + 1) n2 (Lc + c.length) (K1 + 1) hf10 ((hI10.1 _ _ (by omega) (by omega) (by decide) (by decide)).trans h3) hI10.2.1 (by rw [hI10.2.2.2.2]; exact lbV_01 _ _ _)) rfl rfl (gAt hx rfl rfl) rfl (gble (by omega)) (fun r142 sh2 g142 hq142 => ?_)
              obtain ⟨rfl, hQ11⟩ := hq142
              obtain ⟨v11, rfl, hv1101, hcl11, hQv11⟩ := hQ11.v
              have hf := hcl11.fin hf10
              refine gw_if_ne (tgt := 150) (gc k_Reader_plain_1 36 rfl) rfl (by omega) (fun c145 => ?_) (fun c145 => ?_)
              · obtain ⟨p3, n3, c3, s3, hr3, hcS3, hcd3, hpre3, hlbv3⟩ := orL hQv11 c145
                clear hQv11
                have hI12 := hI10.app hcl11 hcS3 hcd3 hpre3 hlbv3
                have hf12 := hI12.1.fin hf0
                have hL12 := hI12.2.1.2.2.2.1
                have hL13 := hI12.2.1.2.2.2.2
                have hpk3 := hk p2
                have hrel : tT B len p2 = 160 ∨ tT B len p2 = 162 ∨ tT B len p2 = 161 := (Or.inl c94)
                have hbnd : Lc + ((c ++ c3).length : Int) ≤ 399 := by
                  have q := hfarS _ _ _ _ _ _ hr3
                  omega
                refine gw_aload_n (gc k_Reader_plain_1 39 rfl) rfl rfl ?_
                refine gw_iload_n (gc k_Reader_plain_2 0 rfl) rfl ?_
                refine gw_iconst (gc k_Reader_plain_2 1 rfl) ?_
                refine gw_cV1 (gc k_Reader_plain_2 2 rfl) y_Reader_step ln_Reader_156 (c_Reader_step hx hf12 10 0 (by have := hbnd; rw [hL12]; omega)) rfl rfl (gAt hx rfl rfl) rfl (gble (by omega)) ?_
                refine gw_pop (gc k_Reader_plain_2 3 rfl) rfl ?_
                have hE := hI12.st (K := K1) (by omega) (op := 10) (a := 0) (a2 := 0) (by decide) rfl
                have hPos : pPosW (tT B len) none sm (pNots (tT B len) 401 p false).1 n = .inr (p3, n3, c ++ c3 ++ [(10, 0)], pjs 10 s s3) := by rw [hpN]; exact po_2i (by omega) hr hrel hr3 (by rw [if_pos c94])
                have hfE := hE.1.fin hf0
                have hLE := hE.2.1.2.2.2.1
                have hLE2 := hE.2.1.2.2.2.2
                have hfr9 := hfarS _ _ _ _ _ _ hr3
                have hf := hfE
                refine gw_iload_n (gc k_Reader_plain_2 4 rfl) rfl ?_
                refine gw_if_eq (tgt := 168) (gc k_Reader_plain_2 5 rfl) rfl (by omega) (fun c158 => ?_) (fun c158 => ?_)
                · refine gw_iconst (gc k_Reader_plain_2 11 rfl) ?_
                  refine gw_zreturn (gc k_Reader_plain_2 12 rfl) rfl (by omega) ?_
                  have hb2 : (pNots (tT B len) 401 p false).2 = false := by
                    cases hbb : (pNots (tT B len) 401 p false).2
                    · rfl
                    · rw [hbb] at htuN; exact absurd (c158.symm.trans htuN) (by decide)
                  exact ⟨rfl, (hE.kle (K2 := K) (by omega)).q (by rw [pl_i hPos, hb2]; rfl)⟩
                · refine gw_aload_n (gc k_Reader_plain_2 6 rfl) rfl rfl ?_
                  refine gw_iconst (gc k_Reader_plain_2 7 rfl) ?_
                  refine gw_iconst (gc k_Reader_plain_2 8 rfl) ?_
                  refine gw_cV1 (gc k_Reader_plain_2 9 rfl) y_Reader_step ln_Reader_156 (c_Reader_step hx hfE 2 0 (by rw [hLE]; omega)) rfl rfl (gAt hx rfl rfl) rfl (gble (by omega)) ?_
                  refine gw_pop (gc k_Reader_plain_2 10 rfl) rfl ?_
                  refine gw_iconst (gc k_Reader_plain_2 11 rfl) ?_
                  refine gw_zreturn (gc k_Reader_plain_2 12 rfl) rfl (by omega) ?_
                  have hb2 : (pNots (tT B len) 401 p false).2 = true := by
                    cases hbb : (pNots (tT B len) 401 p false).2
                    · rw [hbb] at htuN; exact absurd htuN c158
                    · rfl
                  have hE2 := (hE.kle (K2 := K + 1) (by omega)).st (K := K) hKK (op := 2) (a := 0) (a2 := 0) (by decide) rfl
                  exact ⟨rfl, hE2.q (by rw [pl_i hPos, hb2]; rfl)⟩
              · refine gw_iconst (gc k_Reader_plain_1 37 rfl) ?_
                refine gw_zreturn (gc k_Reader_plain_1 38 rfl) rfl (by omega) ?_
                obtain ⟨e, hr3, hPe, he0⟩ := orR hQv11 c145
                clear hQv11
                exact ⟨rfl, hI10.1.tr hcl11, Or.inl ⟨e, pl_e (by rw [hpN]; exact po_2e (by omega) hr (Or.inl c94) hr3), rfl, hPe, he0⟩⟩
            · exact absurd c122 (by decide)
        · refine gw_iconst (gc k_Reader_plain_1 6 rfl) ?_
          refine gw_zreturn (gc k_Reader_plain_1 7 rfl) rfl (by omega) ?_
          obtain ⟨e, hr, hPe, he0⟩ := orR hQv8 c83
          clear hQv8
          exact ⟨rfl, hcla.tr hcl8, Or.inl ⟨e, pl_e (by rw [hpN]; exact po_1e (by omega) hr), rfl, hPe, he0⟩⟩
      · refine gw_iload_n (gc k_Reader_plain_0 23 rfl) rfl ?_
        refine gw_bipush (gc k_Reader_plain_0 24 rfl) (by decide) ?_
        refine gw_icmp_lt (tgt := 53) (gc k_Reader_plain_0 25 rfl) rfl (by omega) (fun c48 => ?_) (fun c48 => ?_)
        · exact absurd c48 (by decide)
        · refine gw_iconst (gc k_Reader_plain_0 26 rfl) ?_
          refine gw_zreturn (gc k_Reader_plain_0 27 rfl) rfl (by omega) ?_
          exact ⟨rfl, hcla, Or.inl ⟨p1, pl_e (by rw [hpN]; exact pPo_no (by omega)), rfl, hPa, hp1⟩⟩
    · refine gw_iload_n (gc k_Reader_plain_0 11 rfl) rfl ?_
      refine gw_if_ne (tgt := 28) (gc k_Reader_plain_0 12 rfl) rfl (by omega) (fun c21 => ?_) (fun c21 => ?_)
      · refine gw_iconst (gc k_Reader_plain_0 15 rfl) ?_
        refine gw_istore_2 (gc k_Reader_plain_0 16 rfl) rfl rfl ?_
        refine gw_iinc_3 (gc k_Reader_plain_0 17 rfl) rfl rfl ?_
        refine gw_goto (tgt := 4) (gc k_Reader_plain_0 18 rfl) rfl ?_
        obtain ⟨f7, bb, e7, e8, e9⟩ := hN
        obtain ⟨f7, rfl⟩ : ∃ q, f7 = q + 1 := ⟨f7 - 1, by have := hpk1 (by omega); omega⟩
        rw [pNots_7 c17] at e7
        have htb : (0 : Int) = tuB (!bb) := by
          cases bb
          · first | rfl | (exfalso; rw [e9] at c21; exact absurd c21 (by decide)) | (exfalso; exact c21 e9)
          · first | rfl | (exfalso; rw [e9] at c21; exact absurd c21 (by decide)) | (exfalso; exact c21 e9)
        rw [if_pos c17] at hPq
        have hI5 := hI.k hFq hPq
        have := hpk1 (by omega)
        exact ih (i + 1, 0, p1 + 1, K1 + 1, g14) (show (0 ≤ (i + 1) ∧ (i + 1) ≤ (p1 + 1) ∧ (i + 1) ≤ 400) ∧ ((0 : Int) = 0 ∨ (0 : Int) = 1) ∧ (K ≤ (K1 + 1) ∧ ((0 : Int) = 1 → K + 1 ≤ (K1 + 1))) ∧ lpI B len (K1 + 1) o g Lc [] (p1 + 1) n g14 ∧ nOK (tT B len) p (p1 + 1) (0 : Int) from ⟨by omega, by omega, by omega, hI5, ⟨f7, !bb, e7, by omega, htb⟩⟩) (show (500 - (p1 + 1)).toNat < (500 - p1).toNat from by omega)
      · refine gw_iconst (gc k_Reader_plain_0 13 rfl) ?_
        refine gw_goto (tgt := 29) (gc k_Reader_plain_0 14 rfl) rfl ?_
        refine gw_istore_2 (gc k_Reader_plain_0 16 rfl) rfl rfl ?_
        refine gw_iinc_3 (gc k_Reader_plain_0 17 rfl) rfl rfl ?_
        refine gw_goto (tgt := 4) (gc k_Reader_plain_0 18 rfl) rfl ?_
        obtain ⟨f7, bb, e7, e8, e9⟩ := hN
        obtain ⟨f7, rfl⟩ : ∃ q, f7 = q + 1 := ⟨f7 - 1, by have := hpk1 (by omega); omega⟩
        rw [pNots_7 c17] at e7
        have htb : (1 : Int) = tuB (!bb) := by
          cases bb
          · first | rfl | (exfalso; rw [e9] at c21; exact absurd c21 (by decide)) | (exfalso; exact c21 e9)
          · first | rfl | (exfalso; rw [e9] at c21; exact absurd c21 (by decide)) | (exfalso; exact c21 e9)
        rw [if_pos c17] at hPq
        have hI5 := hI.k hFq hPq
        have := hpk1 (by omega)
        exact ih (i + 1, 1, p1 + 1, K1 + 1, g14) (show (0 ≤ (i + 1) ∧ (i + 1) ≤ (p1 + 1) ∧ (i + 1) ≤ 400) ∧ ((1 : Int) = 0 ∨ (1 : Int) = 1) ∧ (K ≤ (K1 + 1) ∧ ((1 : Int) = 1 → K + 1 ≤ (K1 + 1))) ∧ lpI B len (K1 + 1) o g Lc [] (p1 + 1) n g14 ∧ nOK (tT B len) p (p1 + 1) (1 : Int) from ⟨by omega, by omega, by omega, hI5, ⟨f7, !bb, e7, by omega, htb⟩⟩) (show (500 - (p1 + 1)).toNat < (500 - p1).toNat from by omega)
set_option maxHeartbeats 8000000 in
theorem rc_plain1 {sh : gS} (hx : gFix sh) {B : Int → Int} {len nt : Int} {o : Bool} (hk : pOK (tT B len) nt) (hnt : nt ≤ 400) {D D1 : Nat} (hD : 9 ≤ D) (hD1 : D1 + 1 ≤ D) {dp : Int} {sm : Int → Int → PR} (hfarS : pFar nt sm) (hSm : RcL B len o sh f_Reader_sum D1 [(2, 151), (0, dp)] sm) (hdp : 0 ≤ dp ∧ dp < 8) {f : Int → Int → PR} {D2 : Nat} (hD2 : D2 + 1 ≤ D) (hS : RcL B len o sh f_Reader_test D2 [(2, 151), (0, dp + 1)] f) : RcL B len o sh f_Reader_plain D [(2, 151), (0, dp)] (pPlainW (tT B len) (some f) sm) := by
  intro g p n Lc K hf h3 hcS hlb2
  have hf0 := hf
  have hKK := hcS.2.2.2.2.2.1.2
  have hpp := hcS.2.2.2.2.1.1
  refine gTri.of (by decide +kernel) rfl ?_
  show gWP f_Reader_plain _ _ _ 0 [(2, 151), (0, dp), (9, 0), (9, 0)] [] sh g _
  refine gw_iconst (gc k_Reader_plain_0 0 rfl) ?_
  refine gw_istore_2 (gc k_Reader_plain_0 1 rfl) rfl rfl ?_
  refine gw_iconst (gc k_Reader_plain_0 2 rfl) ?_
  refine gw_istore_3 (gc k_Reader_plain_0 3 rfl) rfl rfl ?_
  refine gwloop (σ := Int × Int × Int × Int × gM) (fun zs => (0 ≤ (zs.1) ∧ (zs.1) ≤ (zs.2.2.1) ∧ (zs.1) ≤ 400) ∧ ((zs.2.1) = 0 ∨ (zs.2.1) = 1) ∧ (K ≤ (zs.2.2.2.1) ∧ ((zs.2.1) = 1 → K + 1 ≤ (zs.2.2.2.1))) ∧ lpI B len (zs.2.2.2.1) o g Lc [] (zs.2.2.1) n (zs.2.2.2.2) ∧ nOK (tT B len) p (zs.2.2.1) (zs.2.1)) (fun zs => (500 - (zs.2.2.1)).toNat) (fun zs => [(2, 151), (0, dp), (0, (zs.2.1)), (0, (zs.1))]) (fun zs => (zs.2.2.2.2)) (0, 0, p, K, g) (show (0 ≤ (0 : Int) ∧ (0 : Int) ≤ p ∧ (0 : Int) ≤ 400) ∧ ((0 : Int) = 0 ∨ (0 : Int) = 1) ∧ (K ≤ K ∧ ((0 : Int) = 1 → K + 1 ≤ K)) ∧ lpI B len K o g Lc [] p n g ∧ nOK (tT B len) p p (0 : Int) from ⟨⟨by omega, by omega, by omega⟩, Or.inl rfl, ⟨Int.le_refl _, fun q => absurd q (by decide)⟩, ⟨clF.rf g, by rw [show Lc + (([] : PK).length : Int) = Lc from Int.add_zero _]; exact hcS, trivial, fun _ _ => ⟨rfl, rfl⟩, (lbV_no _ hlb2 rfl).symm⟩, ⟨401, false, rfl, by omega, rfl⟩⟩) rfl rfl (fun zs hI ih => ?_)
  obtain ⟨i, tu, p1, K1, g1⟩ := zs
  replace hI : (0 ≤ i ∧ i ≤ p1 ∧ i ≤ 400) ∧ (tu = 0 ∨ tu = 1) ∧ (K ≤ K1 ∧ (tu = 1 → K + 1 ≤ K1)) ∧ lpI B len K1 o g Lc [] p1 n g1 ∧ nOK (tT B len) p p1 tu := hI
  obtain ⟨hi, htu, hK1, hI, hN⟩ := hI
  show gWP _ _ _ _ _ [(2, 151), (0, dp), (0, tu), (0, i)] [] _ (g1) _
  have hf := hI.1.fin hf0
  have hB1 := hI.2.1.1
  have hP1 := hI.2.1.2.1
  have hp1 := hI.2.1.2.2.2.2.1.1
  have hpk1 := hk p1
  refine gw_iload_n (gc k_Reader_plain_0 4 rfl) rfl ?_
  refine gw_sipush (gc k_Reader_plain_0 5 rfl) (by decide) ?_
  refine gw_icmp_ge (tgt := 36) (gc k_Reader_plain_0 6 rfl) rfl (by omega) (fun c8 => ?_) (fun c8 => ?_)
  · have hT7 : ¬ tT B len p1 = 7 := by first | exact c17 | (intro q7; have := hpk1 (by omega); omega)
    obtain ⟨hIa, hpN, htuN⟩ : lpI B len K1 o g Lc [] p1 n g1 ∧ (pNots (tT B len) 401 p false).1 = p1 ∧ tu = tuB (pNots (tT B len) 401 p false).2 := by
      obtain ⟨f7, bb, e7, e8, e9⟩ := hN
      rw [pNots_f hT7] at e7
      exact ⟨hI, by rw [← e7], by rw [← e7]; exact e9⟩
    obtain ⟨ga, hga⟩ : ∃ G, G = g1 := ⟨_, rfl⟩
    rw [← hga] at hIa ⊢
    have hfa := hIa.1.fin hf0
    have hf := hfa
    have hBa := hIa.2.1.1
    have hPa := hIa.2.1.2.1
    have hcla := hIa.1
    have hla3 : ga 151 3 = (if o = true then 0 else 1) := (hcla _ _ (by omega) (by omega) (by decide) (by decide)).trans h3
    have hlbA : ga 152 2 = 0 ∨ ga 152 2 = 1 := by rw [hIa.2.2.2.2]; exact lbV_01 _ _ _
    refine gw_aload_n (gc k_Reader_plain_0 19 rfl) rfl rfl ?_
    refine gw_bipush (gc k_Reader_plain_0 20 rfl) (by decide) ?_
    refine gw_cV1 (gc k_Reader_plain_0 21 rfl) y_Reader_isSign ln_Reader_110 (c_Reader_isSign hx hfa hBa p1 hp1 hPa 40 (by omega)) rfl rfl (gAt hx rfl rfl) rfl (gble (by omega)) ?_
    rw [show (100 : Int) + 40 = 140 from rfl]
    refine gw_beq (tgt := 78) (gc k_Reader_plain_0 22 rfl) rfl (fun c42 => ?_) (fun c42 => ?_)
    · refine gw_aload_n (gc k_Reader_plain_1 2 rfl) rfl rfl ?_
      refine gw_iload_n (gc k_Reader_plain_1 3 rfl) rfl ?_
      refine gw_xV1 (gc k_Reader_plain_1 4 rfl) y_Reader_sum ln_Reader_125 (hSm ga p1 n (Lc + ([] : PK).length) K1 hfa hla3 hIa.2.1 hlbA) rfl rfl (gAt hx rfl rfl) rfl (gble (by omega)) (fun r80 sh2 g80 hq80 => ?_)
      obtain ⟨rfl, hQ8⟩ := hq80
      obtain ⟨v8, rfl, hv801, hcl8, hQv8⟩ := hQ8.v
      have hf := hcl8.fin hfa
      refine gw_if_ne (tgt := 88) (gc k_Reader_plain_1 5 rfl) rfl (by omega) (fun c83 => ?_) (fun c83 => ?_)
      · obtain ⟨p2, n2, c, s, hr, hcS2, hcd, hpre, hlbv⟩ := orL hQv8 c83
        clear hQv8
        have hI9 : lpI B len K1 o g Lc c p2 n2 g80 := hIa.app hcl8 hcS2 hcd hpre hlbv
        have hf9 := hI9.1.fin hf0
        have hp9 := hI9.2.1.2.2.2.2.1.1
        refine gw_aload_n (gc k_Reader_plain_1 8 rfl) rfl rfl ?_
        refine gw_bipush (gc k_Reader_plain_1 9 rfl) (by decide) ?_
        refine gw_cV1 (gc k_Reader_plain_1 10 rfl) y_Reader_isSign ln_Reader_110 (c_Reader_isSign hx hf9 hI9.2.1.1 p2 hp9 hI9.2.1.2.1 60 (by omega)) rfl rfl (gAt hx rfl rfl) rfl (gble (by omega)) ?_
        rw [show (100 : Int) + 60 = 160 from rfl]
        refine gw_beq (tgt := 102) (gc k_Reader_plain_1 11 rfl) rfl (fun c94 => ?_) (fun c94 => ?_)
        · refine gw_aload_n (gc k_Reader_plain_1 14 rfl) rfl rfl ?_
          refine gw_bipush (gc k_Reader_plain_1 15 rfl) (by decide) ?_
          refine gw_cV1 (gc k_Reader_plain_1 16 rfl) y_Reader_isSign ln_Reader_110 (c_Reader_isSign hx hf9 hI9.2.1.1 p2 hp9 hI9.2.1.2.1 62 (by omega)) rfl rfl (gAt hx rfl rfl) rfl (gble (by omega)) ?_
          rw [show (100 : Int) + 62 = 162 from rfl]
          refine gw_beq (tgt := 116) (gc k_Reader_plain_1 17 rfl) rfl (fun c108 => ?_) (fun c108 => ?_)
          · refine gw_bipush (gc k_Reader_plain_1 20 rfl) (by decide) ?_
            refine gw_istore_3 (gc k_Reader_plain_1 21 rfl) rfl rfl ?_
            refine gw_iload_n (gc k_Reader_plain_1 22 rfl) rfl ?_
            refine gw_bipush (gc k_Reader_plain_1 23 rfl) (by decide) ?_
            refine gw_icmp_ne (tgt := 136) (gc k_Reader_plain_1 24 rfl) rfl (by omega) (fun c122 => ?_) (fun c122 => ?_)
            · exact absurd rfl c122
            · refine gw_aload_n (gc k_Reader_plain_1 25 rfl) rfl rfl ?_
              refine gw_bipush (gc k_Reader_plain_1 26 rfl) (by decide) ?_
              refine gw_cV1 (gc k_Reader_plain_1 27 rfl) y_Reader_isSign ln_Reader_110 (c_Reader_isSign hx hf9 hI9.2.1.1 p2 hp9 hI9.2.1.2.1 61 (by omega)) rfl rfl (gAt hx rfl rfl) rfl (gble (by omega)) ?_
              rw [show (100 : Int) + 61 = 161 from rfl]
              refine gw_bne (tgt := 136) (gc k_Reader_plain_1 28 rfl) rfl (fun c131 => ?_) (fun c131 => ?_)
              · refine gw_aload_n (gc k_Reader_plain_1 31 rfl) rfl rfl ?_
                refine gw_xV1 (gc k_Reader_plain_1 32 rfl) y_Reader_advance ln_Reader_56 (c_advP hx hf9 hI9.2.1.1 p2 hp9 hI9.2.1.2.1) rfl rfl (gAt hx rfl rfl) rfl (gble (by omega)) (fun r137 sh2 g137 hq137 => ?_)
                obtain ⟨rfl, rfl, hF10, hP10⟩ := hq137
                have hI10 := hI9.k hF10 hP10
                have hf10 := hI10.1.fin hf0
                have hf := hf10
                refine gw_aload_n (gc k_Reader_plain_1 33 rfl) rfl rfl ?_
                refine gw_iload_n (gc k_Reader_plain_1 34 rfl) rfl ?_
                refine gw_xV1 (gc k_Reader_plain_1 35 rfl) y_Reader_sum ln_Reader_125 (hSm g137 (p2 + 1) n2 (Lc + c.length) (K1 + 1) hf10 ((hI10.1 _ _ (by omega) (by omega) (by decide) (by decide)).trans h3) hI10.2.1 (by rw [hI10.2.2.2.2]; exact lbV_01 _ _ _)) rfl rfl (gAt hx rfl rfl) rfl (gble (by omega)) (fun r142 sh2 g142 hq142 => ?_)
                obtain ⟨rfl, hQ11⟩ := hq142
                obtain ⟨v11, rfl, hv1101, hcl11, hQv11⟩ := hQ11.v
                have hf := hcl11.fin hf10
                refine gw_if_ne (tgt := 150) (gc k_Reader_plain_1 36 rfl) rfl (by omega) (fun c145 => ?_) (fun c145 => ?_)
                · obtain ⟨p3, n3, c3, s3, hr3, hcS3, hcd3, hpre3, hlbv3⟩ := orL hQv11 c145
                  clear hQv11
                  have hI12 := hI10.app hcl11 hcS3 hcd3 hpre3 hlbv3
                  have hf12 := hI12.1.fin hf0
                  have hL12 := hI12.2.1.2.2.2.1
                  have hL13 := hI12.2.1.2.2.2.2
                  have hpk3 := hk p2
                  have hrel : tT B len p2 = 160 ∨ tT B len p2 = 162 ∨ tT B len p2 = 161 := (Or.inr (Or.inr c131))
                  have hbnd : Lc + ((c ++ c3).length : Int) ≤ 399 := by
                    have q := hfarS _ _ _ _ _ _ hr3
                    omega
                  refine gw_aload_n (gc k_Reader_plain_1 39 rfl) rfl rfl ?_
                  refine gw_iload_n (gc k_Reader_plain_2 0 rfl) rfl ?_
                  refine gw_iconst (gc k_Reader_plain_2 1 rfl) ?_
                  refine gw_cV1 (gc k_Reader_plain_2 2 rfl) y_Reader_step ln_Reader_156 (c_Reader_step hx hf12 12 0 (by have := hbnd; rw [hL12]; omega)) rfl rfl (gAt hx rfl rfl) rfl (gble (by omega)) ?_
                  refine gw_pop (gc k_Reader_plain_2 3 rfl) rfl ?_
                  have hE := hI12.st (K := K1) (by omega) (op := 12) (a := 0) (a2 := 0) (by decide) rfl
                  have hPos : pPosW (tT B len) (some f) sm (pNots (tT B len) 401 p false).1 n = .inr (p3, n3, c ++ c3 ++ [(12, 0)], pjs 12 s s3) := by rw [hpN]; exact po_2i (by omega) hr hrel hr3 (by rw [if_neg c94, if_neg c108])
                  have hfE := hE.1.fin hf0
                  have hLE := hE.2.1.2.2.2.1
                  have hLE2 := hE.2.1.2.2.2.2
                  have hfr9 := hfarS _ _ _ _ _ _ hr3
                  have hf := hfE
                  refine gw_iload_n (gc k_Reader_plain_2 4 rfl) rfl ?_
                  refine gw_if_eq (tgt := 168) (gc k_Reader_plain_2 5 rfl) rfl (by omega) (fun c158 => ?_) (fun c158 => ?_)
                  · refine gw_iconst (gc k_Reader_plain_2 11 rfl) ?_
                    refine gw_zreturn (gc k_Reader_plain_2 12 rfl) rfl (by omega) ?_
                    have hb2 : (pNots (tT B len) 401 p false).2 = false := by
                      cases hbb : (pNots (tT B len) 401 p false).2
                      · rfl
                      · rw [hbb] at htuN; exact absurd (c158.symm.trans htuN) (by decide)
                    exact ⟨rfl, (hE.kle (K2 := K) (by omega)).q (by rw [pl_i hPos, hb2]; rfl)⟩
                  · refine gw_aload_n (gc k_Reader_plain_2 6 rfl) rfl rfl ?_
                    refine gw_iconst (gc k_Reader_plain_2 7 rfl) ?_
                    refine gw_iconst (gc k_Reader_plain_2 8 rfl) ?_
                    refine gw_cV1 (gc k_Reader_plain_2 9 rfl) y_Reader_step ln_Reader_156 (c_Reader_step hx hfE 2 0 (by rw [hLE]; omega)) rfl rfl (gAt hx rfl rfl) rfl (gble (by omega)) ?_
                    refine gw_pop (gc k_Reader_plain_2 10 rfl) rfl ?_
                    refine gw_iconst (gc k_Reader_plain_2 11 rfl) ?_
                    refine gw_zreturn (gc k_Reader_plain_2 12 rfl) rfl (by omega) ?_
                    have hb2 : (pNots (tT B len) 401 p false).2 = true := by
                      cases hbb : (pNots (tT B len) 401 p false).2
                      · rw [hbb] at htuN; exact absurd htuN c158
                      · rfl
                    have hE2 := (hE.kle (K2 := K + 1) (by omega)).st (K := K) hKK (op := 2) (a := 0) (a2 := 0) (by decide) rfl
                    exact ⟨rfl, hE2.q (by rw [pl_i hPos, hb2]; rfl)⟩
                · refine gw_iconst (gc k_Reader_plain_1 37 rfl) ?_
                  refine gw_zreturn (gc k_Reader_plain_1 38 rfl) rfl (by omega) ?_
                  obtain ⟨e, hr3, hPe, he0⟩ := orR hQv11 c145
                  clear hQv11
                  exact ⟨rfl, hI10.1.tr hcl11, Or.inl ⟨e, pl_e (by rw [hpN]; exact po_2e (by omega) hr (Or.inr (Or.inr c131)) hr3), rfl, hPe, he0⟩⟩
              · refine gw_iconst (gc k_Reader_plain_1 29 rfl) ?_
                refine gw_zreturn (gc k_Reader_plain_1 30 rfl) rfl (by omega) ?_
                exact ⟨rfl, hI9.1, Or.inl ⟨p2, pl_e (by rw [hpN]; exact po_r (by omega) hr (fun q => by omega)), rfl, hI9.2.1.2.1, hp9⟩⟩
          · refine gw_bipush (gc k_Reader_plain_1 18 rfl) (by decide) ?_
            refine gw_goto (tgt := 118) (gc k_Reader_plain_1 19 rfl) rfl ?_
            refine gw_istore_3 (gc k_Reader_plain_1 21 rfl) rfl rfl ?_
            refine gw_iload_n (gc k_Reader_plain_1 22 rfl) rfl ?_
            refine gw_bipush (gc k_Reader_plain_1 23 rfl) (by decide) ?_
            refine gw_icmp_ne (tgt := 136) (gc k_Reader_plain_1 24 rfl) rfl (by omega) (fun c122 => ?_) (fun c122 => ?_)
            · refine gw_aload_n (gc k_Reader_plain_1 31 rfl) rfl rfl ?_
              refine gw_xV1 (gc k_Reader_plain_1 32 rfl) y_Reader_advance ln_Reader_56 (c_advP hx hf9 hI9.2.1.1 p2 hp9 hI9.2.1.2.1) rfl rfl (gAt hx rfl rfl) rfl (gble (by omega)) (fun r137 sh2 g137 hq137 => ?_)
              obtain ⟨rfl, rfl, hF10, hP10⟩ := hq137
              have hI10 := hI9.k hF10 hP10
              have hf10 := hI10.1.fin hf0
              have hf := hf10
              refine gw_aload_n (gc k_Reader_plain_1 33 rfl) rfl rfl ?_
              refine gw_iload_n (gc k_Reader_plain_1 34 rfl) rfl ?_
              refine gw_xV1 (gc k_Reader_plain_1 35 rfl) y_Reader_sum ln_Reader_125 (hSm g137 (p2 + 1) n2 (Lc + c.length) (K1 + 1) hf10 ((hI10.1 _ _ (by omega) (by omega) (by decide) (by decide)).trans h3) hI10.2.1 (by rw [hI10.2.2.2.2]; exact lbV_01 _ _ _)) rfl rfl (gAt hx rfl rfl) rfl (gble (by omega)) (fun r142 sh2 g142 hq142 => ?_)
              obtain ⟨rfl, hQ11⟩ := hq142
              obtain ⟨v11, rfl, hv1101, hcl11, hQv11⟩ := hQ11.v
              have hf := hcl11.fin hf10
              refine gw_if_ne (tgt := 150) (gc k_Reader_plain_1 36 rfl) rfl (by omega) (fun c145 => ?_) (fun c145 => ?_)
              · obtain ⟨p3, n3, c3, s3, hr3, hcS3, hcd3, hpre3, hlbv3⟩ := orL hQv11 c145
                clear hQv11
                have hI12 := hI10.app hcl11 hcS3 hcd3 hpre3 hlbv3
                have hf12 := hI12.1.fin hf0
                have hL12 := hI12.2.1.2.2.2.1
                have hL13 := hI12.2.1.2.2.2.2
                have hpk3 := hk p2
                have hrel : tT B len p2 = 160 ∨ tT B len p2 = 162 ∨ tT B len p2 = 161 := (Or.inr (Or.inl c108))
                have hbnd : Lc + ((c ++ c3).length : Int) ≤ 399 := by
                  have q := hfarS _ _ _ _ _ _ hr3
                  omega
                refine gw_aload_n (gc k_Reader_plain_1 39 rfl) rfl rfl ?_
                refine gw_iload_n (gc k_Reader_plain_2 0 rfl) rfl ?_
                refine gw_iconst (gc k_Reader_plain_2 1 rfl) ?_
                refine gw_cV1 (gc k_Reader_plain_2 2 rfl) y_Reader_step ln_Reader_156 (c_Reader_step hx hf12 11 0 (by have := hbnd; rw [hL12]; omega)) rfl rfl (gAt hx rfl rfl) rfl (gble (by omega)) ?_
                refine gw_pop (gc k_Reader_plain_2 3 rfl) rfl ?_
                have hE := hI12.st (K := K1) (by omega) (op := 11) (a := 0) (a2 := 0) (by decide) rfl
                have hPos : pPosW (tT B len) (some f) sm (pNots (tT B len) 401 p false).1 n = .inr (p3, n3, c ++ c3 ++ [(11, 0)], pjs 11 s s3) := by rw [hpN]; exact po_2i (by omega) hr hrel hr3 (by rw [if_neg c94, if_pos c108])
                have hfE := hE.1.fin hf0
                have hLE := hE.2.1.2.2.2.1
                have hLE2 := hE.2.1.2.2.2.2
                have hfr9 := hfarS _ _ _ _ _ _ hr3
                have hf := hfE
                refine gw_iload_n (gc k_Reader_plain_2 4 rfl) rfl ?_
                refine gw_if_eq (tgt := 168) (gc k_Reader_plain_2 5 rfl) rfl (by omega) (fun c158 => ?_) (fun c158 => ?_)
                · refine gw_iconst (gc k_Reader_plain_2 11 rfl) ?_
                  refine gw_zreturn (gc k_Reader_plain_2 12 rfl) rfl (by omega) ?_
                  have hb2 : (pNots (tT B len) 401 p false).2 = false := by
                    cases hbb : (pNots (tT B len) 401 p false).2
                    · rfl
                    · rw [hbb] at htuN; exact absurd (c158.symm.trans htuN) (by decide)
                  exact ⟨rfl, (hE.kle (K2 := K) (by omega)).q (by rw [pl_i hPos, hb2]; rfl)⟩
                · refine gw_aload_n (gc k_Reader_plain_2 6 rfl) rfl rfl ?_
                  refine gw_iconst (gc k_Reader_plain_2 7 rfl) ?_
                  refine gw_iconst (gc k_Reader_plain_2 8 rfl) ?_
                  refine gw_cV1 (gc k_Reader_plain_2 9 rfl) y_Reader_step ln_Reader_156 (c_Reader_step hx hfE 2 0 (by rw [hLE]; omega)) rfl rfl (gAt hx rfl rfl) rfl (gble (by omega)) ?_
                  refine gw_pop (gc k_Reader_plain_2 10 rfl) rfl ?_
                  refine gw_iconst (gc k_Reader_plain_2 11 rfl) ?_
                  refine gw_zreturn (gc k_Reader_plain_2 12 rfl) rfl (by omega) ?_
                  have hb2 : (pNots (tT B len) 401 p false).2 = true := by
                    cases hbb : (pNots (tT B len) 401 p false).2
                    · rw [hbb] at htuN; exact absurd htuN c158
                    · rfl
                  have hE2 := (hE.kle (K2 := K + 1) (by omega)).st (K := K) hKK (op := 2) (a := 0) (a2 := 0) (by decide) rfl
                  exact ⟨rfl, hE2.q (by rw [pl_i hPos, hb2]; rfl)⟩
              · refine gw_iconst (gc k_Reader_plain_1 37 rfl) ?_
                refine gw_zreturn (gc k_Reader_plain_1 38 rfl) rfl (by omega) ?_
                obtain ⟨e, hr3, hPe, he0⟩ := orR hQv11 c145
                clear hQv11
                exact ⟨rfl, hI10.1.tr hcl11, Or.inl ⟨e, pl_e (by rw [hpN]; exact po_2e (by omega) hr (Or.inr (Or.inl c108)) hr3), rfl, hPe, he0⟩⟩
            · exact absurd c122 (by decide)
        · refine gw_bipush (gc k_Reader_plain_1 12 rfl) (by decide) ?_
          refine gw_goto (tgt := 118) (gc k_Reader_plain_1 13 rfl) rfl ?_
          refine gw_istore_3 (gc k_Reader_plain_1 21 rfl) rfl rfl ?_
          refine gw_iload_n (gc k_Reader_plain_1 22 rfl) rfl ?_
          refine gw_bipush (gc k_Reader_plain_1 23 rfl) (by decide) ?_
          refine gw_icmp_ne (tgt := 136) (gc k_Reader_plain_1 24 rfl) rfl (by omega) (fun c122 => ?_) (fun c122 => ?_)
          · refine gw_aload_n (gc k_Reader_plain_1 31 rfl) rfl rfl ?_
            refine gw_xV1 (gc k_Reader_plain_1 32 rfl) y_Reader_advance ln_Reader_56 (c_advP hx hf9 hI9.2.1.1 p2 hp9 hI9.2.1.2.1) rfl rfl (gAt hx rfl rfl) rfl (gble (by omega)) (fun r137 sh2 g137 hq137 => ?_)
            obtain ⟨rfl, rfl, hF10, hP10⟩ := hq137
            have hI10 := hI9.k hF10 hP10
            have hf10 := hI10.1.fin hf0
            have hf := hf10
            refine gw_aload_n (gc k_Reader_plain_1 33 rfl) rfl rfl ?_
            refine gw_iload_n (gc k_Reader_plain_1 34 rfl) rfl ?_
            refine gw_xV1 (gc k_Reader_plain_1 35 rfl) y_Reader_sum ln_Reader_125 (hSm g137 (p2 + 1) n2 (Lc + c.length) (K1 + 1) hf10 ((hI10.1 _ _ (by omega) (by omega) (by decide) (by decide)).trans h3) hI10.2.1 (by rw [hI10.2.2.2.2]; exact lbV_01 _ _ _)) rfl rfl (gAt hx rfl rfl) rfl (gble (by omega)) (fun r142 sh2 g142 hq142 => ?_)
            obtain ⟨rfl, hQ11⟩ := hq142
            obtain ⟨v11, rfl, hv1101, hcl11, hQv11⟩ := hQ11.v
            have hf := hcl11.fin hf10
            refine gw_if_ne (tgt := 150) (gc k_Reader_plain_1 36 rfl) rfl (by omega) (fun c145 => ?_) (fun c145 => ?_)
            · obtain ⟨p3, n3, c3, s3, hr3, hcS3, hcd3, hpre3, hlbv3⟩ := orL hQv11 c145
              clear hQv11
              have hI12 := hI10.app hcl11 hcS3 hcd3 hpre3 hlbv3
              have hf12 := hI12.1.fin hf0
              have hL12 := hI12.2.1.2.2.2.1
              have hL13 := hI12.2.1.2.2.2.2
              have hpk3 := hk p2
              have hrel : tT B len p2 = 160 ∨ tT B len p2 = 162 ∨ tT B len p2 = 161 := (Or.inl c94)
              have hbnd : Lc + ((c ++ c3).length : Int) ≤ 399 := by
                have q := hfarS _ _ _ _ _ _ hr3
                omega
              refine gw_aload_n (gc k_Reader_plain_1 39 rfl) rfl rfl ?_
              refine gw_iload_n (gc k_Reader_plain_2 0 rfl) rfl ?_
              refine gw_iconst (gc k_Reader_plain_2 1 rfl) ?_
              refine gw_cV1 (gc k_Reader_plain_2 2 rfl) y_Reader_step ln_Reader_156 (c_Reader_step hx hf12 10 0 (by have := hbnd; rw [hL12]; omega)) rfl rfl (gAt hx rfl rfl) rfl (gble (by omega)) ?_
              refine gw_pop (gc k_Reader_plain_2 3 rfl) rfl ?_
              have hE := hI12.st (K := K1) (by omega) (op := 10) (a := 0) (a2 := 0) (by decide) rfl
              have hPos : pPosW (tT B len) (some f) sm (pNots (tT B len) 401 p false).1 n = .inr (p3, n3, c ++ c3 ++ [(10, 0)], pjs 10 s s3) := by rw [hpN]; exact po_2i (by omega) hr hrel hr3 (by rw [if_pos c94])
              have hfE := hE.1.fin hf0
              have hLE := hE.2.1.2.2.2.1
              have hLE2 := hE.2.1.2.2.2.2
              have hfr9 := hfarS _ _ _ _ _ _ hr3
              have hf := hfE
              refine gw_iload_n (gc k_Reader_plain_2 4 rfl) rfl ?_
              refine gw_if_eq (tgt := 168) (gc k_Reader_plain_2 5 rfl) rfl (by omega) (fun c158 => ?_) (fun c158 => ?_)
              · refine gw_iconst (gc k_Reader_plain_2 11 rfl) ?_
                refine gw_zreturn (gc k_Reader_plain_2 12 rfl) rfl (by omega) ?_
                have hb2 : (pNots (tT B len) 401 p false).2 = false := by
                  cases hbb : (pNots (tT B len) 401 p false).2
                  · rfl
                  · rw [hbb] at htuN; exact absurd (c158.symm.trans htuN) (by decide)
                exact ⟨rfl, (hE.kle (K2 := K) (by omega)).q (by rw [pl_i hPos, hb2]; rfl)⟩
              · refine gw_aload_n (gc k_Reader_plain_2 6 rfl) rfl rfl ?_
                refine gw_iconst (gc k_Reader_plain_2 7 rfl) ?_
                refine gw_iconst (gc k_Reader_plain_2 8 rfl) ?_
                refine gw_cV1 (gc k_Reader_plain_2 9 rfl) y_Reader_step ln_Reader_156 (c_Reader_step hx hfE 2 0 (by rw [hLE]; omega)) rfl rfl (gAt hx rfl rfl) rfl (gble (by omega)) ?_
                refine gw_pop (gc k_Reader_plain_2 10 rfl) rfl ?_
                refine gw_iconst (gc k_Reader_plain_2 11 rfl) ?_
                refine gw_zreturn (gc k_Reader_plain_2 12 rfl) rfl (by omega) ?_
                have hb2 : (pNots (tT B len) 401 p false).2 = true := by
                  cases hbb : (pNots (tT B len) 401 p false).2
                  · rw [hbb] at htuN; exact absurd htuN c158
                  · rfl
                have hE2 := (hE.kle (K2 := K + 1) (by omega)).st (K := K) hKK (op := 2) (a := 0) (a2 := 0) (by decide) rfl
                exact ⟨rfl, hE2.q (by rw [pl_i hPos, hb2]; rfl)⟩
            · refine gw_iconst (gc k_Reader_plain_1 37 rfl) ?_
              refine gw_zreturn (gc k_Reader_plain_1 38 rfl) rfl (by omega) ?_
              obtain ⟨e, hr3, hPe, he0⟩ := orR hQv11 c145
              clear hQv11
              exact ⟨rfl, hI10.1.tr hcl11, Or.inl ⟨e, pl_e (by rw [hpN]; exact po_2e (by omega) hr (Or.inl c94) hr3), rfl, hPe, he0⟩⟩
          · exact absurd c122 (by decide)
      · refine gw_iconst (gc k_Reader_plain_1 6 rfl) ?_
        refine gw_zreturn (gc k_Reader_plain_1 7 rfl) rfl (by omega) ?_
        obtain ⟨e, hr, hPe, he0⟩ := orR hQv8 c83
        clear hQv8
        exact ⟨rfl, hcla.tr hcl8, Or.inl ⟨e, pl_e (by rw [hpN]; exact po_1e (by omega) hr), rfl, hPe, he0⟩⟩
    · refine gw_iload_n (gc k_Reader_plain_0 23 rfl) rfl ?_
      refine gw_bipush (gc k_Reader_plain_0 24 rfl) (by decide) ?_
      refine gw_icmp_lt (tgt := 53) (gc k_Reader_plain_0 25 rfl) rfl (by omega) (fun c48 => ?_) (fun c48 => ?_)
      · refine gw_aload_n (gc k_Reader_plain_0 28 rfl) rfl rfl ?_
        refine gw_xV1 (gc k_Reader_plain_0 29 rfl) y_Reader_advance ln_Reader_56 (c_advP hx hfa hBa p1 hp1 hPa) rfl rfl (gAt hx rfl rfl) rfl (gble (by omega)) (fun r54 sh2 g54 hq54 => ?_)
        obtain ⟨rfl, rfl, hF4, hP4⟩ := hq54
        have hI4 := hIa.k hF4 hP4
        have hf4 := hI4.1.fin hf0
        have hf := hf4
        refine gw_aload_n (gc k_Reader_plain_0 30 rfl) rfl rfl ?_
        refine gw_iload_n (gc k_Reader_plain_0 31 rfl) rfl ?_
        refine gw_iconst (gc k_Reader_plain_0 32 rfl) ?_
        refine gw_iadd (gc k_Reader_plain_0 33 rfl) ?_
        refine gw_xV1 (gc k_Reader_plain_0 34 rfl) y_Reader_test ln_Reader_148 (hS g54 (p1 + 1) n (Lc + ([] : PK).length) (K1 + 1) hf4 ((hF4 _ _ (by omega)).trans hla3) hI4.2.1 (by rw [hF4 _ _ (by omega)]; exact hlbA)) rfl rfl (gAt hx rfl rfl) rfl (gble (by omega)) (fun r61 sh2 g61 hq61 => ?_)
        obtain ⟨rfl, hQ5⟩ := hq61
        obtain ⟨v5, rfl, hv501, hcl5, hQv5⟩ := hQ5.v
        have hf := hcl5.fin hf4
        refine gw_if_eq (tgt := 76) (gc k_Reader_plain_0 35 rfl) rfl (by omega) (fun c64 => ?_) (fun c64 => ?_)
        · refine gw_iconst (gc k_Reader_plain_1 0 rfl) ?_
          refine gw_zreturn (gc k_Reader_plain_1 1 rfl) rfl (by omega) ?_
          obtain ⟨e, hr, hPe, he0⟩ := orR hQv5 c64
          clear hQv5
          exact ⟨rfl, hI4.1.tr hcl5, Or.inl ⟨e, pl_e (by rw [hpN]; exact po_se (by omega) hr), rfl, hPe, he0⟩⟩
        · obtain ⟨p2, n2, c, s, hr, hcS2, hcd, hpre, hlbv⟩ := orL hQv5 c64
          clear hQv5
          have hI6 : lpI B len (K1 + 1) o g Lc c p2 n2 g61 := hI4.app hcl5 hcS2 hcd hpre hlbv
          have hf6 := hI6.1.fin hf0
          refine gw_aload_n (gc k_Reader_plain_0 36 rfl) rfl rfl ?_
          refine gw_bipush (gc k_Reader_plain_0 37 rfl) (by decide) ?_
          refine gw_xV1 (gc k_Reader_plain_0 38 rfl) y_Reader_takeSign ln_Reader_78 (c_Reader_takeSign hx hf6 hI6.2.1.1 p2 hI6.2.1.2.2.2.2.1.1 hI6.2.1.2.1 41 (by omega)) rfl rfl (gAt hx rfl rfl) rfl (gble (by omega)) (fun r70 sh2 g70 hq70 => ?_)
          rw [show (100 : Int) + 41 = 141 from rfl] at hq70
          obtain ⟨rfl, rfl, hF7, hP7⟩ := hq70
          have hf := hF7.fin hf6
          refine gw_bne (tgt := 157) (gc k_Reader_plain_0 39 rfl) rfl (fun c73 => ?_) (fun c73 => ?_)
          · rw [if_pos c73] at hP7
            have hE : lpI B len K1 o g Lc c (p2 + 1) n2 g70 := (hI6.rc hF7 hP7 (by omega)).kle (by omega)
            have hPos : pPosW (tT B len) (some f) sm (pNots (tT B len) 401 p false).1 n = .inr (p2 + 1, n2, c, s) := by rw [hpN, po_si (by omega) hr, if_pos c73]
            have hfE := hE.1.fin hf0
            have hLE := hE.2.1.2.2.2.1
            have hLE2 := hE.2.1.2.2.2.2
            have hbE : Lc + (c.length : Int) ≤ 399 := by
              have q1 := hk p2 (by omega)
              have q2 := hI6.2.1.2.2.2.2.2
              omega
            have hf := hfE
            refine gw_iload_n (gc k_Reader_plain_2 4 rfl) rfl ?_
            refine gw_if_eq (tgt := 168) (gc k_Reader_plain_2 5 rfl) rfl (by omega) (fun c158 => ?_) (fun c158 => ?_)
            · refine gw_iconst (gc k_Reader_plain_2 11 rfl) ?_
              refine gw_zreturn (gc k_Reader_plain_2 12 rfl) rfl (by omega) ?_
              have hb2 : (pNots (tT B len) 401 p false).2 = false := by
                cases hbb : (pNots (tT B len) 401 p false).2
                · rfl
                · rw [hbb] at htuN; exact absurd (c158.symm.trans htuN) (by decide)
              exact ⟨rfl, (hE.kle (K2 := K) (by omega)).q (by rw [pl_i hPos, hb2]; rfl)⟩
            · refine gw_aload_n (gc k_Reader_plain_2 6 rfl) rfl rfl ?_
              refine gw_iconst (gc k_Reader_plain_2 7 rfl) ?_
              refine gw_iconst (gc k_Reader_plain_2 8 rfl) ?_
              refine gw_cV1 (gc k_Reader_plain_2 9 rfl) y_Reader_step ln_Reader_156 (c_Reader_step hx hfE 2 0 (by rw [hLE]; omega)) rfl rfl (gAt hx rfl rfl) rfl (gble (by omega)) ?_
              refine gw_pop (gc k_Reader_plain_2 10 rfl) rfl ?_
              refine gw_iconst (gc k_Reader_plain_2 11 rfl) ?_
              refine gw_zreturn (gc k_Reader_plain_2 12 rfl) rfl (by omega) ?_
              have hb2 : (pNots (tT B len) 401 p false).2 = true := by
                cases hbb : (pNots (tT B len) 401 p false).2
                · rw [hbb] at htuN; exact absurd htuN c158
                · rfl
              have hE2 := (hE.kle (K2 := K + 1) (by omega)).st (K := K) hKK (op := 2) (a := 0) (a2 := 0) (by decide) rfl
              exact ⟨rfl, hE2.q (by rw [pl_i hPos, hb2]; rfl)⟩
          · refine gw_iconst (gc k_Reader_plain_1 0 rfl) ?_
            refine gw_zreturn (gc k_Reader_plain_1 1 rfl) rfl (by omega) ?_
            rw [if_neg c73] at hP7
            exact ⟨rfl, hI6.1.tr hF7.cl, Or.inl ⟨p2, pl_e (by rw [hpN, po_si (by omega) hr, if_neg c73]), rfl, hP7, hI6.2.1.2.2.2.2.1.1⟩⟩
      · exfalso; omega
  · refine gw_aload_n (gc k_Reader_plain_0 7 rfl) rfl rfl ?_
    refine gw_ldcS (k := 24) (gc k_Reader_plain_0 8 rfl) rfl rfl ?_
    refine gw_xV1 (gc k_Reader_plain_0 9 rfl) y_Reader_takeWord ln_Reader_115 (c_Reader_takeWord hx hf hB1 p1 hp1 hP1 24 (by decide)) rfl rfl (gAt hx rfl rfl) rfl (gble (by omega)) (fun r14 sh2 g14 hq14 => ?_)
    rw [show wc 24 = 7 from rfl] at hq14
    obtain ⟨rfl, rfl, hFq, hPq⟩ := hq14
    have hf := hFq.fin hf
    refine gw_beq (tgt := 36) (gc k_Reader_plain_0 10 rfl) rfl (fun c17 => ?_) (fun c17 => ?_)
    · rw [if_neg c17] at hPq
      have hT7 : ¬ tT B len p1 = 7 := by first | exact c17 | (intro q7; have := hpk1 (by omega); omega)
      obtain ⟨hIa, hpN, htuN⟩ : lpI B len K1 o g Lc [] p1 n g14 ∧ (pNots (tT B len) 401 p false).1 = p1 ∧ tu = tuB (pNots (tT B len) 401 p false).2 := by
        obtain ⟨f7, bb, e7, e8, e9⟩ := hN
        rw [pNots_f hT7] at e7
        exact ⟨(hI.rc hFq hPq (Int.le_refl _)), by rw [← e7], by rw [← e7]; exact e9⟩
      obtain ⟨ga, hga⟩ : ∃ G, G = g14 := ⟨_, rfl⟩
      rw [← hga] at hIa ⊢
      have hfa := hIa.1.fin hf0
      have hf := hfa
      have hBa := hIa.2.1.1
      have hPa := hIa.2.1.2.1
      have hcla := hIa.1
      have hla3 : ga 151 3 = (if o = true then 0 else 1) := (hcla _ _ (by omega) (by omega) (by decide) (by decide)).trans h3
      have hlbA : ga 152 2 = 0 ∨ ga 152 2 = 1 := by rw [hIa.2.2.2.2]; exact lbV_01 _ _ _
      refine gw_aload_n (gc k_Reader_plain_0 19 rfl) rfl rfl ?_
      refine gw_bipush (gc k_Reader_plain_0 20 rfl) (by decide) ?_
      refine gw_cV1 (gc k_Reader_plain_0 21 rfl) y_Reader_isSign ln_Reader_110 (c_Reader_isSign hx hfa hBa p1 hp1 hPa 40 (by omega)) rfl rfl (gAt hx rfl rfl) rfl (gble (by omega)) ?_
      rw [show (100 : Int) + 40 = 140 from rfl]
      refine gw_beq (tgt := 78) (gc k_Reader_plain_0 22 rfl) rfl (fun c42 => ?_) (fun c42 => ?_)
      · refine gw_aload_n (gc k_Reader_plain_1 2 rfl) rfl rfl ?_
        refine gw_iload_n (gc k_Reader_plain_1 3 rfl) rfl ?_
        refine gw_xV1 (gc k_Reader_plain_1 4 rfl) y_Reader_sum ln_Reader_125 (hSm ga p1 n (Lc + ([] : PK).length) K1 hfa hla3 hIa.2.1 hlbA) rfl rfl (gAt hx rfl rfl) rfl (gble (by omega)) (fun r80 sh2 g80 hq80 => ?_)
        obtain ⟨rfl, hQ8⟩ := hq80
        obtain ⟨v8, rfl, hv801, hcl8, hQv8⟩ := hQ8.v
        have hf := hcl8.fin hfa
        refine gw_if_ne (tgt := 88) (gc k_Reader_plain_1 5 rfl) rfl (by omega) (fun c83 => ?_) (fun c83 => ?_)
        · obtain ⟨p2, n2, c, s, hr, hcS2, hcd, hpre, hlbv⟩ := orL hQv8 c83
          clear hQv8
          have hI9 : lpI B len K1 o g Lc c p2 n2 g80 := hIa.app hcl8 hcS2 hcd hpre hlbv
          have hf9 := hI9.1.fin hf0
          have hp9 := hI9.2.1.2.2.2.2.1.1
          refine gw_aload_n (gc k_Reader_plain_1 8 rfl) rfl rfl ?_
          refine gw_bipush (gc k_Reader_plain_1 9 rfl) (by decide) ?_
          refine gw_cV1 (gc k_Reader_plain_1 10 rfl) y_Reader_isSign ln_Reader_110 (c_Reader_isSign hx hf9 hI9.2.1.1 p2 hp9 hI9.2.1.2.1 60 (by omega)) rfl rfl (gAt hx rfl rfl) rfl (gble (by omega)) ?_
          rw [show (100 : Int) + 60 = 160 from rfl]
          refine gw_beq (tgt := 102) (gc k_Reader_plain_1 11 rfl) rfl (fun c94 => ?_) (fun c94 => ?_)
          · refine gw_aload_n (gc k_Reader_plain_1 14 rfl) rfl rfl ?_
            refine gw_bipush (gc k_Reader_plain_1 15 rfl) (by decide) ?_
            refine gw_cV1 (gc k_Reader_plain_1 16 rfl) y_Reader_isSign ln_Reader_110 (c_Reader_isSign hx hf9 hI9.2.1.1 p2 hp9 hI9.2.1.2.1 62 (by omega)) rfl rfl (gAt hx rfl rfl) rfl (gble (by omega)) ?_
            rw [show (100 : Int) + 62 = 162 from rfl]
            refine gw_beq (tgt := 116) (gc k_Reader_plain_1 17 rfl) rfl (fun c108 => ?_) (fun c108 => ?_)
            · refine gw_bipush (gc k_Reader_plain_1 20 rfl) (by decide) ?_
              refine gw_istore_3 (gc k_Reader_plain_1 21 rfl) rfl rfl ?_
              refine gw_iload_n (gc k_Reader_plain_1 22 rfl) rfl ?_
              refine gw_bipush (gc k_Reader_plain_1 23 rfl) (by decide) ?_
              refine gw_icmp_ne (tgt := 136) (gc k_Reader_plain_1 24 rfl) rfl (by omega) (fun c122 => ?_) (fun c122 => ?_)
              · exact absurd rfl c122
              · refine gw_aload_n (gc k_Reader_plain_1 25 rfl) rfl rfl ?_
                refine gw_bipush (gc k_Reader_plain_1 26 rfl) (by decide) ?_
                refine gw_cV1 (gc k_Reader_plain_1 27 rfl) y_Reader_isSign ln_Reader_110 (c_Reader_isSign hx hf9 hI9.2.1.1 p2 hp9 hI9.2.1.2.1 61 (by omega)) rfl rfl (gAt hx rfl rfl) rfl (gble (by omega)) ?_
                rw [show (100 : Int) + 61 = 161 from rfl]
                refine gw_bne (tgt := 136) (gc k_Reader_plain_1 28 rfl) rfl (fun c131 => ?_) (fun c131 => ?_)
                · refine gw_aload_n (gc k_Reader_plain_1 31 rfl) rfl rfl ?_
                  refine gw_xV1 (gc k_Reader_plain_1 32 rfl) y_Reader_advance ln_Reader_56 (c_advP hx hf9 hI9.2.1.1 p2 hp9 hI9.2.1.2.1) rfl rfl (gAt hx rfl rfl) rfl (gble (by omega)) (fun r137 sh2 g137 hq137 => ?_)
                  obtain ⟨rfl, rfl, hF10, hP10⟩ := hq137
                  have hI10 := hI9.k hF10 hP10
                  have hf10 := hI10.1.fin hf0
                  have hf := hf10
                  refine gw_aload_n (gc k_Reader_plain_1 33 rfl) rfl rfl ?_
                  refine gw_iload_n (gc k_Reader_plain_1 34 rfl) rfl ?_
                  refine gw_xV1 (gc k_Reader_plain_1 35 rfl) y_Reader_sum ln_Reader_125 (hSm g137 (p2 + 1) n2 (Lc + c.length) (K1 + 1) hf10 ((hI10.1 _ _ (by omega) (by omega) (by decide) (by decide)).trans h3) hI10.2.1 (by rw [hI10.2.2.2.2]; exact lbV_01 _ _ _)) rfl rfl (gAt hx rfl rfl) rfl (gble (by omega)) (fun r142 sh2 g142 hq142 => ?_)
                  obtain ⟨rfl, hQ11⟩ := hq142
                  obtain ⟨v11, rfl, hv1101, hcl11, hQv11⟩ := hQ11.v
                  have hf := hcl11.fin hf10
                  refine gw_if_ne (tgt := 150) (gc k_Reader_plain_1 36 rfl) rfl (by omega) (fun c145 => ?_) (fun c145 => ?_)
                  · obtain ⟨p3, n3, c3, s3, hr3, hcS3, hcd3, hpre3, hlbv3⟩ := orL hQv11 c145
                    clear hQv11
                    have hI12 := hI10.app hcl11 hcS3 hcd3 hpre3 hlbv3
                    have hf12 := hI12.1.fin hf0
                    have hL12 := hI12.2.1.2.2.2.1
                    have hL13 := hI12.2.1.2.2.2.2
                    have hpk3 := hk p2
                    have hrel : tT B len p2 = 160 ∨ tT B len p2 = 162 ∨ tT B len p2 = 161 := (Or.inr (Or.inr c131))
                    have hbnd : Lc + ((c ++ c3).length : Int) ≤ 399 := by
                      have q := hfarS _ _ _ _ _ _ hr3
                      omega
                    refine gw_aload_n (gc k_Reader_plain_1 39 rfl) rfl rfl ?_
                    refine gw_iload_n (gc k_Reader_plain_2 0 rfl) rfl ?_
                    refine gw_iconst (gc k_Reader_plain_2 1 rfl) ?_
                    refine gw_cV1 (gc k_Reader_plain_2 2 rfl) y_Reader_step ln_Reader_156 (c_Reader_step hx hf12 12 0 (by have := hbnd; rw [hL12]; omega)) rfl rfl (gAt hx rfl rfl) rfl (gble (by omega)) ?_
                    refine gw_pop (gc k_Reader_plain_2 3 rfl) rfl ?_
                    have hE := hI12.st (K := K1) (by omega) (op := 12) (a := 0) (a2 := 0) (by decide) rfl
                    have hPos : pPosW (tT B len) (some f) sm (pNots (tT B len) 401 p false).1 n = .inr (p3, n3, c ++ c3 ++ [(12, 0)], pjs 12 s s3) := by rw [hpN]; exact po_2i (by omega) hr hrel hr3 (by rw [if_neg c94, if_neg c108])
                    have hfE := hE.1.fin hf0
                    have hLE := hE.2.1.2.2.2.1
                    have hLE2 := hE.2.1.2.2.2.2
                    have hfr9 := hfarS _ _ _ _ _ _ hr3
                    have hf := hfE
                    refine gw_iload_n (gc k_Reader_plain_2 4 rfl) rfl ?_
                    refine gw_if_eq (tgt := 168) (gc k_Reader_plain_2 5 rfl) rfl (by omega) (fun c158 => ?_) (fun c158 => ?_)
                    · refine gw_iconst (gc k_Reader_plain_2 11 rfl) ?_
                      refine gw_zreturn (gc k_Reader_plain_2 12 rfl) rfl (by omega) ?_
                      have hb2 : (pNots (tT B len) 401 p false).2 = false := by
                        cases hbb : (pNots (tT B len) 401 p false).2
                        · rfl
                        · rw [hbb] at htuN; exact absurd (c158.symm.trans htuN) (by decide)
                      exact ⟨rfl, (hE.kle (K2 := K) (by omega)).q (by rw [pl_i hPos, hb2]; rfl)⟩
                    · refine gw_aload_n (gc k_Reader_plain_2 6 rfl) rfl rfl ?_
                      refine gw_iconst (gc k_Reader_plain_2 7 rfl) ?_
                      refine gw_iconst (gc k_Reader_plain_2 8 rfl) ?_
                      refine gw_cV1 (gc k_Reader_plain_2 9 rfl) y_Reader_step ln_Reader_156 (c_Reader_step hx hfE 2 0 (by rw [hLE]; omega)) rfl rfl (gAt hx rfl rfl) rfl (gble (by omega)) ?_
                      refine gw_pop (gc k_Reader_plain_2 10 rfl) rfl ?_
                      refine gw_iconst (gc k_Reader_plain_2 11 rfl) ?_
                      refine gw_zreturn (gc k_Reader_plain_2 12 rfl) rfl (by omega) ?_
                      have hb2 : (pNots (tT B len) 401 p false).2 = true := by
                        cases hbb : (pNots (tT B len) 401 p false).2
                        · rw [hbb] at htuN; exact absurd htuN c158
                        · rfl
                      have hE2 := (hE.kle (K2 := K + 1) (by omega)).st (K := K) hKK (op := 2) (a := 0) (a2 := 0) (by decide) rfl
                      exact ⟨rfl, hE2.q (by rw [pl_i hPos, hb2]; rfl)⟩
                  · refine gw_iconst (gc k_Reader_plain_1 37 rfl) ?_
                    refine gw_zreturn (gc k_Reader_plain_1 38 rfl) rfl (by omega) ?_
                    obtain ⟨e, hr3, hPe, he0⟩ := orR hQv11 c145
                    clear hQv11
                    exact ⟨rfl, hI10.1.tr hcl11, Or.inl ⟨e, pl_e (by rw [hpN]; exact po_2e (by omega) hr (Or.inr (Or.inr c131)) hr3), rfl, hPe, he0⟩⟩
                · refine gw_iconst (gc k_Reader_plain_1 29 rfl) ?_
                  refine gw_zreturn (gc k_Reader_plain_1 30 rfl) rfl (by omega) ?_
                  exact ⟨rfl, hI9.1, Or.inl ⟨p2, pl_e (by rw [hpN]; exact po_r (by omega) hr (fun q => by omega)), rfl, hI9.2.1.2.1, hp9⟩⟩
            · refine gw_bipush (gc k_Reader_plain_1 18 rfl) (by decide) ?_
              refine gw_goto (tgt := 118) (gc k_Reader_plain_1 19 rfl) rfl ?_
              refine gw_istore_3 (gc k_Reader_plain_1 21 rfl) rfl rfl ?_
              refine gw_iload_n (gc k_Reader_plain_1 22 rfl) rfl ?_
              refine gw_bipush (gc k_Reader_plain_1 23 rfl) (by decide) ?_
              refine gw_icmp_ne (tgt := 136) (gc k_Reader_plain_1 24 rfl) rfl (by omega) (fun c122 => ?_) (fun c122 => ?_)
              · refine gw_aload_n (gc k_Reader_plain_1 31 rfl) rfl rfl ?_
                refine gw_xV1 (gc k_Reader_plain_1 32 rfl) y_Reader_advance ln_Reader_56 (c_advP hx hf9 hI9.2.1.1 p2 hp9 hI9.2.1.2.1) rfl rfl (gAt hx rfl rfl) rfl (gble (by omega)) (fun r137 sh2 g137 hq137 => ?_)
                obtain ⟨rfl, rfl, hF10, hP10⟩ := hq137
                have hI10 := hI9.k hF10 hP10
                have hf10 := hI10.1.fin hf0
                have hf := hf10
                refine gw_aload_n (gc k_Reader_plain_1 33 rfl) rfl rfl ?_
                refine gw_iload_n (gc k_Reader_plain_1 34 rfl) rfl ?_
                refine gw_xV1 (gc k_Reader_plain_1 35 rfl) y_Reader_sum ln_Reader_125 (hSm g137 (p2 + 1) n2 (Lc + c.length) (K1 + 1) hf10 ((hI10.1 _ _ (by omega) (by omega) (by decide) (by decide)).trans h3) hI10.2.1 (by rw [hI10.2.2.2.2]; exact lbV_01 _ _ _)) rfl rfl (gAt hx rfl rfl) rfl (gble (by omega)) (fun r142 sh2 g142 hq142 => ?_)
                obtain ⟨rfl, hQ11⟩ := hq142
                obtain ⟨v11, rfl, hv1101, hcl11, hQv11⟩ := hQ11.v
                have hf := hcl11.fin hf10
                refine gw_if_ne (tgt := 150) (gc k_Reader_plain_1 36 rfl) rfl (by omega) (fun c145 => ?_) (fun c145 => ?_)
                · obtain ⟨p3, n3, c3, s3, hr3, hcS3, hcd3, hpre3, hlbv3⟩ := orL hQv11 c145
                  clear hQv11
                  have hI12 := hI10.app hcl11 hcS3 hcd3 hpre3 hlbv3
                  have hf12 := hI12.1.fin hf0
                  have hL12 := hI12.2.1.2.2.2.1
                  have hL13 := hI12.2.1.2.2.2.2
                  have hpk3 := hk p2
                  have hrel : tT B len p2 = 160 ∨ tT B len p2 = 162 ∨ tT B len p2 = 161 := (Or.inr (Or.inl c108))
                  have hbnd : Lc + ((c ++ c3).length : Int) ≤ 399 := by
                    have q := hfarS _ _ _ _ _ _ hr3
                    omega
                  refine gw_aload_n (gc k_Reader_plain_1 39 rfl) rfl rfl ?_
                  refine gw_iload_n (gc k_Reader_plain_2 0 rfl) rfl ?_
                  refine gw_iconst (gc k_Reader_plain_2 1 rfl) ?_
                  refine gw_cV1 (gc k_Reader_plain_2 2 rfl) y_Reader_step ln_Reader_156 (c_Reader_step hx hf12 11 0 (by have := hbnd; rw [hL12]; omega)) rfl rfl (gAt hx rfl rfl) rfl (gble (by omega)) ?_
                  refine gw_pop (gc k_Reader_plain_2 3 rfl) rfl ?_
                  have hE := hI12.st (K := K1) (by omega) (op := 11) (a := 0) (a2 := 0) (by decide) rfl
                  have hPos : pPosW (tT B len) (some f) sm (pNots (tT B len) 401 p false).1 n = .inr (p3, n3, c ++ c3 ++ [(11, 0)], pjs 11 s s3) := by rw [hpN]; exact po_2i (by omega) hr hrel hr3 (by rw [if_neg c94, if_pos c108])
                  have hfE := hE.1.fin hf0
                  have hLE := hE.2.1.2.2.2.1
                  have hLE2 := hE.2.1.2.2.2.2
                  have hfr9 := hfarS _ _ _ _ _ _ hr3
                  have hf := hfE
                  refine gw_iload_n (gc k_Reader_plain_2 4 rfl) rfl ?_
                  refine gw_if_eq (tgt := 168) (gc k_Reader_plain_2 5 rfl) rfl (by omega) (fun c158 => ?_) (fun c158 => ?_)
                  · refine gw_iconst (gc k_Reader_plain_2 11 rfl) ?_
                    refine gw_zreturn (gc k_Reader_plain_2 12 rfl) rfl (by omega) ?_
                    have hb2 : (pNots (tT B len) 401 p false).2 = false := by
                      cases hbb : (pNots (tT B len) 401 p false).2
                      · rfl
                      · rw [hbb] at htuN; exact absurd (c158.symm.trans htuN) (by decide)
                    exact ⟨rfl, (hE.kle (K2 := K) (by omega)).q (by rw [pl_i hPos, hb2]; rfl)⟩
                  · refine gw_aload_n (gc k_Reader_plain_2 6 rfl) rfl rfl ?_
                    refine gw_iconst (gc k_Reader_plain_2 7 rfl) ?_
                    refine gw_iconst (gc k_Reader_plain_2 8 rfl) ?_
                    refine gw_cV1 (gc k_Reader_plain_2 9 rfl) y_Reader_step ln_Reader_156 (c_Reader_step hx hfE 2 0 (by rw [hLE]; omega)) rfl rfl (gAt hx rfl rfl) rfl (gble (by omega)) ?_
                    refine gw_pop (gc k_Reader_plain_2 10 rfl) rfl ?_
                    refine gw_iconst (gc k_Reader_plain_2 11 rfl) ?_
                    refine gw_zreturn (gc k_Reader_plain_2 12 rfl) rfl (by omega) ?_
                    have hb2 : (pNots (tT B len) 401 p false).2 = true := by
                      cases hbb : (pNots (tT B len) 401 p false).2
                      · rw [hbb] at htuN; exact absurd htuN c158
                      · rfl
                    have hE2 := (hE.kle (K2 := K + 1) (by omega)).st (K := K) hKK (op := 2) (a := 0) (a2 := 0) (by decide) rfl
                    exact ⟨rfl, hE2.q (by rw [pl_i hPos, hb2]; rfl)⟩
                · refine gw_iconst (gc k_Reader_plain_1 37 rfl) ?_
                  refine gw_zreturn (gc k_Reader_plain_1 38 rfl) rfl (by omega) ?_
                  obtain ⟨e, hr3, hPe, he0⟩ := orR hQv11 c145
                  clear hQv11
                  exact ⟨rfl, hI10.1.tr hcl11, Or.inl ⟨e, pl_e (by rw [hpN]; exact po_2e (by omega) hr (Or.inr (Or.inl c108)) hr3), rfl, hPe, he0⟩⟩
              · exact absurd c122 (by decide)
          · refine gw_bipush (gc k_Reader_plain_1 12 rfl) (by decide) ?_
            refine gw_goto (tgt := 118) (gc k_Reader_plain_1 13 rfl) rfl ?_
            refine gw_istore_3 (gc k_Reader_plain_1 21 rfl) rfl rfl ?_
            refine gw_iload_n (gc k_Reader_plain_1 22 rfl) rfl ?_
            refine gw_bipush (gc k_Reader_plain_1 23 rfl) (by decide) ?_
            refine gw_icmp_ne (tgt := 136) (gc k_Reader_plain_1 24 rfl) rfl (by omega) (fun c122 => ?_) (fun c122 => ?_)
            · refine gw_aload_n (gc k_Reader_plain_1 31 rfl) rfl rfl ?_
              refine gw_xV1 (gc k_Reader_plain_1 32 rfl) y_Reader_advance ln_Reader_56 (c_advP hx hf9 hI9.2.1.1 p2 hp9 hI9.2.1.2.1) rfl rfl (gAt hx rfl rfl) rfl (gble (by omega)) (fun r137 sh2 g137 hq137 => ?_)
              obtain ⟨rfl, rfl, hF10, hP10⟩ := hq137
              have hI10 := hI9.k hF10 hP10
              have hf10 := hI10.1.fin hf0
              have hf := hf10
              refine gw_aload_n (gc k_Reader_plain_1 33 rfl) rfl rfl ?_
              refine gw_iload_n (gc k_Reader_plain_1 34 rfl) rfl ?_
              refine gw_xV1 (gc k_Reader_plain_1 35 rfl) y_Reader_sum ln_Reader_125 (hSm g137 (p2 + 1) n2 (Lc + c.length) (K1 + 1) hf10 ((hI10.1 _ _ (by omega) (by omega) (by decide) (by decide)).trans h3) hI10.2.1 (by rw [hI10.2.2.2.2]; exact lbV_01 _ _ _)) rfl rfl (gAt hx rfl rfl) rfl (gble (by omega)) (fun r142 sh2 g142 hq142 => ?_)
              obtain ⟨rfl, hQ11⟩ := hq142
              obtain ⟨v11, rfl, hv1101, hcl11, hQv11⟩ := hQ11.v
              have hf := hcl11.fin hf10
              refine gw_if_ne (tgt := 150) (gc k_Reader_plain_1 36 rfl) rfl (by omega) (fun c145 => ?_) (fun c145 => ?_)
              · obtain ⟨p3, n3, c3, s3, hr3, hcS3, hcd3, hpre3, hlbv3⟩ := orL hQv11 c145
                clear hQv11
                have hI12 := hI10.app hcl11 hcS3 hcd3 hpre3 hlbv3
                have hf12 := hI12.1.fin hf0
                have hL12 := hI12.2.1.2.2.2.1
                have hL13 := hI12.2.1.2.2.2.2
                have hpk3 := hk p2
                have hrel : tT B len p2 = 160 ∨ tT B len p2 = 162 ∨ tT B len p2 = 161 := (Or.inl c94)
                have hbnd : Lc + ((c ++ c3).length : Int) ≤ 399 := by
                  have q := hfarS _ _ _ _ _ _ hr3
                  omega
                refine gw_aload_n (gc k_Reader_plain_1 39 rfl) rfl rfl ?_
                refine gw_iload_n (gc k_Reader_plain_2 0 rfl) rfl ?_
                refine gw_iconst (gc k_Reader_plain_2 1 rfl) ?_
                refine gw_cV1 (gc k_Reader_plain_2 2 rfl) y_Reader_step ln_Reader_156 (c_Reader_step hx hf12 10 0 (by have := hbnd; rw [hL12]; omega)) rfl rfl (gAt hx rfl rfl) rfl (gble (by omega)) ?_
                refine gw_pop (gc k_Reader_plain_2 3 rfl) rfl ?_
                have hE := hI12.st (K := K1) (by omega) (op := 10) (a := 0) (a2 := 0) (by decide) rfl
                have hPos : pPosW (tT B len) (some f) sm (pNots (tT B len) 401 p false).1 n = .inr (p3, n3, c ++ c3 ++ [(10, 0)], pjs 10 s s3) := by rw [hpN]; exact po_2i (by omega) hr hrel hr3 (by rw [if_pos c94])
                have hfE := hE.1.fin hf0
                have hLE := hE.2.1.2.2.2.1
                have hLE2 := hE.2.1.2.2.2.2
                have hfr9 := hfarS _ _ _ _ _ _ hr3
                have hf := hfE
                refine gw_iload_n (gc k_Reader_plain_2 4 rfl) rfl ?_
                refine gw_if_eq (tgt := 168) (gc k_Reader_plain_2 5 rfl) rfl (by omega) (fun c158 => ?_) (fun c158 => ?_)
                · refine gw_iconst (gc k_Reader_plain_2 11 rfl) ?_
                  refine gw_zreturn (gc k_Reader_plain_2 12 rfl) rfl (by omega) ?_
                  have hb2 : (pNots (tT B len) 401 p false).2 = false := by
                    cases hbb : (pNots (tT B len) 401 p false).2
                    · rfl
                    · rw [hbb] at htuN; exact absurd (c158.symm.trans htuN) (by decide)
                  exact ⟨rfl, (hE.kle (K2 := K) (by omega)).q (by rw [pl_i hPos, hb2]; rfl)⟩
                · refine gw_aload_n (gc k_Reader_plain_2 6 rfl) rfl rfl ?_
                  refine gw_iconst (gc k_Reader_plain_2 7 rfl) ?_
                  refine gw_iconst (gc k_Reader_plain_2 8 rfl) ?_
                  refine gw_cV1 (gc k_Reader_plain_2 9 rfl) y_Reader_step ln_Reader_156 (c_Reader_step hx hfE 2 0 (by rw [hLE]; omega)) rfl rfl (gAt hx rfl rfl) rfl (gble (by omega)) ?_
                  refine gw_pop (gc k_Reader_plain_2 10 rfl) rfl ?_
                  refine gw_iconst (gc k_Reader_plain_2 11 rfl) ?_
                  refine gw_zreturn (gc k_Reader_plain_2 12 rfl) rfl (by omega) ?_
                  have hb2 : (pNots (tT B len) 401 p false).2 = true := by
                    cases hbb : (pNots (tT B len) 401 p false).2
                    · rw [hbb] at htuN; exact absurd htuN c158
                    · rfl
                  have hE2 := (hE.kle (K2 := K + 1) (by omega)).st (K := K) hKK (op := 2) (a := 0) (a2 := 0) (by decide) rfl
                  exact ⟨rfl, hE2.q (by rw [pl_i hPos, hb2]; rfl)⟩
              · refine gw_iconst (gc k_Reader_plain_1 37 rfl) ?_
                refine gw_zreturn (gc k_Reader_plain_1 38 rfl) rfl (by omega) ?_
                obtain ⟨e, hr3, hPe, he0⟩ := orR hQv11 c145
                clear hQv11
                exact ⟨rfl, hI10.1.tr hcl11, Or.inl ⟨e, pl_e (by rw [hpN]; exact po_2e (by omega) hr (Or.inl c94) hr3), rfl, hPe, he0⟩⟩
            · exact absurd c122 (by decide)
        · refine gw_iconst (gc k_Reader_plain_1 6 rfl) ?_
          refine gw_zreturn (gc k_Reader_plain_1 7 rfl) rfl (by omega) ?_
          obtain ⟨e, hr, hPe, he0⟩ := orR hQv8 c83
          clear hQv8
          exact ⟨rfl, hcla.tr hcl8, Or.inl ⟨e, pl_e (by rw [hpN]; exact po_1e (by omega) hr), rfl, hPe, he0⟩⟩
      · refine gw_iload_n (gc k_Reader_plain_0 23 rfl) rfl ?_
        refine gw_bipush (gc k_Reader_plain_0 24 rfl) (by decide) ?_
        refine gw_icmp_lt (tgt := 53) (gc k_Reader_plain_0 25 rfl) rfl (by omega) (fun c48 => ?_) (fun c48 => ?_)
        · refine gw_aload_n (gc k_Reader_plain_0 28 rfl) rfl rfl ?_
          refine gw_xV1 (gc k_Reader_plain_0 29 rfl) y_Reader_advance ln_Reader_56 (c_advP hx hfa hBa p1 hp1 hPa) rfl rfl (gAt hx rfl rfl) rfl (gble (by omega)) (fun r54 sh2 g54 hq54 => ?_)
          obtain ⟨rfl, rfl, hF4, hP4⟩ := hq54
          have hI4 := hIa.k hF4 hP4
          have hf4 := hI4.1.fin hf0
          have hf := hf4
          refine gw_aload_n (gc k_Reader_plain_0 30 rfl) rfl rfl ?_
          refine gw_iload_n (gc k_Reader_plain_0 31 rfl) rfl ?_
          refine gw_iconst (gc k_Reader_plain_0 32 rfl) ?_
          refine gw_iadd (gc k_Reader_plain_0 33 rfl) ?_
          refine gw_xV1 (gc k_Reader_plain_0 34 rfl) y_Reader_test ln_Reader_148 (hS g54 (p1 + 1) n (Lc + ([] : PK).length) (K1 + 1) hf4 ((hF4 _ _ (by omega)).trans hla3) hI4.2.1 (by rw [hF4 _ _ (by omega)]; exact hlbA)) rfl rfl (gAt hx rfl rfl) rfl (gble (by omega)) (fun r61 sh2 g61 hq61 => ?_)
          obtain ⟨rfl, hQ5⟩ := hq61
          obtain ⟨v5, rfl, hv501, hcl5, hQv5⟩ := hQ5.v
          have hf := hcl5.fin hf4
          refine gw_if_eq (tgt := 76) (gc k_Reader_plain_0 35 rfl) rfl (by omega) (fun c64 => ?_) (fun c64 => ?_)
          · refine gw_iconst (gc k_Reader_plain_1 0 rfl) ?_
            refine gw_zreturn (gc k_Reader_plain_1 1 rfl) rfl (by omega) ?_
            obtain ⟨e, hr, hPe, he0⟩ := orR hQv5 c64
            clear hQv5
            exact ⟨rfl, hI4.1.tr hcl5, Or.inl ⟨e, pl_e (by rw [hpN]; exact po_se (by omega) hr), rfl, hPe, he0⟩⟩
          · obtain ⟨p2, n2, c, s, hr, hcS2, hcd, hpre, hlbv⟩ := orL hQv5 c64
            clear hQv5
            have hI6 : lpI B len (K1 + 1) o g Lc c p2 n2 g61 := hI4.app hcl5 hcS2 hcd hpre hlbv
            have hf6 := hI6.1.fin hf0
            refine gw_aload_n (gc k_Reader_plain_0 36 rfl) rfl rfl ?_
            refine gw_bipush (gc k_Reader_plain_0 37 rfl) (by decide) ?_
            refine gw_xV1 (gc k_Reader_plain_0 38 rfl) y_Reader_takeSign ln_Reader_78 (c_Reader_takeSign hx hf6 hI6.2.1.1 p2 hI6.2.1.2.2.2.2.1.1 hI6.2.1.2.1 41 (by omega)) rfl rfl (gAt hx rfl rfl) rfl (gble (by omega)) (fun r70 sh2 g70 hq70 => ?_)
            rw [show (100 : Int) + 41 = 141 from rfl] at hq70
            obtain ⟨rfl, rfl, hF7, hP7⟩ := hq70
            have hf := hF7.fin hf6
            refine gw_bne (tgt := 157) (gc k_Reader_plain_0 39 rfl) rfl (fun c73 => ?_) (fun c73 => ?_)
            · rw [if_pos c73] at hP7
              have hE : lpI B len K1 o g Lc c (p2 + 1) n2 g70 := (hI6.rc hF7 hP7 (by omega)).kle (by omega)
              have hPos : pPosW (tT B len) (some f) sm (pNots (tT B len) 401 p false).1 n = .inr (p2 + 1, n2, c, s) := by rw [hpN, po_si (by omega) hr, if_pos c73]
              have hfE := hE.1.fin hf0
              have hLE := hE.2.1.2.2.2.1
              have hLE2 := hE.2.1.2.2.2.2
              have hbE : Lc + (c.length : Int) ≤ 399 := by
                have q1 := hk p2 (by omega)
                have q2 := hI6.2.1.2.2.2.2.2
                omega
              have hf := hfE
              refine gw_iload_n (gc k_Reader_plain_2 4 rfl) rfl ?_
              refine gw_if_eq (tgt := 168) (gc k_Reader_plain_2 5 rfl) rfl (by omega) (fun c158 => ?_) (fun c158 => ?_)
              · refine gw_iconst (gc k_Reader_plain_2 11 rfl) ?_
                refine gw_zreturn (gc k_Reader_plain_2 12 rfl) rfl (by omega) ?_
                have hb2 : (pNots (tT B len) 401 p false).2 = false := by
                  cases hbb : (pNots (tT B len) 401 p false).2
                  · rfl
                  · rw [hbb] at htuN; exact absurd (c158.symm.trans htuN) (by decide)
                exact ⟨rfl, (hE.kle (K2 := K) (by omega)).q (by rw [pl_i hPos, hb2]; rfl)⟩
              · refine gw_aload_n (gc k_Reader_plain_2 6 rfl) rfl rfl ?_
                refine gw_iconst (gc k_Reader_plain_2 7 rfl) ?_
                refine gw_iconst (gc k_Reader_plain_2 8 rfl) ?_
                refine gw_cV1 (gc k_Reader_plain_2 9 rfl) y_Reader_step ln_Reader_156 (c_Reader_step hx hfE 2 0 (by rw [hLE]; omega)) rfl rfl (gAt hx rfl rfl) rfl (gble (by omega)) ?_
                refine gw_pop (gc k_Reader_plain_2 10 rfl) rfl ?_
                refine gw_iconst (gc k_Reader_plain_2 11 rfl) ?_
                refine gw_zreturn (gc k_Reader_plain_2 12 rfl) rfl (by omega) ?_
                have hb2 : (pNots (tT B len) 401 p false).2 = true := by
                  cases hbb : (pNots (tT B len) 401 p false).2
                  · rw [hbb] at htuN; exact absurd htuN c158
                  · rfl
                have hE2 := (hE.kle (K2 := K + 1) (by omega)).st (K := K) hKK (op := 2) (a := 0) (a2 := 0) (by decide) rfl
                exact ⟨rfl, hE2.q (by rw [pl_i hPos, hb2]; rfl)⟩
            · refine gw_iconst (gc k_Reader_plain_1 0 rfl) ?_
              refine gw_zreturn (gc k_Reader_plain_1 1 rfl) rfl (by omega) ?_
              rw [if_neg c73] at hP7
              exact ⟨rfl, hI6.1.tr hF7.cl, Or.inl ⟨p2, pl_e (by rw [hpN, po_si (by omega) hr, if_neg c73]), rfl, hP7, hI6.2.1.2.2.2.2.1.1⟩⟩
        · exfalso; omega
    · refine gw_iload_n (gc k_Reader_plain_0 11 rfl) rfl ?_
      refine gw_if_ne (tgt := 28) (gc k_Reader_plain_0 12 rfl) rfl (by omega) (fun c21 => ?_) (fun c21 => ?_)
      · refine gw_iconst (gc k_Reader_plain_0 15 rfl) ?_
        refine gw_istore_2 (gc k_Reader_plain_0 16 rfl) rfl rfl ?_
        refine gw_iinc_3 (gc k_Reader_plain_0 17 rfl) rfl rfl ?_
        refine gw_goto (tgt := 4) (gc k_Reader_plain_0 18 rfl) rfl ?_
        obtain ⟨f7, bb, e7, e8, e9⟩ := hN
        obtain ⟨f7, rfl⟩ : ∃ q, f7 = q + 1 := ⟨f7 - 1, by have := hpk1 (by omega); omega⟩
        rw [pNots_7 c17] at e7
        have htb : (0 : Int) = tuB (!bb) := by
          cases bb
          · first | rfl | (exfalso; rw [e9] at c21; exact absurd c21 (by decide)) | (exfalso; exact c21 e9)
          · first | rfl | (exfalso; rw [e9] at c21; exact absurd c21 (by decide)) | (exfalso; exact c21 e9)
        rw [if_pos c17] at hPq
        have hI5 := hI.k hFq hPq
        have := hpk1 (by omega)
        exact ih (i + 1, 0, p1 + 1, K1 + 1, g14) (show (0 ≤ (i + 1) ∧ (i + 1) ≤ (p1 + 1) ∧ (i + 1) ≤ 400) ∧ ((0 : Int) = 0 ∨ (0 : Int) = 1) ∧ (K ≤ (K1 + 1) ∧ ((0 : Int) = 1 → K + 1 ≤ (K1 + 1))) ∧ lpI B len (K1 + 1) o g Lc [] (p1 + 1) n g14 ∧ nOK (tT B len) p (p1 + 1) (0 : Int) from ⟨by omega, by omega, by omega, hI5, ⟨f7, !bb, e7, by omega, htb⟩⟩) (show (500 - (p1 + 1)).toNat < (500 - p1).toNat from by omega)
      · refine gw_iconst (gc k_Reader_plain_0 13 rfl) ?_
        refine gw_goto (tgt := 29) (gc k_Reader_plain_0 14 rfl) rfl ?_
        refine gw_istore_2 (gc k_Reader_plain_0 16 rfl) rfl rfl ?_
        refine gw_iinc_3 (gc k_Reader_plain_0 17 rfl) rfl rfl ?_
        refine gw_goto (tgt := 4) (gc k_Reader_plain_0 18 rfl) rfl ?_
        obtain ⟨f7, bb, e7, e8, e9⟩ := hN
        obtain ⟨f7, rfl⟩ : ∃ q, f7 = q + 1 := ⟨f7 - 1, by have := hpk1 (by omega); omega⟩
        rw [pNots_7 c17] at e7
        have htb : (1 : Int) = tuB (!bb) := by
          cases bb
          · first | rfl | (exfalso; rw [e9] at c21; exact absurd c21 (by decide)) | (exfalso; exact c21 e9)
          · first | rfl | (exfalso; rw [e9] at c21; exact absurd c21 (by decide)) | (exfalso; exact c21 e9)
        rw [if_pos c17] at hPq
        have hI5 := hI.k hFq hPq
        have := hpk1 (by omega)
        exact ih (i + 1, 1, p1 + 1, K1 + 1, g14) (show (0 ≤ (i + 1) ∧ (i + 1) ≤ (p1 + 1) ∧ (i + 1) ≤ 400) ∧ ((1 : Int) = 0 ∨ (1 : Int) = 1) ∧ (K ≤ (K1 + 1) ∧ ((1 : Int) = 1 → K + 1 ≤ (K1 + 1))) ∧ lpI B len (K1 + 1) o g Lc [] (p1 + 1) n g14 ∧ nOK (tT B len) p (p1 + 1) (1 : Int) from ⟨by omega, by omega, by omega, hI5, ⟨f7, !bb, e7, by omega, htb⟩⟩) (show (500 - (p1 + 1)).toNat < (500 - p1).toNat from by omega)
theorem rc_sumK {sh : gS} (hx : gFix sh) {B : Int → Int} {len nt : Int} {o : Bool} (hk : pOK (tT B len) nt) (hnt : nt ≤ 400) : ∀ k : Nat, k ≤ 8 → RcL B len o sh f_Reader_sum (11 + 3 * k) [(2, 151), (0, 8 - (k : Int))] (pSum (tT B len) (tW B len) o k)
  | 0, _ => by
    rw [pSum_eq]
    have hp : RcL B len o sh f_Reader_part 9 [(2, 151), (0, 8)] (pPartW (tT B len) (tW B len) o none) := by
      cases o
      · exact rc_partL0 hx hk hnt (by omega)
      · exact rc_partO0 hx hk hnt (by omega)
    exact rc_sum hx hk hnt (D2 := 10) (by omega) (by omega) (pTerm_far hk 0) (rc_term hx hk hnt (D2 := 9) (by omega) (by omega) (pPart_far hk 0) hp)
  | k + 1, h => by
    rw [pSum_eq]
    have hs := rc_sumK (o := o) hx hk hnt k (by omega)
    rw [show 8 - (k : Int) = (8 - ((k + 1 : Nat) : Int)) + 1 by omega] at hs
    have hp : RcL B len o sh f_Reader_part (9 + 3 * (k + 1)) [(2, 151), (0, 8 - ((k + 1 : Nat) : Int))] (pPartW (tT B len) (tW B len) o (some (pSum (tT B len) (tW B len) o k))) := by
      cases o
      · exact rc_partL1 hx hk hnt (by omega) (by omega) (by omega) hs
      · exact rc_partO1 hx hk hnt (by omega) (by omega) (by omega) hs
    exact rc_sum hx hk hnt (D2 := 10 + 3 * (k + 1)) (by omega) (by omega) (pTerm_far hk (k + 1)) (rc_term hx hk hnt (D2 := 9 + 3 * (k + 1)) (by omega) (by omega) (pPart_far hk (k + 1)) hp)
theorem rc_testK {sh : gS} (hx : gFix sh) {B : Int → Int} {len nt : Int} {o : Bool} (hk : pOK (tT B len) nt) (hnt : nt ≤ 400) : ∀ k : Nat, k ≤ 8 → RcL B len o sh f_Reader_test (14 + 3 * k) [(2, 151), (0, 8 - (k : Int))] (pTest (tT B len) (tW B len) o k)
  | 0, h => by
    have e : pTest (tT B len) (tW B len) o 0 = pTestW (tT B len) (pBothW (tT B len) (pPlainW (tT B len) none (pSum (tT B len) (tW B len) o 0))) := rfl
    rw [e]
    exact rc_test hx hk hnt (D2 := 13) (by omega) (by omega) (pBoth_far hk 0) (rc_both hx hk hnt (D2 := 12) (by omega) (by omega) (pPlain_far hk 0) (rc_plain0 hx hk hnt (D1 := 11) (by omega) (by omega) (pSum_far hk 0) (rc_sumK hx hk hnt 0 (by omega))))
  | k + 1, h => by
    have e : pTest (tT B len) (tW B len) o (k + 1) = pTestW (tT B len) (pBothW (tT B len) (pPlainW (tT B len) (some (pTest (tT B len) (tW B len) o k)) (pSum (tT B len) (tW B len) o (k + 1)))) := rfl
    rw [e]
    have hs := rc_testK (o := o) hx hk hnt k (by omega)
    rw [show 8 - (k : Int) = (8 - ((k + 1 : Nat) : Int)) + 1 by omega] at hs
    exact rc_test hx hk hnt (D2 := 13 + 3 * (k + 1)) (by omega) (by omega) (pBoth_far hk (k + 1)) (rc_both hx hk hnt (D2 := 12 + 3 * (k + 1)) (by omega) (by omega) (pPlain_far hk (k + 1)) (rc_plain1 hx hk hnt (D1 := 11 + 3 * (k + 1)) (by omega) (by omega) (pSum_far hk (k + 1)) (rc_sumK hx hk hnt (k + 1) (by omega)) (by omega) (by omega) hs))
