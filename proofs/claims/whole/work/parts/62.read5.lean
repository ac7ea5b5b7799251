theorem pCl_fw {T V : Int → Int} {nt : Int} (h : pOK T nt) : ∀ p n p2 n2 c, pClause T (pSum T V false 8) (pTest T V false 8) p n = .inr (p2, n2, c) → p < p2 := fun p n p2 n2 c e => (pClause_far h (pSum_far h 8) (pTest_far h 8) _ _ _ _ _ e).1
theorem pOW_fw {T : Int → Int} {nt : Int} {test : Int → Int → PR} (ht : pFar nt test) {h : Int} {c : PK} {s : PS} {c2 : PK} {s2 : PS} {t p n p2 n2 : Int} {x : OC} (e : pOWhen T test h c s c2 s2 t p n = .inr (p2, n2, x)) : p ≤ p2 := by
  unfold pOWhen at e
  split at e
  · cases hq : test (p + 1) n with
    | inl q => rw [hq] at e; cases e
    | inr q =>
      obtain ⟨q2, m2, c3, s3⟩ := q
      rw [hq] at e
      have := ht _ _ _ _ _ _ hq
      cases e; omega
  · cases e; omega
theorem pOT_fw {T V : Int → Int} {nt : Int} {test : Int → Int → PR} (ht : pFar nt test) {h : Int} {c : PK} {s : PS} {c2 : PK} {s2 : PS} {p n p2 n2 : Int} {x : OC} (e : pOTimes T V test h c s c2 s2 p n = .inr (p2, n2, x)) : p ≤ p2 := by
  unfold pOTimes at e
  split at e
  · split at e
    · have := pOW_fw ht e; omega
    · cases e
  · exact pOW_fw ht e
theorem pOr_fw {T V : Int → Int} {nt : Int} (h : pOK T nt) : ∀ p n p2 n2 c, pOrder T V (pSum T V true 8) (pTest T V true 8) p n = .inr (p2, n2, c) → p < p2 := fun p n p2 n2 c e => by
  have hs := pSum_far (V := V) (o := true) h 8
  have ht := pTest_far (V := V) (o := true) h 8
  unfold pOrder at e
  split at e
  · cases hq : pSum T V true 8 (p + 1) n with
    | inl q => rw [hq] at e; cases e
    | inr q =>
      obtain ⟨q2, m2, c3, s3⟩ := q
      rw [hq] at e
      dsimp only at e
      have h1 := hs _ _ _ _ _ _ hq
      split at e
      · cases hq2 : pSum T V true 8 (q2 + 1) m2 with
        | inl q => rw [hq2] at e; cases e
        | inr q =>
          obtain ⟨q3, m3, c4, s4⟩ := q
          rw [hq2] at e
          have h2 := hs _ _ _ _ _ _ hq2
          have h3 := pOT_fw ht e
          omega
      · cases e
  · split at e
    · have h3 := pOT_fw ht e
      omega
    · cases e
theorem rdM_up (g : gM) (p n b : Int) {k : Int} (v : Int) (h1 : k ≠ 19) (h2 : k ≠ 20) (h3 : k ≠ 21) : gup (rdM g p n b) 177 k v = rdM (gup g 177 k v) p n b := by
  funext a y
  unfold rdM gup
  by_cases h : a = 177
  · subst h
    by_cases z : y = k
    · subst z; simp [h1, h2, h3]
    · simp [z]
  · simp [h]
def lawRd (T V : Int → Int) (nt : Int) : Int ⊕ List PC := pAll T nt (pClause T (pSum T V false 8) (pTest T V false 8))
theorem rdE_pre {α : Type} {g g0 g2 : gM} {R : (Int → Int) → (Int → Int) → Int → Int ⊕ List α} {b : Int} (h : rdE g R b g2) (h0 : ∀ a k, ¬ (a = 177 ∧ 8 ≤ k ∧ k ≤ 10) → g a k = g0 a k) : rdE g0 R b g2 := by
  have e1 : tB g = tB g0 := tB_eq (funext fun k => h0 184 k (by omega))
  have e2 : g 177 13 = g0 177 13 := h0 _ _ (by omega)
  obtain ⟨h1, h2, h3, h4⟩ := h
  rw [e1, e2] at h4
  exact ⟨fun a k q1 q2 q3 q4 => (h1 a k q1 q2 q3 q4).trans (h0 a k (by omega)), h2, h3, h4⟩
/-- tokens laid into a row -/
def layF (r : Int → Int) (t nt : Int) (C V : Int → Int) (i : Int) : Int → Int := fun y => if y = 45 + t then nt else if 52 + 400 * t ≤ y ∧ y < 52 + 400 * t + i then C (y - (52 + 400 * t)) else if 2852 + 400 * t ≤ y ∧ y < 2852 + 400 * t + i then V (y - (2852 + 400 * t)) else r y
theorem lay_step (g : gM) (r : Int → Int) {t nt i : Int} (C V : Int → Int) (ht : 0 ≤ t ∧ t ≤ 6) (hi : 0 ≤ i ∧ i < 400) : gup (gup (gfr g 179 (layF r t nt C V i)) 179 (52 + 400 * t + i) (C i)) 179 (2852 + 400 * t + i) (V i) = gfr g 179 (layF r t nt C V (i + 1)) := by
  rw [gup_gfr, gup_gfr]
  refine gfr_ext _ _ (fun y => ?_)
  unfold layF
  by_cases z0 : y = 45 + t
  · rw [if_neg (by omega), if_neg (by omega), if_pos z0, if_pos z0]
  · rw [if_neg z0, if_neg z0]
    by_cases z1 : y = 2852 + 400 * t + i
    · rw [if_pos z1, if_neg (by omega), if_pos (by omega)]
      exact congrArg V (by omega)
    · rw [if_neg z1]
      by_cases z2 : y = 52 + 400 * t + i
      · rw [if_pos z2, if_pos (by omega)]
        exact congrArg C (by omega)
      · rw [if_neg z2]
        by_cases z3 : 52 + 400 * t ≤ y ∧ y < 52 + 400 * t + i
        · rw [if_pos z3, if_pos (by omega)]
        · rw [if_neg z3, if_neg (show ¬ (52 + 400 * t ≤ y ∧ y < 52 + 400 * t + (i + 1)) by omega)]
          by_cases z4 : 2852 + 400 * t ≤ y ∧ y < 2852 + 400 * t + i
          · rw [if_pos z4, if_pos (by omega)]
          · rw [if_neg z4, if_neg (show ¬ (2852 + 400 * t ≤ y ∧ y < 2852 + 400 * t + (i + 1)) by omega)]
def layM (g : gM) (t : Int) : gM := gfr g 179 (layF (g 179) t (g 177 18) (g 186) (g 187) (g 177 18))
def lwQ (g : gM) (x : Option gV) (g2 : gM) : Prop := (g 179 43 = 6 ∧ x = some (0, -5) ∧ g2 = refM (gup g 177 13 0) (-5)) ∨ (¬ g 179 43 = 6 ∧ ∃ b g1, rdE g lawRd b g1 ∧ ((¬ b = -1 ∧ x = some (0, -6) ∧ g2 = refM g1 (-6)) ∨ (b = -1 ∧ x = some (0, g 179 43) ∧ g2 = goodM (gup (layM g1 (g 179 43)) 179 43 (g 179 43 + 1)))))
set_option maxHeartbeats 8000000 in
theorem c_readsL {sh : gS} {g : gM} (hx : gFix sh) (hf : gFin g) (ht : tapeOK g) (hWo : wordsOK g) (h10 : g 177 10 = (if false = true then 1 else 0)) (h8 : g 177 8 = (if false = true then 15 else 8)) (h9 : g 177 9 = (if false = true then 21 else 17)) : gTri f_Model_reads 35 0 0 [(2, 177)] sh g (fun x s2 g2 => s2 = sh ∧ ∃ b, (-1 ≤ b ∧ b ≤ 400) ∧ x = some (0, bi (b = -1)) ∧ rdE g lawRd b g2) := by
  refine gTri.of (by decide +kernel) rfl ?_
  show gWP f_Model_reads _ _ _ 0 [(2, 177), (9, 0)] [] sh g _
  refine gw_aload_n (gc k_Model_reads_0 0 rfl) rfl rfl ?_
  refine gw_aload_n (gc k_Model_reads_0 1 rfl) rfl rfl ?_
  refine gw_getf 13 rfl (gc k_Model_reads_0 2 rfl) fl_Model_154 (gAt hx rfl rfl) ?_
  refine gw_xV1 (gc k_Model_reads_0 3 rfl) y_Model_splits ln_Model_239 (c_Model_splits hx hf (g 177 13) ht.1 hWo ht) rfl rfl (gAt hx rfl rfl) rfl rfl (fun r5 sh2 g5 hq5 => ?_)
  obtain ⟨rfl, rfl, hsp⟩ := hq5
  have hf := hsp.fin hf
  obtain ⟨nt, h18, hC⟩ := hsp.rdC ht.1 false h10 h8 h9
  have hfb : gFin (gup g5 177 13 0) := hf.up rfl
  have hC0 := hC
  obtain ⟨hn0, hpk, hat, hTb, hVb, hPb, -⟩ := hC0
  refine gw_aload_n (gc k_Model_reads_0 4 rfl) rfl rfl ?_
  refine gw_iconst (gc k_Model_reads_0 5 rfl) ?_
  refine gw_putIK 13 rfl (gc k_Model_reads_0 6 rfl) fl_Model_154 (gAt hx rfl rfl) hf rfl (fun hf => ?_)
  refine gw_aload_n (gc k_Model_reads_0 7 rfl) rfl rfl ?_
  refine gw_iconst (gc k_Model_reads_0 8 rfl) ?_
  refine gw_putIK 19 rfl (gc k_Model_reads_0 9 rfl) fl_Model_180 (gAt hx rfl rfl) hf rfl (fun hf => ?_)
  refine gw_aload_n (gc k_Model_reads_0 10 rfl) rfl rfl ?_
  refine gw_iconst (gc k_Model_reads_0 11 rfl) ?_
  refine gw_putIK 20 rfl (gc k_Model_reads_0 12 rfl) fl_Model_189 (gAt hx rfl rfl) hf rfl (fun hf => ?_)
  refine gw_aload_n (gc k_Model_reads_0 13 rfl) rfl rfl ?_
  refine gw_iconst (gc k_Model_reads_0 14 rfl) ?_
  refine gw_putIK 21 rfl (gc k_Model_reads_0 15 rfl) fl_Model_174 (gAt hx rfl rfl) hf rfl (fun hf => ?_)
  show gWP _ _ _ _ 28 _ _ _ (rdM (gup g5 177 13 0) 0 0 (-1)) _
  have hG0 : rdG nt 0 0 (-1) := ⟨fun _ => by omega, by omega⟩
  have hf := hfb.rd 0 0 (-1)
  refine gw_aload_n (gc k_Model_reads_0 16 rfl) rfl rfl ?_
  refine gw_xV1 (gc k_Model_reads_0 17 rfl) y_Model_readOne ln_Model_242 (rd_oneL hx hfb hC 0 0 (-1) hG0) rfl rfl (gAt hx rfl rfl) rfl rfl (fun r29 sh2 g29 hq29 => ?_)
  obtain ⟨rfl, rfl, p1, n1, b1, rfl, hT⟩ := hq29
  have hG1 := hT.ok hPb hG0
  have hW1 := rdW_0 (T := tT (tB g) (g 177 13)) (pCl_fw hpk) hT
  refine gw_iconst (gc k_Model_reads_0 18 rfl) ?_
  refine gw_istore_1 (gc k_Model_reads_0 19 rfl) rfl rfl ?_
  refine gwloop (σ := Int × Int × Int × Int) (fun zs => rdG nt (zs.2.1) (zs.2.2.1) (zs.2.2.2) ∧ rdW (tT (tB g) (g 177 13)) (tPi (tB g) (g 177 13)) nt (pClause (tT (tB g) (g 177 13)) (pSum (tT (tB g) (g 177 13)) (tW (tB g) (g 177 13)) false 8) (pTest (tT (tB g) (g 177 13)) (tW (tB g) (g 177 13)) false 8)) (zs.1) (zs.2.1) (zs.2.2.1) (zs.2.2.2) ∧ 1 ≤ (zs.1) ∧ ((zs.2.2.2) = -1 → (zs.1) ≤ 12) ∧ (zs.1) ≤ 13) (fun zs => (if (zs.2.2.2) = -1 then (500 - (zs.2.1)).toNat + 1 else 0)) (fun zs => [(2, 177), (0, (zs.1))]) (fun zs => rdM (gup g5 177 13 0) (zs.2.1) (zs.2.2.1) (zs.2.2.2)) (1, p1, n1, b1) (show rdG nt p1 n1 b1 ∧ rdW (tT (tB g) (g 177 13)) (tPi (tB g) (g 177 13)) nt (pClause (tT (tB g) (g 177 13)) (pSum (tT (tB g) (g 177 13)) (tW (tB g) (g 177 13)) false 8) (pTest (tT (tB g) (g 177 13)) (tW (tB g) (g 177 13)) false 8)) (1 : Int) p1 n1 b1 ∧ 1 ≤ (1 : Int) ∧ (b1 = -1 → (1 : Int) ≤ 12) ∧ (1 : Int) ≤ 13 from ⟨hG1, hW1, by omega, fun _ => by omega, by omega⟩) rfl rfl (fun zs hI ih => ?_)
  obtain ⟨m, p, n, b⟩ := zs
  replace hI : rdG nt p n b ∧ rdW (tT (tB g) (g 177 13)) (tPi (tB g) (g 177 13)) nt (pClause (tT (tB g) (g 177 13)) (pSum (tT (tB g) (g 177 13)) (tW (tB g) (g 177 13)) false 8) (pTest (tT (tB g) (g 177 13)) (tW (tB g) (g 177 13)) false 8)) m p n b ∧ 1 ≤ m ∧ (b = -1 → m ≤ 12) ∧ m ≤ 13 := hI
  obtain ⟨hG, hWW, hm1, hm2, hm3⟩ := hI
  show gWP _ _ _ _ _ [(2, 177), (0, m)] [] _ (rdM (gup g5 177 13 0) p n b) _
  have hf := hfb.rd p n b
  have hTp := hTb p
  refine gw_aload_n (gc k_Model_reads_0 20 rfl) rfl rfl ?_
  refine gw_bipush (gc k_Model_reads_0 21 rfl) (by decide) ?_
  refine gw_cS1 (gc k_Model_reads_0 22 rfl) y_Model_sign ln_Model_220 (c_Model_sign 59) rfl rfl rfl rfl ?_
  refine gw_cV1 (gc k_Model_reads_0 23 rfl) y_Model_takes0 ln_Model_183 (c_Model_takes0 hx hfb p n b hC hG 159 (by omega)) rfl rfl (gAt hx rfl rfl) rfl rfl ?_
  refine gw_beq (tgt := 73) (gc k_Model_reads_0 24 rfl) rfl (fun c43 => ?_) (fun c43 => ?_)
  · rw [if_neg c43]
    refine gw_aload_n (gc k_Model_reads_0 37 rfl) rfl rfl ?_
    refine gw_cV1 (gc k_Model_reads_0 38 rfl) y_Model_fine ln_Model_177 (c_Model_fine hx hfb p n b hG.2) rfl rfl (gAt hx rfl rfl) rfl rfl ?_
    refine gw_beq (tgt := 95) (gc k_Model_reads_0 39 rfl) rfl (fun c77 => ?_) (fun c77 => ?_)
    · have hf := hfb.rd p n b
      have hGb := hG.2
      refine gw_aload_n (gc k_Model_reads_1 7 rfl) rfl rfl ?_
      refine gw_aload_n (gc k_Model_reads_1 8 rfl) rfl rfl ?_
      refine gw_getf 21 rfl (gc k_Model_reads_1 9 rfl) fl_Model_174 (gAt hx rfl rfl) ?_
      rw [rdM_21]
      refine gw_putIK 14 rfl (gc k_Model_reads_1 10 rfl) fl_Model_51 (gAt hx rfl rfl) hf rfl (fun hf => ?_)
      rw [rdM_up _ _ _ _ _ (by decide) (by decide) (by decide)]
      refine gw_aload_n (gc k_Model_reads_1 11 rfl) rfl rfl ?_
      refine gw_cV1 (gc k_Model_reads_1 12 rfl) y_Model_fine ln_Model_177 (c_Model_fine hx (hfb.up rfl) p n b (by omega)) rfl rfl (gAt hx rfl rfl) rfl rfl ?_
      rw [← rdM_up _ _ _ _ _ (by decide) (by decide) (by decide)]
      refine gw_zreturn (gc k_Model_reads_1 13 rfl) rfl (bi_01 _) ?_
      exact ⟨rfl, b, by omega, rfl, rdE_of hsp hC h18 (rdW_b hWW c77)⟩
    · refine gw_aload_n (gc k_Model_reads_1 0 rfl) rfl rfl ?_
      refine gw_getf 19 rfl (gc k_Model_reads_1 1 rfl) fl_Model_180 (gAt hx rfl rfl) ?_
      rw [rdM_19]
      refine gw_aload_n (gc k_Model_reads_1 2 rfl) rfl rfl ?_
      refine gw_getf 18 rfl (gc k_Model_reads_1 3 rfl) fl_Model_160 (gAt hx rfl rfl) ?_
      rw [rdM_k _ _ _ _ (by decide) (by decide) (by decide), gup_k _ _ _ _ (by decide), h18]
      have hG8 := hG.1 c77
      refine gw_icmp_ge (tgt := 95) (gc k_Model_reads_1 4 rfl) rfl (by omega) (fun c88 => ?_) (fun c88 => ?_)
      · have hf := hfb.rd p n b
        have hGb := hG.2
        refine gw_aload_n (gc k_Model_reads_1 7 rfl) rfl rfl ?_
        refine gw_aload_n (gc k_Model_reads_1 8 rfl) rfl rfl ?_
        refine gw_getf 21 rfl (gc k_Model_reads_1 9 rfl) fl_Model_174 (gAt hx rfl rfl) ?_
        rw [rdM_21]
        refine gw_putIK 14 rfl (gc k_Model_reads_1 10 rfl) fl_Model_51 (gAt hx rfl rfl) hf rfl (fun hf => ?_)
        rw [rdM_up _ _ _ _ _ (by decide) (by decide) (by decide)]
        refine gw_aload_n (gc k_Model_reads_1 11 rfl) rfl rfl ?_
        refine gw_cV1 (gc k_Model_reads_1 12 rfl) y_Model_fine ln_Model_177 (c_Model_fine hx (hfb.up rfl) p n b (by omega)) rfl rfl (gAt hx rfl rfl) rfl rfl ?_
        rw [← rdM_up _ _ _ _ _ (by decide) (by decide) (by decide)]
        refine gw_zreturn (gc k_Model_reads_1 13 rfl) rfl (bi_01 _) ?_
        exact ⟨rfl, b, by omega, rfl, rdE_of hsp hC h18 (c77 ▸ rdW_d hPb (by omega) (fun z => c43 ⟨c77, z⟩) (c77 ▸ hWW))⟩
      · refine gw_aload_n (gc k_Model_reads_1 5 rfl) rfl rfl ?_
        have hPn8 := hPb p (by omega) (by omega)
        refine gw_cV0 (gc k_Model_reads_1 6 rfl) y_Model_faults ln_Model_186 (c_Model_faults hx hfb p n b hC hG) rfl rfl (gAt hx rfl rfl) rfl rfl ?_
        rw [if_pos c77]
        have hf := hfb.rd p n ((tPi (tB g) (g 177 13)) p)
        have hGb := hG.2
        refine gw_aload_n (gc k_Model_reads_1 7 rfl) rfl rfl ?_
        refine gw_aload_n (gc k_Model_reads_1 8 rfl) rfl rfl ?_
        refine gw_getf 21 rfl (gc k_Model_reads_1 9 rfl) fl_Model_174 (gAt hx rfl rfl) ?_
        rw [rdM_21]
        refine gw_putIK 14 rfl (gc k_Model_reads_1 10 rfl) fl_Model_51 (gAt hx rfl rfl) hf rfl (fun hf => ?_)
        rw [rdM_up _ _ _ _ _ (by decide) (by decide) (by decide)]
        refine gw_aload_n (gc k_Model_reads_1 11 rfl) rfl rfl ?_
        refine gw_cV1 (gc k_Model_reads_1 12 rfl) y_Model_fine ln_Model_177 (c_Model_fine hx (hfb.up rfl) p n ((tPi (tB g) (g 177 13)) p) (by omega)) rfl rfl (gAt hx rfl rfl) rfl rfl ?_
        rw [← rdM_up _ _ _ _ _ (by decide) (by decide) (by decide)]
        refine gw_zreturn (gc k_Model_reads_1 13 rfl) rfl (bi_01 _) ?_
        exact ⟨rfl, ((tPi (tB g) (g 177 13)) p), by omega, rfl, rdE_of hsp hC h18 (rdW_f hPb (by omega) (fun z => c43 ⟨c77, z⟩) (c77 ▸ hWW))⟩
  · rw [if_pos c43]
    have hGn := hG.nx hpk (fun _ => by omega)
    have hPn := fun z1 z2 => hPb (p + 1) z1 z2
    have hG8 := hG.1 c43.1
    have hpn8 := hpk p (by omega)
    have hPn8 := hPb (p + 1) (by omega) (by omega)
    have hf := hfb.rd (p + 1) n b
    refine gw_iload_n (gc k_Model_reads_0 25 rfl) rfl ?_
    refine gw_bipush (gc k_Model_reads_0 26 rfl) (by decide) ?_
    refine gw_icmp_ne (tgt := 56) (gc k_Model_reads_0 27 rfl) rfl (by omega) (fun c49 => ?_) (fun c49 => ?_)
    · refine gw_aload_n (gc k_Model_reads_0 30 rfl) rfl rfl ?_
      refine gw_cV1 (gc k_Model_reads_0 31 rfl) y_Model_fine ln_Model_177 (c_Model_fine hx hfb (p + 1) n b (by omega)) rfl rfl (gAt hx rfl rfl) rfl rfl ?_
      refine gw_beq (tgt := 67) (gc k_Model_reads_0 32 rfl) rfl  (fun c60 => ?_) (fun c60 => ?_)
      · exfalso; omega
      · refine gw_aload_n (gc k_Model_reads_0 33 rfl) rfl rfl ?_
        refine gw_xV1 (gc k_Model_reads_0 34 rfl) y_Model_readOne ln_Model_242 (rd_oneL hx hfb hC (p + 1) n b hGn) rfl rfl (gAt hx rfl rfl) rfl rfl (fun r64 sh2 g64 hq64 => ?_)
        obtain ⟨rfl, rfl, p3, n3, b3, rfl, hT3⟩ := hq64
        have hG3 := hT3.ok hPb hGn
        refine gw_iinc_1 (gc k_Model_reads_0 35 rfl) rfl rfl ?_
        refine gw_goto (tgt := 34) (gc k_Model_reads_0 36 rfl) rfl ?_
        have hpn := hpk p (by omega)
        have hG9 := hG.1 c43.1
        have hb1 := c43.1
        subst hb1
        have hWs := rdW_s hPb (pCl_fw hpk) (by omega) c43.2 (by omega) hWW hT3
        exact ih (m + 1, p3, n3, b3) (show rdG nt p3 n3 b3 ∧ rdW (tT (tB g) (g 177 13)) (tPi (tB g) (g 177 13)) nt (pClause (tT (tB g) (g 177 13)) (pSum (tT (tB g) (g 177 13)) (tW (tB g) (g 177 13)) false 8) (pTest (tT (tB g) (g 177 13)) (tW (tB g) (g 177 13)) false 8)) (m + 1) p3 n3 b3 ∧ 1 ≤ (m + 1) ∧ (b3 = -1 → (m + 1) ≤ 12) ∧ (m + 1) ≤ 13 from ⟨hG3, hWs.1, by omega, fun z => by have := hm2 rfl; omega, by have := hm2 rfl; omega⟩) (show (if b3 = -1 then (500 - p3).toNat + 1 else 0) < (if (-1 : Int) = -1 then (500 - p).toNat + 1 else 0) from by rw [if_pos rfl]; have := hWs.2; split <;> omega)
    · refine gw_aload_n (gc k_Model_reads_0 28 rfl) rfl rfl ?_
      refine gw_cV0 (gc k_Model_reads_0 29 rfl) y_Model_faults ln_Model_186 (c_Model_faults hx hfb (p + 1) n b hC hGn) rfl rfl (gAt hx rfl rfl) rfl rfl ?_
      rw [if_pos c43.1]
      refine gw_aload_n (gc k_Model_reads_0 30 rfl) rfl rfl ?_
      refine gw_cV1 (gc k_Model_reads_0 31 rfl) y_Model_fine ln_Model_177 (c_Model_fine hx hfb (p + 1) n ((tPi (tB g) (g 177 13)) (p + 1)) (by omega)) rfl rfl (gAt hx rfl rfl) rfl rfl ?_
      refine gw_beq (tgt := 67) (gc k_Model_reads_0 32 rfl) rfl  (fun c60 => ?_) (fun c60 => ?_)
      · refine gw_iinc_1 (gc k_Model_reads_0 35 rfl) rfl rfl ?_
        refine gw_goto (tgt := 34) (gc k_Model_reads_0 36 rfl) rfl ?_
        have hpn := hpk p (by omega)
        have hG9 := hG.1 c43.1
        exact ih (m + 1, p + 1, n, (tPi (tB g) (g 177 13)) (p + 1)) (show rdG nt (p + 1) n ((tPi (tB g) (g 177 13)) (p + 1)) ∧ rdW (tT (tB g) (g 177 13)) (tPi (tB g) (g 177 13)) nt (pClause (tT (tB g) (g 177 13)) (pSum (tT (tB g) (g 177 13)) (tW (tB g) (g 177 13)) false 8) (pTest (tT (tB g) (g 177 13)) (tW (tB g) (g 177 13)) false 8)) (m + 1) (p + 1) n ((tPi (tB g) (g 177 13)) (p + 1)) ∧ 1 ≤ (m + 1) ∧ (((tPi (tB g) (g 177 13)) (p + 1)) = -1 → (m + 1) ≤ 12) ∧ (m + 1) ≤ 13 from ⟨⟨fun z => by omega, by omega⟩, rdW_12 hPb (by omega) c43.2 (by omega) (c43.1 ▸ hWW) _ _ _, by omega, fun z => by omega, by omega⟩) (show (if ((tPi (tB g) (g 177 13)) (p + 1)) = -1 then (500 - (p + 1)).toNat + 1 else 0) < (if b = -1 then (500 - p).toNat + 1 else 0) from by rw [if_neg (by omega), if_pos c43.1]; omega)
      · exfalso; omega
set_option maxHeartbeats 1000000 in
theorem c_readsAsL {sh : gS} {g : gM} (hx : gFix sh) (hf : gFin g) (ht : tapeOK g) (hWo : wordsOK g) : gTri f_Model_readsAs 36 0 0 [(2, 177), (0, 0)] sh g (fun x s2 g2 => s2 = sh ∧ ∃ b, (-1 ≤ b ∧ b ≤ 400) ∧ x = some (0, bi (b = -1)) ∧ rdE g lawRd b g2) := by
  refine gTri.of (by decide +kernel) rfl ?_
  show gWP f_Model_readsAs _ _ _ 0 [(2, 177), (0, 0)] [] sh g _
  refine gw_aload_n (gc k_Model_readsAs_0 0 rfl) rfl rfl ?_
  refine gw_iload_n (gc k_Model_readsAs_0 1 rfl) rfl ?_
  refine gw_putZK 10 rfl (gc k_Model_readsAs_0 2 rfl) fl_Model_204 (gAt hx rfl rfl) (by omega) hf rfl (fun hf => ?_)
  refine gw_aload_n (gc k_Model_readsAs_0 3 rfl) rfl rfl ?_
  refine gw_iload_n (gc k_Model_readsAs_0 4 rfl) rfl ?_
  refine gw_if_eq (tgt := 15) (gc k_Model_readsAs_0 5 rfl) rfl (by omega) (fun c7 => ?_) (fun c7 => ?_)
  · refine gw_bipush (gc k_Model_readsAs_0 8 rfl) (by decide) ?_
    refine gw_putIK 8 rfl (gc k_Model_readsAs_0 9 rfl) fl_Model_230 (gAt hx rfl rfl) hf rfl (fun hf => ?_)
    refine gw_aload_n (gc k_Model_readsAs_0 10 rfl) rfl rfl ?_
    refine gw_iload_n (gc k_Model_readsAs_0 11 rfl) rfl ?_
    refine gw_if_eq (tgt := 30) (gc k_Model_readsAs_0 12 rfl) rfl (by omega) (fun c22 => ?_) (fun c22 => ?_)
    · refine gw_bipush (gc k_Model_readsAs_0 15 rfl) (by decide) ?_
      refine gw_putIK 9 rfl (gc k_Model_readsAs_0 16 rfl) fl_Model_233 (gAt hx rfl rfl) hf rfl (fun hf => ?_)
      have e184 : (gup (gup (gup g 177 10 0) 177 8 8) 177 9 17) 184 = g 184 := by rw [gup_fn _ _ _ _ (by decide), gup_fn _ _ _ _ (by decide), gup_fn _ _ _ _ (by decide)]
      have e183 : (gup (gup (gup g 177 10 0) 177 8 8) 177 9 17) 183 = g 183 := by rw [gup_fn _ _ _ _ (by decide), gup_fn _ _ _ _ (by decide), gup_fn _ _ _ _ (by decide)]
      refine gw_aload_n (gc k_Model_readsAs_0 17 rfl) rfl rfl ?_
      refine gw_xV1 (gc k_Model_readsAs_0 18 rfl) y_Model_reads ln_Model_245 (c_readsL hx hf (by unfold tapeOK; rw [e184, gup_k _ _ _ _ (by decide), gup_k _ _ _ _ (by decide), gup_k _ _ _ _ (by decide)]; exact ht) (by unfold wordsOK; rw [e183]; exact hWo) (by rw [gup_k _ _ _ _ (by decide), gup_k _ _ _ _ (by decide), gup_s]; rfl) (by rw [gup_k _ _ _ _ (by decide), gup_s]; rfl) (by rw [gup_s]; rfl)) rfl rfl (gAt hx rfl rfl) rfl rfl (fun r36 sh2 g36 hq36 => ?_)
      obtain ⟨rfl, b, hb, rfl, hE⟩ := hq36
      refine gw_zreturn (gc k_Model_readsAs_0 19 rfl) rfl (bi_01 _) ?_
      exact ⟨rfl, b, hb, rfl, rdE_pre hE (fun a k q => by
        by_cases z : a = 177
        · subst z; rw [gup_k _ _ _ _ (by omega), gup_k _ _ _ _ (by omega), gup_k _ _ _ _ (by omega)]
        · rw [gup_a _ _ _ _ _ z, gup_a _ _ _ _ _ z, gup_a _ _ _ _ _ z])⟩
    · exact absurd rfl c22
  · exact absurd rfl c7
set_option maxHeartbeats 8000000 in
theorem c_readsO {sh : gS} {g : gM} (hx : gFix sh) (hf : gFin g) (ht : tapeOK g) (hWo : wordsOK g) (h10 : g 177 10 = (if true = true then 1 else 0)) (h8 : g 177 8 = (if true = true then 15 else 8)) (h9 : g 177 9 = (if true = true then 21 else 17)) : gTri f_Model_reads 35 0 0 [(2, 177)] sh g (fun x s2 g2 => s2 = sh ∧ ∃ b, (-1 ≤ b ∧ b ≤ 400) ∧ x = some (0, bi (b = -1)) ∧ rdE g pOrd b g2) := by
  refine gTri.of (by decide +kernel) rfl ?_
  show gWP f_Model_reads _ _ _ 0 [(2, 177), (9, 0)] [] sh g _
  refine gw_aload_n (gc k_Model_reads_0 0 rfl) rfl rfl ?_
  refine gw_aload_n (gc k_Model_reads_0 1 rfl) rfl rfl ?_
  refine gw_getf 13 rfl (gc k_Model_reads_0 2 rfl) fl_Model_154 (gAt hx rfl rfl) ?_
  refine gw_xV1 (gc k_Model_reads_0 3 rfl) y_Model_splits ln_Model_239 (c_Model_splits hx hf (g 177 13) ht.1 hWo ht) rfl rfl (gAt hx rfl rfl) rfl rfl (fun r5 sh2 g5 hq5 => ?_)
  obtain ⟨rfl, rfl, hsp⟩ := hq5
  have hf := hsp.fin hf
  obtain ⟨nt, h18, hC⟩ := hsp.rdC ht.1 true h10 h8 h9
  have hfb : gFin (gup g5 177 13 0) := hf.up rfl
  have hC0 := hC
  obtain ⟨hn0, hpk, hat, hTb, hVb, hPb, -⟩ := hC0
  refine gw_aload_n (gc k_Model_reads_0 4 rfl) rfl rfl ?_
  refine gw_iconst (gc k_Model_reads_0 5 rfl) ?_
  refine gw_putIK 13 rfl (gc k_Model_reads_0 6 rfl) fl_Model_154 (gAt hx rfl rfl) hf rfl (fun hf => ?_)
  refine gw_aload_n (gc k_Model_reads_0 7 rfl) rfl rfl ?_
  refine gw_iconst (gc k_Model_reads_0 8 rfl) ?_
  refine gw_putIK 19 rfl (gc k_Model_reads_0 9 rfl) fl_Model_180 (gAt hx rfl rfl) hf rfl (fun hf => ?_)
  refine gw_aload_n (gc k_Model_reads_0 10 rfl) rfl rfl ?_
  refine gw_iconst (gc k_Model_reads_0 11 rfl) ?_
  refine gw_putIK 20 rfl (gc k_Model_reads_0 12 rfl) fl_Model_189 (gAt hx rfl rfl) hf rfl (fun hf => ?_)
  refine gw_aload_n (gc k_Model_reads_0 13 rfl) rfl rfl ?_
  refine gw_iconst (gc k_Model_reads_0 14 rfl) ?_
  refine gw_putIK 21 rfl (gc k_Model_reads_0 15 rfl) fl_Model_174 (gAt hx rfl rfl) hf rfl (fun hf => ?_)
  show gWP _ _ _ _ 28 _ _ _ (rdM (gup g5 177 13 0) 0 0 (-1)) _
  have hG0 : rdG nt 0 0 (-1) := ⟨fun _ => by omega, by omega⟩
  have hf := hfb.rd 0 0 (-1)
  refine gw_aload_n (gc k_Model_reads_0 16 rfl) rfl rfl ?_
  refine gw_xV1 (gc k_Model_reads_0 17 rfl) y_Model_readOne ln_Model_242 (rd_oneO hx hfb hC 0 0 (-1) hG0) rfl rfl (gAt hx rfl rfl) rfl rfl (fun r29 sh2 g29 hq29 => ?_)
  obtain ⟨rfl, rfl, p1, n1, b1, rfl, hT⟩ := hq29
  have hG1 := hT.ok hPb hG0
  have hW1 := rdW_0 (T := tT (tB g) (g 177 13)) (pOr_fw hpk) hT
  refine gw_iconst (gc k_Model_reads_0 18 rfl) ?_
  refine gw_istore_1 (gc k_Model_reads_0 19 rfl) rfl rfl ?_
  refine gwloop (σ := Int × Int × Int × Int) (fun zs => rdG nt (zs.2.1) (zs.2.2.1) (zs.2.2.2) ∧ rdW (tT (tB g) (g 177 13)) (tPi (tB g) (g 177 13)) nt (pOrder (tT (tB g) (g 177 13)) (tW (tB g) (g 177 13)) (pSum (tT (tB g) (g 177 13)) (tW (tB g) (g 177 13)) true 8) (pTest (tT (tB g) (g 177 13)) (tW (tB g) (g 177 13)) true 8)) (zs.1) (zs.2.1) (zs.2.2.1) (zs.2.2.2) ∧ 1 ≤ (zs.1) ∧ ((zs.2.2.2) = -1 → (zs.1) ≤ 12) ∧ (zs.1) ≤ 13) (fun zs => (if (zs.2.2.2) = -1 then (500 - (zs.2.1)).toNat + 1 else 0)) (fun zs => [(2, 177), (0, (zs.1))]) (fun zs => rdM (gup g5 177 13 0) (zs.2.1) (zs.2.2.1) (zs.2.2.2)) (1, p1, n1, b1) (show rdG nt p1 n1 b1 ∧ rdW (tT (tB g) (g 177 13)) (tPi (tB g) (g 177 13)) nt (pOrder (tT (tB g) (g 177 13)) (tW (tB g) (g 177 13)) (pSum (tT (tB g) (g 177 13)) (tW (tB g) (g 177 13)) true 8) (pTest (tT (tB g) (g 177 13)) (tW (tB g) (g 177 13)) true 8)) (1 : Int) p1 n1 b1 ∧ 1 ≤ (1 : Int) ∧ (b1 = -1 → (1 : Int) ≤ 12) ∧ (1 : Int) ≤ 13 from ⟨hG1, hW1, by omega, fun _ => by omega, by omega⟩) rfl rfl (fun zs hI ih => ?_)
  obtain ⟨m, p, n, b⟩ := zs
  replace hI : rdG nt p n b ∧ rdW (tT (tB g) (g 177 13)) (tPi (tB g) (g 177 13)) nt (pOrder (tT (tB g) (g 177 13)) (tW (tB g) (g 177 13)) (pSum (tT (tB g) (g 177 13)) (tW (tB g) (g 177 13)) true 8) (pTest (tT (tB g) (g 177 13)) (tW (tB g) (g 177 13)) true 8)) m p n b ∧ 1 ≤ m ∧ (b = -1 → m ≤ 12) ∧ m ≤ 13 := hI
  obtain ⟨hG, hWW, hm1, hm2, hm3⟩ := hI
  show gWP _ _ _ _ _ [(2, 177), (0, m)] [] _ (rdM (gup g5 177 13 0) p n b) _
  have hf := hfb.rd p n b
  have hTp := hTb p
  refine gw_aload_n (gc k_Model_reads_0 20 rfl) rfl rfl ?_
  refine gw_bipush (gc k_Model_reads_0 21 rfl) (by decide) ?_
  refine gw_cS1 (gc k_Model_reads_0 22 rfl) y_Model_sign ln_Model_220 (c_Model_sign 59) rfl rfl rfl rfl ?_
  refine gw_cV1 (gc k_Model_reads_0 23 rfl) y_Model_takes0 ln_Model_183 (c_Model_takes0 hx hfb p n b hC hG 159 (by omega)) rfl rfl (gAt hx rfl rfl) rfl rfl ?_
  refine gw_beq (tgt := 73) (gc k_Model_reads_0 24 rfl) rfl (fun c43 => ?_) (fun c43 => ?_)
  · rw [if_neg c43]
    refine gw_aload_n (gc k_Model_reads_0 37 rfl) rfl rfl ?_
    refine gw_cV1 (gc k_Model_reads_0 38 rfl) y_Model_fine ln_Model_177 (c_Model_fine hx hfb p n b hG.2) rfl rfl (gAt hx rfl rfl) rfl rfl ?_
    refine gw_beq (tgt := 95) (gc k_Model_reads_0 39 rfl) rfl (fun c77 => ?_) (fun c77 => ?_)
    · have hf := hfb.rd p n b
      have hGb := hG.2
      refine gw_aload_n (gc k_Model_reads_1 7 rfl) rfl rfl ?_
      refine gw_aload_n (gc k_Model_reads_1 8 rfl) rfl rfl ?_
      refine gw_getf 21 rfl (gc k_Model_reads_1 9 rfl) fl_Model_174 (gAt hx rfl rfl) ?_
      rw [rdM_21]
      refine gw_putIK 14 rfl (gc k_Model_reads_1 10 rfl) fl_Model_51 (gAt hx rfl rfl) hf rfl (fun hf => ?_)
      rw [rdM_up _ _ _ _ _ (by decide) (by decide) (by decide)]
      refine gw_aload_n (gc k_Model_reads_1 11 rfl) rfl rfl ?_
      refine gw_cV1 (gc k_Model_reads_1 12 rfl) y_Model_fine ln_Model_177 (c_Model_fine hx (hfb.up rfl) p n b (by omega)) rfl rfl (gAt hx rfl rfl) rfl rfl ?_
      rw [← rdM_up _ _ _ _ _ (by decide) (by decide) (by decide)]
      refine gw_zreturn (gc k_Model_reads_1 13 rfl) rfl (bi_01 _) ?_
      exact ⟨rfl, b, by omega, rfl, rdE_of hsp hC h18 (rdW_b hWW c77)⟩
    · refine gw_aload_n (gc k_Model_reads_1 0 rfl) rfl rfl ?_
      refine gw_getf 19 rfl (gc k_Model_reads_1 1 rfl) fl_Model_180 (gAt hx rfl rfl) ?_
      rw [rdM_19]
      refine gw_aload_n (gc k_Model_reads_1 2 rfl) rfl rfl ?_
      refine gw_getf 18 rfl (gc k_Model_reads_1 3 rfl) fl_Model_160 (gAt hx rfl rfl) ?_
      rw [rdM_k _ _ _ _ (by decide) (by decide) (by decide), gup_k _ _ _ _ (by decide), h18]
      have hG8 := hG.1 c77
      refine gw_icmp_ge (tgt := 95) (gc k_Model_reads_1 4 rfl) rfl (by omega) (fun c88 => ?_) (fun c88 => ?_)
      · have hf := hfb.rd p n b
        have hGb := hG.2
        refine gw_aload_n (gc k_Model_reads_1 7 rfl) rfl rfl ?_
        refine gw_aload_n (gc k_Model_reads_1 8 rfl) rfl rfl ?_
        refine gw_getf 21 rfl (gc k_Model_reads_1 9 rfl) fl_Model_174 (gAt hx rfl rfl) ?_
        rw [rdM_21]
        refine gw_putIK 14 rfl (gc k_Model_reads_1 10 rfl) fl_Model_51 (gAt hx rfl rfl) hf rfl (fun hf => ?_)
        rw [rdM_up _ _ _ _ _ (by decide) (by decide) (by decide)]
        refine gw_aload_n (gc k_Model_reads_1 11 rfl) rfl rfl ?_
        refine gw_cV1 (gc k_Model_reads_1 12 rfl) y_Model_fine ln_Model_177 (c_Model_fine hx (hfb.up rfl) p n b (by omega)) rfl rfl (gAt hx rfl rfl) rfl rfl ?_
        rw [← rdM_up _ _ _ _ _ (by decide) (by decide) (by decide)]
        refine gw_zreturn (gc k_Model_reads_1 13 rfl) rfl (bi_01 _) ?_
        exact ⟨rfl, b, by omega, rfl, rdE_of hsp hC h18 (c77 ▸ rdW_d hPb (by omega) (fun z => c43 ⟨c77, z⟩) (c77 ▸ hWW))⟩
      · refine gw_aload_n (gc k_Model_reads_1 5 rfl) rfl rfl ?_
        have hPn8 := hPb p (by omega) (by omega)
        refine gw_cV0 (gc k_Model_reads_1 6 rfl) y_Model_faults ln_Model_186 (c_Model_faults hx hfb p n b hC hG) rfl rfl (gAt hx rfl rfl) rfl rfl ?_
        rw [if_pos c77]
        have hf := hfb.rd p n ((tPi (tB g) (g 177 13)) p)
        have hGb := hG.2
        refine gw_aload_n (gc k_Model_reads_1 7 rfl) rfl rfl ?_
        refine gw_aload_n (gc k_Model_reads_1 8 rfl) rfl rfl ?_
        refine gw_getf 21 rfl (gc k_Model_reads_1 9 rfl) fl_Model_174 (gAt hx rfl rfl) ?_
        rw [rdM_21]
        refine gw_putIK 14 rfl (gc k_Model_reads_1 10 rfl) fl_Model_51 (gAt hx rfl rfl) hf rfl (fun hf => ?_)
        rw [rdM_up _ _ _ _ _ (by decide) (by decide) (by decide)]
        refine gw_aload_n (gc k_Model_reads_1 11 rfl) rfl rfl ?_
        refine gw_cV1 (gc k_Model_reads_1 12 rfl) y_Model_fine ln_Model_177 (c_Model_fine hx (hfb.up rfl) p n ((tPi (tB g) (g 177 13)) p) (by omega)) rfl rfl (gAt hx rfl rfl) rfl rfl ?_
        rw [← rdM_up _ _ _ _ _ (by decide) (by decide) (by decide)]
        refine gw_zreturn (gc k_Model_reads_1 13 rfl) rfl (bi_01 _) ?_
        exact ⟨rfl, ((tPi (tB g) (g 177 13)) p), by omega, rfl, rdE_of hsp hC h18 (rdW_f hPb (by omega) (fun z => c43 ⟨c77, z⟩) (c77 ▸ hWW))⟩
  · rw [if_pos c43]
    have hGn := hG.nx hpk (fun _ => by omega)
    have hPn := fun z1 z2 => hPb (p + 1) z1 z2
    have hG8 := hG.1 c43.1
    have hpn8 := hpk p (by omega)
    have hPn8 := hPb (p + 1) (by omega) (by omega)
    have hf := hfb.rd (p + 1) n b
    refine gw_iload_n (gc k_Model_reads_0 25 rfl) rfl ?_
    refine gw_bipush (gc k_Model_reads_0 26 rfl) (by decide) ?_
    refine gw_icmp_ne (tgt := 56) (gc k_Model_reads_0 27 rfl) rfl (by omega) (fun c49 => ?_) (fun c49 => ?_)
    · refine gw_aload_n (gc k_Model_reads_0 30 rfl) rfl rfl ?_
      refine gw_cV1 (gc k_Model_reads_0 31 rfl) y_Model_fine ln_Model_177 (c_Model_fine hx hfb (p + 1) n b (by omega)) rfl rfl (gAt hx rfl rfl) rfl rfl ?_
      refine gw_beq (tgt := 67) (gc k_Model_reads_0 32 rfl) rfl  (fun c60 => ?_) (fun c60 => ?_)
      · exfalso; omega
      · refine gw_aload_n (gc k_Model_reads_0 33 rfl) rfl rfl ?_
        refine gw_xV1 (gc k_Model_reads_0 34 rfl) y_Model_readOne ln_Model_242 (rd_oneO hx hfb hC (p + 1) n b hGn) rfl rfl (gAt hx rfl rfl) rfl rfl (fun r64 sh2 g64 hq64 => ?_)
        obtain ⟨rfl, rfl, p3, n3, b3, rfl, hT3⟩ := hq64
        have hG3 := hT3.ok hPb hGn
        refine gw_iinc_1 (gc k_Model_reads_0 35 rfl) rfl rfl ?_
        refine gw_goto (tgt := 34) (gc k_Model_reads_0 36 rfl) rfl ?_
        have hpn := hpk p (by omega)
        have hG9 := hG.1 c43.1
        have hb1 := c43.1
        subst hb1
        have hWs := rdW_s hPb (pOr_fw hpk) (by omega) c43.2 (by omega) hWW hT3
        exact ih (m + 1, p3, n3, b3) (show rdG nt p3 n3 b3 ∧ rdW (tT (tB g) (g 177 13)) (tPi (tB g) (g 177 13)) nt (pOrder (tT (tB g) (g 177 13)) (tW (tB g) (g 177 13)) (pSum (tT (tB g) (g 177 13)) (tW (tB g) (g 177 13)) true 8) (pTest (tT (tB g) (g 177 13)) (tW (tB g) (g 177 13)) true 8)) (m + 1) p3 n3 b3 ∧ 1 ≤ (m + 1) ∧ (b3 = -1 → (m + 1) ≤ 12) ∧ (m + 1) ≤ 13 from ⟨hG3, hWs.1, by omega, fun z => by have := hm2 rfl; omega, by have := hm2 rfl; omega⟩) (show (if b3 = -1 then (500 - p3).toNat + 1 else 0) < (if (-1 : Int) = -1 then (500 - p).toNat + 1 else 0) from by rw [if_pos rfl]; have := hWs.2; split <;> omega)
    · refine gw_aload_n (gc k_Model_reads_0 28 rfl) rfl rfl ?_
      refine gw_cV0 (gc k_Model_reads_0 29 rfl) y_Model_faults ln_Model_186 (c_Model_faults hx hfb (p + 1) n b hC hGn) rfl rfl (gAt hx rfl rfl) rfl rfl ?_
      rw [if_pos c43.1]
      refine gw_aload_n (gc k_Model_reads_0 30 rfl) rfl rfl ?_
      refine gw_cV1 (gc k_Model_reads_0 31 rfl) y_Model_fine ln_Model_177 (c_Model_fine hx hfb (p + 1) n ((tPi (tB g) (g 177 13)) (p + 1)) (by omega)) rfl rfl (gAt hx rfl rfl) rfl rfl ?_
      refine gw_beq (tgt := 67) (gc k_Model_reads_0 32 rfl) rfl  (fun c60 => ?_) (fun c60 => ?_)
      · refine gw_iinc_1 (gc k_Model_reads_0 35 rfl) rfl rfl ?_
        refine gw_goto (tgt := 34) (gc k_Model_reads_0 36 rfl) rfl ?_
        have hpn := hpk p (by omega)
        have hG9 := hG.1 c43.1
        exact ih (m + 1, p + 1, n, (tPi (tB g) (g 177 13)) (p + 1)) (show rdG nt (p + 1) n ((tPi (tB g) (g 177 13)) (p + 1)) ∧ rdW (tT (tB g) (g 177 13)) (tPi (tB g) (g 177 13)) nt (pOrder (tT (tB g) (g 177 13)) (tW (tB g) (g 177 13)) (pSum (tT (tB g) (g 177 13)) (tW (tB g) (g 177 13)) true 8) (pTest (tT (tB g) (g 177 13)) (tW (tB g) (g 177 13)) true 8)) (m + 1) (p + 1) n ((tPi (tB g) (g 177 13)) (p + 1)) ∧ 1 ≤ (m + 1) ∧ (((tPi (tB g) (g 177 13)) (p + 1)) = -1 → (m + 1) ≤ 12) ∧ (m + 1) ≤ 13 from ⟨⟨fun z => by omega, by omega⟩, rdW_12 hPb (by omega) c43.2 (by omega) (c43.1 ▸ hWW) _ _ _, by omega, fun z => by omega, by omega⟩) (show (if ((tPi (tB g) (g 177 13)) (p + 1)) = -1 then (500 - (p + 1)).toNat + 1 else 0) < (if b = -1 then (500 - p).toNat + 1 else 0) from by rw [if_neg (by omega), if_pos c43.1]; omega)
      · exfalso; omega
set_option maxHeartbeats 1000000 in
theorem c_readsAsO {sh : gS} {g : gM} (hx : gFix sh) (hf : gFin g) (ht : tapeOK g) (hWo : wordsOK g) : gTri f_Model_readsAs 36 0 0 [(2, 177), (0, 1)] sh g (fun x s2 g2 => s2 = sh ∧ ∃ b, (-1 ≤ b ∧ b ≤ 400) ∧ x = some (0, bi (b = -1)) ∧ rdE g pOrd b g2) := by
  refine gTri.of (by decide +kernel) rfl ?_
  show gWP f_Model_readsAs _ _ _ 0 [(2, 177), (0, 1)] [] sh g _
  refine gw_aload_n (gc k_Model_readsAs_0 0 rfl) rfl rfl ?_
  refine gw_iload_n (gc k_Model_readsAs_0 1 rfl) rfl ?_
  refine gw_putZK 10 rfl (gc k_Model_readsAs_0 2 rfl) fl_Model_204 (gAt hx rfl rfl) (by omega) hf rfl (fun hf => ?_)
  refine gw_aload_n (gc k_Model_readsAs_0 3 rfl) rfl rfl ?_
  refine gw_iload_n (gc k_Model_readsAs_0 4 rfl) rfl ?_
  refine gw_if_eq (tgt := 15) (gc k_Model_readsAs_0 5 rfl) rfl (by omega) (fun c7 => ?_) (fun c7 => ?_)
  · exact absurd c7 (by decide)
  · refine gw_bipush (gc k_Model_readsAs_0 6 rfl) (by decide) ?_
    refine gw_goto (tgt := 17) (gc k_Model_readsAs_0 7 rfl) rfl ?_
    refine gw_putIK 8 rfl (gc k_Model_readsAs_0 9 rfl) fl_Model_230 (gAt hx rfl rfl) hf rfl (fun hf => ?_)
    refine gw_aload_n (gc k_Model_readsAs_0 10 rfl) rfl rfl ?_
    refine gw_iload_n (gc k_Model_readsAs_0 11 rfl) rfl ?_
    refine gw_if_eq (tgt := 30) (gc k_Model_readsAs_0 12 rfl) rfl (by omega) (fun c22 => ?_) (fun c22 => ?_)
    · exact absurd c22 (by decide)
    · refine gw_bipush (gc k_Model_readsAs_0 13 rfl) (by decide) ?_
      refine gw_goto (tgt := 32) (gc k_Model_readsAs_0 14 rfl) rfl ?_
      refine gw_putIK 9 rfl (gc k_Model_readsAs_0 16 rfl) fl_Model_233 (gAt hx rfl rfl) hf rfl (fun hf => ?_)
      have e184 : (gup (gup (gup g 177 10 1) 177 8 15) 177 9 21) 184 = g 184 := by rw [gup_fn _ _ _ _ (by decide), gup_fn _ _ _ _ (by decide), gup_fn _ _ _ _ (by decide)]
      have e183 : (gup (gup (gup g 177 10 1) 177 8 15) 177 9 21) 183 = g 183 := by rw [gup_fn _ _ _ _ (by decide), gup_fn _ _ _ _ (by decide), gup_fn _ _ _ _ (by decide)]
      refine gw_aload_n (gc k_Model_readsAs_0 17 rfl) rfl rfl ?_
      refine gw_xV1 (gc k_Model_readsAs_0 18 rfl) y_Model_reads ln_Model_245 (c_readsO hx hf (by unfold tapeOK; rw [e184, gup_k _ _ _ _ (by decide), gup_k _ _ _ _ (by decide), gup_k _ _ _ _ (by decide)]; exact ht) (by unfold wordsOK; rw [e183]; exact hWo) (by rw [gup_k _ _ _ _ (by decide), gup_k _ _ _ _ (by decide), gup_s]; rfl) (by rw [gup_k _ _ _ _ (by decide), gup_s]; rfl) (by rw [gup_s]; rfl)) rfl rfl (gAt hx rfl rfl) rfl rfl (fun r36 sh2 g36 hq36 => ?_)
      obtain ⟨rfl, b, hb, rfl, hE⟩ := hq36
      refine gw_zreturn (gc k_Model_readsAs_0 19 rfl) rfl (bi_01 _) ?_
      exact ⟨rfl, b, hb, rfl, rdE_pre hE (fun a k q => by
        by_cases z : a = 177
        · subst z; rw [gup_k _ _ _ _ (by omega), gup_k _ _ _ _ (by omega), gup_k _ _ _ _ (by omega)]
        · rw [gup_a _ _ _ _ _ z, gup_a _ _ _ _ _ z, gup_a _ _ _ _ _ z])⟩
set_option maxHeartbeats 1000000 in
theorem c_Model_lays {sh : gS} {g : gM} (hx : gFix sh) (hf : gFin g) (t : Int) (ht : 0 ≤ t ∧ t ≤ 6) (hnt : 0 ≤ g 177 18 ∧ g 177 18 ≤ 400) : gTri f_Model_lays 0 0 0 [(2, 177), (0, t)] sh g (gR none sh (layM g t)) := by
  have hf0 := hf
  refine gTri.of (by decide +kernel) rfl ?_
  show gWP f_Model_lays _ _ _ 0 [(2, 177), (0, t), (9, 0)] [] sh g _
  refine gw_aload_n (gc k_Model_lays_0 0 rfl) rfl rfl ?_
  refine gw_getref (gc k_Model_lays_0 1 rfl) fl_Model_28 (gAt hx rfl rfl) (gRf hf rfl rfl) ?_
  refine gw_bipush (gc k_Model_lays_0 2 rfl) (by decide) ?_
  refine gw_iload_n (gc k_Model_lays_0 3 rfl) rfl ?_
  refine gw_iadd (gc k_Model_lays_0 4 rfl) ?_
  refine gw_aload_n (gc k_Model_lays_0 5 rfl) rfl rfl ?_
  refine gw_getf 18 rfl (gc k_Model_lays_0 6 rfl) fl_Model_160 (gAt hx rfl rfl) ?_
  refine gw_iastF (gc k_Model_lays_0 7 rfl) (gAt hx rfl rfl) (by omega) hf rfl (fun hf => ?_)
  have he0 : gfr g 179 (layF (g 179) t (g 177 18) (g 186) (g 187) 0) = gup g 179 (45 + t) (g 177 18) := by
    rw [gup_as]
    refine gfr_ext _ _ (fun y => ?_)
    unfold layF
    by_cases z : y = 45 + t
    · rw [if_pos z, if_pos z]
    · rw [if_neg z, if_neg z, if_neg (by omega), if_neg (by omega)]
  refine gw_iconst (gc k_Model_lays_0 8 rfl) ?_
  refine gw_istore_2 (gc k_Model_lays_0 9 rfl) rfl rfl ?_
  refine gwloop (σ := Int) (fun zs => 0 ≤ zs ∧ zs ≤ g 177 18) (fun zs => (g 177 18 - zs).toNat) (fun zs => [(2, 177), (0, t), (0, zs)]) (fun zs => gfr g 179 (layF (g 179) t (g 177 18) (g 186) (g 187) zs)) (0) (show 0 ≤ (0 : Int) ∧ (0 : Int) ≤ g 177 18 from (by omega)) rfl he0 (fun zs hI ih => ?_)
  obtain ⟨i, hzz⟩ : ∃ x, x = zs := ⟨_, rfl⟩
  subst hzz
  replace hI : 0 ≤ i ∧ i ≤ g 177 18 := hI
  have hi := hI
  show gWP _ _ _ _ _ [(2, 177), (0, t), (0, i)] [] _ (gfr g 179 (layF (g 179) t (g 177 18) (g 186) (g 187) i)) _
  have hf := hf0.fr (a := 179) (f := layF (g 179) t (g 177 18) (g 186) (g 187) i) (fun _ => rfl)
  refine gw_iload_n (gc k_Model_lays_0 10 rfl) rfl ?_
  refine gw_aload_n (gc k_Model_lays_0 11 rfl) rfl rfl ?_
  refine gw_getf 18 rfl (gc k_Model_lays_0 12 rfl) fl_Model_160 (gAt hx rfl rfl) ?_
  rw [gfr_a _ _ _ _ (by decide)]
  refine gw_icmp_ge (tgt := 72) (gc k_Model_lays_0 13 rfl) rfl (by omega) (fun c20 => ?_) (fun c20 => ?_)
  · refine gw_return (gc k_Model_lays_1 4 rfl) rfl ?_
    obtain rfl : i = g 177 18 := by omega
    exact ⟨rfl, rfl, rfl⟩
  · refine gw_aload_n (gc k_Model_lays_0 14 rfl) rfl rfl ?_
    refine gw_getref (gc k_Model_lays_0 15 rfl) fl_Model_28 (gAt hx rfl rfl) (gRf hf rfl rfl) ?_
    refine gw_bipush (gc k_Model_lays_0 16 rfl) (by decide) ?_
    refine gw_sipush (gc k_Model_lays_0 17 rfl) (by decide) ?_
    refine gw_iload_n (gc k_Model_lays_0 18 rfl) rfl ?_
    refine gw_imul (gc k_Model_lays_0 19 rfl) ?_
    refine gw_iadd (gc k_Model_lays_0 20 rfl) ?_
    refine gw_iload_n (gc k_Model_lays_0 21 rfl) rfl ?_
    refine gw_iadd (gc k_Model_lays_0 22 rfl) ?_
    refine gw_aload_n (gc k_Model_lays_0 23 rfl) rfl rfl ?_
    refine gw_getref (gc k_Model_lays_0 24 rfl) fl_Model_54 (gAt hx rfl rfl) (gRf hf rfl rfl) ?_
    refine gw_iload_n (gc k_Model_lays_0 25 rfl) rfl ?_
    refine gw_iald (gc k_Model_lays_0 26 rfl) (gAt hx rfl rfl) (by omega) ?_
    rw [gfr_fn _ _ _ (by decide)]
    refine gw_iastF (gc k_Model_lays_0 27 rfl) (gAt hx rfl rfl) (by omega) hf rfl (fun hf => ?_)
    refine gw_aload_n (gc k_Model_lays_0 28 rfl) rfl rfl ?_
    refine gw_getref (gc k_Model_lays_0 29 rfl) fl_Model_28 (gAt hx rfl rfl) (gRf hf rfl rfl) ?_
    refine gw_sipush (gc k_Model_lays_0 30 rfl) (by decide) ?_
    refine gw_sipush (gc k_Model_lays_0 31 rfl) (by decide) ?_
    refine gw_iload_n (gc k_Model_lays_0 32 rfl) rfl ?_
    refine gw_imul (gc k_Model_lays_0 33 rfl) ?_
    refine gw_iadd (gc k_Model_lays_0 34 rfl) ?_
    refine gw_iload_n (gc k_Model_lays_0 35 rfl) rfl ?_
    refine gw_iadd (gc k_Model_lays_0 36 rfl) ?_
    refine gw_aload_n (gc k_Model_lays_0 37 rfl) rfl rfl ?_
    refine gw_getref (gc k_Model_lays_0 38 rfl) fl_Model_57 (gAt hx rfl rfl) (gRf hf rfl rfl) ?_
    refine gw_iload_n (gc k_Model_lays_0 39 rfl) rfl ?_
    refine gw_iald (gc k_Model_lays_1 0 rfl) (gAt hx rfl rfl) (by omega) ?_
    rw [gup_fn _ _ _ _ (by decide), gfr_fn _ _ _ (by decide)]
    refine gw_iastF (gc k_Model_lays_1 1 rfl) (gAt hx rfl rfl) (by omega) hf rfl (fun hf => ?_)
    refine gw_iinc_2 (gc k_Model_lays_1 2 rfl) rfl rfl ?_
    refine gw_goto (tgt := 15) (gc k_Model_lays_1 3 rfl) rfl ?_
    rw [lay_step _ _ _ _ ht (by omega)]
    exact ih (i + 1) (show 0 ≤ (i + 1) ∧ (i + 1) ≤ g 177 18 from (by omega)) (show (g 177 18 - (i + 1)).toNat < (g 177 18 - i).toNat from by omega)
set_option maxHeartbeats 1000000 in
theorem c_Model_law {sh : gS} {g : gM} (hx : gFix sh) (hf : gFin g) (ho : rowOK (g 179)) (ht : tapeOK g) (hWo : wordsOK g) : gTri f_Model_law 37 0 0 [(2, 177)] sh g (fun x s2 g2 => s2 = sh ∧ lwQ g x g2) := by
  have hto := ro_told ho
  refine gTri.of (by decide +kernel) rfl ?_
  show gWP f_Model_law _ _ _ 0 [(2, 177)] [] sh g _
  refine gw_aload_n (gc k_Model_law_0 0 rfl) rfl rfl ?_
  refine gw_getref (gc k_Model_law_0 1 rfl) fl_Model_28 (gAt hx rfl rfl) (gRf hf rfl rfl) ?_
  refine gw_bipush (gc k_Model_law_0 2 rfl) (by decide) ?_
  refine gw_iald (gc k_Model_law_0 3 rfl) (gAt hx rfl rfl) (by omega) ?_
  refine gw_bipush (gc k_Model_law_0 4 rfl) (by decide) ?_
  refine gw_icmp_ne (tgt := 24) (gc k_Model_law_0 5 rfl) rfl (by omega) (fun c9 => ?_) (fun c9 => ?_)
  · refine gw_aload_n (gc k_Model_law_0 13 rfl) rfl rfl ?_
    refine gw_iconst (gc k_Model_law_0 14 rfl) ?_
    refine gw_xV1 (gc k_Model_law_0 15 rfl) y_Model_readsAs ln_Model_248 (c_readsAsL hx hf ht hWo) rfl rfl (gAt hx rfl rfl) rfl rfl (fun r26 sh2 g26 hq26 => ?_)
    obtain ⟨rfl, b, hb, rfl, hE⟩ := hq26
    have hf := hE.1.fin hf
    have e179 : g26 179 = g 179 := funext fun k => hE.1 179 k (by decide) (by decide) (by decide) (by omega)
    have hE2 := hE.2.2.2
    refine gw_bne (tgt := 39) (gc k_Model_law_0 16 rfl) rfl (fun c29 => ?_) (fun c29 => ?_)
    · refine gw_aload_n (gc k_Model_law_0 21 rfl) rfl rfl ?_
      refine gw_aload_n (gc k_Model_law_0 22 rfl) rfl rfl ?_
      refine gw_getref (gc k_Model_law_0 23 rfl) fl_Model_28 (gAt hx rfl rfl) (gRf hf rfl rfl) ?_
      refine gw_bipush (gc k_Model_law_0 24 rfl) (by decide) ?_
      refine gw_iald (gc k_Model_law_0 25 rfl) (gAt hx rfl rfl) (by omega) ?_
      rw [e179]
      refine gw_cV0 (gc k_Model_law_0 26 rfl) y_Model_lays ln_Model_252 (c_Model_lays hx hf _ (by omega) (by obtain ⟨nt, q1, q2, -⟩ := hE2; rw [q2]; exact q1)) rfl rfl (gAt hx rfl rfl) rfl rfl ?_
      have hf := hf.fr (a := 179) (f := layF (g26 179) (g 179 43) (g26 177 18) (g26 186) (g26 187) (g26 177 18)) (fun _ => rfl)
      have e43 : layM g26 (g 179 43) 179 43 = g 179 43 := by
        unfold layM layF
        rw [gfr_s, if_neg (by omega), if_neg (by omega), if_neg (by omega), e179]
      refine gw_aload_n (gc k_Model_law_0 27 rfl) rfl rfl ?_
      refine gw_getref (gc k_Model_law_0 28 rfl) fl_Model_28 (gAt hx rfl rfl) (gRf hf rfl rfl) ?_
      refine gw_bipush (gc k_Model_law_0 29 rfl) (by decide) ?_
      refine gw_dup2 (gc k_Model_law_0 30 rfl) rfl ?_
      refine gw_iald (gc k_Model_law_0 31 rfl) (gAt hx rfl rfl) (by omega) ?_
      rw [e43]
      refine gw_iconst (gc k_Model_law_0 32 rfl) ?_
      refine gw_iadd (gc k_Model_law_0 33 rfl) ?_
      refine gw_iastF (gc k_Model_law_0 34 rfl) (gAt hx rfl rfl) (by omega) hf rfl (fun hf => ?_)
      refine gw_aload_n (gc k_Model_law_0 35 rfl) rfl rfl ?_
      refine gw_aload_n (gc k_Model_law_0 36 rfl) rfl rfl ?_
      refine gw_getref (gc k_Model_law_0 37 rfl) fl_Model_28 (gAt hx rfl rfl) (gRf hf rfl rfl) ?_
      refine gw_bipush (gc k_Model_law_0 38 rfl) (by decide) ?_
      refine gw_iald (gc k_Model_law_0 39 rfl) (gAt hx rfl rfl) (by omega) ?_
      rw [gup_s]
      refine gw_iconst (gc k_Model_law_1 0 rfl) ?_
      refine gw_isub (gc k_Model_law_1 1 rfl) ?_
      refine gw_cV1 (gc k_Model_law_1 2 rfl) y_Model_good ln_Model_14 (c_Model_good hx hf _) rfl rfl (gAt hx rfl rfl) rfl rfl ?_
      refine gw_ireturn (gc k_Model_law_1 3 rfl) rfl ?_
      exact ⟨rfl, Or.inr ⟨by omega, b, g26, hE, Or.inr ⟨c29, gsi (by omega), rfl⟩⟩⟩
    · refine gw_aload_n (gc k_Model_law_0 17 rfl) rfl rfl ?_
      refine gw_bipush (gc k_Model_law_0 18 rfl) (by decide) ?_
      refine gw_cV1 (gc k_Model_law_0 19 rfl) y_Model_refuses ln_Model_106 (c_refuses hx hf (-6) (by omega)) rfl rfl (gAt hx rfl rfl) rfl rfl ?_
      refine gw_ireturn (gc k_Model_law_0 20 rfl) rfl ?_
      exact ⟨rfl, Or.inr ⟨by omega, b, g26, hE, Or.inl ⟨c29, rfl, rfl⟩⟩⟩
  · refine gw_aload_n (gc k_Model_law_0 6 rfl) rfl rfl ?_
    refine gw_iconst (gc k_Model_law_0 7 rfl) ?_
    refine gw_putIK 13 rfl (gc k_Model_law_0 8 rfl) fl_Model_154 (gAt hx rfl rfl) hf rfl (fun hf => ?_)
    refine gw_aload_n (gc k_Model_law_0 9 rfl) rfl rfl ?_
    refine gw_bipush (gc k_Model_law_0 10 rfl) (by decide) ?_
    refine gw_cV1 (gc k_Model_law_0 11 rfl) y_Model_refuses ln_Model_106 (c_refuses hx hf (-5) (by omega)) rfl rfl (gAt hx rfl rfl) rfl rfl ?_
    refine gw_ireturn (gc k_Model_law_0 12 rfl) rfl ?_
    exact ⟨rfl, Or.inl ⟨by omega, rfl, rfl⟩⟩
