/-! ===== the class reads: sums and tests ===== -/
def lpI (B : Int → Int) (len K : Int) (o : Bool) (g : gM) (Lc : Int) (c : PK) (p n : Int) (g1 : gM) : Prop := clF g g1 ∧ cS B len K p n (Lc + c.length) g1 ∧ cdL (g1 156) (g1 157) Lc c ∧ (∀ j, j < Lc → g1 156 j = g 156 j ∧ g1 157 j = g 157 j) ∧ g1 152 2 = lbV o (g 152 2) c
theorem orL {v : Int} {P Q : Prop} (h : (v = 0 ∧ P) ∨ (v = 1 ∧ Q)) (hv : ¬ v = 0) : Q := h.elim (fun z => absurd z.1 hv) (fun z => z.2)
theorem orR {v : Int} {P Q : Prop} (h : (v = 0 ∧ P) ∨ (v = 1 ∧ Q)) (hv : v = 0) : P := h.elim (fun z => z.2) (fun z => by rw [hv] at z; exact absurd z.1 (by decide))
section LP
variable {B : Int → Int} {len K : Int} {o : Bool} {g : gM} {Lc : Int} {c : PK} {p n : Int} {g1 : gM}
theorem lpI.q (h : lpI B len K o g Lc c p n g1) {r : PR} {s : PS} (hr : r = .inr (p, n, c, s)) : rcQ B len K o g Lc r (some (0, 1)) g1 := ⟨h.1, Or.inr ⟨p, n, c, s, hr, rfl, h.2⟩⟩
theorem lpI.rc (h : lpI B len K o g Lc c p n g1) {g2 : gM} (hF : rcF g1 g2) {p2 : Int} (hP : rcP B len p2 g2) (hp : p ≤ p2) : lpI B len K o g Lc c p2 n g2 := by
  obtain ⟨h1, ⟨b1, b2, b3, b4, b5, b6, b7⟩, h3, h4, h5⟩ := h
  have e156 : g2 156 = g1 156 := funext fun k => hF _ _ (by omega)
  have e157 : g2 157 = g1 157 := funext fun k => hF _ _ (by omega)
  exact ⟨h1.tr hF.cl, ⟨b1.f hF, hP, (hF _ _ (by omega)).trans b3, (hF _ _ (by omega)).trans b4, by omega, b6, by omega⟩, by rw [e156, e157]; exact h3, by rw [e156, e157]; exact h4, (hF _ _ (by omega)).trans h5⟩
theorem lpI.k (h : lpI B len K o g Lc c p n g1) {g2 : gM} (hF : rcF g1 g2) (hP : rcP B len (p + 1) g2) : lpI B len (K + 1) o g Lc c (p + 1) n g2 := by
  obtain ⟨h1, ⟨b1, b2, b3, b4, b5, b6, b7⟩, h3, h4, h5⟩ := h.rc hF hP (by omega)
  have b8 := h.2.1.2.2.2.2.2.2
  exact ⟨h1, ⟨b1, b2, b3, b4, b5, by omega, by omega⟩, h3, h4, h5⟩
theorem lpI.k1 (h : lpI B len (K + 1) o g Lc c p n g1) (hK : 0 ≤ K) : lpI B len K o g Lc c p n g1 := by
  obtain ⟨h1, ⟨b1, b2, b3, b4, b5, b6, b7⟩, h3⟩ := h
  exact ⟨h1, ⟨b1, b2, b3, b4, b5, by omega, by omega⟩, h3⟩
theorem lpI.app {gb : gM} {p3 n3 : Int} {c3 : PK} (h : lpI B len K o g Lc c p n g1) (hF : clF g1 gb) (hS : cS B len K p3 n3 (Lc + c.length + c3.length) gb) (hc : cdL (gb 156) (gb 157) (Lc + c.length) c3) (hp : ∀ j, j < Lc + c.length → gb 156 j = g1 156 j ∧ gb 157 j = g1 157 j) (hl : gb 152 2 = lbV o (g1 152 2) c3) : lpI B len K o g Lc (c ++ c3) p3 n3 gb := by
  obtain ⟨h1, h2, h3, h4, h5⟩ := h
  refine ⟨h1.tr hF, by rw [List.length_append, show Lc + ((c.length + c3.length : Nat) : Int) = Lc + c.length + c3.length by omega]; exact hS, (cdL_app c c3 Lc).mpr ⟨cdL_ext c Lc (fun j a b => hp j (by omega)) h3, hc⟩, fun j hj => ?_, by rw [hl, h5, lbV_app]⟩
  have q := hp j (by have := h2.2.2.2.2.2; omega)
  rw [q.1, q.2]; exact h4 j hj
theorem lpI.st (h : lpI B len (K + 1) o g Lc c p n g1) (hK : 0 ≤ K) {op a a2 : Int} (hop : op ≠ 1) (ha : a = agO (Lc + c.length) (op, a2)) : lpI B len K o g Lc (c ++ [(op, a2)]) p n (stM g1 op a) := by
  obtain ⟨h1, ⟨b1, b2, b3, b4, b5, b6, b7⟩, h3, h4, h5⟩ := h
  have hlen : ((c ++ [(op, a2)]).length : Int) = c.length + 1 := by rw [List.length_append, List.length_singleton]; rfl
  refine ⟨h1.tr (clF.st _ _ _), ⟨b1.cl (clF.st _ _ _), b2.of (fun k _ _ => congrFun (stM_151 _ _ _) k), by rw [stM_151]; exact b3, by rw [stM_s1, b4, hlen]; omega, b5, by omega, by omega⟩, cd_snoc h3 b4 ha, fun j hj => ?_, ?_⟩
  · rw [stM_O, stM_A, if_neg (by omega), if_neg (by omega)]; exact h4 j hj
  · rw [stM_s2, h5, ← lbV_app, lbV_no o (lbV_01 _ _ _)]
    show List.any [(op, a2)] _ = false
    simp [hop]
/-- a jump, the code behind it, the jump's aim -/
theorem lpI.jm {gb : gM} {p3 n3 op : Int} {c3 : PK} (h : lpI B len (K + 1) o g Lc c p n g1) (hK : 0 ≤ K) (hop : op = 3 ∨ op = 4) (hF : clF (stM g1 op 0) gb) (hS : cS B len K p3 n3 (Lc + c.length + 1 + c3.length) gb) (hc : cdL (gb 156) (gb 157) (Lc + c.length + 1) c3) (hp : ∀ j, j < Lc + c.length + 1 → gb 156 j = stM g1 op 0 156 j ∧ gb 157 j = stM g1 op 0 157 j) (hl : gb 152 2 = lbV o (stM g1 op 0 152 2) c3) : lpI B len K o g Lc (c ++ (op, (c3.length : Int)) :: c3) p3 n3 (gup gb 157 (Lc + c.length) (Lc + c.length + 1 + c3.length)) := by
  obtain ⟨h1, ⟨b1, b2, b3, b4, b5, b6, b7⟩, h3, h4, h5⟩ := h
  obtain ⟨d1, d2, d3, d4, d5, d6, d7⟩ := hS
  have hclu : clF gb (gup gb 157 (Lc + c.length) (Lc + c.length + 1 + c3.length)) := fun a k _ _ _ r => gup_a _ _ _ _ _ r
  have e156 : gup gb 157 (Lc + c.length) (Lc + c.length + 1 + c3.length) 156 = gb 156 := gup_fn _ _ _ _ (by decide)
  have e151 : gup gb 157 (Lc + c.length) (Lc + c.length + 1 + c3.length) 151 = gb 151 := gup_fn _ _ _ _ (by decide)
  have e152 : gup gb 157 (Lc + c.length) (Lc + c.length + 1 + c3.length) 152 = gb 152 := gup_fn _ _ _ _ (by decide)
  have hlen : ((c ++ (op, (c3.length : Int)) :: c3).length : Int) = c.length + 1 + c3.length := by rw [List.length_append, List.length_cons]; omega
  have q0 : ∀ j, j < Lc + c.length → stM g1 op 0 156 j = g1 156 j ∧ stM g1 op 0 157 j = g1 157 j := fun j hj => by
    rw [stM_O, stM_A, if_neg (by omega), if_neg (by omega)]; exact ⟨rfl, rfl⟩
  refine ⟨(h1.tr (clF.st _ _ _)).tr (hF.tr hclu), ⟨d1.cl hclu, d2.of (fun k _ _ => congrFun e151 k), by rw [e151]; exact d3, by rw [e152, d4, hlen]; omega, d5, by omega, by omega⟩, ?_, fun j hj => ?_, ?_⟩
  · rw [cdL_app]
    refine ⟨cdL_ext c Lc (fun j a b => ?_) h3, ?_, ?_, ?_⟩
    · rw [e156, gup_k _ _ _ _ (by omega), (hp j (by omega)).1, (hp j (by omega)).2]; exact q0 j b
    · rw [e156, (hp _ (by omega)).1, stM_O, b4, if_pos rfl]
    · rw [gup_s]
      unfold agO
      rw [if_pos (by exact hop)]
    · exact cdL_ext c3 _ (fun j a b => by rw [e156, gup_k _ _ _ _ (by omega)]; exact ⟨rfl, rfl⟩) hc
  · rw [e156, gup_k _ _ _ _ (by omega), (hp j (by omega)).1, (hp j (by omega)).2, (q0 j (by omega)).1, (q0 j (by omega)).2]; exact h4 j hj
  · rw [e152, hl, stM_s2, h5, lbV_app]
    have hz : lb [(op, (c3.length : Int))] = false := by
      show List.any [(op, (c3.length : Int))] _ = false
      rcases hop with rfl | rfl <;> simp
    unfold lbV
    rw [lb_app, show ((op, (c3.length : Int)) :: c3) = [(op, (c3.length : Int))] ++ c3 from rfl, lb_app, lb_app, hz, Bool.false_or]
end LP
set_option maxHeartbeats 8000000 in
theorem rc_term {sh : gS} (hx : gFix sh) {B : Int → Int} {len nt : Int} {o : Bool} (hk : pOK (tT B len) nt) (hnt : nt ≤ 400) {D D2 : Nat} (hD : 9 ≤ D) (hD2 : D2 + 1 ≤ D) {dp : Int} {part : Int → Int → PR} (hfar : pFar nt part) (hS : RcL B len o sh f_Reader_part D2 [(2, 151), (0, dp)] part) : RcL B len o sh f_Reader_term D [(2, 151), (0, dp)] (pTermW (tT B len) part) := by
  intro g p n Lc K hf h3 hcS hlb2
  have hf0 := hf
  have hKK := hcS.2.2.2.2.2.1
  refine gTri.of (by decide +kernel) rfl ?_
  show gWP f_Reader_term _ _ _ 0 [(2, 151), (0, dp), (9, 0), (9, 0)] [] sh g _
  refine gw_aload_n (gc k_Reader_term_0 0 rfl) rfl rfl ?_
  refine gw_iload_n (gc k_Reader_term_0 1 rfl) rfl ?_
  refine gw_xV1 (gc k_Reader_term_0 2 rfl) y_Reader_part ln_Reader_172 (hS g p n Lc K hf h3 hcS hlb2) rfl rfl (gAt hx rfl rfl) rfl (gble (by omega)) (fun r2 sh2 g2 hq2 => ?_)
  obtain ⟨rfl, hQ⟩ := hq2
  obtain ⟨v, rfl, hv01, hcl, hQv⟩ := hQ.v
  have hf := hcl.fin hf0
  refine gw_if_ne (tgt := 10) (gc k_Reader_term_0 3 rfl) rfl (by omega) (fun c5 => ?_) (fun c5 => ?_)
  · obtain ⟨p2, n2, c, s, hr, hcS2, hcd, hpre, hlbv⟩ := orL hQv c5
    refine gw_iconst (gc k_Reader_term_0 6 rfl) ?_
    refine gw_istore_2 (gc k_Reader_term_0 7 rfl) rfl rfl ?_
    refine gwloop (σ := Int × Int × Int × PK × PS × Nat × gV × gM) (fun zs => (0 ≤ (zs.1) ∧ (zs.1) ≤ (zs.2.1) ∧ (zs.2.1) ≤ nt) ∧ lpI B len K o g Lc (zs.2.2.2.1) (zs.2.1) (zs.2.2.1) (zs.2.2.2.2.2.2.2) ∧ pTermL (tT B len) part (zs.2.2.2.2.2.1) (zs.2.1) (zs.2.2.1) (zs.2.2.2.1) (zs.2.2.2.2.1) = pTermW (tT B len) part p n ∧ 401 ≤ (zs.2.2.2.2.2.1) + (zs.2.1)) (fun zs => (500 - (zs.2.1)).toNat) (fun zs => [(2, 151), (0, dp), (0, (zs.1)), (zs.2.2.2.2.2.2.1)]) (fun zs => (zs.2.2.2.2.2.2.2)) (0, p2, n2, c, s, 401, (9, 0), g2) (show (0 ≤ (0 : Int) ∧ (0 : Int) ≤ p2 ∧ p2 ≤ nt) ∧ lpI B len K o g Lc c p2 n2 g2 ∧ pTermL (tT B len) part (401 : Nat) p2 n2 c s = pTermW (tT B len) part p n ∧ 401 ≤ (401 : Nat) + p2 from ⟨by have := hfar _ _ _ _ _ _ hr; have := hcS2.2.2.2.2.1; omega, ⟨hcl, hcS2, hcd, hpre, hlbv⟩, (show _ = pTermW (tT B len) part p n by unfold pTermW; rw [hr]), by have := hcS2.2.2.2.2.1; omega⟩) rfl rfl (fun zs hI ih => ?_)
    obtain ⟨i, p1, n1, c1, s1, f, x3, g1⟩ := zs
    replace hI : (0 ≤ i ∧ i ≤ p1 ∧ p1 ≤ nt) ∧ lpI B len K o g Lc c1 p1 n1 g1 ∧ pTermL (tT B len) part f p1 n1 c1 s1 = pTermW (tT B len) part p n ∧ 401 ≤ f + p1 := hI
    obtain ⟨hi, hI, hV, hff⟩ := hI
    show gWP _ _ _ _ _ [(2, 151), (0, dp), (0, i), x3] [] _ (g1) _
    have hf := hI.1.fin hf0
    have hB1 := hI.2.1.1
    have hP1 := hI.2.1.2.1
    have hp1 := hI.2.1.2.2.2.2.1.1
    have hpk1 := hk p1
    refine gw_iload_n (gc k_Reader_term_0 8 rfl) rfl ?_
    refine gw_sipush (gc k_Reader_term_0 9 rfl) (by decide) ?_
    refine gw_icmp_ge (tgt := 89) (gc k_Reader_term_0 10 rfl) rfl (by omega) (fun c16 => ?_) (fun c16 => ?_)
    · refine gw_iconst (gc k_Reader_term_1 7 rfl) ?_
      refine gw_zreturn (gc k_Reader_term_1 8 rfl) rfl (by omega) ?_
      have hT0 : ¬ (tT B len p1 = 142 ∨ tT B len p1 = 147 ∨ tT B len p1 = 137) := fun z => by have := hpk1 (by omega); omega
      exact ⟨rfl, hI.q (by rw [← hV, pTermL_no hT0])⟩
    · refine gw_aload_n (gc k_Reader_term_0 11 rfl) rfl rfl ?_
      refine gw_bipush (gc k_Reader_term_0 12 rfl) (by decide) ?_
      refine gw_xV1 (gc k_Reader_term_0 13 rfl) y_Reader_takeSign ln_Reader_78 (c_Reader_takeSign hx hf hB1 p1 hp1 hP1 42 (by omega)) rfl rfl (gAt hx rfl rfl) rfl (gble (by omega)) (fun r22 sh2 g22 hq22 => ?_)
      rw [show (100 : Int) + 42 = 142 from rfl] at hq22
      obtain ⟨rfl, rfl, hFg22, hPg22⟩ := hq22
      have hf := hFg22.fin hf
      have hBg22 := hB1.f hFg22
      refine gw_beq (tgt := 34) (gc k_Reader_term_0 14 rfl) rfl (fun c25 => ?_) (fun c25 => ?_)
      · rw [if_neg c25] at hPg22
        refine gw_aload_n (gc k_Reader_term_0 18 rfl) rfl rfl ?_
        refine gw_bipush (gc k_Reader_term_0 19 rfl) (by decide) ?_
        refine gw_xV1 (gc k_Reader_term_0 20 rfl) y_Reader_takeSign ln_Reader_78 (c_Reader_takeSign hx hf hBg22 p1 hp1 hPg22 47 (by omega)) rfl rfl (gAt hx rfl rfl) rfl (gble (by omega)) (fun r37 sh2 g37 hq37 => ?_)
        rw [show (100 : Int) + 47 = 147 from rfl] at hq37
        obtain ⟨rfl, rfl, hFg37, hPg37⟩ := hq37
        have hf := hFg37.fin hf
        have hBg37 := hBg22.f hFg37
        refine gw_beq (tgt := 49) (gc k_Reader_term_0 21 rfl) rfl (fun c40 => ?_) (fun c40 => ?_)
        · rw [if_neg c40] at hPg37
          refine gw_aload_n (gc k_Reader_term_0 25 rfl) rfl rfl ?_
          refine gw_bipush (gc k_Reader_term_0 26 rfl) (by decide) ?_
          refine gw_xV1 (gc k_Reader_term_0 27 rfl) y_Reader_takeSign ln_Reader_78 (c_Reader_takeSign hx hf hBg37 p1 hp1 hPg37 37 (by omega)) rfl rfl (gAt hx rfl rfl) rfl (gble (by omega)) (fun r52 sh2 g52 hq52 => ?_)
          rw [show (100 : Int) + 37 = 137 from rfl] at hq52
          obtain ⟨rfl, rfl, hFg52, hPg52⟩ := hq52
          have hf := hFg52.fin hf
          have hBg52 := hBg37.f hFg52
          refine gw_beq (tgt := 64) (gc k_Reader_term_0 28 rfl) rfl (fun c55 => ?_) (fun c55 => ?_)
          · rw [if_neg c55] at hPg52
            refine gw_iconst (gc k_Reader_term_0 32 rfl) ?_
            refine gw_zreturn (gc k_Reader_term_0 33 rfl) rfl (by omega) ?_
            have hT0 : ¬ (tT B len p1 = 142 ∨ tT B len p1 = 147 ∨ tT B len p1 = 137) := by omega
            have hI9 := hI.rc ((hFg22.tr hFg37).tr hFg52) hPg52 (Int.le_refl _)
            exact ⟨rfl, hI9.q (by rw [← hV, pTermL_no hT0])⟩
          · have hop : tT B len p1 = 142 ∨ tT B len p1 = 147 ∨ tT B len p1 = 137 := by omega
            rw [if_pos c55] at hPg52
            have hI2 := hI.k ((hFg22.tr hFg37).tr hFg52) hPg52
            have hf2 := hI2.1.fin hf0
            have hpk1 := hpk1 (by omega)
            have hcl2 := hI2.1
            refine gw_bipush (gc k_Reader_term_0 29 rfl) (by decide) ?_
            refine gw_istore_3 (gc k_Reader_term_0 30 rfl) rfl rfl ?_
            refine gw_goto (tgt := 66) (gc k_Reader_term_0 31 rfl) rfl ?_
            refine gw_aload_n (gc k_Reader_term_0 34 rfl) rfl rfl ?_
            refine gw_iload_n (gc k_Reader_term_0 35 rfl) rfl ?_
            refine gw_xV1 (gc k_Reader_term_0 36 rfl) y_Reader_part ln_Reader_172 (hS g52 (p1 + 1) n1 (Lc + c1.length) (K + 1) hf2 ((hcl2 _ _ (by omega) (by omega) (by decide) (by decide)).trans h3) hI2.2.1 (by rw [hI2.2.2.2.2]; exact lbV_01 _ _ _)) rfl rfl (gAt hx rfl rfl) rfl (gble (by omega)) (fun r68 sh2 g68 hq68 => ?_)
            obtain ⟨rfl, hQ3⟩ := hq68
            obtain ⟨v3, rfl, hv301, hcl3, hQv3⟩ := hQ3.v
            have hf3 := hcl3.fin hf2
            have hf := hf3
            refine gw_if_ne (tgt := 76) (gc k_Reader_term_0 37 rfl) rfl (by omega) (fun c71 => ?_) (fun c71 => ?_)
            · obtain ⟨p3, n3, c3, s3, hr3, hcS3, hcd3, hpre3, hlbv3⟩ := orL hQv3 c71
              have hI3 := hI2.app hcl3 hcS3 hcd3 hpre3 hlbv3
              have hL3 := hI3.2.1.2.2.2.1
              have hL4 := hI3.2.1.2.2.2.2
              have hfr3 := hfar _ _ _ _ _ _ hr3
              refine gw_aload_n (gc k_Reader_term_1 0 rfl) rfl rfl ?_
              refine gw_iload_n (gc k_Reader_term_1 1 rfl) rfl ?_
              refine gw_iconst (gc k_Reader_term_1 2 rfl) ?_
              refine gw_cV1 (gc k_Reader_term_1 3 rfl) y_Reader_step ln_Reader_156 (c_Reader_step hx hf3 9 0 (by rw [hL3]; omega)) rfl rfl (gAt hx rfl rfl) rfl (gble (by omega)) ?_
              refine gw_pop (gc k_Reader_term_1 4 rfl) rfl ?_
              refine gw_iinc_2 (gc k_Reader_term_1 5 rfl) rfl rfl ?_
              refine gw_goto (tgt := 12) (gc k_Reader_term_1 6 rfl) rfl ?_
              obtain ⟨f, rfl⟩ : ∃ q, f = q + 1 := ⟨f - 1, by omega⟩
              have hI4 := hI3.st hKK.2 (op := 9) (a := 0) (a2 := 0) (by decide) rfl
              have hV2 := pTermL_i (T := tT B len) (c := c1) (s := s1) hop hr3 f
              rw [show (if tT B len p1 = 142 then 7 else if tT B len p1 = 147 then 8 else 9) = (9 : Int) by rw [if_neg (by omega), if_neg (by omega)]] at hV2
              exact ih (i + 1, p3, n3, c1 ++ c3 ++ [(9, 0)], (pjs 9 s1 s3), f, (0, 9), stM g68 9 0) (show (0 ≤ (i + 1) ∧ (i + 1) ≤ p3 ∧ p3 ≤ nt) ∧ lpI B len K o g Lc (c1 ++ c3 ++ [(9, 0)]) p3 n3 (stM g68 9 0) ∧ pTermL (tT B len) part f p3 n3 (c1 ++ c3 ++ [(9, 0)]) ((pjs 9 s1 s3)) = pTermW (tT B len) part p n ∧ 401 ≤ f + p3 from ⟨by omega, hI4, hV2.symm.trans hV, by omega⟩) (show (500 - p3).toNat < (500 - p1).toNat from by omega)
            · refine gw_iconst (gc k_Reader_term_0 38 rfl) ?_
              refine gw_zreturn (gc k_Reader_term_0 39 rfl) rfl (by omega) ?_
              obtain ⟨e, hr3, hPe, he0⟩ := orR hQv3 c71
              obtain ⟨f, rfl⟩ : ∃ q, f = q + 1 := ⟨f - 1, by omega⟩
              exact ⟨rfl, hcl2.tr hcl3, Or.inl ⟨e, by rw [← hV, pTermL_e hop hr3], rfl, hPe, he0⟩⟩
        · have hop : tT B len p1 = 142 ∨ tT B len p1 = 147 ∨ tT B len p1 = 137 := by omega
          rw [if_pos c40] at hPg37
          have hI2 := hI.k (hFg22.tr hFg37) hPg37
          have hf2 := hI2.1.fin hf0
          have hpk1 := hpk1 (by omega)
          have hcl2 := hI2.1
          refine gw_bipush (gc k_Reader_term_0 22 rfl) (by decide) ?_
          refine gw_istore_3 (gc k_Reader_term_0 23 rfl) rfl rfl ?_
          refine gw_goto (tgt := 66) (gc k_Reader_term_0 24 rfl) rfl ?_
          refine gw_aload_n (gc k_Reader_term_0 34 rfl) rfl rfl ?_
          refine gw_iload_n (gc k_Reader_term_0 35 rfl) rfl ?_
          refine gw_xV1 (gc k_Reader_term_0 36 rfl) y_Reader_part ln_Reader_172 (hS g37 (p1 + 1) n1 (Lc + c1.length) (K + 1) hf2 ((hcl2 _ _ (by omega) (by omega) (by decide) (by decide)).trans h3) hI2.2.1 (by rw [hI2.2.2.2.2]; exact lbV_01 _ _ _)) rfl rfl (gAt hx rfl rfl) rfl (gble (by omega)) (fun r68 sh2 g68 hq68 => ?_)
          obtain ⟨rfl, hQ3⟩ := hq68
          obtain ⟨v3, rfl, hv301, hcl3, hQv3⟩ := hQ3.v
          have hf3 := hcl3.fin hf2
          have hf := hf3
          refine gw_if_ne (tgt := 76) (gc k_Reader_term_0 37 rfl) rfl (by omega) (fun c71 => ?_) (fun c71 => ?_)
          · obtain ⟨p3, n3, c3, s3, hr3, hcS3, hcd3, hpre3, hlbv3⟩ := orL hQv3 c71
            have hI3 := hI2.app hcl3 hcS3 hcd3 hpre3 hlbv3
            have hL3 := hI3.2.1.2.2.2.1
            have hL4 := hI3.2.1.2.2.2.2
            have hfr3 := hfar _ _ _ _ _ _ hr3
            refine gw_aload_n (gc k_Reader_term_1 0 rfl) rfl rfl ?_
            refine gw_iload_n (gc k_Reader_term_1 1 rfl) rfl ?_
            refine gw_iconst (gc k_Reader_term_1 2 rfl) ?_
            refine gw_cV1 (gc k_Reader_term_1 3 rfl) y_Reader_step ln_Reader_156 (c_Reader_step hx hf3 8 0 (by rw [hL3]; omega)) rfl rfl (gAt hx rfl rfl) rfl (gble (by omega)) ?_
            refine gw_pop (gc k_Reader_term_1 4 rfl) rfl ?_
            refine gw_iinc_2 (gc k_Reader_term_1 5 rfl) rfl rfl ?_
            refine gw_goto (tgt := 12) (gc k_Reader_term_1 6 rfl) rfl ?_
            obtain ⟨f, rfl⟩ : ∃ q, f = q + 1 := ⟨f - 1, by omega⟩
            have hI4 := hI3.st hKK.2 (op := 8) (a := 0) (a2 := 0) (by decide) rfl
            have hV2 := pTermL_i (T := tT B len) (c := c1) (s := s1) hop hr3 f
            rw [show (if tT B len p1 = 142 then 7 else if tT B len p1 = 147 then 8 else 9) = (8 : Int) by rw [if_neg (by omega), if_pos (by omega)]] at hV2
            exact ih (i + 1, p3, n3, c1 ++ c3 ++ [(8, 0)], (pjs 8 s1 s3), f, (0, 8), stM g68 8 0) (show (0 ≤ (i + 1) ∧ (i + 1) ≤ p3 ∧ p3 ≤ nt) ∧ lpI B len K o g Lc (c1 ++ c3 ++ [(8, 0)]) p3 n3 (stM g68 8 0) ∧ pTermL (tT B len) part f p3 n3 (c1 ++ c3 ++ [(8, 0)]) ((pjs 8 s1 s3)) = pTermW (tT B len) part p n ∧ 401 ≤ f + p3 from ⟨by omega, hI4, hV2.symm.trans hV, by omega⟩) (show (500 - p3).toNat < (500 - p1).toNat from by omega)
          · refine gw_iconst (gc k_Reader_term_0 38 rfl) ?_
            refine gw_zreturn (gc k_Reader_term_0 39 rfl) rfl (by omega) ?_
            obtain ⟨e, hr3, hPe, he0⟩ := orR hQv3 c71
            obtain ⟨f, rfl⟩ : ∃ q, f = q + 1 := ⟨f - 1, by omega⟩
            exact ⟨rfl, hcl2.tr hcl3, Or.inl ⟨e, by rw [← hV, pTermL_e hop hr3], rfl, hPe, he0⟩⟩
      · have hop : tT B len p1 = 142 ∨ tT B len p1 = 147 ∨ tT B len p1 = 137 := by omega
        rw [if_pos c25] at hPg22
        have hI2 := hI.k hFg22 hPg22
        have hf2 := hI2.1.fin hf0
        have hpk1 := hpk1 (by omega)
        have hcl2 := hI2.1
        refine gw_bipush (gc k_Reader_term_0 15 rfl) (by decide) ?_
        refine gw_istore_3 (gc k_Reader_term_0 16 rfl) rfl rfl ?_
        refine gw_goto (tgt := 66) (gc k_Reader_term_0 17 rfl) rfl ?_
        refine gw_aload_n (gc k_Reader_term_0 34 rfl) rfl rfl ?_
        refine gw_iload_n (gc k_Reader_term_0 35 rfl) rfl ?_
        refine gw_xV1 (gc k_Reader_term_0 36 rfl) y_Reader_part ln_Reader_172 (hS g22 (p1 + 1) n1 (Lc + c1.length) (K + 1) hf2 ((hcl2 _ _ (by omega) (by omega) (by decide) (by decide)).trans h3) hI2.2.1 (by rw [hI2.2.2.2.2]; exact lbV_01 _ _ _)) rfl rfl (gAt hx rfl rfl) rfl (gble (by omega)) (fun r68 sh2 g68 hq68 => ?_)
        obtain ⟨rfl, hQ3⟩ := hq68
        obtain ⟨v3, rfl, hv301, hcl3, hQv3⟩ := hQ3.v
        have hf3 := hcl3.fin hf2
        have hf := hf3
        refine gw_if_ne (tgt := 76) (gc k_Reader_term_0 37 rfl) rfl (by omega) (fun c71 => ?_) (fun c71 => ?_)
        · obtain ⟨p3, n3, c3, s3, hr3, hcS3, hcd3, hpre3, hlbv3⟩ := orL hQv3 c71
          have hI3 := hI2.app hcl3 hcS3 hcd3 hpre3 hlbv3
          have hL3 := hI3.2.1.2.2.2.1
          have hL4 := hI3.2.1.2.2.2.2
          have hfr3 := hfar _ _ _ _ _ _ hr3
          refine gw_aload_n (gc k_Reader_term_1 0 rfl) rfl rfl ?_
          refine gw_iload_n (gc k_Reader_term_1 1 rfl) rfl ?_
          refine gw_iconst (gc k_Reader_term_1 2 rfl) ?_
          refine gw_cV1 (gc k_Reader_term_1 3 rfl) y_Reader_step ln_Reader_156 (c_Reader_step hx hf3 7 0 (by rw [hL3]; omega)) rfl rfl (gAt hx rfl rfl) rfl (gble (by omega)) ?_
          refine gw_pop (gc k_Reader_term_1 4 rfl) rfl ?_
          refine gw_iinc_2 (gc k_Reader_term_1 5 rfl) rfl rfl ?_
          refine gw_goto (tgt := 12) (gc k_Reader_term_1 6 rfl) rfl ?_
          obtain ⟨f, rfl⟩ : ∃ q, f = q + 1 := ⟨f - 1, by omega⟩
          have hI4 := hI3.st hKK.2 (op := 7) (a := 0) (a2 := 0) (by decide) rfl
          have hV2 := pTermL_i (T := tT B len) (c := c1) (s := s1) hop hr3 f
          rw [show (if tT B len p1 = 142 then 7 else if tT B len p1 = 147 then 8 else 9) = (7 : Int) by rw [if_pos (by omega)]] at hV2
          exact ih (i + 1, p3, n3, c1 ++ c3 ++ [(7, 0)], (pjs 7 s1 s3), f, (0, 7), stM g68 7 0) (show (0 ≤ (i + 1) ∧ (i + 1) ≤ p3 ∧ p3 ≤ nt) ∧ lpI B len K o g Lc (c1 ++ c3 ++ [(7, 0)]) p3 n3 (stM g68 7 0) ∧ pTermL (tT B len) part f p3 n3 (c1 ++ c3 ++ [(7, 0)]) ((pjs 7 s1 s3)) = pTermW (tT B len) part p n ∧ 401 ≤ f + p3 from ⟨by omega, hI4, hV2.symm.trans hV, by omega⟩) (show (500 - p3).toNat < (500 - p1).toNat from by omega)
        · refine gw_iconst (gc k_Reader_term_0 38 rfl) ?_
          refine gw_zreturn (gc k_Reader_term_0 39 rfl) rfl (by omega) ?_
          obtain ⟨e, hr3, hPe, he0⟩ := orR hQv3 c71
          obtain ⟨f, rfl⟩ : ∃ q, f = q + 1 := ⟨f - 1, by omega⟩
          exact ⟨rfl, hcl2.tr hcl3, Or.inl ⟨e, by rw [← hV, pTermL_e hop hr3], rfl, hPe, he0⟩⟩
  · refine gw_iconst (gc k_Reader_term_0 4 rfl) ?_
    refine gw_zreturn (gc k_Reader_term_0 5 rfl) rfl (by omega) ?_
    obtain ⟨e, hr, hPe, he0⟩ := orR hQv c5
    exact ⟨rfl, hcl, Or.inl ⟨e, by unfold pTermW; rw [hr], rfl, hPe, he0⟩⟩
set_option maxHeartbeats 8000000 in
theorem rc_sum {sh : gS} (hx : gFix sh) {B : Int → Int} {len nt : Int} {o : Bool} (hk : pOK (tT B len) nt) (hnt : nt ≤ 400) {D D2 : Nat} (hD : 9 ≤ D) (hD2 : D2 + 1 ≤ D) {dp : Int} {part : Int → Int → PR} (hfar : pFar nt part) (hS : RcL B len o sh f_Reader_term D2 [(2, 151), (0, dp)] part) : RcL B len o sh f_Reader_sum D [(2, 151), (0, dp)] (pSumW (tT B len) part) := by
  intro g p n Lc K hf h3 hcS hlb2
  have hf0 := hf
  have hKK := hcS.2.2.2.2.2.1
  refine gTri.of (by decide +kernel) rfl ?_
  show gWP f_Reader_sum _ _ _ 0 [(2, 151), (0, dp), (9, 0), (9, 0)] [] sh g _
  refine gw_aload_n (gc k_Reader_sum_0 0 rfl) rfl rfl ?_
  refine gw_iload_n (gc k_Reader_sum_0 1 rfl) rfl ?_
  refine gw_xV1 (gc k_Reader_sum_0 2 rfl) y_Reader_term ln_Reader_169 (hS g p n Lc K hf h3 hcS hlb2) rfl rfl (gAt hx rfl rfl) rfl (gble (by omega)) (fun r2 sh2 g2 hq2 => ?_)
  obtain ⟨rfl, hQ⟩ := hq2
  obtain ⟨v, rfl, hv01, hcl, hQv⟩ := hQ.v
  have hf := hcl.fin hf0
  refine gw_if_ne (tgt := 10) (gc k_Reader_sum_0 3 rfl) rfl (by omega) (fun c5 => ?_) (fun c5 => ?_)
  · obtain ⟨p2, n2, c, s, hr, hcS2, hcd, hpre, hlbv⟩ := orL hQv c5
    refine gw_iconst (gc k_Reader_sum_0 6 rfl) ?_
    refine gw_istore_2 (gc k_Reader_sum_0 7 rfl) rfl rfl ?_
    refine gwloop (σ := Int × Int × Int × PK × PS × Nat × gV × gM) (fun zs => (0 ≤ (zs.1) ∧ (zs.1) ≤ (zs.2.1) ∧ (zs.2.1) ≤ nt) ∧ lpI B len K o g Lc (zs.2.2.2.1) (zs.2.1) (zs.2.2.1) (zs.2.2.2.2.2.2.2) ∧ pSumL (tT B len) part (zs.2.2.2.2.2.1) (zs.2.1) (zs.2.2.1) (zs.2.2.2.1) (zs.2.2.2.2.1) = pSumW (tT B len) part p n ∧ 401 ≤ (zs.2.2.2.2.2.1) + (zs.2.1)) (fun zs => (500 - (zs.2.1)).toNat) (fun zs => [(2, 151), (0, dp), (0, (zs.1)), (zs.2.2.2.2.2.2.1)]) (fun zs => (zs.2.2.2.2.2.2.2)) (0, p2, n2, c, s, 401, (9, 0), g2) (show (0 ≤ (0 : Int) ∧ (0 : Int) ≤ p2 ∧ p2 ≤ nt) ∧ lpI B len K o g Lc c p2 n2 g2 ∧ pSumL (tT B len) part (401 : Nat) p2 n2 c s = pSumW (tT B len) part p n ∧ 401 ≤ (401 : Nat) + p2 from ⟨by have := hfar _ _ _ _ _ _ hr; have := hcS2.2.2.2.2.1; omega, ⟨hcl, hcS2, hcd, hpre, hlbv⟩, (show _ = pSumW (tT B len) part p n by unfold pSumW; rw [hr]), by have := hcS2.2.2.2.2.1; omega⟩) rfl rfl (fun zs hI ih => ?_)
    obtain ⟨i, p1, n1, c1, s1, f, x3, g1⟩ := zs
    replace hI : (0 ≤ i ∧ i ≤ p1 ∧ p1 ≤ nt) ∧ lpI B len K o g Lc c1 p1 n1 g1 ∧ pSumL (tT B len) part f p1 n1 c1 s1 = pSumW (tT B len) part p n ∧ 401 ≤ f + p1 := hI
    obtain ⟨hi, hI, hV, hff⟩ := hI
    show gWP _ _ _ _ _ [(2, 151), (0, dp), (0, i), x3] [] _ (g1) _
    have hf := hI.1.fin hf0
    have hB1 := hI.2.1.1
    have hP1 := hI.2.1.2.1
    have hp1 := hI.2.1.2.2.2.2.1.1
    have hpk1 := hk p1
    refine gw_iload_n (gc k_Reader_sum_0 8 rfl) rfl ?_
    refine gw_sipush (gc k_Reader_sum_0 9 rfl) (by decide) ?_
    refine gw_icmp_ge (tgt := 73) (gc k_Reader_sum_0 10 rfl) rfl (by omega) (fun c16 => ?_) (fun c16 => ?_)
    · refine gw_iconst (gc k_Reader_sum_1 0 rfl) ?_
      refine gw_zreturn (gc k_Reader_sum_1 1 rfl) rfl (by omega) ?_
      have hT0 : ¬ (tT B len p1 = 143 ∨ tT B len p1 = 145) := fun z => by have := hpk1 (by omega); omega
      exact ⟨rfl, hI.q (by rw [← hV, pSumL_no hT0])⟩
    · refine gw_aload_n (gc k_Reader_sum_0 11 rfl) rfl rfl ?_
      refine gw_bipush (gc k_Reader_sum_0 12 rfl) (by decide) ?_
      refine gw_xV1 (gc k_Reader_sum_0 13 rfl) y_Reader_takeSign ln_Reader_78 (c_Reader_takeSign hx hf hB1 p1 hp1 hP1 43 (by omega)) rfl rfl (gAt hx rfl rfl) rfl (gble (by omega)) (fun r22 sh2 g22 hq22 => ?_)
      rw [show (100 : Int) + 43 = 143 from rfl] at hq22
      obtain ⟨rfl, rfl, hFg22, hPg22⟩ := hq22
      have hf := hFg22.fin hf
      have hBg22 := hB1.f hFg22
      refine gw_beq (tgt := 33) (gc k_Reader_sum_0 14 rfl) rfl (fun c25 => ?_) (fun c25 => ?_)
      · rw [if_neg c25] at hPg22
        refine gw_aload_n (gc k_Reader_sum_0 18 rfl) rfl rfl ?_
        refine gw_bipush (gc k_Reader_sum_0 19 rfl) (by decide) ?_
        refine gw_xV1 (gc k_Reader_sum_0 20 rfl) y_Reader_takeSign ln_Reader_78 (c_Reader_takeSign hx hf hBg22 p1 hp1 hPg22 45 (by omega)) rfl rfl (gAt hx rfl rfl) rfl (gble (by omega)) (fun r36 sh2 g36 hq36 => ?_)
        rw [show (100 : Int) + 45 = 145 from rfl] at hq36
        obtain ⟨rfl, rfl, hFg36, hPg36⟩ := hq36
        have hf := hFg36.fin hf
        have hBg36 := hBg22.f hFg36
        refine gw_beq (tgt := 48) (gc k_Reader_sum_0 21 rfl) rfl (fun c39 => ?_) (fun c39 => ?_)
        · rw [if_neg c39] at hPg36
          refine gw_iconst (gc k_Reader_sum_0 25 rfl) ?_
          refine gw_zreturn (gc k_Reader_sum_0 26 rfl) rfl (by omega) ?_
          have hT0 : ¬ (tT B len p1 = 143 ∨ tT B len p1 = 145) := by omega
          have hI9 := hI.rc (hFg22.tr hFg36) hPg36 (Int.le_refl _)
          exact ⟨rfl, hI9.q (by rw [← hV, pSumL_no hT0])⟩
        · have hop : tT B len p1 = 143 ∨ tT B len p1 = 145 := by omega
          rw [if_pos c39] at hPg36
          have hI2 := hI.k (hFg22.tr hFg36) hPg36
          have hf2 := hI2.1.fin hf0
          have hpk1 := hpk1 (by omega)
          have hcl2 := hI2.1
          refine gw_bipush (gc k_Reader_sum_0 22 rfl) (by decide) ?_
          refine gw_istore_3 (gc k_Reader_sum_0 23 rfl) rfl rfl ?_
          refine gw_goto (tgt := 50) (gc k_Reader_sum_0 24 rfl) rfl ?_
          refine gw_aload_n (gc k_Reader_sum_0 27 rfl) rfl rfl ?_
          refine gw_iload_n (gc k_Reader_sum_0 28 rfl) rfl ?_
          refine gw_xV1 (gc k_Reader_sum_0 29 rfl) y_Reader_term ln_Reader_169 (hS g36 (p1 + 1) n1 (Lc + c1.length) (K + 1) hf2 ((hcl2 _ _ (by omega) (by omega) (by decide) (by decide)).trans h3) hI2.2.1 (by rw [hI2.2.2.2.2]; exact lbV_01 _ _ _)) rfl rfl (gAt hx rfl rfl) rfl (gble (by omega)) (fun r52 sh2 g52 hq52 => ?_)
          obtain ⟨rfl, hQ3⟩ := hq52
          obtain ⟨v3, rfl, hv301, hcl3, hQv3⟩ := hQ3.v
          have hf3 := hcl3.fin hf2
          have hf := hf3
          refine gw_if_ne (tgt := 60) (gc k_Reader_sum_0 30 rfl) rfl (by omega) (fun c55 => ?_) (fun c55 => ?_)
          · obtain ⟨p3, n3, c3, s3, hr3, hcS3, hcd3, hpre3, hlbv3⟩ := orL hQv3 c55
            have hI3 := hI2.app hcl3 hcS3 hcd3 hpre3 hlbv3
            have hL3 := hI3.2.1.2.2.2.1
            have hL4 := hI3.2.1.2.2.2.2
            have hfr3 := hfar _ _ _ _ _ _ hr3
            refine gw_aload_n (gc k_Reader_sum_0 33 rfl) rfl rfl ?_
            refine gw_iload_n (gc k_Reader_sum_0 34 rfl) rfl ?_
            refine gw_iconst (gc k_Reader_sum_0 35 rfl) ?_
            refine gw_cV1 (gc k_Reader_sum_0 36 rfl) y_Reader_step ln_Reader_156 (c_Reader_step hx hf3 6 0 (by rw [hL3]; omega)) rfl rfl (gAt hx rfl rfl) rfl (gble (by omega)) ?_
            refine gw_pop (gc k_Reader_sum_0 37 rfl) rfl ?_
            refine gw_iinc_2 (gc k_Reader_sum_0 38 rfl) rfl rfl ?_
            refine gw_goto (tgt := 12) (gc k_Reader_sum_0 39 rfl) rfl ?_
            obtain ⟨f, rfl⟩ : ∃ q, f = q + 1 := ⟨f - 1, by omega⟩
            have hI4 := hI3.st hKK.2 (op := 6) (a := 0) (a2 := 0) (by decide) rfl
            have hV2 := pSumL_i (T := tT B len) (c := c1) (s := s1) hop hr3 f
            rw [show (if tT B len p1 = 143 then 5 else 6) = (6 : Int) by rw [if_neg (by omega)]] at hV2
            exact ih (i + 1, p3, n3, c1 ++ c3 ++ [(6, 0)], (pjs 6 s1 s3), f, (0, 6), stM g52 6 0) (show (0 ≤ (i + 1) ∧ (i + 1) ≤ p3 ∧ p3 ≤ nt) ∧ lpI B len K o g Lc (c1 ++ c3 ++ [(6, 0)]) p3 n3 (stM g52 6 0) ∧ pSumL (tT B len) part f p3 n3 (c1 ++ c3 ++ [(6, 0)]) ((pjs 6 s1 s3)) = pSumW (tT B len) part p n ∧ 401 ≤ f + p3 from ⟨by omega, hI4, hV2.symm.trans hV, by omega⟩) (show (500 - p3).toNat < (500 - p1).toNat from by omega)
          · refine gw_iconst (gc k_Reader_sum_0 31 rfl) ?_
            refine gw_zreturn (gc k_Reader_sum_0 32 rfl) rfl (by omega) ?_
            obtain ⟨e, hr3, hPe, he0⟩ := orR hQv3 c55
            obtain ⟨f, rfl⟩ : ∃ q, f = q + 1 := ⟨f - 1, by omega⟩
            exact ⟨rfl, hcl2.tr hcl3, Or.inl ⟨e, by rw [← hV, pSumL_e hop hr3], rfl, hPe, he0⟩⟩
      · have hop : tT B len p1 = 143 ∨ tT B len p1 = 145 := by omega
        rw [if_pos c25] at hPg22
        have hI2 := hI.k hFg22 hPg22
        have hf2 := hI2.1.fin hf0
        have hpk1 := hpk1 (by omega)
        have hcl2 := hI2.1
        refine gw_iconst (gc k_Reader_sum_0 15 rfl) ?_
        refine gw_istore_3 (gc k_Reader_sum_0 16 rfl) rfl rfl ?_
        refine gw_goto (tgt := 50) (gc k_Reader_sum_0 17 rfl) rfl ?_
        refine gw_aload_n (gc k_Reader_sum_0 27 rfl) rfl rfl ?_
        refine gw_iload_n (gc k_Reader_sum_0 28 rfl) rfl ?_
        refine gw_xV1 (gc k_Reader_sum_0 29 rfl) y_Reader_term ln_Reader_169 (hS g22 (p1 + 1) n1 (Lc + c1.length) (K + 1) hf2 ((hcl2 _ _ (by omega) (by omega) (by decide) (by decide)).trans h3) hI2.2.1 (by rw [hI2.2.2.2.2]; exact lbV_01 _ _ _)) rfl rfl (gAt hx rfl rfl) rfl (gble (by omega)) (fun r52 sh2 g52 hq52 => ?_)
        obtain ⟨rfl, hQ3⟩ := hq52
        obtain ⟨v3, rfl, hv301, hcl3, hQv3⟩ := hQ3.v
        have hf3 := hcl3.fin hf2
        have hf := hf3
        refine gw_if_ne (tgt := 60) (gc k_Reader_sum_0 30 rfl) rfl (by omega) (fun c55 => ?_) (fun c55 => ?_)
        · obtain ⟨p3, n3, c3, s3, hr3, hcS3, hcd3, hpre3, hlbv3⟩ := orL hQv3 c55
          have hI3 := hI2.app hcl3 hcS3 hcd3 hpre3 hlbv3
          have hL3 := hI3.2.1.2.2.2.1
          have hL4 := hI3.2.1.2.2.2.2
          have hfr3 := hfar _ _ _ _ _ _ hr3
          refine gw_aload_n (gc k_Reader_sum_0 33 rfl) rfl rfl ?_
          refine gw_iload_n (gc k_Reader_sum_0 34 rfl) rfl ?_
          refine gw_iconst (gc k_Reader_sum_0 35 rfl) ?_
          refine gw_cV1 (gc k_Reader_sum_0 36 rfl) y_Reader_step ln_Reader_156 (c_Reader_step hx hf3 5 0 (by rw [hL3]; omega)) rfl rfl (gAt hx rfl rfl) rfl (gble (by omega)) ?_
          refine gw_pop (gc k_Reader_sum_0 37 rfl) rfl ?_
          refine gw_iinc_2 (gc k_Reader_sum_0 38 rfl) rfl rfl ?_
          refine gw_goto (tgt := 12) (gc k_Reader_sum_0 39 rfl) rfl ?_
          obtain ⟨f, rfl⟩ : ∃ q, f = q + 1 := ⟨f - 1, by omega⟩
          have hI4 := hI3.st hKK.2 (op := 5) (a := 0) (a2 := 0) (by decide) rfl
          have hV2 := pSumL_i (T := tT B len) (c := c1) (s := s1) hop hr3 f
          rw [show (if tT B len p1 = 143 then 5 else 6) = (5 : Int) by rw [if_pos (by omega)]] at hV2
          exact ih (i + 1, p3, n3, c1 ++ c3 ++ [(5, 0)], (pjs 5 s1 s3), f, (0, 5), stM g52 5 0) (show (0 ≤ (i + 1) ∧ (i + 1) ≤ p3 ∧ p3 ≤ nt) ∧ lpI B len K o g Lc (c1 ++ c3 ++ [(5, 0)]) p3 n3 (stM g52 5 0) ∧ pSumL (tT B len) part f p3 n3 (c1 ++ c3 ++ [(5, 0)]) ((pjs 5 s1 s3)) = pSumW (tT B len) part p n ∧ 401 ≤ f + p3 from ⟨by omega, hI4, hV2.symm.trans hV, by omega⟩) (show (500 - p3).toNat < (500 - p1).toNat from by omega)
        · refine gw_iconst (gc k_Reader_sum_0 31 rfl) ?_
          refine gw_zreturn (gc k_Reader_sum_0 32 rfl) rfl (by omega) ?_
          obtain ⟨e, hr3, hPe, he0⟩ := orR hQv3 c55
          obtain ⟨f, rfl⟩ : ∃ q, f = q + 1 := ⟨f - 1, by omega⟩
          exact ⟨rfl, hcl2.tr hcl3, Or.inl ⟨e, by rw [← hV, pSumL_e hop hr3], rfl, hPe, he0⟩⟩
  · refine gw_iconst (gc k_Reader_sum_0 4 rfl) ?_
    refine gw_zreturn (gc k_Reader_sum_0 5 rfl) rfl (by omega) ?_
    obtain ⟨e, hr, hPe, he0⟩ := orR hQv c5
    exact ⟨rfl, hcl, Or.inl ⟨e, by unfold pSumW; rw [hr], rfl, hPe, he0⟩⟩
set_option maxHeartbeats 8000000 in
theorem rc_both {sh : gS} (hx : gFix sh) {B : Int → Int} {len nt : Int} {o : Bool} (hk : pOK (tT B len) nt) (hnt : nt ≤ 400) {D D2 : Nat} (hD : 9 ≤ D) (hD2 : D2 + 1 ≤ D) {dp : Int} {part : Int → Int → PR} (hfar : pFar nt part) (hS : RcL B len o sh f_Reader_plain D2 [(2, 151), (0, dp)] part) : RcL B len o sh f_Reader_both D [(2, 151), (0, dp)] (pBothW (tT B len) part) := by
  intro g p n Lc K hf h3 hcS hlb2
  have hf0 := hf
  have hKK := hcS.2.2.2.2.2.1
  refine gTri.of (by decide +kernel) rfl ?_
  show gWP f_Reader_both _ _ _ 0 [(2, 151), (0, dp), (9, 0), (9, 0)] [] sh g _
  refine gw_aload_n (gc k_Reader_both_0 0 rfl) rfl rfl ?_
  refine gw_iload_n (gc k_Reader_both_0 1 rfl) rfl ?_
  refine gw_xV1 (gc k_Reader_both_0 2 rfl) y_Reader_plain ln_Reader_162 (hS g p n Lc K hf h3 hcS hlb2) rfl rfl (gAt hx rfl rfl) rfl (gble (by omega)) (fun r2 sh2 g2 hq2 => ?_)
  obtain ⟨rfl, hQ⟩ := hq2
  obtain ⟨v, rfl, hv01, hcl, hQv⟩ := hQ.v
  have hf := hcl.fin hf0
  refine gw_if_ne (tgt := 10) (gc k_Reader_both_0 3 rfl) rfl (by omega) (fun c5 => ?_) (fun c5 => ?_)
  · obtain ⟨p2, n2, c, s, hr, hcS2, hcd, hpre, hlbv⟩ := orL hQv c5
    refine gw_iconst (gc k_Reader_both_0 6 rfl) ?_
    refine gw_istore_2 (gc k_Reader_both_0 7 rfl) rfl rfl ?_
    refine gwloop (σ := Int × Int × Int × PK × PS × Nat × gV × gM) (fun zs => (0 ≤ (zs.1) ∧ (zs.1) ≤ (zs.2.1) ∧ (zs.2.1) ≤ nt) ∧ lpI B len K o g Lc (zs.2.2.2.1) (zs.2.1) (zs.2.2.1) (zs.2.2.2.2.2.2.2) ∧ pBothL (tT B len) part (zs.2.2.2.2.2.1) (zs.2.1) (zs.2.2.1) (zs.2.2.2.1) (zs.2.2.2.2.1) = pBothW (tT B len) part p n ∧ 401 ≤ (zs.2.2.2.2.2.1) + (zs.2.1)) (fun zs => (500 - (zs.2.1)).toNat) (fun zs => [(2, 151), (0, dp), (0, (zs.1)), (zs.2.2.2.2.2.2.1)]) (fun zs => (zs.2.2.2.2.2.2.2)) (0, p2, n2, c, s, 401, (9, 0), g2) (show (0 ≤ (0 : Int) ∧ (0 : Int) ≤ p2 ∧ p2 ≤ nt) ∧ lpI B len K o g Lc c p2 n2 g2 ∧ pBothL (tT B len) part (401 : Nat) p2 n2 c s = pBothW (tT B len) part p n ∧ 401 ≤ (401 : Nat) + p2 from ⟨by have := hfar _ _ _ _ _ _ hr; have := hcS2.2.2.2.2.1; omega, ⟨hcl, hcS2, hcd, hpre, hlbv⟩, (show _ = pBothW (tT B len) part p n by unfold pBothW; rw [hr]), by have := hcS2.2.2.2.2.1; omega⟩) rfl rfl (fun zs hI ih => ?_)
    obtain ⟨i, p1, n1, c1, s1, f, x3, g1⟩ := zs
    replace hI : (0 ≤ i ∧ i ≤ p1 ∧ p1 ≤ nt) ∧ lpI B len K o g Lc c1 p1 n1 g1 ∧ pBothL (tT B len) part f p1 n1 c1 s1 = pBothW (tT B len) part p n ∧ 401 ≤ f + p1 := hI
    obtain ⟨hi, hI, hV, hff⟩ := hI
    show gWP _ _ _ _ _ [(2, 151), (0, dp), (0, i), x3] [] _ (g1) _
    have hf := hI.1.fin hf0
    have hB1 := hI.2.1.1
    have hP1 := hI.2.1.2.1
    have hp1 := hI.2.1.2.2.2.2.1.1
    have hpk1 := hk p1
    refine gw_iload_n (gc k_Reader_both_0 8 rfl) rfl ?_
    refine gw_sipush (gc k_Reader_both_0 9 rfl) (by decide) ?_
    refine gw_icmp_ge (tgt := 67) (gc k_Reader_both_0 10 rfl) rfl (by omega) (fun c16 => ?_) (fun c16 => ?_)
    · refine gw_iconst (gc k_Reader_both_0 36 rfl) ?_
      refine gw_zreturn (gc k_Reader_both_0 37 rfl) rfl (by omega) ?_
      have hT0 : ¬ (tT B len p1 = 6) := fun z => by have := hpk1 (by omega); omega
      exact ⟨rfl, hI.q (by rw [← hV, pBothL_no hT0])⟩
    · refine gw_aload_n (gc k_Reader_both_0 11 rfl) rfl rfl ?_
      refine gw_ldcS (k := 25) (gc k_Reader_both_0 12 rfl) rfl rfl ?_
      refine gw_xV1 (gc k_Reader_both_0 13 rfl) y_Reader_takeWord ln_Reader_115 (c_Reader_takeWord hx hf hB1 p1 hp1 hP1 25 (by decide)) rfl rfl (gAt hx rfl rfl) rfl (gble (by omega)) (fun r22 sh2 g22 hq22 => ?_)
      rw [show wc 25 = 6 from rfl] at hq22
      obtain ⟨rfl, rfl, hFg22, hPg22⟩ := hq22
      have hf := hFg22.fin hf
      have hBg22 := hB1.f hFg22
      refine gw_beq (tgt := 67) (gc k_Reader_both_0 14 rfl) rfl (fun c25 => ?_) (fun c25 => ?_)
      · rw [if_neg c25] at hPg22
        refine gw_iconst (gc k_Reader_both_0 36 rfl) ?_
        refine gw_zreturn (gc k_Reader_both_0 37 rfl) rfl (by omega) ?_
        have hT0 : ¬ (tT B len p1 = 6) := by omega
        have hI9 := hI.rc hFg22 hPg22 (Int.le_refl _)
        exact ⟨rfl, hI9.q (by rw [← hV, pBothL_no hT0])⟩
      · have hop : tT B len p1 = 6 := by omega
        rw [if_pos c25] at hPg22
        have hI2 := hI.k hFg22 hPg22
        have hf2 := hI2.1.fin hf0
        have hpk1 := hpk1 (by omega)
        have hcl2 := hI2.1
        have hL2 := hI2.2.1.2.2.2.1
        have hL4 := hI2.2.1.2.2.2.2
        obtain ⟨q1, q2, q3, q4, q5, q6, q7⟩ := hI2.2.1
        have hcS25 : cS B len K (p1 + 1) n1 (Lc + c1.length + 1) (stM g22 4 0) := ⟨q1.cl (clF.st _ _ _), q2.of (fun k _ _ => congrFun (stM_151 _ _ _) k), by rw [stM_151]; exact q3, by rw [stM_s1, q4], q5, by omega, by omega⟩
        refine gw_aload_n (gc k_Reader_both_0 15 rfl) rfl rfl ?_
        refine gw_iconst (gc k_Reader_both_0 16 rfl) ?_
        refine gw_iconst (gc k_Reader_both_0 17 rfl) ?_
        refine gw_cV1 (gc k_Reader_both_0 18 rfl) y_Reader_step ln_Reader_156 (c_Reader_step hx hf2 4 0 (by rw [hL2]; omega)) rfl rfl (gAt hx rfl rfl) rfl (gble (by omega)) ?_
        have hf25 := hf2.stp 4 0
        refine gw_istore_3 (gc k_Reader_both_0 19 rfl) rfl rfl ?_
        rw [hL2]
        refine gw_aload_n (gc k_Reader_both_0 20 rfl) rfl rfl ?_
        refine gw_iload_n (gc k_Reader_both_0 21 rfl) rfl ?_
        refine gw_xV1 (gc k_Reader_both_0 22 rfl) y_Reader_plain ln_Reader_162 (hS (stM g22 4 0) (p1 + 1) n1 (Lc + c1.length + 1) K hf25 (by rw [stM_151]; exact (hcl2 _ _ (by omega) (by omega) (by decide) (by decide)).trans h3) hcS25 (by rw [stM_s2, hI2.2.2.2.2]; exact lbV_01 _ _ _)) rfl rfl (gAt hx rfl rfl) rfl (gble (by omega)) (fun r37 sh2 g37 hq37 => ?_)
        obtain ⟨rfl, hQ3⟩ := hq37
        obtain ⟨v3, rfl, hv301, hcl3, hQv3⟩ := hQ3.v
        have hf3 := hcl3.fin hf25
        have hf := hf3
        refine gw_if_ne (tgt := 45) (gc k_Reader_both_0 23 rfl) rfl (by omega) (fun c40 => ?_) (fun c40 => ?_)
        · obtain ⟨p3, n3, c3, s3, hr3, hcS3, hcd3, hpre3, hlbv3⟩ := orL hQv3 c40
          have hI4 := hI2.jm hKK.2 (op := 4) (by decide) hcl3 hcS3 hcd3 hpre3 hlbv3
          have hL3 := hcS3.2.2.2.1
          have hL5 := hcS3.2.2.2.2
          have hfr3 := hfar _ _ _ _ _ _ hr3
          refine gw_aload_n (gc k_Reader_both_0 26 rfl) rfl rfl ?_
          refine gw_getref (gc k_Reader_both_0 27 rfl) fl_Reader_12 (gAt hx rfl rfl) (gRf hf rfl rfl) ?_
          refine gw_getref (gc k_Reader_both_0 28 rfl) fl_Reader_159 (gAt hx rfl rfl) (gRf hf rfl rfl) ?_
          refine gw_iload_n (gc k_Reader_both_0 29 rfl) rfl ?_
          refine gw_aload_n (gc k_Reader_both_0 30 rfl) rfl rfl ?_
          refine gw_getref (gc k_Reader_both_0 31 rfl) fl_Reader_12 (gAt hx rfl rfl) (gRf hf rfl rfl) ?_
          refine gw_getf 1 rfl (gc k_Reader_both_0 32 rfl) fl_Reader_49 (gAt hx rfl rfl) ?_
          rw [hL3]
          refine gw_iastF (gc k_Reader_both_0 33 rfl) (gAt hx rfl rfl) (by omega) hf rfl (fun hf => ?_)
          refine gw_iinc_2 (gc k_Reader_both_0 34 rfl) rfl rfl ?_
          refine gw_goto (tgt := 12) (gc k_Reader_both_0 35 rfl) rfl ?_
          obtain ⟨f, rfl⟩ : ∃ q, f = q + 1 := ⟨f - 1, by omega⟩
          have hV2 := pBothL_i (T := tT B len) (c := c1) (s := s1) hop hr3 f
          exact ih (i + 1, p3, n3, c1 ++ (4, (c3.length : Int)) :: c3, (pand s1 s3), f, (0, Lc + c1.length), gup g37 157 (Lc + c1.length) (Lc + c1.length + 1 + c3.length)) (show (0 ≤ (i + 1) ∧ (i + 1) ≤ p3 ∧ p3 ≤ nt) ∧ lpI B len K o g Lc (c1 ++ (4, (c3.length : Int)) :: c3) p3 n3 (gup g37 157 (Lc + c1.length) (Lc + c1.length + 1 + c3.length)) ∧ pBothL (tT B len) part f p3 n3 (c1 ++ (4, (c3.length : Int)) :: c3) ((pand s1 s3)) = pBothW (tT B len) part p n ∧ 401 ≤ f + p3 from ⟨by omega, hI4, hV2.symm.trans hV, by omega⟩) (show (500 - p3).toNat < (500 - p1).toNat from by omega)
        · refine gw_iconst (gc k_Reader_both_0 24 rfl) ?_
          refine gw_zreturn (gc k_Reader_both_0 25 rfl) rfl (by omega) ?_
          obtain ⟨e, hr3, hPe, he0⟩ := orR hQv3 c40
          obtain ⟨f, rfl⟩ : ∃ q, f = q + 1 := ⟨f - 1, by omega⟩
          exact ⟨rfl, hcl2.tr ((clF.st _ _ _).tr hcl3), Or.inl ⟨e, by rw [← hV, pBothL_e hop hr3], rfl, hPe, he0⟩⟩
  · refine gw_iconst (gc k_Reader_both_0 4 rfl) ?_
    refine gw_zreturn (gc k_Reader_both_0 5 rfl) rfl (by omega) ?_
    obtain ⟨e, hr, hPe, he0⟩ := orR hQv c5
    exact ⟨rfl, hcl, Or.inl ⟨e, by unfold pBothW; rw [hr], rfl, hPe, he0⟩⟩
set_option maxHeartbeats 8000000 in
theorem rc_test {sh : gS} (hx : gFix sh) {B : Int → Int} {len nt : Int} {o : Bool} (hk : pOK (tT B len) nt) (hnt : nt ≤ 400) {D D2 : Nat} (hD : 9 ≤ D) (hD2 : D2 + 1 ≤ D) {dp : Int} {part : Int → Int → PR} (hfar : pFar nt part) (hS : RcL B len o sh f_Reader_both D2 [(2, 151), (0, dp)] part) : RcL B len o sh f_Reader_test D [(2, 151), (0, dp)] (pTestW (tT B len) part) := by
  intro g p n Lc K hf h3 hcS hlb2
  have hf0 := hf
  have hKK := hcS.2.2.2.2.2.1
  refine gTri.of (by decide +kernel) rfl ?_
  show gWP f_Reader_test _ _ _ 0 [(2, 151), (0, dp), (9, 0), (9, 0)] [] sh g _
  refine gw_aload_n (gc k_Reader_test_0 0 rfl) rfl rfl ?_
  refine gw_iload_n (gc k_Reader_test_0 1 rfl) rfl ?_
  refine gw_xV1 (gc k_Reader_test_0 2 rfl) y_Reader_both ln_Reader_151 (hS g p n Lc K hf h3 hcS hlb2) rfl rfl (gAt hx rfl rfl) rfl (gble (by omega)) (fun r2 sh2 g2 hq2 => ?_)
  obtain ⟨rfl, hQ⟩ := hq2
  obtain ⟨v, rfl, hv01, hcl, hQv⟩ := hQ.v
  have hf := hcl.fin hf0
  refine gw_if_ne (tgt := 10) (gc k_Reader_test_0 3 rfl) rfl (by omega) (fun c5 => ?_) (fun c5 => ?_)
  · obtain ⟨p2, n2, c, s, hr, hcS2, hcd, hpre, hlbv⟩ := orL hQv c5
    refine gw_iconst (gc k_Reader_test_0 6 rfl) ?_
    refine gw_istore_2 (gc k_Reader_test_0 7 rfl) rfl rfl ?_
    refine gwloop (σ := Int × Int × Int × PK × PS × Nat × gV × gM) (fun zs => (0 ≤ (zs.1) ∧ (zs.1) ≤ (zs.2.1) ∧ (zs.2.1) ≤ nt) ∧ lpI B len K o g Lc (zs.2.2.2.1) (zs.2.1) (zs.2.2.1) (zs.2.2.2.2.2.2.2) ∧ pTestL (tT B len) part (zs.2.2.2.2.2.1) (zs.2.1) (zs.2.2.1) (zs.2.2.2.1) (zs.2.2.2.2.1) = pTestW (tT B len) part p n ∧ 401 ≤ (zs.2.2.2.2.2.1) + (zs.2.1)) (fun zs => (500 - (zs.2.1)).toNat) (fun zs => [(2, 151), (0, dp), (0, (zs.1)), (zs.2.2.2.2.2.2.1)]) (fun zs => (zs.2.2.2.2.2.2.2)) (0, p2, n2, c, s, 401, (9, 0), g2) (show (0 ≤ (0 : Int) ∧ (0 : Int) ≤ p2 ∧ p2 ≤ nt) ∧ lpI B len K o g Lc c p2 n2 g2 ∧ pTestL (tT B len) part (401 : Nat) p2 n2 c s = pTestW (tT B len) part p n ∧ 401 ≤ (401 : Nat) + p2 from ⟨by have := hfar _ _ _ _ _ _ hr; have := hcS2.2.2.2.2.1; omega, ⟨hcl, hcS2, hcd, hpre, hlbv⟩, (show _ = pTestW (tT B len) part p n by unfold pTestW; rw [hr]), by have := hcS2.2.2.2.2.1; omega⟩) rfl rfl (fun zs hI ih => ?_)
    obtain ⟨i, p1, n1, c1, s1, f, x3, g1⟩ := zs
    replace hI : (0 ≤ i ∧ i ≤ p1 ∧ p1 ≤ nt) ∧ lpI B len K o g Lc c1 p1 n1 g1 ∧ pTestL (tT B len) part f p1 n1 c1 s1 = pTestW (tT B len) part p n ∧ 401 ≤ f + p1 := hI
    obtain ⟨hi, hI, hV, hff⟩ := hI
    show gWP _ _ _ _ _ [(2, 151), (0, dp), (0, i), x3] [] _ (g1) _
    have hf := hI.1.fin hf0
    have hB1 := hI.2.1.1
    have hP1 := hI.2.1.2.1
    have hp1 := hI.2.1.2.2.2.2.1.1
    have hpk1 := hk p1
    refine gw_iload_n (gc k_Reader_test_0 8 rfl) rfl ?_
    refine gw_sipush (gc k_Reader_test_0 9 rfl) (by decide) ?_
    refine gw_icmp_ge (tgt := 67) (gc k_Reader_test_0 10 rfl) rfl (by omega) (fun c16 => ?_) (fun c16 => ?_)
    · refine gw_iconst (gc k_Reader_test_0 36 rfl) ?_
      refine gw_zreturn (gc k_Reader_test_0 37 rfl) rfl (by omega) ?_
      have hT0 : ¬ (tT B len p1 = 5) := fun z => by have := hpk1 (by omega); omega
      exact ⟨rfl, hI.q (by rw [← hV, pTestL_no hT0])⟩
    · refine gw_aload_n (gc k_Reader_test_0 11 rfl) rfl rfl ?_
      refine gw_ldcS (k := 26) (gc k_Reader_test_0 12 rfl) rfl rfl ?_
      refine gw_xV1 (gc k_Reader_test_0 13 rfl) y_Reader_takeWord ln_Reader_115 (c_Reader_takeWord hx hf hB1 p1 hp1 hP1 26 (by decide)) rfl rfl (gAt hx rfl rfl) rfl (gble (by omega)) (fun r22 sh2 g22 hq22 => ?_)
      rw [show wc 26 = 5 from rfl] at hq22
      obtain ⟨rfl, rfl, hFg22, hPg22⟩ := hq22
      have hf := hFg22.fin hf
      have hBg22 := hB1.f hFg22
      refine gw_beq (tgt := 67) (gc k_Reader_test_0 14 rfl) rfl (fun c25 => ?_) (fun c25 => ?_)
      · rw [if_neg c25] at hPg22
        refine gw_iconst (gc k_Reader_test_0 36 rfl) ?_
        refine gw_zreturn (gc k_Reader_test_0 37 rfl) rfl (by omega) ?_
        have hT0 : ¬ (tT B len p1 = 5) := by omega
        have hI9 := hI.rc hFg22 hPg22 (Int.le_refl _)
        exact ⟨rfl, hI9.q (by rw [← hV, pTestL_no hT0])⟩
      · have hop : tT B len p1 = 5 := by omega
        rw [if_pos c25] at hPg22
        have hI2 := hI.k hFg22 hPg22
        have hf2 := hI2.1.fin hf0
        have hpk1 := hpk1 (by omega)
        have hcl2 := hI2.1
        have hL2 := hI2.2.1.2.2.2.1
        have hL4 := hI2.2.1.2.2.2.2
        obtain ⟨q1, q2, q3, q4, q5, q6, q7⟩ := hI2.2.1
        have hcS25 : cS B len K (p1 + 1) n1 (Lc + c1.length + 1) (stM g22 3 0) := ⟨q1.cl (clF.st _ _ _), q2.of (fun k _ _ => congrFun (stM_151 _ _ _) k), by rw [stM_151]; exact q3, by rw [stM_s1, q4], q5, by omega, by omega⟩
        refine gw_aload_n (gc k_Reader_test_0 15 rfl) rfl rfl ?_
        refine gw_iconst (gc k_Reader_test_0 16 rfl) ?_
        refine gw_iconst (gc k_Reader_test_0 17 rfl) ?_
        refine gw_cV1 (gc k_Reader_test_0 18 rfl) y_Reader_step ln_Reader_156 (c_Reader_step hx hf2 3 0 (by rw [hL2]; omega)) rfl rfl (gAt hx rfl rfl) rfl (gble (by omega)) ?_
        have hf25 := hf2.stp 3 0
        refine gw_istore_3 (gc k_Reader_test_0 19 rfl) rfl rfl ?_
        rw [hL2]
        refine gw_aload_n (gc k_Reader_test_0 20 rfl) rfl rfl ?_
        refine gw_iload_n (gc k_Reader_test_0 21 rfl) rfl ?_
        refine gw_xV1 (gc k_Reader_test_0 22 rfl) y_Reader_both ln_Reader_151 (hS (stM g22 3 0) (p1 + 1) n1 (Lc + c1.length + 1) K hf25 (by rw [stM_151]; exact (hcl2 _ _ (by omega) (by omega) (by decide) (by decide)).trans h3) hcS25 (by rw [stM_s2, hI2.2.2.2.2]; exact lbV_01 _ _ _)) rfl rfl (gAt hx rfl rfl) rfl (gble (by omega)) (fun r37 sh2 g37 hq37 => ?_)
        obtain ⟨rfl, hQ3⟩ := hq37
        obtain ⟨v3, rfl, hv301, hcl3, hQv3⟩ := hQ3.v
        have hf3 := hcl3.fin hf25
        have hf := hf3
        refine gw_if_ne (tgt := 45) (gc k_Reader_test_0 23 rfl) rfl (by omega) (fun c40 => ?_) (fun c40 => ?_)
        · obtain ⟨p3, n3, c3, s3, hr3, hcS3, hcd3, hpre3, hlbv3⟩ := orL hQv3 c40
          have hI4 := hI2.jm hKK.2 (op := 3) (by decide) hcl3 hcS3 hcd3 hpre3 hlbv3
          have hL3 := hcS3.2.2.2.1
          have hL5 := hcS3.2.2.2.2
          have hfr3 := hfar _ _ _ _ _ _ hr3
          refine gw_aload_n (gc k_Reader_test_0 26 rfl) rfl rfl ?_
          refine gw_getref (gc k_Reader_test_0 27 rfl) fl_Reader_12 (gAt hx rfl rfl) (gRf hf rfl rfl) ?_
          refine gw_getref (gc k_Reader_test_0 28 rfl) fl_Reader_159 (gAt hx rfl rfl) (gRf hf rfl rfl) ?_
          refine gw_iload_n (gc k_Reader_test_0 29 rfl) rfl ?_
          refine gw_aload_n (gc k_Reader_test_0 30 rfl) rfl rfl ?_
          refine gw_getref (gc k_Reader_test_0 31 rfl) fl_Reader_12 (gAt hx rfl rfl) (gRf hf rfl rfl) ?_
          refine gw_getf 1 rfl (gc k_Reader_test_0 32 rfl) fl_Reader_49 (gAt hx rfl rfl) ?_
          rw [hL3]
          refine gw_iastF (gc k_Reader_test_0 33 rfl) (gAt hx rfl rfl) (by omega) hf rfl (fun hf => ?_)
          refine gw_iinc_2 (gc k_Reader_test_0 34 rfl) rfl rfl ?_
          refine gw_goto (tgt := 12) (gc k_Reader_test_0 35 rfl) rfl ?_
          obtain ⟨f, rfl⟩ : ∃ q, f = q + 1 := ⟨f - 1, by omega⟩
          have hV2 := pTestL_i (T := tT B len) (c := c1) (s := s1) hop hr3 f
          exact ih (i + 1, p3, n3, c1 ++ (3, (c3.length : Int)) :: c3, (por s1 s3), f, (0, Lc + c1.length), gup g37 157 (Lc + c1.length) (Lc + c1.length + 1 + c3.length)) (show (0 ≤ (i + 1) ∧ (i + 1) ≤ p3 ∧ p3 ≤ nt) ∧ lpI B len K o g Lc (c1 ++ (3, (c3.length : Int)) :: c3) p3 n3 (gup g37 157 (Lc + c1.length) (Lc + c1.length + 1 + c3.length)) ∧ pTestL (tT B len) part f p3 n3 (c1 ++ (3, (c3.length : Int)) :: c3) ((por s1 s3)) = pTestW (tT B len) part p n ∧ 401 ≤ f + p3 from ⟨by omega, hI4, hV2.symm.trans hV, by omega⟩) (show (500 - p3).toNat < (500 - p1).toNat from by omega)
        · refine gw_iconst (gc k_Reader_test_0 24 rfl) ?_
          refine gw_zreturn (gc k_Reader_test_0 25 rfl) rfl (by omega) ?_
          obtain ⟨e, hr3, hPe, he0⟩ := orR hQv3 c40
          obtain ⟨f, rfl⟩ : ∃ q, f = q + 1 := ⟨f - 1, by omega⟩
          exact ⟨rfl, hcl2.tr ((clF.st _ _ _).tr hcl3), Or.inl ⟨e, by rw [← hV, pTestL_e hop hr3], rfl, hPe, he0⟩⟩
  · refine gw_iconst (gc k_Reader_test_0 4 rfl) ?_
    refine gw_zreturn (gc k_Reader_test_0 5 rfl) rfl (by omega) ?_
    obtain ⟨e, hr, hPe, he0⟩ := orR hQv c5
    exact ⟨rfl, hcl, Or.inl ⟨e, by unfold pTestW; rw [hr], rfl, hPe, he0⟩⟩
