theorem pTermL_no {T : Int → Int} {part : Int → Int → PR} {p n : Int} {c : PK} {s : PS} (h : ¬ (T p = 142 ∨ T p = 147 ∨ T p = 137)) (f : Nat) : pTermL T part f p n c s = .inr (p, n, c, s) := by
  cases f with
  | zero => rfl
  | succ f => exact if_neg h
theorem pTermL_e {T : Int → Int} {part : Int → Int → PR} {p n e : Int} {c : PK} {s : PS} (h : T p = 142 ∨ T p = 147 ∨ T p = 137) (hf : part (p + 1) n = .inl e) (f : Nat) : pTermL T part (f + 1) p n c s = .inl e := by
  unfold pTermL; rw [if_pos h, hf]
theorem pTermL_i {T : Int → Int} {part : Int → Int → PR} {p n p2 n2 : Int} {c c2 : PK} {s s2 : PS} (h : T p = 142 ∨ T p = 147 ∨ T p = 137) (hf : part (p + 1) n = .inr (p2, n2, c2, s2)) (f : Nat) : pTermL T part (f + 1) p n c s = pTermL T part f p2 n2 (c ++ c2 ++ [(if T p = 142 then 7 else if T p = 147 then 8 else 9, 0)]) (pjs (if T p = 142 then 7 else if T p = 147 then 8 else 9) s s2) := by
  have e : pTermL T part (f + 1) p n c s = (match part (p + 1) n with
    | .inl e => .inl e
    | .inr (p2, n2, c2, s2) => pTermL T part f p2 n2 (c ++ c2 ++ [(if T p = 142 then 7 else if T p = 147 then 8 else 9, 0)]) (pjs (if T p = 142 then 7 else if T p = 147 then 8 else 9) s s2)) := if_pos h
  rw [e, hf]
def tmW (T : Int → Int) (part : Int → Int → PR) (nt : Int) (P : Int → Int) (p0 n0 b0 p n b : Int) : Prop := (b0 ≠ -1 ∧ b = b0 ∧ p = p0 ∧ n = n0) ∨ (b0 = -1 ∧ ((∃ e, pTermW T part p0 n0 = .inl e ∧ b = P e ∧ 0 ≤ e ∧ e ≤ nt) ∨ (b = -1 ∧ ∃ (f : Nat) (c : PK) (s : PS), pTermL T part f p n c s = pTermW T part p0 n0 ∧ 401 ≤ f + p)))
theorem tmW_0 {T : Int → Int} {part : Int → Int → PR} {nt : Int} {P : Int → Int} {p0 n0 b0 p n b : Int} (h : rdT nt P (part p0 n0) p0 n0 b0 p n b) : tmW T part nt P p0 n0 b0 p n b := by
  rcases h with h | ⟨h0, ⟨e, q1, q2, q3⟩ | ⟨c, s, q1, q2, q3, q4⟩⟩
  · exact Or.inl h
  · exact Or.inr ⟨h0, Or.inl ⟨e, by unfold pTermW; rw [q1], q2, q3⟩⟩
  · exact Or.inr ⟨h0, Or.inr ⟨q2, 401, c, s, by unfold pTermW; rw [q1], by omega⟩⟩
theorem tmW_s {T : Int → Int} {part : Int → Int → PR} {nt : Int} {P : Int → Int} {p0 n0 b0 p n b p2 n2 b2 : Int} (hP : ∀ p, 0 ≤ p → p ≤ nt → 0 ≤ P p ∧ P p ≤ 400) (hnt : nt ≤ 400) (hfar : pFar nt part) (hpn : p ≤ nt) (hb : b = -1) (ho : T p = 142 ∨ T p = 147 ∨ T p = 137) (h : tmW T part nt P p0 n0 b0 p n b) (h2 : rdT nt P (part (p + 1) n) (p + 1) n b p2 n2 b2) : tmW T part nt P p0 n0 b0 p2 n2 b2 ∧ (b2 = -1 → p < p2) := by
  rcases h with ⟨h, h', -⟩ | ⟨h0, ⟨e, q1, q2, q3, q4⟩ | ⟨q2, f, c, s, q1, q3⟩⟩
  · exact absurd (h'.symm.trans hb) h
  · have := hP e q3 q4
    omega
  · rcases h2 with ⟨h, -⟩ | ⟨-, ⟨e, r1, r2, r3⟩ | ⟨c2, s2, r1, r2, r3, r4⟩⟩
    · exact absurd hb h
    · have := hP e r3.1 r3.2
      obtain ⟨f, rfl⟩ : ∃ k, f = k + 1 := ⟨f - 1, by omega⟩
      exact ⟨Or.inr ⟨h0, Or.inl ⟨e, by rw [← q1, pTermL_e ho r1], r2, r3⟩⟩, fun z => by omega⟩
    · have hf2 := hfar _ _ _ _ _ _ r1
      obtain ⟨f, rfl⟩ : ∃ k, f = k + 1 := ⟨f - 1, by omega⟩
      have e3 := pTermL_i (c := c) (s := s) ho r1 f
      exact ⟨Or.inr ⟨h0, Or.inr ⟨r2, f, _, _, by rw [← q1, e3], by omega⟩⟩, fun _ => by omega⟩
theorem tmW_e {T : Int → Int} {part : Int → Int → PR} {nt : Int} {P : Int → Int} {p0 n0 b0 p n b : Int} (hG : rdG nt p n b) (ho : b = -1 → ¬ (T p = 142 ∨ T p = 147 ∨ T p = 137)) (h : tmW T part nt P p0 n0 b0 p n b) : rdT nt P (pTermW T part p0 n0) p0 n0 b0 p n b := by
  rcases h with h | ⟨h0, ⟨e, q1, q2, q3⟩ | ⟨q2, f, c, s, q1, q3⟩⟩
  · exact Or.inl h
  · exact Or.inr ⟨h0, Or.inl ⟨e, q1, q2, q3⟩⟩
  · exact Or.inr ⟨h0, Or.inr ⟨c, s, by rw [← q1, pTermL_no (ho q2)], q2, (hG.1 q2).1, (hG.1 q2).2⟩⟩
set_option maxHeartbeats 2000000 in
theorem rd_readTerm {sh : gS} {g : gM} (hx : gFix sh) (hf : gFin g) {T V P : Int → Int} {o : Bool} {nt : Int} (hR : RdC T V P o nt g) {D D2 : Nat} (hD : 2 ≤ D) (hD2 : D2 + 1 ≤ D) {dp : Int} {part : Int → Int → PR} (hfar : pFar nt part) (hS : RdL sh g P nt f_Model_readPart D2 [(2, 177), (0, dp)] part) : RdL sh g P nt f_Model_readTerm D [(2, 177), (0, dp)] (pTermW T part) := by
  intro p n b hG
  have hR0 := hR
  have hf0 := hf
  have hf := hf.rd p n b
  obtain ⟨hn0, hpk, hat, hTb, hVb, hPb, h10, h8, h9⟩ := hR
  refine gTri.of (by decide +kernel) rfl ?_
  show gWP f_Model_readTerm _ _ _ 0 [(2, 177), (0, dp)] [] sh (rdM g p n b) _
  refine gw_aload_n (gc k_Model_readTerm_0 0 rfl) rfl rfl ?_
  refine gw_iload_n (gc k_Model_readTerm_0 1 rfl) rfl ?_
  refine gw_xV1 (gc k_Model_readTerm_0 2 rfl) y_Model_readPart ln_Model_227 (hS p n b hG) rfl rfl (gAt hx rfl rfl) rfl (gble (by omega)) (fun r2 sh2 g2 hq2 => ?_)
  obtain ⟨rfl, rfl, p2, n2, b2, rfl, hT⟩ := hq2
  have hG3 := hT.ok hPb hG
  have hW0 := tmW_0 (T := T) hT
  refine gwloop (σ := Int × Int × Int) (fun zs => rdG nt (zs.1) (zs.2.1) (zs.2.2) ∧ tmW T part nt P p n b (zs.1) (zs.2.1) (zs.2.2)) (fun zs => (if (zs.2.2) = -1 then (500 - (zs.1)).toNat + 1 else 0)) (fun zs => [(2, 177), (0, dp)]) (fun zs => rdM g (zs.1) (zs.2.1) (zs.2.2)) (p2, n2, b2) (show rdG nt p2 n2 b2 ∧ tmW T part nt P p n b p2 n2 b2 from ⟨hG3, hW0⟩) rfl rfl (fun zs hI ih => ?_)
  obtain ⟨p1, n1, b1⟩ := zs
  replace hI : rdG nt p1 n1 b1 ∧ tmW T part nt P p n b p1 n1 b1 := hI
  obtain ⟨hG4, hW⟩ := hI
  show gWP _ _ _ _ _ [(2, 177), (0, dp)] [] _ (rdM g p1 n1 b1) _
  
  refine gw_aload_n (gc k_Model_readTerm_0 3 rfl) rfl rfl ?_
  refine gw_bipush (gc k_Model_readTerm_0 4 rfl) (by decide) ?_
  refine gw_cS1 (gc k_Model_readTerm_0 5 rfl) y_Model_sign ln_Model_220 (c_Model_sign 42) rfl rfl rfl (gble (by omega)) ?_
  refine gw_cV1 (gc k_Model_readTerm_0 6 rfl) y_Model_takes0 ln_Model_183 (c_Model_takes0 hx hf0 p1 n1 b1 hR0 hG4 142 (by omega)) rfl rfl (gAt hx rfl rfl) rfl (gble (by omega)) ?_
  refine gw_bne (tgt := 41) (gc k_Model_readTerm_0 7 rfl) rfl (fun c14 => ?_) (fun c14 => ?_)
  · have hop := c14
    rw [if_pos c14]
    have hpn := hpk p1 (by omega)
    have hG5 : rdG nt (p1 + 1) n1 b1 := ⟨fun z => by have := hG4.1 z; omega, hG4.2⟩
    refine gw_aload_n (gc k_Model_readTerm_0 18 rfl) rfl rfl ?_
    refine gw_iload_n (gc k_Model_readTerm_0 19 rfl) rfl ?_
    refine gw_xV1 (gc k_Model_readTerm_0 20 rfl) y_Model_readPart ln_Model_227 (hS (p1 + 1) n1 b1 hG5) rfl rfl (gAt hx rfl rfl) rfl (gble (by omega)) (fun r43 sh2 g43 hq43 => ?_)
    obtain ⟨rfl, rfl, p3, n3, b3, rfl, hT3⟩ := hq43
    have hG6 := hT3.ok hPb hG5
    have hW3 := tmW_s hPb hn0.2 hfar (hG4.1 hop.1).1.2 hop.1 (by omega) hW hT3
    refine gw_goto (tgt := 5) (gc k_Model_readTerm_0 21 rfl) rfl ?_
    exact ih (p3, n3, b3) (show rdG nt p3 n3 b3 ∧ tmW T part nt P p n b p3 n3 b3 from ⟨hG6, hW3.1⟩) (show (if b3 = -1 then (500 - p3).toNat + 1 else 0) < (if b1 = -1 then (500 - p1).toNat + 1 else 0) from by rw [if_pos hop.1]; have := (hG4.1 hop.1).1; split <;> omega)
  · rw [if_neg c14]
    refine gw_aload_n (gc k_Model_readTerm_0 8 rfl) rfl rfl ?_
    refine gw_bipush (gc k_Model_readTerm_0 9 rfl) (by decide) ?_
    refine gw_cS1 (gc k_Model_readTerm_0 10 rfl) y_Model_sign ln_Model_220 (c_Model_sign 47) rfl rfl rfl (gble (by omega)) ?_
    refine gw_cV1 (gc k_Model_readTerm_0 11 rfl) y_Model_takes0 ln_Model_183 (c_Model_takes0 hx hf0 p1 n1 b1 hR0 hG4 147 (by omega)) rfl rfl (gAt hx rfl rfl) rfl (gble (by omega)) ?_
    refine gw_bne (tgt := 41) (gc k_Model_readTerm_0 12 rfl) rfl (fun c26 => ?_) (fun c26 => ?_)
    · have hop := c26
      rw [if_pos c26]
      have hpn := hpk p1 (by omega)
      have hG5 : rdG nt (p1 + 1) n1 b1 := ⟨fun z => by have := hG4.1 z; omega, hG4.2⟩
      refine gw_aload_n (gc k_Model_readTerm_0 18 rfl) rfl rfl ?_
      refine gw_iload_n (gc k_Model_readTerm_0 19 rfl) rfl ?_
      refine gw_xV1 (gc k_Model_readTerm_0 20 rfl) y_Model_readPart ln_Model_227 (hS (p1 + 1) n1 b1 hG5) rfl rfl (gAt hx rfl rfl) rfl (gble (by omega)) (fun r43 sh2 g43 hq43 => ?_)
      obtain ⟨rfl, rfl, p3, n3, b3, rfl, hT3⟩ := hq43
      have hG6 := hT3.ok hPb hG5
      have hW3 := tmW_s hPb hn0.2 hfar (hG4.1 hop.1).1.2 hop.1 (by omega) hW hT3
      refine gw_goto (tgt := 5) (gc k_Model_readTerm_0 21 rfl) rfl ?_
      exact ih (p3, n3, b3) (show rdG nt p3 n3 b3 ∧ tmW T part nt P p n b p3 n3 b3 from ⟨hG6, hW3.1⟩) (show (if b3 = -1 then (500 - p3).toNat + 1 else 0) < (if b1 = -1 then (500 - p1).toNat + 1 else 0) from by rw [if_pos hop.1]; have := (hG4.1 hop.1).1; split <;> omega)
    · rw [if_neg c26]
      refine gw_aload_n (gc k_Model_readTerm_0 13 rfl) rfl rfl ?_
      refine gw_bipush (gc k_Model_readTerm_0 14 rfl) (by decide) ?_
      refine gw_cS1 (gc k_Model_readTerm_0 15 rfl) y_Model_sign ln_Model_220 (c_Model_sign 37) rfl rfl rfl (gble (by omega)) ?_
      refine gw_cV1 (gc k_Model_readTerm_0 16 rfl) y_Model_takes0 ln_Model_183 (c_Model_takes0 hx hf0 p1 n1 b1 hR0 hG4 137 (by omega)) rfl rfl (gAt hx rfl rfl) rfl (gble (by omega)) ?_
      refine gw_beq (tgt := 49) (gc k_Model_readTerm_0 17 rfl) rfl (fun c38 => ?_) (fun c38 => ?_)
      · rw [if_neg c38]
        refine gw_return (gc k_Model_readTerm_0 22 rfl) rfl ?_
        exact rd_end (tmW_e hG4 (fun z1 z => by rcases z with z | z | z <;> first | exact c14 ⟨z1, z⟩ | exact c26 ⟨z1, z⟩ | exact c38 ⟨z1, z⟩) hW)
      · have hop := c38
        rw [if_pos c38]
        have hpn := hpk p1 (by omega)
        have hG5 : rdG nt (p1 + 1) n1 b1 := ⟨fun z => by have := hG4.1 z; omega, hG4.2⟩
        refine gw_aload_n (gc k_Model_readTerm_0 18 rfl) rfl rfl ?_
        refine gw_iload_n (gc k_Model_readTerm_0 19 rfl) rfl ?_
        refine gw_xV1 (gc k_Model_readTerm_0 20 rfl) y_Model_readPart ln_Model_227 (hS (p1 + 1) n1 b1 hG5) rfl rfl (gAt hx rfl rfl) rfl (gble (by omega)) (fun r43 sh2 g43 hq43 => ?_)
        obtain ⟨rfl, rfl, p3, n3, b3, rfl, hT3⟩ := hq43
        have hG6 := hT3.ok hPb hG5
        have hW3 := tmW_s hPb hn0.2 hfar (hG4.1 hop.1).1.2 hop.1 (by omega) hW hT3
        refine gw_goto (tgt := 5) (gc k_Model_readTerm_0 21 rfl) rfl ?_
        exact ih (p3, n3, b3) (show rdG nt p3 n3 b3 ∧ tmW T part nt P p n b p3 n3 b3 from ⟨hG6, hW3.1⟩) (show (if b3 = -1 then (500 - p3).toNat + 1 else 0) < (if b1 = -1 then (500 - p1).toNat + 1 else 0) from by rw [if_pos hop.1]; have := (hG4.1 hop.1).1; split <;> omega)
theorem pSumL_no {T : Int → Int} {part : Int → Int → PR} {p n : Int} {c : PK} {s : PS} (h : ¬ (T p = 143 ∨ T p = 145)) (f : Nat) : pSumL T part f p n c s = .inr (p, n, c, s) := by
  cases f with
  | zero => rfl
  | succ f => exact if_neg h
theorem pSumL_e {T : Int → Int} {part : Int → Int → PR} {p n e : Int} {c : PK} {s : PS} (h : T p = 143 ∨ T p = 145) (hf : part (p + 1) n = .inl e) (f : Nat) : pSumL T part (f + 1) p n c s = .inl e := by
  unfold pSumL; rw [if_pos h, hf]
theorem pSumL_i {T : Int → Int} {part : Int → Int → PR} {p n p2 n2 : Int} {c c2 : PK} {s s2 : PS} (h : T p = 143 ∨ T p = 145) (hf : part (p + 1) n = .inr (p2, n2, c2, s2)) (f : Nat) : pSumL T part (f + 1) p n c s = pSumL T part f p2 n2 (c ++ c2 ++ [(if T p = 143 then 5 else 6, 0)]) (pjs (if T p = 143 then 5 else 6) s s2) := by
  have e : pSumL T part (f + 1) p n c s = (match part (p + 1) n with
    | .inl e => .inl e
    | .inr (p2, n2, c2, s2) => pSumL T part f p2 n2 (c ++ c2 ++ [(if T p = 143 then 5 else 6, 0)]) (pjs (if T p = 143 then 5 else 6) s s2)) := if_pos h
  rw [e, hf]
def smW (T : Int → Int) (part : Int → Int → PR) (nt : Int) (P : Int → Int) (p0 n0 b0 p n b : Int) : Prop := (b0 ≠ -1 ∧ b = b0 ∧ p = p0 ∧ n = n0) ∨ (b0 = -1 ∧ ((∃ e, pSumW T part p0 n0 = .inl e ∧ b = P e ∧ 0 ≤ e ∧ e ≤ nt) ∨ (b = -1 ∧ ∃ (f : Nat) (c : PK) (s : PS), pSumL T part f p n c s = pSumW T part p0 n0 ∧ 401 ≤ f + p)))
theorem smW_0 {T : Int → Int} {part : Int → Int → PR} {nt : Int} {P : Int → Int} {p0 n0 b0 p n b : Int} (h : rdT nt P (part p0 n0) p0 n0 b0 p n b) : smW T part nt P p0 n0 b0 p n b := by
  rcases h with h | ⟨h0, ⟨e, q1, q2, q3⟩ | ⟨c, s, q1, q2, q3, q4⟩⟩
  · exact Or.inl h
  · exact Or.inr ⟨h0, Or.inl ⟨e, by unfold pSumW; rw [q1], q2, q3⟩⟩
  · exact Or.inr ⟨h0, Or.inr ⟨q2, 401, c, s, by unfold pSumW; rw [q1], by omega⟩⟩
theorem smW_s {T : Int → Int} {part : Int → Int → PR} {nt : Int} {P : Int → Int} {p0 n0 b0 p n b p2 n2 b2 : Int} (hP : ∀ p, 0 ≤ p → p ≤ nt → 0 ≤ P p ∧ P p ≤ 400) (hnt : nt ≤ 400) (hfar : pFar nt part) (hpn : p ≤ nt) (hb : b = -1) (ho : T p = 143 ∨ T p = 145) (h : smW T part nt P p0 n0 b0 p n b) (h2 : rdT nt P (part (p + 1) n) (p + 1) n b p2 n2 b2) : smW T part nt P p0 n0 b0 p2 n2 b2 ∧ (b2 = -1 → p < p2) := by
  rcases h with ⟨h, h', -⟩ | ⟨h0, ⟨e, q1, q2, q3, q4⟩ | ⟨q2, f, c, s, q1, q3⟩⟩
  · exact absurd (h'.symm.trans hb) h
  · have := hP e q3 q4
    omega
  · rcases h2 with ⟨h, -⟩ | ⟨-, ⟨e, r1, r2, r3⟩ | ⟨c2, s2, r1, r2, r3, r4⟩⟩
    · exact absurd hb h
    · have := hP e r3.1 r3.2
      obtain ⟨f, rfl⟩ : ∃ k, f = k + 1 := ⟨f - 1, by omega⟩
      exact ⟨Or.inr ⟨h0, Or.inl ⟨e, by rw [← q1, pSumL_e ho r1], r2, r3⟩⟩, fun z => by omega⟩
    · have hf2 := hfar _ _ _ _ _ _ r1
      obtain ⟨f, rfl⟩ : ∃ k, f = k + 1 := ⟨f - 1, by omega⟩
      have e3 := pSumL_i (c := c) (s := s) ho r1 f
      exact ⟨Or.inr ⟨h0, Or.inr ⟨r2, f, _, _, by rw [← q1, e3], by omega⟩⟩, fun _ => by omega⟩
theorem smW_e {T : Int → Int} {part : Int → Int → PR} {nt : Int} {P : Int → Int} {p0 n0 b0 p n b : Int} (hG : rdG nt p n b) (ho : b = -1 → ¬ (T p = 143 ∨ T p = 145)) (h : smW T part nt P p0 n0 b0 p n b) : rdT nt P (pSumW T part p0 n0) p0 n0 b0 p n b := by
  rcases h with h | ⟨h0, ⟨e, q1, q2, q3⟩ | ⟨q2, f, c, s, q1, q3⟩⟩
  · exact Or.inl h
  · exact Or.inr ⟨h0, Or.inl ⟨e, q1, q2, q3⟩⟩
  · exact Or.inr ⟨h0, Or.inr ⟨c, s, by rw [← q1, pSumL_no (ho q2)], q2, (hG.1 q2).1, (hG.1 q2).2⟩⟩
set_option maxHeartbeats 2000000 in
theorem rd_readSum {sh : gS} {g : gM} (hx : gFix sh) (hf : gFin g) {T V P : Int → Int} {o : Bool} {nt : Int} (hR : RdC T V P o nt g) {D D2 : Nat} (hD : 2 ≤ D) (hD2 : D2 + 1 ≤ D) {dp : Int} {part : Int → Int → PR} (hfar : pFar nt part) (hS : RdL sh g P nt f_Model_readTerm D2 [(2, 177), (0, dp)] part) : RdL sh g P nt f_Model_readSum D [(2, 177), (0, dp)] (pSumW T part) := by
  intro p n b hG
  have hR0 := hR
  have hf0 := hf
  have hf := hf.rd p n b
  obtain ⟨hn0, hpk, hat, hTb, hVb, hPb, h10, h8, h9⟩ := hR
  refine gTri.of (by decide +kernel) rfl ?_
  show gWP f_Model_readSum _ _ _ 0 [(2, 177), (0, dp)] [] sh (rdM g p n b) _
  refine gw_aload_n (gc k_Model_readSum_0 0 rfl) rfl rfl ?_
  refine gw_iload_n (gc k_Model_readSum_0 1 rfl) rfl ?_
  refine gw_xV1 (gc k_Model_readSum_0 2 rfl) y_Model_readTerm ln_Model_224 (hS p n b hG) rfl rfl (gAt hx rfl rfl) rfl (gble (by omega)) (fun r2 sh2 g2 hq2 => ?_)
  obtain ⟨rfl, rfl, p2, n2, b2, rfl, hT⟩ := hq2
  have hG3 := hT.ok hPb hG
  have hW0 := smW_0 (T := T) hT
  refine gwloop (σ := Int × Int × Int) (fun zs => rdG nt (zs.1) (zs.2.1) (zs.2.2) ∧ smW T part nt P p n b (zs.1) (zs.2.1) (zs.2.2)) (fun zs => (if (zs.2.2) = -1 then (500 - (zs.1)).toNat + 1 else 0)) (fun zs => [(2, 177), (0, dp)]) (fun zs => rdM g (zs.1) (zs.2.1) (zs.2.2)) (p2, n2, b2) (show rdG nt p2 n2 b2 ∧ smW T part nt P p n b p2 n2 b2 from ⟨hG3, hW0⟩) rfl rfl (fun zs hI ih => ?_)
  obtain ⟨p1, n1, b1⟩ := zs
  replace hI : rdG nt p1 n1 b1 ∧ smW T part nt P p n b p1 n1 b1 := hI
  obtain ⟨hG4, hW⟩ := hI
  show gWP _ _ _ _ _ [(2, 177), (0, dp)] [] _ (rdM g p1 n1 b1) _
  
  refine gw_aload_n (gc k_Model_readSum_0 3 rfl) rfl rfl ?_
  refine gw_bipush (gc k_Model_readSum_0 4 rfl) (by decide) ?_
  refine gw_cS1 (gc k_Model_readSum_0 5 rfl) y_Model_sign ln_Model_220 (c_Model_sign 43) rfl rfl rfl (gble (by omega)) ?_
  refine gw_cV1 (gc k_Model_readSum_0 6 rfl) y_Model_takes0 ln_Model_183 (c_Model_takes0 hx hf0 p1 n1 b1 hR0 hG4 143 (by omega)) rfl rfl (gAt hx rfl rfl) rfl (gble (by omega)) ?_
  refine gw_bne (tgt := 29) (gc k_Model_readSum_0 7 rfl) rfl (fun c14 => ?_) (fun c14 => ?_)
  · have hop := c14
    rw [if_pos c14]
    have hpn := hpk p1 (by omega)
    have hG5 : rdG nt (p1 + 1) n1 b1 := ⟨fun z => by have := hG4.1 z; omega, hG4.2⟩
    refine gw_aload_n (gc k_Model_readSum_0 13 rfl) rfl rfl ?_
    refine gw_iload_n (gc k_Model_readSum_0 14 rfl) rfl ?_
    refine gw_xV1 (gc k_Model_readSum_0 15 rfl) y_Model_readTerm ln_Model_224 (hS (p1 + 1) n1 b1 hG5) rfl rfl (gAt hx rfl rfl) rfl (gble (by omega)) (fun r31 sh2 g31 hq31 => ?_)
    obtain ⟨rfl, rfl, p3, n3, b3, rfl, hT3⟩ := hq31
    have hG6 := hT3.ok hPb hG5
    have hW3 := smW_s hPb hn0.2 hfar (hG4.1 hop.1).1.2 hop.1 (by omega) hW hT3
    refine gw_goto (tgt := 5) (gc k_Model_readSum_0 16 rfl) rfl ?_
    exact ih (p3, n3, b3) (show rdG nt p3 n3 b3 ∧ smW T part nt P p n b p3 n3 b3 from ⟨hG6, hW3.1⟩) (show (if b3 = -1 then (500 - p3).toNat + 1 else 0) < (if b1 = -1 then (500 - p1).toNat + 1 else 0) from by rw [if_pos hop.1]; have := (hG4.1 hop.1).1; split <;> omega)
  · rw [if_neg c14]
    refine gw_aload_n (gc k_Model_readSum_0 8 rfl) rfl rfl ?_
    refine gw_bipush (gc k_Model_readSum_0 9 rfl) (by decide) ?_
    refine gw_cS1 (gc k_Model_readSum_0 10 rfl) y_Model_sign ln_Model_220 (c_Model_sign 45) rfl rfl rfl (gble (by omega)) ?_
    refine gw_cV1 (gc k_Model_readSum_0 11 rfl) y_Model_takes0 ln_Model_183 (c_Model_takes0 hx hf0 p1 n1 b1 hR0 hG4 145 (by omega)) rfl rfl (gAt hx rfl rfl) rfl (gble (by omega)) ?_
    refine gw_beq (tgt := 37) (gc k_Model_readSum_0 12 rfl) rfl (fun c26 => ?_) (fun c26 => ?_)
    · rw [if_neg c26]
      refine gw_return (gc k_Model_readSum_0 17 rfl) rfl ?_
      exact rd_end (smW_e hG4 (fun z1 z => by rcases z with z | z <;> first | exact c14 ⟨z1, z⟩ | exact c26 ⟨z1, z⟩) hW)
    · have hop := c26
      rw [if_pos c26]
      have hpn := hpk p1 (by omega)
      have hG5 : rdG nt (p1 + 1) n1 b1 := ⟨fun z => by have := hG4.1 z; omega, hG4.2⟩
      refine gw_aload_n (gc k_Model_readSum_0 13 rfl) rfl rfl ?_
      refine gw_iload_n (gc k_Model_readSum_0 14 rfl) rfl ?_
      refine gw_xV1 (gc k_Model_readSum_0 15 rfl) y_Model_readTerm ln_Model_224 (hS (p1 + 1) n1 b1 hG5) rfl rfl (gAt hx rfl rfl) rfl (gble (by omega)) (fun r31 sh2 g31 hq31 => ?_)
      obtain ⟨rfl, rfl, p3, n3, b3, rfl, hT3⟩ := hq31
      have hG6 := hT3.ok hPb hG5
      have hW3 := smW_s hPb hn0.2 hfar (hG4.1 hop.1).1.2 hop.1 (by omega) hW hT3
      refine gw_goto (tgt := 5) (gc k_Model_readSum_0 16 rfl) rfl ?_
      exact ih (p3, n3, b3) (show rdG nt p3 n3 b3 ∧ smW T part nt P p n b p3 n3 b3 from ⟨hG6, hW3.1⟩) (show (if b3 = -1 then (500 - p3).toNat + 1 else 0) < (if b1 = -1 then (500 - p1).toNat + 1 else 0) from by rw [if_pos hop.1]; have := (hG4.1 hop.1).1; split <;> omega)
theorem pBothL_no {T : Int → Int} {part : Int → Int → PR} {p n : Int} {c : PK} {s : PS} (h : ¬ (T p = 6)) (f : Nat) : pBothL T part f p n c s = .inr (p, n, c, s) := by
  cases f with
  | zero => rfl
  | succ f => exact if_neg h
theorem pBothL_e {T : Int → Int} {part : Int → Int → PR} {p n e : Int} {c : PK} {s : PS} (h : T p = 6) (hf : part (p + 1) n = .inl e) (f : Nat) : pBothL T part (f + 1) p n c s = .inl e := by
  unfold pBothL; rw [if_pos h, hf]
theorem pBothL_i {T : Int → Int} {part : Int → Int → PR} {p n p2 n2 : Int} {c c2 : PK} {s s2 : PS} (h : T p = 6) (hf : part (p + 1) n = .inr (p2, n2, c2, s2)) (f : Nat) : pBothL T part (f + 1) p n c s = pBothL T part f p2 n2 (c ++ (4, (c2.length : Int)) :: c2) (pand s s2) := by
  have e : pBothL T part (f + 1) p n c s = (match part (p + 1) n with
    | .inl e => .inl e
    | .inr (p2, n2, c2, s2) => pBothL T part f p2 n2 (c ++ (4, (c2.length : Int)) :: c2) (pand s s2)) := if_pos h
  rw [e, hf]
def boW (T : Int → Int) (part : Int → Int → PR) (nt : Int) (P : Int → Int) (p0 n0 b0 p n b : Int) : Prop := (b0 ≠ -1 ∧ b = b0 ∧ p = p0 ∧ n = n0) ∨ (b0 = -1 ∧ ((∃ e, pBothW T part p0 n0 = .inl e ∧ b = P e ∧ 0 ≤ e ∧ e ≤ nt) ∨ (b = -1 ∧ ∃ (f : Nat) (c : PK) (s : PS), pBothL T part f p n c s = pBothW T part p0 n0 ∧ 401 ≤ f + p)))
theorem boW_0 {T : Int → Int} {part : Int → Int → PR} {nt : Int} {P : Int → Int} {p0 n0 b0 p n b : Int} (h : rdT nt P (part p0 n0) p0 n0 b0 p n b) : boW T part nt P p0 n0 b0 p n b := by
  rcases h with h | ⟨h0, ⟨e, q1, q2, q3⟩ | ⟨c, s, q1, q2, q3, q4⟩⟩
  · exact Or.inl h
  · exact Or.inr ⟨h0, Or.inl ⟨e, by unfold pBothW; rw [q1], q2, q3⟩⟩
  · exact Or.inr ⟨h0, Or.inr ⟨q2, 401, c, s, by unfold pBothW; rw [q1], by omega⟩⟩
theorem boW_s {T : Int → Int} {part : Int → Int → PR} {nt : Int} {P : Int → Int} {p0 n0 b0 p n b p2 n2 b2 : Int} (hP : ∀ p, 0 ≤ p → p ≤ nt → 0 ≤ P p ∧ P p ≤ 400) (hnt : nt ≤ 400) (hfar : pFar nt part) (hpn : p ≤ nt) (hb : b = -1) (ho : T p = 6) (h : boW T part nt P p0 n0 b0 p n b) (h2 : rdT nt P (part (p + 1) n) (p + 1) n b p2 n2 b2) : boW T part nt P p0 n0 b0 p2 n2 b2 ∧ (b2 = -1 → p < p2) := by
  rcases h with ⟨h, h', -⟩ | ⟨h0, ⟨e, q1, q2, q3, q4⟩ | ⟨q2, f, c, s, q1, q3⟩⟩
  · exact absurd (h'.symm.trans hb) h
  · have := hP e q3 q4
    omega
  · rcases h2 with ⟨h, -⟩ | ⟨-, ⟨e, r1, r2, r3⟩ | ⟨c2, s2, r1, r2, r3, r4⟩⟩
    · exact absurd hb h
    · have := hP e r3.1 r3.2
      obtain ⟨f, rfl⟩ : ∃ k, f = k + 1 := ⟨f - 1, by omega⟩
      exact ⟨Or.inr ⟨h0, Or.inl ⟨e, by rw [← q1, pBothL_e ho r1], r2, r3⟩⟩, fun z => by omega⟩
    · have hf2 := hfar _ _ _ _ _ _ r1
      obtain ⟨f, rfl⟩ : ∃ k, f = k + 1 := ⟨f - 1, by omega⟩
      have e3 := pBothL_i (c := c) (s := s) ho r1 f
      exact ⟨Or.inr ⟨h0, Or.inr ⟨r2, f, _, _, by rw [← q1, e3], by omega⟩⟩, fun _ => by omega⟩
theorem boW_e {T : Int → Int} {part : Int → Int → PR} {nt : Int} {P : Int → Int} {p0 n0 b0 p n b : Int} (hG : rdG nt p n b) (ho : b = -1 → ¬ (T p = 6)) (h : boW T part nt P p0 n0 b0 p n b) : rdT nt P (pBothW T part p0 n0) p0 n0 b0 p n b := by
  rcases h with h | ⟨h0, ⟨e, q1, q2, q3⟩ | ⟨q2, f, c, s, q1, q3⟩⟩
  · exact Or.inl h
  · exact Or.inr ⟨h0, Or.inl ⟨e, q1, q2, q3⟩⟩
  · exact Or.inr ⟨h0, Or.inr ⟨c, s, by rw [← q1, pBothL_no (ho q2)], q2, (hG.1 q2).1, (hG.1 q2).2⟩⟩
set_option maxHeartbeats 2000000 in
theorem rd_readBoth {sh : gS} {g : gM} (hx : gFix sh) (hf : gFin g) {T V P : Int → Int} {o : Bool} {nt : Int} (hR : RdC T V P o nt g) {D D2 : Nat} (hD : 2 ≤ D) (hD2 : D2 + 1 ≤ D) {dp : Int} {part : Int → Int → PR} (hfar : pFar nt part) (hS : RdL sh g P nt f_Model_readPlain D2 [(2, 177), (0, dp)] part) : RdL sh g P nt f_Model_readBoth D [(2, 177), (0, dp)] (pBothW T part) := by
  intro p n b hG
  have hR0 := hR
  have hf0 := hf
  have hf := hf.rd p n b
  obtain ⟨hn0, hpk, hat, hTb, hVb, hPb, h10, h8, h9⟩ := hR
  refine gTri.of (by decide +kernel) rfl ?_
  show gWP f_Model_readBoth _ _ _ 0 [(2, 177), (0, dp)] [] sh (rdM g p n b) _
  refine gw_aload_n (gc k_Model_readBoth_0 0 rfl) rfl rfl ?_
  refine gw_iload_n (gc k_Model_readBoth_0 1 rfl) rfl ?_
  refine gw_xV1 (gc k_Model_readBoth_0 2 rfl) y_Model_readPlain ln_Model_217 (hS p n b hG) rfl rfl (gAt hx rfl rfl) rfl (gble (by omega)) (fun r2 sh2 g2 hq2 => ?_)
  obtain ⟨rfl, rfl, p2, n2, b2, rfl, hT⟩ := hq2
  have hG3 := hT.ok hPb hG
  have hW0 := boW_0 (T := T) hT
  refine gwloop (σ := Int × Int × Int) (fun zs => rdG nt (zs.1) (zs.2.1) (zs.2.2) ∧ boW T part nt P p n b (zs.1) (zs.2.1) (zs.2.2)) (fun zs => (if (zs.2.2) = -1 then (500 - (zs.1)).toNat + 1 else 0)) (fun zs => [(2, 177), (0, dp)]) (fun zs => rdM g (zs.1) (zs.2.1) (zs.2.2)) (p2, n2, b2) (show rdG nt p2 n2 b2 ∧ boW T part nt P p n b p2 n2 b2 from ⟨hG3, hW0⟩) rfl rfl (fun zs hI ih => ?_)
  obtain ⟨p1, n1, b1⟩ := zs
  replace hI : rdG nt p1 n1 b1 ∧ boW T part nt P p n b p1 n1 b1 := hI
  obtain ⟨hG4, hW⟩ := hI
  show gWP _ _ _ _ _ [(2, 177), (0, dp)] [] _ (rdM g p1 n1 b1) _
  
  refine gw_aload_n (gc k_Model_readBoth_0 3 rfl) rfl rfl ?_
  refine gw_bipush (gc k_Model_readBoth_0 4 rfl) (by decide) ?_
  refine gw_cV1 (gc k_Model_readBoth_0 5 rfl) y_Model_takes0 ln_Model_183 (c_Model_takes0 hx hf0 p1 n1 b1 hR0 hG4 6 (by omega)) rfl rfl (gAt hx rfl rfl) rfl (gble (by omega)) ?_
  refine gw_beq (tgt := 22) (gc k_Model_readBoth_0 6 rfl) rfl (fun c11 => ?_) (fun c11 => ?_)
  · rw [if_neg c11]
    refine gw_return (gc k_Model_readBoth_0 11 rfl) rfl ?_
    exact rd_end (boW_e hG4 (fun z1 z => c11 ⟨z1, z⟩) hW)
  · have hop := c11
    rw [if_pos c11]
    have hpn := hpk p1 (by omega)
    have hG5 : rdG nt (p1 + 1) n1 b1 := ⟨fun z => by have := hG4.1 z; omega, hG4.2⟩
    refine gw_aload_n (gc k_Model_readBoth_0 7 rfl) rfl rfl ?_
    refine gw_iload_n (gc k_Model_readBoth_0 8 rfl) rfl ?_
    refine gw_xV1 (gc k_Model_readBoth_0 9 rfl) y_Model_readPlain ln_Model_217 (hS (p1 + 1) n1 b1 hG5) rfl rfl (gAt hx rfl rfl) rfl (gble (by omega)) (fun r16 sh2 g16 hq16 => ?_)
    obtain ⟨rfl, rfl, p3, n3, b3, rfl, hT3⟩ := hq16
    have hG6 := hT3.ok hPb hG5
    have hW3 := boW_s hPb hn0.2 hfar (hG4.1 hop.1).1.2 hop.1 (by omega) hW hT3
    refine gw_goto (tgt := 5) (gc k_Model_readBoth_0 10 rfl) rfl ?_
    exact ih (p3, n3, b3) (show rdG nt p3 n3 b3 ∧ boW T part nt P p n b p3 n3 b3 from ⟨hG6, hW3.1⟩) (show (if b3 = -1 then (500 - p3).toNat + 1 else 0) < (if b1 = -1 then (500 - p1).toNat + 1 else 0) from by rw [if_pos hop.1]; have := (hG4.1 hop.1).1; split <;> omega)
theorem pTestL_no {T : Int → Int} {part : Int → Int → PR} {p n : Int} {c : PK} {s : PS} (h : ¬ (T p = 5)) (f : Nat) : pTestL T part f p n c s = .inr (p, n, c, s) := by
  cases f with
  | zero => rfl
  | succ f => exact if_neg h
theorem pTestL_e {T : Int → Int} {part : Int → Int → PR} {p n e : Int} {c : PK} {s : PS} (h : T p = 5) (hf : part (p + 1) n = .inl e) (f : Nat) : pTestL T part (f + 1) p n c s = .inl e := by
  unfold pTestL; rw [if_pos h, hf]
theorem pTestL_i {T : Int → Int} {part : Int → Int → PR} {p n p2 n2 : Int} {c c2 : PK} {s s2 : PS} (h : T p = 5) (hf : part (p + 1) n = .inr (p2, n2, c2, s2)) (f : Nat) : pTestL T part (f + 1) p n c s = pTestL T part f p2 n2 (c ++ (3, (c2.length : Int)) :: c2) (por s s2) := by
  have e : pTestL T part (f + 1) p n c s = (match part (p + 1) n with
    | .inl e => .inl e
    | .inr (p2, n2, c2, s2) => pTestL T part f p2 n2 (c ++ (3, (c2.length : Int)) :: c2) (por s s2)) := if_pos h
  rw [e, hf]
def teW (T : Int → Int) (part : Int → Int → PR) (nt : Int) (P : Int → Int) (p0 n0 b0 p n b : Int) : Prop := (b0 ≠ -1 ∧ b = b0 ∧ p = p0 ∧ n = n0) ∨ (b0 = -1 ∧ ((∃ e, pTestW T part p0 n0 = .inl e ∧ b = P e ∧ 0 ≤ e ∧ e ≤ nt) ∨ (b = -1 ∧ ∃ (f : Nat) (c : PK) (s : PS), pTestL T part f p n c s = pTestW T part p0 n0 ∧ 401 ≤ f + p)))
theorem teW_0 {T : Int → Int} {part : Int → Int → PR} {nt : Int} {P : Int → Int} {p0 n0 b0 p n b : Int} (h : rdT nt P (part p0 n0) p0 n0 b0 p n b) : teW T part nt P p0 n0 b0 p n b := by
  rcases h with h | ⟨h0, ⟨e, q1, q2, q3⟩ | ⟨c, s, q1, q2, q3, q4⟩⟩
  · exact Or.inl h
  · exact Or.inr ⟨h0, Or.inl ⟨e, by unfold pTestW; rw [q1], q2, q3⟩⟩
  · exact Or.inr ⟨h0, Or.inr ⟨q2, 401, c, s, by unfold pTestW; rw [q1], by omega⟩⟩
theorem teW_s {T : Int → Int} {part : Int → Int → PR} {nt : Int} {P : Int → Int} {p0 n0 b0 p n b p2 n2 b2 : Int} (hP : ∀ p, 0 ≤ p → p ≤ nt → 0 ≤ P p ∧ P p ≤ 400) (hnt : nt ≤ 400) (hfar : pFar nt part) (hpn : p ≤ nt) (hb : b = -1) (ho : T p = 5) (h : teW T part nt P p0 n0 b0 p n b) (h2 : rdT nt P (part (p + 1) n) (p + 1) n b p2 n2 b2) : teW T part nt P p0 n0 b0 p2 n2 b2 ∧ (b2 = -1 → p < p2) := by
  rcases h with ⟨h, h', -⟩ | ⟨h0, ⟨e, q1, q2, q3, q4⟩ | ⟨q2, f, c, s, q1, q3⟩⟩
  · exact absurd (h'.symm.trans hb) h
  · have := hP e q3 q4
    omega
  · rcases h2 with ⟨h, -⟩ | ⟨-, ⟨e, r1, r2, r3⟩ | ⟨c2, s2, r1, r2, r3, r4⟩⟩
    · exact absurd hb h
    · have := hP e r3.1 r3.2
      obtain ⟨f, rfl⟩ : ∃ k, f = k + 1 := ⟨f - 1, by omega⟩
      exact ⟨Or.inr ⟨h0, Or.inl ⟨e, by rw [← q1, pTestL_e ho r1], r2, r3⟩⟩, fun z => by omega⟩
    · have hf2 := hfar _ _ _ _ _ _ r1
      obtain ⟨f, rfl⟩ : ∃ k, f = k + 1 := ⟨f - 1, by omega⟩
      have e3 := pTestL_i (c := c) (s := s) ho r1 f
      exact ⟨Or.inr ⟨h0, Or.inr ⟨r2, f, _, _, by rw [← q1, e3], by omega⟩⟩, fun _ => by omega⟩
theorem teW_e {T : Int → Int} {part : Int → Int → PR} {nt : Int} {P : Int → Int} {p0 n0 b0 p n b : Int} (hG : rdG nt p n b) (ho : b = -1 → ¬ (T p = 5)) (h : teW T part nt P p0 n0 b0 p n b) : rdT nt P (pTestW T part p0 n0) p0 n0 b0 p n b := by
  rcases h with h | ⟨h0, ⟨e, q1, q2, q3⟩ | ⟨q2, f, c, s, q1, q3⟩⟩
  · exact Or.inl h
  · exact Or.inr ⟨h0, Or.inl ⟨e, q1, q2, q3⟩⟩
  · exact Or.inr ⟨h0, Or.inr ⟨c, s, by rw [← q1, pTestL_no (ho q2)], q2, (hG.1 q2).1, (hG.1 q2).2⟩⟩
set_option maxHeartbeats 2000000 in
theorem rd_readTest {sh : gS} {g : gM} (hx : gFix sh) (hf : gFin g) {T V P : Int → Int} {o : Bool} {nt : Int} (hR : RdC T V P o nt g) {D D2 : Nat} (hD : 2 ≤ D) (hD2 : D2 + 1 ≤ D) {dp : Int} {part : Int → Int → PR} (hfar : pFar nt part) (hS : RdL sh g P nt f_Model_readBoth D2 [(2, 177), (0, dp)] part) : RdL sh g P nt f_Model_readTest D [(2, 177), (0, dp)] (pTestW T part) := by
  intro p n b hG
  have hR0 := hR
  have hf0 := hf
  have hf := hf.rd p n b
  obtain ⟨hn0, hpk, hat, hTb, hVb, hPb, h10, h8, h9⟩ := hR
  refine gTri.of (by decide +kernel) rfl ?_
  show gWP f_Model_readTest _ _ _ 0 [(2, 177), (0, dp)] [] sh (rdM g p n b) _
  refine gw_aload_n (gc k_Model_readTest_0 0 rfl) rfl rfl ?_
  refine gw_iload_n (gc k_Model_readTest_0 1 rfl) rfl ?_
  refine gw_xV1 (gc k_Model_readTest_0 2 rfl) y_Model_readBoth ln_Model_214 (hS p n b hG) rfl rfl (gAt hx rfl rfl) rfl (gble (by omega)) (fun r2 sh2 g2 hq2 => ?_)
  obtain ⟨rfl, rfl, p2, n2, b2, rfl, hT⟩ := hq2
  have hG3 := hT.ok hPb hG
  have hW0 := teW_0 (T := T) hT
  refine gwloop (σ := Int × Int × Int) (fun zs => rdG nt (zs.1) (zs.2.1) (zs.2.2) ∧ teW T part nt P p n b (zs.1) (zs.2.1) (zs.2.2)) (fun zs => (if (zs.2.2) = -1 then (500 - (zs.1)).toNat + 1 else 0)) (fun zs => [(2, 177), (0, dp)]) (fun zs => rdM g (zs.1) (zs.2.1) (zs.2.2)) (p2, n2, b2) (show rdG nt p2 n2 b2 ∧ teW T part nt P p n b p2 n2 b2 from ⟨hG3, hW0⟩) rfl rfl (fun zs hI ih => ?_)
  obtain ⟨p1, n1, b1⟩ := zs
  replace hI : rdG nt p1 n1 b1 ∧ teW T part nt P p n b p1 n1 b1 := hI
  obtain ⟨hG4, hW⟩ := hI
  show gWP _ _ _ _ _ [(2, 177), (0, dp)] [] _ (rdM g p1 n1 b1) _
  
  refine gw_aload_n (gc k_Model_readTest_0 3 rfl) rfl rfl ?_
  refine gw_iconst (gc k_Model_readTest_0 4 rfl) ?_
  refine gw_cV1 (gc k_Model_readTest_0 5 rfl) y_Model_takes0 ln_Model_183 (c_Model_takes0 hx hf0 p1 n1 b1 hR0 hG4 5 (by omega)) rfl rfl (gAt hx rfl rfl) rfl (gble (by omega)) ?_
  refine gw_beq (tgt := 21) (gc k_Model_readTest_0 6 rfl) rfl (fun c10 => ?_) (fun c10 => ?_)
  · rw [if_neg c10]
    refine gw_return (gc k_Model_readTest_0 11 rfl) rfl ?_
    exact rd_end (teW_e hG4 (fun z1 z => c10 ⟨z1, z⟩) hW)
  · have hop := c10
    rw [if_pos c10]
    have hpn := hpk p1 (by omega)
    have hG5 : rdG nt (p1 + 1) n1 b1 := ⟨fun z => by have := hG4.1 z; omega, hG4.2⟩
    refine gw_aload_n (gc k_Model_readTest_0 7 rfl) rfl rfl ?_
    refine gw_iload_n (gc k_Model_readTest_0 8 rfl) rfl ?_
    refine gw_xV1 (gc k_Model_readTest_0 9 rfl) y_Model_readBoth ln_Model_214 (hS (p1 + 1) n1 b1 hG5) rfl rfl (gAt hx rfl rfl) rfl (gble (by omega)) (fun r15 sh2 g15 hq15 => ?_)
    obtain ⟨rfl, rfl, p3, n3, b3, rfl, hT3⟩ := hq15
    have hG6 := hT3.ok hPb hG5
    have hW3 := teW_s hPb hn0.2 hfar (hG4.1 hop.1).1.2 hop.1 (by omega) hW hT3
    refine gw_goto (tgt := 5) (gc k_Model_readTest_0 10 rfl) rfl ?_
    exact ih (p3, n3, b3) (show rdG nt p3 n3 b3 ∧ teW T part nt P p n b p3 n3 b3 from ⟨hG6, hW3.1⟩) (show (if b3 = -1 then (500 - p3).toNat + 1 else 0) < (if b1 = -1 then (500 - p1).toNat + 1 else 0) from by rw [if_pos hop.1]; have := (hG4.1 hop.1).1; split <;> omega)
/-- a sum, as many brackets as may still open -/
theorem rd_sumK {sh : gS} {g : gM} (hx : gFix sh) (hf : gFin g) {T V P : Int → Int} {o : Bool} {nt : Int} (hR : RdC T V P o nt g) : ∀ k : Nat, k ≤ 8 → RdL sh g P nt f_Model_readSum (5 + 3 * k) [(2, 177), (0, 8 - (k : Int))] (pSum T V o k)
  | 0, _ => by
    rw [pSum_eq]
    exact rd_readSum hx hf hR (D2 := 4) (by omega) (by omega) (pTerm_far hR.2.1 0) (rd_readTerm hx hf hR (D2 := 3) (by omega) (by omega) (pPart_far hR.2.1 0) (rd_part0 hx hf hR (by omega)))
  | k + 1, h => by
    rw [pSum_eq]
    have hs := rd_sumK hx hf hR k (by omega)
    rw [show 8 - (k : Int) = (8 - ((k + 1 : Nat) : Int)) + 1 by omega] at hs
    exact rd_readSum hx hf hR (D2 := 4 + 3 * (k + 1)) (by omega) (by omega) (pTerm_far hR.2.1 (k + 1)) (rd_readTerm hx hf hR (D2 := 3 + 3 * (k + 1)) (by omega) (by omega) (pPart_far hR.2.1 (k + 1)) (rd_part1 hx hf hR (by omega) (by omega) (by omega) hs))
