/-! ===== the reference reads: tests, clauses ===== -/
def fgR (r : PR) : Int ⊕ (Int × Int) := match r with
  | .inl e => .inl e
  | .inr (p, n, _, _) => .inr (p, n)
theorem fgR_e {r : PR} {e : Int} (h : fgR r = .inl e) : r = .inl e := by
  cases r with
  | inl x => exact congrArg _ (Sum.inl.inj h)
  | inr x => cases h
theorem fgR_i {r : PR} {p n : Int} (h : fgR r = .inr (p, n)) : ∃ c s, r = .inr (p, n, c, s) := by
  cases r with
  | inl x => cases h
  | inr x =>
    obtain ⟨p2, n2, c, s⟩ := x
    have q := Sum.inr.inj h
    cases q
    exact ⟨c, s, rfl⟩
theorem rdT.fg {nt : Int} {P : Int → Int} {r r2 : PR} {p n b p2 n2 b2 : Int} (h : fgR r = fgR r2) (hT : rdT nt P r p n b p2 n2 b2) : rdT nt P r2 p n b p2 n2 b2 := by
  rcases hT with q | ⟨h0, ⟨e, q1, q2⟩ | ⟨c, s, q1, q2⟩⟩
  · exact Or.inl q
  · rw [q1] at h
    exact Or.inr ⟨h0, Or.inl ⟨e, fgR_e h.symm, q2⟩⟩
  · rw [q1] at h
    obtain ⟨c2, s2, e2⟩ := fgR_i (r := r2) h.symm
    exact Or.inr ⟨h0, Or.inr ⟨c2, s2, e2, q2⟩⟩
def seqR (f f2 : Int → Int → PR) (p n : Int) : PR := match f p n with
  | .inl e => .inl e
  | .inr (p2, n2, _, _) => f2 p2 n2
theorem rdT.seq {nt : Int} {P : Int → Int} {f f2 : Int → Int → PR} {p n b p2 n2 b2 p3 n3 b3 : Int} (hP : ∀ p, 0 ≤ p → p ≤ nt → 0 ≤ P p ∧ P p ≤ 400) (h1 : rdT nt P (f p n) p n b p2 n2 b2) (h2 : rdT nt P (f2 p2 n2) p2 n2 b2 p3 n3 b3) : rdT nt P (seqR f f2 p n) p n b p3 n3 b3 := by
  rcases h1 with ⟨q1, q2, q3, q4⟩ | ⟨h0, ⟨e, q1, q2, q3, q4⟩ | ⟨c, s, q1, q2, q3⟩⟩
  · rcases h2 with ⟨r1, r2, r3, r4⟩ | ⟨r1, -⟩
    · exact Or.inl ⟨q1, by omega, by omega, by omega⟩
    · exact absurd (q2.symm.trans r1) q1
  · have := hP e q3 q4
    rcases h2 with ⟨r1, r2, r3, r4⟩ | ⟨r1, -⟩
    · exact Or.inr ⟨h0, Or.inl ⟨e, by unfold seqR; rw [q1], by omega, q3, q4⟩⟩
    · omega
  · have e : seqR f f2 p n = f2 p2 n2 := by unfold seqR; rw [q1]
    rcases h2 with ⟨r1, -⟩ | ⟨r1, r2⟩
    · exact absurd q2 r1
    · rw [e]; exact Or.inr ⟨h0, r2⟩
def optR (T : Int → Int) (c : Int) (f : Int → Int → PR) (p n : Int) : PR := if T p = c then f (p + 1) n else .inr (p, n, [], fun _ => none)
theorem rdT.opt0 {nt : Int} {P T : Int → Int} {c : Int} {f : Int → Int → PR} {p n b : Int} (hG : rdG nt p n b) (h : ¬ (b = -1 ∧ T p = c)) : rdT nt P (optR T c f p n) p n b p n b := by
  by_cases z : b = -1
  · exact Or.inr ⟨z, Or.inr ⟨_, _, if_neg (fun q => h ⟨z, q⟩), z, (hG.1 z).1, (hG.1 z).2⟩⟩
  · exact Or.inl ⟨z, rfl, rfl, rfl⟩
theorem rdT.opt1 {nt : Int} {P T : Int → Int} {c : Int} {f : Int → Int → PR} {p n b p2 n2 b2 : Int} (h : b = -1 ∧ T p = c) (hT : rdT nt P (f (p + 1) n) (p + 1) n b p2 n2 b2) : rdT nt P (optR T c f p n) p n b p2 n2 b2 := by
  have e : optR T c f p n = f (p + 1) n := if_pos h.2
  rw [e]
  rcases hT with ⟨q, -⟩ | q
  · exact absurd h.1 q
  · exact Or.inr q
def muR (T : Int → Int) (c p n : Int) : PR := if T p = c then .inr (p + 1, n, [], fun _ => none) else .inl p
def nuR (T V : Int → Int) (lo hi p n : Int) : PR := if T p = 50 ∧ lo ≤ V p ∧ V p ≤ hi then .inr (p + 1, n, [], fun _ => none) else .inl p
theorem rdG.nx {T : Int → Int} {nt p n b : Int} (hpk : pOK T nt) (hG : rdG nt p n b) (h : b = -1 → T p ≠ 0) : rdG nt (p + 1) n b := ⟨fun z => by have := hG.1 z; have := hpk p (h z); omega, hG.2⟩
theorem c_mustL {sh : gS} {g : gM} (hx : gFix sh) (hf : gFin g) {T V P : Int → Int} {o : Bool} {nt : Int} (hR : RdC T V P o nt g) (c : Int) (hc : 0 < c ∧ c ≤ 400) : ∀ p n b, rdG nt p n b → ∃ p2 b2, gTri f_Model_must 2 0 0 [(2, 177), (0, c)] sh (rdM g p n b) (gR none sh (rdM g p2 n b2)) ∧ rdT nt P (muR T c p n) p n b p2 n b2 := by
  intro p n b hG
  refine ⟨_, _, c_Model_must hx hf p n b hR hG c hc, ?_⟩
  by_cases z : b = -1
  · subst z
    have hG1 := hG.1 rfl
    by_cases z2 : T p = c
    · have := hR.2.1 p (by omega)
      rw [if_pos ⟨rfl, z2⟩, if_neg (fun q => q.2 z2)]
      exact rdT.i (if_pos z2) (by omega)
    · rw [if_neg (fun q => z2 q.2), if_pos ⟨rfl, z2⟩]
      exact rdT.e (if_neg z2) hG1.1
  · rw [if_neg (fun q => z q.1), if_neg (fun q => z q.1)]
    exact Or.inl ⟨z, rfl, rfl, rfl⟩
theorem c_numL {sh : gS} {g : gM} (hx : gFix sh) (hf : gFin g) {T V P : Int → Int} {o : Bool} {nt : Int} (hR : RdC T V P o nt g) (lo hi : Int) (hlh : (0 ≤ lo ∧ lo ≤ 100) ∧ 0 ≤ hi ∧ hi ≤ 100) : ∀ p n b, rdG nt p n b → ∃ p2 b2, gTri f_Model_mustNumber 2 0 0 [(2, 177), (0, lo), (0, hi)] sh (rdM g p n b) (gR none sh (rdM g p2 n b2)) ∧ rdT nt P (nuR T V lo hi p n) p n b p2 n b2 := by
  intro p n b hG
  refine ⟨_, _, c_Model_mustNumber hx hf p n b hR hG lo hi hlh, ?_⟩
  by_cases z : b = -1
  · subst z
    have hG1 := hG.1 rfl
    by_cases z2 : T p = 50 ∧ lo ≤ V p ∧ V p ≤ hi
    · have := hR.2.1 p (by omega)
      rw [if_pos ⟨rfl, z2⟩, if_neg (fun q => q.2 z2)]
      exact rdT.i (if_pos z2) (by omega)
    · rw [if_neg (fun q => z2 q.2), if_pos ⟨rfl, z2⟩]
      exact rdT.e (if_neg z2) hG1.1
  · rw [if_neg (fun q => z q.1), if_neg (fun q => z q.1)]
    exact Or.inl ⟨z, rfl, rfl, rfl⟩
theorem pNots_7 {T : Int → Int} {p : Int} (h : T p = 7) (f : Nat) (b : Bool) : pNots T (f + 1) p b = pNots T f (p + 1) (!b) := if_pos h
theorem pNots_n {T : Int → Int} {p : Int} (h : ¬ T p = 7) (f : Nat) (b : Bool) : (pNots T f p b).1 = p := by
  cases f with
  | zero => rfl
  | succ f => unfold pNots; rw [if_neg h]
theorem pPl_fg (T : Int → Int) (sub : Option (Int → Int → PR)) (sm : Int → Int → PR) (p n : Int) : fgR (pPlainW T sub sm p n) = fgR (pPosW T sub sm (pNots T 401 p false).1 n) := by
  unfold pPlainW
  cases pPosW T sub sm (pNots T 401 p false).1 n with
  | inl e => rfl
  | inr x =>
    obtain ⟨p2, n2, c, s⟩ := x
    dsimp only
    split <;> rfl
def reR (T : Int → Int) (p n : Int) : PR := if T p = 160 ∨ T p = 162 then .inr (p + 1, n, [], fun _ => none) else muR T 161 p n
theorem pPo_sum {T : Int → Int} {sub : Option (Int → Int → PR)} {sm : Int → Int → PR} {p n : Int} (h : ¬ T p = 140) : fgR (seqR sm (seqR (reR T) sm) p n) = fgR (pPosW T sub sm p n) := by
  unfold pPosW seqR
  rw [if_neg h]
  cases sm p n with
  | inl e => rfl
  | inr x =>
    obtain ⟨p2, n2, c, s⟩ := x
    dsimp only
    unfold reR muR
    by_cases z1 : T p2 = 160 ∨ T p2 = 162
    · rw [if_pos z1, if_pos (by omega)]
      dsimp only
      cases sm (p2 + 1) n2 with
      | inl e => rfl
      | inr x => rfl
    · by_cases z2 : T p2 = 161
      · rw [if_neg z1, if_pos z2, if_pos (by omega)]
        dsimp only
        cases sm (p2 + 1) n2 with
        | inl e => rfl
        | inr x => rfl
      · rw [if_neg z1, if_neg z2, if_neg (by omega)]
theorem pPo_sub {T : Int → Int} {f sm : Int → Int → PR} {p n : Int} (h : T p = 140) : fgR (seqR f (muR T 141) (p + 1) n) = fgR (pPosW T (some f) sm p n) := by
  unfold pPosW seqR
  rw [if_pos h]
  dsimp only
  cases f (p + 1) n with
  | inl e => rfl
  | inr x =>
    obtain ⟨p2, n2, c, s⟩ := x
    dsimp only
    unfold muR
    split <;> rfl
theorem pPo_no {T : Int → Int} {sm : Int → Int → PR} {p n : Int} (h : T p = 140) : pPosW T none sm p n = .inl p := by unfold pPosW; rw [if_pos h]
theorem rdT.mv {nt : Int} {P : Int → Int} {r : PR} {p n q p2 n2 b2 : Int} (hT : rdT nt P r p n (-1) p2 n2 b2) : rdT nt P r q n (-1) p2 n2 b2 := by
  rcases hT with ⟨h, -⟩ | h
  · exact absurd rfl h
  · exact Or.inr h
set_option maxHeartbeats 4000000 in
theorem rd_plain0 {sh : gS} {g : gM} (hx : gFix sh) (hf : gFin g) {T V P : Int → Int} {o : Bool} {nt : Int} (hR : RdC T V P o nt g) {D D1 : Nat} (hD : 3 ≤ D) (hD1 : D1 + 1 ≤ D) {sm : Int → Int → PR} (hSm : RdL sh g P nt f_Model_readSum D1 [(2, 177), (0, 8)] sm) : RdL sh g P nt f_Model_readPlain D [(2, 177), (0, 8)] (pPlainW T none sm) := by
  intro p n b hG
  have hR0 := hR
  have hf0 := hf
  have hf := hf.rd p n b
  obtain ⟨hn0, hpk, hat, hTb, hVb, hPb, h10, h8, h9⟩ := hR
  refine gTri.of (by decide +kernel) rfl ?_
  show gWP f_Model_readPlain _ _ _ 0 [(2, 177), (0, 8), (9, 0), (9, 0)] [] sh (rdM g p n b) _
  refine gw_iconst (gc k_Model_readPlain_0 0 rfl) ?_
  refine gw_istore_2 (gc k_Model_readPlain_0 1 rfl) rfl rfl ?_
  refine gwloop (σ := Int × Int) (fun zs => rdG nt (zs.1) n b ∧ ((zs.2) = 0 ∨ (zs.2) = 1) ∧ (b ≠ -1 → (zs.1) = p) ∧ (b = -1 → ((zs.2) = 1 ∧ ∃ (f : Nat) (bb : Bool), (pNots T f (zs.1) bb).1 = (pNots T 401 p false).1 ∧ 401 ≤ f + (zs.1)) ∨ ((zs.2) = 0 ∧ (zs.1) = (pNots T 401 p false).1))) (fun zs => (if (zs.2) = 1 then (500 - (zs.1)).toNat + 1 else 0)) (fun zs => [(2, 177), (0, 8), (0, (zs.2)), (9, 0)]) (fun zs => rdM g (zs.1) n b) (p, 1) (show rdG nt p n b ∧ ((1 : Int) = 0 ∨ (1 : Int) = 1) ∧ (b ≠ -1 → p = p) ∧ (b = -1 → ((1 : Int) = 1 ∧ ∃ (f : Nat) (bb : Bool), (pNots T f p bb).1 = (pNots T 401 p false).1 ∧ 401 ≤ f + p) ∨ ((1 : Int) = 0 ∧ p = (pNots T 401 p false).1)) from ⟨hG, Or.inr rfl, fun _ => rfl, fun zb => Or.inl ⟨rfl, 401, false, rfl, by have := hG.1 zb; omega⟩⟩) rfl rfl (fun zs hI ih => ?_)
  obtain ⟨p1, mo⟩ := zs
  replace hI : rdG nt p1 n b ∧ (mo = 0 ∨ mo = 1) ∧ (b ≠ -1 → p1 = p) ∧ (b = -1 → (mo = 1 ∧ ∃ (f : Nat) (bb : Bool), (pNots T f p1 bb).1 = (pNots T 401 p false).1 ∧ 401 ≤ f + p1) ∨ (mo = 0 ∧ p1 = (pNots T 401 p false).1)) := hI
  obtain ⟨hG1, hmo, hbad, hgood⟩ := hI
  show gWP _ _ _ _ _ [(2, 177), (0, 8), (0, mo), (9, 0)] [] _ (rdM g p1 n b) _
  
  refine gw_iload_n (gc k_Model_readPlain_0 2 rfl) rfl ?_
  refine gw_if_eq (tgt := 16) (gc k_Model_readPlain_0 3 rfl) rfl (by omega) (fun c3 => ?_) (fun c3 => ?_)
  · refine gw_aload_n (gc k_Model_readPlain_0 9 rfl) rfl rfl ?_
    refine gw_cV1 (gc k_Model_readPlain_0 10 rfl) y_Model_fine ln_Model_177 (c_Model_fine hx hf0 p1 n b hG1.2) rfl rfl (gAt hx rfl rfl) rfl (gble (by omega)) ?_
    refine gw_bne (tgt := 24) (gc k_Model_readPlain_0 11 rfl) rfl (fun c20 => ?_) (fun c20 => ?_)
    · have hb1 : b = -1 := c20
      subst hb1
      have hG2 := hG1.1 rfl
      have hpN : p1 = (pNots T 401 p false).1 := by
        rcases hgood rfl with ⟨q, -⟩ | ⟨-, q⟩
        · omega
        · exact q
      have h1 := hat p1 hG2.1.1 hG2.1.2
      have h3 := hPb p1 hG2.1.1 hG2.1.2
      have hTp := hTb p1
      have hf := hf0.rd p1 n (-1)
      refine gw_aload_n (gc k_Model_readPlain_0 13 rfl) rfl rfl ?_
      refine gw_getref (gc k_Model_readPlain_0 14 rfl) fl_Model_54 (gAt hx rfl rfl) (gRf hf rfl rfl) ?_
      refine gw_aload_n (gc k_Model_readPlain_0 15 rfl) rfl rfl ?_
      refine gw_getf 19 rfl (gc k_Model_readPlain_0 16 rfl) fl_Model_180 (gAt hx rfl rfl) ?_
      rw [rdM_19]
      refine gw_iald (gc k_Model_readPlain_0 17 rfl) (gAt hx rfl rfl) (by omega) ?_
      rw [rdM_fn _ _ _ _ (by decide), h1.1]
      refine gw_istore_3 (gc k_Model_readPlain_0 18 rfl) rfl rfl ?_
      refine gw_iload_n (gc k_Model_readPlain_0 19 rfl) rfl ?_
      refine gw_bipush (gc k_Model_readPlain_0 20 rfl) (by decide) ?_
      refine gw_cS1 (gc k_Model_readPlain_0 21 rfl) y_Model_sign ln_Model_220 (c_Model_sign 40) rfl rfl rfl (gble (by omega)) ?_
      refine gw_icmp_ne (tgt := 90) (gc k_Model_readPlain_0 22 rfl) rfl (by omega) (fun c40 => ?_) (fun c40 => ?_)
      · refine gw_aload_n (gc k_Model_readPlain_1 8 rfl) rfl rfl ?_
        refine gw_iload_n (gc k_Model_readPlain_1 9 rfl) rfl ?_
        refine gw_xV1 (gc k_Model_readPlain_1 10 rfl) y_Model_readSum ln_Model_192 (hSm p1 n (-1) hG1) rfl rfl (gAt hx rfl rfl) rfl (gble (by omega)) (fun r92 sh2 g92 hq92 => ?_)
        obtain ⟨rfl, rfl, p2, n2, b2, rfl, hT⟩ := hq92
        have hG3 := hT.ok hPb hG1
        refine gw_aload_n (gc k_Model_readPlain_1 11 rfl) rfl rfl ?_
        refine gw_bipush (gc k_Model_readPlain_1 12 rfl) (by decide) ?_
        refine gw_cS1 (gc k_Model_readPlain_1 13 rfl) y_Model_sign ln_Model_220 (c_Model_sign 60) rfl rfl rfl (gble (by omega)) ?_
        refine gw_cV1 (gc k_Model_readPlain_1 14 rfl) y_Model_takes0 ln_Model_183 (c_Model_takes0 hx hf0 p2 n2 b2 hR0 hG3 160 (by omega)) rfl rfl (gAt hx rfl rfl) rfl (gble (by omega)) ?_
        refine gw_bne (tgt := 128) (gc k_Model_readPlain_1 15 rfl) rfl (fun c104 => ?_) (fun c104 => ?_)
        · rw [if_pos c104]
          refine gw_aload_n (gc k_Model_readPlain_1 25 rfl) rfl rfl ?_
          refine gw_iload_n (gc k_Model_readPlain_1 26 rfl) rfl ?_
          refine gw_xV1 (gc k_Model_readPlain_1 27 rfl) y_Model_readSum ln_Model_192 (hSm (p2 + 1) n2 b2 (hG3.nx hpk (fun _ => by omega))) rfl rfl (gAt hx rfl rfl) rfl (gble (by omega)) (fun r130 sh2 g130 hq130 => ?_)
          obtain ⟨rfl, rfl, p5, n5, b5, rfl, hT5⟩ := hq130
          have hT4 : rdT nt P (reR T p2 n2) p2 n2 b2 (p2 + 1) n2 b2 := by
            have hb2 : b2 = -1 := c104.1
            subst hb2
            exact rdT.i (if_pos (by omega)) ((hG3.nx hpk (fun _ => by omega)).1 rfl)
          refine gw_return (gc k_Model_readPlain_1 28 rfl) rfl ?_
          exact rd_end (((hT.seq hPb (hT4.seq hPb hT5)).fg ((pPo_sum (sub := none) (by omega)).trans (by rw [pPl_fg, ← hpN]))).mv)
        · rw [if_neg c104]
          refine gw_aload_n (gc k_Model_readPlain_1 16 rfl) rfl rfl ?_
          refine gw_bipush (gc k_Model_readPlain_1 17 rfl) (by decide) ?_
          refine gw_cS1 (gc k_Model_readPlain_1 18 rfl) y_Model_sign ln_Model_220 (c_Model_sign 62) rfl rfl rfl (gble (by omega)) ?_
          refine gw_cV1 (gc k_Model_readPlain_1 19 rfl) y_Model_takes0 ln_Model_183 (c_Model_takes0 hx hf0 p2 n2 b2 hR0 hG3 162 (by omega)) rfl rfl (gAt hx rfl rfl) rfl (gble (by omega)) ?_
          refine gw_bne (tgt := 128) (gc k_Model_readPlain_1 20 rfl) rfl (fun c116 => ?_) (fun c116 => ?_)
          · rw [if_pos c116]
            refine gw_aload_n (gc k_Model_readPlain_1 25 rfl) rfl rfl ?_
            refine gw_iload_n (gc k_Model_readPlain_1 26 rfl) rfl ?_
            refine gw_xV1 (gc k_Model_readPlain_1 27 rfl) y_Model_readSum ln_Model_192 (hSm (p2 + 1) n2 b2 (hG3.nx hpk (fun _ => by omega))) rfl rfl (gAt hx rfl rfl) rfl (gble (by omega)) (fun r130 sh2 g130 hq130 => ?_)
            obtain ⟨rfl, rfl, p5, n5, b5, rfl, hT5⟩ := hq130
            have hT4 : rdT nt P (reR T p2 n2) p2 n2 b2 (p2 + 1) n2 b2 := by
              have hb2 : b2 = -1 := c116.1
              subst hb2
              exact rdT.i (if_pos (by omega)) ((hG3.nx hpk (fun _ => by omega)).1 rfl)
            refine gw_return (gc k_Model_readPlain_1 28 rfl) rfl ?_
            exact rd_end (((hT.seq hPb (hT4.seq hPb hT5)).fg ((pPo_sum (sub := none) (by omega)).trans (by rw [pPl_fg, ← hpN]))).mv)
          · rw [if_neg c116]
            obtain ⟨p4, b4, hmu, hmT⟩ := c_mustL hx hf0 hR0 161 (by omega) p2 n2 b2 hG3
            have hG4 := hmT.ok hPb hG3
            refine gw_aload_n (gc k_Model_readPlain_1 21 rfl) rfl rfl ?_
            refine gw_bipush (gc k_Model_readPlain_1 22 rfl) (by decide) ?_
            refine gw_cS1 (gc k_Model_readPlain_1 23 rfl) y_Model_sign ln_Model_220 (c_Model_sign 61) rfl rfl rfl (gble (by omega)) ?_
            refine gw_cV0 (gc k_Model_readPlain_1 24 rfl) y_Model_must ln_Model_195 hmu rfl rfl (gAt hx rfl rfl) rfl (gble (by omega)) ?_
            refine gw_aload_n (gc k_Model_readPlain_1 25 rfl) rfl rfl ?_
            refine gw_iload_n (gc k_Model_readPlain_1 26 rfl) rfl ?_
            refine gw_xV1 (gc k_Model_readPlain_1 27 rfl) y_Model_readSum ln_Model_192 (hSm p4 n2 b4 hG4) rfl rfl (gAt hx rfl rfl) rfl (gble (by omega)) (fun r130 sh2 g130 hq130 => ?_)
            obtain ⟨rfl, rfl, p5, n5, b5, rfl, hT5⟩ := hq130
            have hT4 : rdT nt P (reR T p2 n2) p2 n2 b2 p4 n2 b4 := by
              by_cases zz : b2 = -1
              · have e : reR T p2 n2 = muR T 161 p2 n2 := if_neg (fun q => by rcases q with q | q <;> first | exact c104 ⟨zz, q⟩ | exact c116 ⟨zz, q⟩)
                rw [e]; exact hmT
              · rcases hmT with q | q
                · exact Or.inl q
                · exact absurd q.1 zz
            refine gw_return (gc k_Model_readPlain_1 28 rfl) rfl ?_
            exact rd_end (((hT.seq hPb (hT4.seq hPb hT5)).fg ((pPo_sum (sub := none) (by omega)).trans (by rw [pPl_fg, ← hpN]))).mv)
      · refine gw_iload_n (gc k_Model_readPlain_0 23 rfl) rfl ?_
        refine gw_bipush (gc k_Model_readPlain_0 24 rfl) (by decide) ?_
        refine gw_icmp_ne (tgt := 53) (gc k_Model_readPlain_0 25 rfl) rfl (by omega) (fun c46 => ?_) (fun c46 => ?_)
        · exact absurd rfl c46
        · refine gw_aload_n (gc k_Model_readPlain_0 26 rfl) rfl rfl ?_
          refine gw_cV0 (gc k_Model_readPlain_0 27 rfl) y_Model_faults ln_Model_186 (c_Model_faults hx hf0 p1 n (-1) hR0 hG1) rfl rfl (gAt hx rfl rfl) rfl (gble (by omega)) ?_
          rw [if_pos rfl]
          have hfb : -1 ≤ P p1 ∧ P p1 ≤ 400 := by omega
          refine gw_aload_n (gc k_Model_readPlain_0 28 rfl) rfl rfl ?_
          refine gw_xV1 (gc k_Model_readPlain_0 29 rfl) y_Model_fine ln_Model_177 (c_Model_fine hx hf0 _ _ _ hfb) rfl rfl (gAt hx rfl rfl) rfl (gble (by omega)) (fun r54 sh2 g54 hq54 => ?_)
          obtain ⟨rfl, rfl, rfl⟩ := hq54
          refine gw_bne (tgt := 61) (gc k_Model_readPlain_0 30 rfl) rfl  (fun c57 => ?_) (fun c57 => ?_)
          · exfalso; omega
          · refine gw_return (gc k_Model_readPlain_0 31 rfl) rfl ?_
            exact rd_end ((rdT.e (pPo_no (sm := sm) (by omega : T p1 = 140)) hG2.1).fg (by rw [pPl_fg, ← hpN]))
    · refine gw_return (gc k_Model_readPlain_0 12 rfl) rfl ?_
      exact rd_end (Or.inl ⟨c20, rfl, hbad c20, rfl⟩)
  · refine gw_aload_n (gc k_Model_readPlain_0 4 rfl) rfl rfl ?_
    refine gw_bipush (gc k_Model_readPlain_0 5 rfl) (by decide) ?_
    refine gw_cV1 (gc k_Model_readPlain_0 6 rfl) y_Model_takes0 ln_Model_183 (c_Model_takes0 hx hf0 p1 n b hR0 hG1 7 (by omega)) rfl rfl (gAt hx rfl rfl) rfl (gble (by omega)) ?_
    refine gw_istore_2 (gc k_Model_readPlain_0 7 rfl) rfl rfl ?_
    refine gw_goto (tgt := 2) (gc k_Model_readPlain_0 8 rfl) rfl ?_
    have hm1 : mo = 1 := by omega
    by_cases zz : b = -1 ∧ T p1 = 7
    · rw [if_pos zz, bi_1 zz]
      rcases hgood zz.1 with ⟨-, f7, bb, e7, e8⟩ | ⟨q, -⟩
      · have := hpk p1 (by omega)
        have := hG1.1 zz.1
        obtain ⟨f7, rfl⟩ : ∃ k, f7 = k + 1 := ⟨f7 - 1, by omega⟩
        rw [pNots_7 zz.2] at e7
        exact ih (p1 + 1, 1) (show rdG nt (p1 + 1) n b ∧ ((1 : Int) = 0 ∨ (1 : Int) = 1) ∧ (b ≠ -1 → (p1 + 1) = p) ∧ (b = -1 → ((1 : Int) = 1 ∧ ∃ (f : Nat) (bb : Bool), (pNots T f (p1 + 1) bb).1 = (pNots T 401 p false).1 ∧ 401 ≤ f + (p1 + 1)) ∨ ((1 : Int) = 0 ∧ (p1 + 1) = (pNots T 401 p false).1)) from ⟨hG1.nx hpk (fun _ => by omega), Or.inr rfl, fun zb => absurd zz.1 zb, fun _ => Or.inl ⟨rfl, f7, _, e7, by omega⟩⟩) (show (if (1 : Int) = 1 then (500 - (p1 + 1)).toNat + 1 else 0) < (if mo = 1 then (500 - p1).toNat + 1 else 0) from by rw [if_pos rfl, if_pos hm1]; omega)
      · omega
    · rw [if_neg zz, bi_0 zz]
      have q9 : b = -1 → p1 = (pNots T 401 p false).1 := fun zb => by
        rcases hgood zb with ⟨-, f7, bb, e7, e8⟩ | ⟨q, -⟩
        · rw [← e7, pNots_n (fun z7 => zz ⟨zb, z7⟩)]
        · omega
      exact ih (p1, 0) (show rdG nt p1 n b ∧ ((0 : Int) = 0 ∨ (0 : Int) = 1) ∧ (b ≠ -1 → p1 = p) ∧ (b = -1 → ((0 : Int) = 1 ∧ ∃ (f : Nat) (bb : Bool), (pNots T f p1 bb).1 = (pNots T 401 p false).1 ∧ 401 ≤ f + p1) ∨ ((0 : Int) = 0 ∧ p1 = (pNots T 401 p false).1)) from ⟨hG1, Or.inl rfl, hbad, fun zb => Or.inr ⟨rfl, q9 zb⟩⟩) (show (if (0 : Int) = 1 then (500 - p1).toNat + 1 else 0) < (if mo = 1 then (500 - p1).toNat + 1 else 0) from by rw [if_neg (by omega), if_pos hm1]; omega)
set_option maxHeartbeats 4000000 in
theorem rd_plain1 {sh : gS} {g : gM} (hx : gFix sh) (hf : gFin g) {T V P : Int → Int} {o : Bool} {nt : Int} (hR : RdC T V P o nt g) {dp : Int} {D D1 : Nat} (hD : 3 ≤ D) (hD1 : D1 + 1 ≤ D) {sm : Int → Int → PR} (hSm : RdL sh g P nt f_Model_readSum D1 [(2, 177), (0, dp)] sm) (hdp : 0 ≤ dp ∧ dp < 8) {f : Int → Int → PR} {D2 : Nat} (hD2 : D2 + 1 ≤ D) (hS : RdL sh g P nt f_Model_readTest D2 [(2, 177), (0, dp + 1)] f) : RdL sh g P nt f_Model_readPlain D [(2, 177), (0, dp)] (pPlainW T (some f) sm) := by
  intro p n b hG
  have hR0 := hR
  have hf0 := hf
  have hf := hf.rd p n b
  obtain ⟨hn0, hpk, hat, hTb, hVb, hPb, h10, h8, h9⟩ := hR
  refine gTri.of (by decide +kernel) rfl ?_
  show gWP f_Model_readPlain _ _ _ 0 [(2, 177), (0, dp), (9, 0), (9, 0)] [] sh (rdM g p n b) _
  refine gw_iconst (gc k_Model_readPlain_0 0 rfl) ?_
  refine gw_istore_2 (gc k_Model_readPlain_0 1 rfl) rfl rfl ?_
  refine gwloop (σ := Int × Int) (fun zs => rdG nt (zs.1) n b ∧ ((zs.2) = 0 ∨ (zs.2) = 1) ∧ (b ≠ -1 → (zs.1) = p) ∧ (b = -1 → ((zs.2) = 1 ∧ ∃ (f : Nat) (bb : Bool), (pNots T f (zs.1) bb).1 = (pNots T 401 p false).1 ∧ 401 ≤ f + (zs.1)) ∨ ((zs.2) = 0 ∧ (zs.1) = (pNots T 401 p false).1))) (fun zs => (if (zs.2) = 1 then (500 - (zs.1)).toNat + 1 else 0)) (fun zs => [(2, 177), (0, dp), (0, (zs.2)), (9, 0)]) (fun zs => rdM g (zs.1) n b) (p, 1) (show rdG nt p n b ∧ ((1 : Int) = 0 ∨ (1 : Int) = 1) ∧ (b ≠ -1 → p = p) ∧ (b = -1 → ((1 : Int) = 1 ∧ ∃ (f : Nat) (bb : Bool), (pNots T f p bb).1 = (pNots T 401 p false).1 ∧ 401 ≤ f + p) ∨ ((1 : Int) = 0 ∧ p = (pNots T 401 p false).1)) from ⟨hG, Or.inr rfl, fun _ => rfl, fun zb => Or.inl ⟨rfl, 401, false, rfl, by have := hG.1 zb; omega⟩⟩) rfl rfl (fun zs hI ih => ?_)
  obtain ⟨p1, mo⟩ := zs
  replace hI : rdG nt p1 n b ∧ (mo = 0 ∨ mo = 1) ∧ (b ≠ -1 → p1 = p) ∧ (b = -1 → (mo = 1 ∧ ∃ (f : Nat) (bb : Bool), (pNots T f p1 bb).1 = (pNots T 401 p false).1 ∧ 401 ≤ f + p1) ∨ (mo = 0 ∧ p1 = (pNots T 401 p false).1)) := hI
  obtain ⟨hG1, hmo, hbad, hgood⟩ := hI
  show gWP _ _ _ _ _ [(2, 177), (0, dp), (0, mo), (9, 0)] [] _ (rdM g p1 n b) _
  
  refine gw_iload_n (gc k_Model_readPlain_0 2 rfl) rfl ?_
  refine gw_if_eq (tgt := 16) (gc k_Model_readPlain_0 3 rfl) rfl (by omega) (fun c3 => ?_) (fun c3 => ?_)
  · refine gw_aload_n (gc k_Model_readPlain_0 9 rfl) rfl rfl ?_
    refine gw_cV1 (gc k_Model_readPlain_0 10 rfl) y_Model_fine ln_Model_177 (c_Model_fine hx hf0 p1 n b hG1.2) rfl rfl (gAt hx rfl rfl) rfl (gble (by omega)) ?_
    refine gw_bne (tgt := 24) (gc k_Model_readPlain_0 11 rfl) rfl (fun c20 => ?_) (fun c20 => ?_)
    · have hb1 : b = -1 := c20
      subst hb1
      have hG2 := hG1.1 rfl
      have hpN : p1 = (pNots T 401 p false).1 := by
        rcases hgood rfl with ⟨q, -⟩ | ⟨-, q⟩
        · omega
        · exact q
      have h1 := hat p1 hG2.1.1 hG2.1.2
      have h3 := hPb p1 hG2.1.1 hG2.1.2
      have hTp := hTb p1
      have hf := hf0.rd p1 n (-1)
      refine gw_aload_n (gc k_Model_readPlain_0 13 rfl) rfl rfl ?_
      refine gw_getref (gc k_Model_readPlain_0 14 rfl) fl_Model_54 (gAt hx rfl rfl) (gRf hf rfl rfl) ?_
      refine gw_aload_n (gc k_Model_readPlain_0 15 rfl) rfl rfl ?_
      refine gw_getf 19 rfl (gc k_Model_readPlain_0 16 rfl) fl_Model_180 (gAt hx rfl rfl) ?_
      rw [rdM_19]
      refine gw_iald (gc k_Model_readPlain_0 17 rfl) (gAt hx rfl rfl) (by omega) ?_
      rw [rdM_fn _ _ _ _ (by decide), h1.1]
      refine gw_istore_3 (gc k_Model_readPlain_0 18 rfl) rfl rfl ?_
      refine gw_iload_n (gc k_Model_readPlain_0 19 rfl) rfl ?_
      refine gw_bipush (gc k_Model_readPlain_0 20 rfl) (by decide) ?_
      refine gw_cS1 (gc k_Model_readPlain_0 21 rfl) y_Model_sign ln_Model_220 (c_Model_sign 40) rfl rfl rfl (gble (by omega)) ?_
      refine gw_icmp_ne (tgt := 90) (gc k_Model_readPlain_0 22 rfl) rfl (by omega) (fun c40 => ?_) (fun c40 => ?_)
      · refine gw_aload_n (gc k_Model_readPlain_1 8 rfl) rfl rfl ?_
        refine gw_iload_n (gc k_Model_readPlain_1 9 rfl) rfl ?_
        refine gw_xV1 (gc k_Model_readPlain_1 10 rfl) y_Model_readSum ln_Model_192 (hSm p1 n (-1) hG1) rfl rfl (gAt hx rfl rfl) rfl (gble (by omega)) (fun r92 sh2 g92 hq92 => ?_)
        obtain ⟨rfl, rfl, p2, n2, b2, rfl, hT⟩ := hq92
        have hG3 := hT.ok hPb hG1
        refine gw_aload_n (gc k_Model_readPlain_1 11 rfl) rfl rfl ?_
        refine gw_bipush (gc k_Model_readPlain_1 12 rfl) (by decide) ?_
        refine gw_cS1 (gc k_Model_readPlain_1 13 rfl) y_Model_sign ln_Model_220 (c_Model_sign 60) rfl rfl rfl (gble (by omega)) ?_
        refine gw_cV1 (gc k_Model_readPlain_1 14 rfl) y_Model_takes0 ln_Model_183 (c_Model_takes0 hx hf0 p2 n2 b2 hR0 hG3 160 (by omega)) rfl rfl (gAt hx rfl rfl) rfl (gble (by omega)) ?_
        refine gw_bne (tgt := 128) (gc k_Model_readPlain_1 15 rfl) rfl (fun c104 => ?_) (fun c104 => ?_)
        · rw [if_pos c104]
          refine gw_aload_n (gc k_Model_readPlain_1 25 rfl) rfl rfl ?_
          refine gw_iload_n (gc k_Model_readPlain_1 26 rfl) rfl ?_
          refine gw_xV1 (gc k_Model_readPlain_1 27 rfl) y_Model_readSum ln_Model_192 (hSm (p2 + 1) n2 b2 (hG3.nx hpk (fun _ => by omega))) rfl rfl (gAt hx rfl rfl) rfl (gble (by omega)) (fun r130 sh2 g130 hq130 => ?_)
          obtain ⟨rfl, rfl, p5, n5, b5, rfl, hT5⟩ := hq130
          have hT4 : rdT nt P (reR T p2 n2) p2 n2 b2 (p2 + 1) n2 b2 := by
            have hb2 : b2 = -1 := c104.1
            subst hb2
            exact rdT.i (if_pos (by omega)) ((hG3.nx hpk (fun _ => by omega)).1 rfl)
          refine gw_return (gc k_Model_readPlain_1 28 rfl) rfl ?_
          exact rd_end (((hT.seq hPb (hT4.seq hPb hT5)).fg ((pPo_sum (sub := (some f)) (by omega)).trans (by rw [pPl_fg, ← hpN]))).mv)
        · rw [if_neg c104]
          refine gw_aload_n (gc k_Model_readPlain_1 16 rfl) rfl rfl ?_
          refine gw_bipush (gc k_Model_readPlain_1 17 rfl) (by decide) ?_
          refine gw_cS1 (gc k_Model_readPlain_1 18 rfl) y_Model_sign ln_Model_220 (c_Model_sign 62) rfl rfl rfl (gble (by omega)) ?_
          refine gw_cV1 (gc k_Model_readPlain_1 19 rfl) y_Model_takes0 ln_Model_183 (c_Model_takes0 hx hf0 p2 n2 b2 hR0 hG3 162 (by omega)) rfl rfl (gAt hx rfl rfl) rfl (gble (by omega)) ?_
          refine gw_bne (tgt := 128) (gc k_Model_readPlain_1 20 rfl) rfl (fun c116 => ?_) (fun c116 => ?_)
          · rw [if_pos c116]
            refine gw_aload_n (gc k_Model_readPlain_1 25 rfl) rfl rfl ?_
            refine gw_iload_n (gc k_Model_readPlain_1 26 rfl) rfl ?_
            refine gw_xV1 (gc k_Model_readPlain_1 27 rfl) y_Model_readSum ln_Model_192 (hSm (p2 + 1) n2 b2 (hG3.nx hpk (fun _ => by omega))) rfl rfl (gAt hx rfl rfl) rfl (gble (by omega)) (fun r130 sh2 g130 hq130 => ?_)
            obtain ⟨rfl, rfl, p5, n5, b5, rfl, hT5⟩ := hq130
            have hT4 : rdT nt P (reR T p2 n2) p2 n2 b2 (p2 + 1) n2 b2 := by
              have hb2 : b2 = -1 := c116.1
              subst hb2
              exact rdT.i (if_pos (by omega)) ((hG3.nx hpk (fun _ => by omega)).1 rfl)
            refine gw_return (gc k_Model_readPlain_1 28 rfl) rfl ?_
            exact rd_end (((hT.seq hPb (hT4.seq hPb hT5)).fg ((pPo_sum (sub := (some f)) (by omega)).trans (by rw [pPl_fg, ← hpN]))).mv)
          · rw [if_neg c116]
            obtain ⟨p4, b4, hmu, hmT⟩ := c_mustL hx hf0 hR0 161 (by omega) p2 n2 b2 hG3
            have hG4 := hmT.ok hPb hG3
            refine gw_aload_n (gc k_Model_readPlain_1 21 rfl) rfl rfl ?_
            refine gw_bipush (gc k_Model_readPlain_1 22 rfl) (by decide) ?_
            refine gw_cS1 (gc k_Model_readPlain_1 23 rfl) y_Model_sign ln_Model_220 (c_Model_sign 61) rfl rfl rfl (gble (by omega)) ?_
            refine gw_cV0 (gc k_Model_readPlain_1 24 rfl) y_Model_must ln_Model_195 hmu rfl rfl (gAt hx rfl rfl) rfl (gble (by omega)) ?_
            refine gw_aload_n (gc k_Model_readPlain_1 25 rfl) rfl rfl ?_
            refine gw_iload_n (gc k_Model_readPlain_1 26 rfl) rfl ?_
            refine gw_xV1 (gc k_Model_readPlain_1 27 rfl) y_Model_readSum ln_Model_192 (hSm p4 n2 b4 hG4) rfl rfl (gAt hx rfl rfl) rfl (gble (by omega)) (fun r130 sh2 g130 hq130 => ?_)
            obtain ⟨rfl, rfl, p5, n5, b5, rfl, hT5⟩ := hq130
            have hT4 : rdT nt P (reR T p2 n2) p2 n2 b2 p4 n2 b4 := by
              by_cases zz : b2 = -1
              · have e : reR T p2 n2 = muR T 161 p2 n2 := if_neg (fun q => by rcases q with q | q <;> first | exact c104 ⟨zz, q⟩ | exact c116 ⟨zz, q⟩)
                rw [e]; exact hmT
              · rcases hmT with q | q
                · exact Or.inl q
                · exact absurd q.1 zz
            refine gw_return (gc k_Model_readPlain_1 28 rfl) rfl ?_
            exact rd_end (((hT.seq hPb (hT4.seq hPb hT5)).fg ((pPo_sum (sub := (some f)) (by omega)).trans (by rw [pPl_fg, ← hpN]))).mv)
      · refine gw_iload_n (gc k_Model_readPlain_0 23 rfl) rfl ?_
        refine gw_bipush (gc k_Model_readPlain_0 24 rfl) (by decide) ?_
        refine gw_icmp_ne (tgt := 53) (gc k_Model_readPlain_0 25 rfl) rfl (by omega) (fun c46 => ?_) (fun c46 => ?_)
        · have hfb : -1 ≤ (-1 : Int) ∧ (-1 : Int) ≤ 400 := by omega
          refine gw_aload_n (gc k_Model_readPlain_0 28 rfl) rfl rfl ?_
          refine gw_xV1 (gc k_Model_readPlain_0 29 rfl) y_Model_fine ln_Model_177 (c_Model_fine hx hf0 _ _ _ hfb) rfl rfl (gAt hx rfl rfl) rfl (gble (by omega)) (fun r54 sh2 g54 hq54 => ?_)
          obtain ⟨rfl, rfl, rfl⟩ := hq54
          refine gw_bne (tgt := 61) (gc k_Model_readPlain_0 30 rfl) rfl  (fun c57 => ?_) (fun c57 => ?_)
          · refine gw_aload_n (gc k_Model_readPlain_0 32 rfl) rfl rfl ?_
            refine gw_dup (gc k_Model_readPlain_0 33 rfl) rfl ?_
            refine gw_getf 19 rfl (gc k_Model_readPlain_0 34 rfl) fl_Model_180 (gAt hx rfl rfl) ?_
            rw [rdM_19]
            refine gw_iconst (gc k_Model_readPlain_0 35 rfl) ?_
            refine gw_iadd (gc k_Model_readPlain_0 36 rfl) ?_
            refine gw_putIK 19 rfl (gc k_Model_readPlain_0 37 rfl) fl_Model_180 (gAt hx rfl rfl) hf rfl (fun hf => ?_)
            rw [rdM_p]
            refine gw_aload_n (gc k_Model_readPlain_0 38 rfl) rfl rfl ?_
            refine gw_iload_n (gc k_Model_readPlain_0 39 rfl) rfl ?_
            refine gw_iconst (gc k_Model_readPlain_1 0 rfl) ?_
            refine gw_iadd (gc k_Model_readPlain_1 1 rfl) ?_
            refine gw_xV1 (gc k_Model_readPlain_1 2 rfl) y_Model_readTest ln_Model_198 (hS (p1 + 1) n (-1) (hG1.nx hpk (fun _ => by omega))) rfl rfl (gAt hx rfl rfl) rfl (gble (by omega)) (fun r75 sh2 g75 hq75 => ?_)
            obtain ⟨rfl, rfl, p2, n2, b2, rfl, hT⟩ := hq75
            have hG3 := hT.ok hPb (hG1.nx hpk (fun _ => by omega))
            obtain ⟨p4, b4, hmu, hmT⟩ := c_mustL hx hf0 hR0 141 (by omega) p2 n2 b2 hG3
            refine gw_aload_n (gc k_Model_readPlain_1 3 rfl) rfl rfl ?_
            refine gw_bipush (gc k_Model_readPlain_1 4 rfl) (by decide) ?_
            refine gw_cS1 (gc k_Model_readPlain_1 5 rfl) y_Model_sign ln_Model_220 (c_Model_sign 41) rfl rfl rfl (gble (by omega)) ?_
            refine gw_cV0 (gc k_Model_readPlain_1 6 rfl) y_Model_must ln_Model_195 hmu rfl rfl (gAt hx rfl rfl) rfl (gble (by omega)) ?_
            refine gw_goto (tgt := 133) (gc k_Model_readPlain_1 7 rfl) rfl ?_
            refine gw_return (gc k_Model_readPlain_1 28 rfl) rfl ?_
            exact rd_end (((hT.seq hPb hmT).fg ((pPo_sub (sm := sm) (by omega)).trans (by rw [pPl_fg, ← hpN]))).mv)
          · exfalso; omega
        · exfalso; omega
    · refine gw_return (gc k_Model_readPlain_0 12 rfl) rfl ?_
      exact rd_end (Or.inl ⟨c20, rfl, hbad c20, rfl⟩)
  · refine gw_aload_n (gc k_Model_readPlain_0 4 rfl) rfl rfl ?_
    refine gw_bipush (gc k_Model_readPlain_0 5 rfl) (by decide) ?_
    refine gw_cV1 (gc k_Model_readPlain_0 6 rfl) y_Model_takes0 ln_Model_183 (c_Model_takes0 hx hf0 p1 n b hR0 hG1 7 (by omega)) rfl rfl (gAt hx rfl rfl) rfl (gble (by omega)) ?_
    refine gw_istore_2 (gc k_Model_readPlain_0 7 rfl) rfl rfl ?_
    refine gw_goto (tgt := 2) (gc k_Model_readPlain_0 8 rfl) rfl ?_
    have hm1 : mo = 1 := by omega
    by_cases zz : b = -1 ∧ T p1 = 7
    · rw [if_pos zz, bi_1 zz]
      rcases hgood zz.1 with ⟨-, f7, bb, e7, e8⟩ | ⟨q, -⟩
      · have := hpk p1 (by omega)
        have := hG1.1 zz.1
        obtain ⟨f7, rfl⟩ : ∃ k, f7 = k + 1 := ⟨f7 - 1, by omega⟩
        rw [pNots_7 zz.2] at e7
        exact ih (p1 + 1, 1) (show rdG nt (p1 + 1) n b ∧ ((1 : Int) = 0 ∨ (1 : Int) = 1) ∧ (b ≠ -1 → (p1 + 1) = p) ∧ (b = -1 → ((1 : Int) = 1 ∧ ∃ (f : Nat) (bb : Bool), (pNots T f (p1 + 1) bb).1 = (pNots T 401 p false).1 ∧ 401 ≤ f + (p1 + 1)) ∨ ((1 : Int) = 0 ∧ (p1 + 1) = (pNots T 401 p false).1)) from ⟨hG1.nx hpk (fun _ => by omega), Or.inr rfl, fun zb => absurd zz.1 zb, fun _ => Or.inl ⟨rfl, f7, _, e7, by omega⟩⟩) (show (if (1 : Int) = 1 then (500 - (p1 + 1)).toNat + 1 else 0) < (if mo = 1 then (500 - p1).toNat + 1 else 0) from by rw [if_pos rfl, if_pos hm1]; omega)
      · omega
    · rw [if_neg zz, bi_0 zz]
      have q9 : b = -1 → p1 = (pNots T 401 p false).1 := fun zb => by
        rcases hgood zb with ⟨-, f7, bb, e7, e8⟩ | ⟨q, -⟩
        · rw [← e7, pNots_n (fun z7 => zz ⟨zb, z7⟩)]
        · omega
      exact ih (p1, 0) (show rdG nt p1 n b ∧ ((0 : Int) = 0 ∨ (0 : Int) = 1) ∧ (b ≠ -1 → p1 = p) ∧ (b = -1 → ((0 : Int) = 1 ∧ ∃ (f : Nat) (bb : Bool), (pNots T f p1 bb).1 = (pNots T 401 p false).1 ∧ 401 ≤ f + p1) ∨ ((0 : Int) = 0 ∧ p1 = (pNots T 401 p false).1)) from ⟨hG1, Or.inl rfl, hbad, fun zb => Or.inr ⟨rfl, q9 zb⟩⟩) (show (if (0 : Int) = 1 then (500 - p1).toNat + 1 else 0) < (if mo = 1 then (500 - p1).toNat + 1 else 0) from by rw [if_neg (by omega), if_pos hm1]; omega)
theorem rd_testK {sh : gS} {g : gM} (hx : gFix sh) (hf : gFin g) {T V P : Int → Int} {o : Bool} {nt : Int} (hR : RdC T V P o nt g) : ∀ k : Nat, k ≤ 8 → RdL sh g P nt f_Model_readTest (8 + 3 * k) [(2, 177), (0, 8 - (k : Int))] (pTest T V o k)
  | 0, h => by
    have e : pTest T V o 0 = pTestW T (pBothW T (pPlainW T none (pSum T V o 0))) := rfl
    rw [e]
    exact rd_readTest hx hf hR (D2 := 7) (by omega) (by omega) (pBoth_far hR.2.1 0) (rd_readBoth hx hf hR (D2 := 6) (by omega) (by omega) (pPlain_far hR.2.1 0) (rd_plain0 hx hf hR (D1 := 5) (by omega) (by omega) (rd_sumK hx hf hR 0 (by omega))))
  | k + 1, h => by
    have e : pTest T V o (k + 1) = pTestW T (pBothW T (pPlainW T (some (pTest T V o k)) (pSum T V o (k + 1)))) := rfl
    rw [e]
    have hs := rd_testK hx hf hR k (by omega)
    rw [show 8 - (k : Int) = (8 - ((k + 1 : Nat) : Int)) + 1 by omega] at hs
    exact rd_readTest hx hf hR (D2 := 7 + 3 * (k + 1)) (by omega) (by omega) (pBoth_far hR.2.1 (k + 1)) (rd_readBoth hx hf hR (D2 := 6 + 3 * (k + 1)) (by omega) (by omega) (pPlain_far hR.2.1 (k + 1)) (rd_plain1 hx hf hR (D1 := 5 + 3 * (k + 1)) (by omega) (by omega) (rd_sumK hx hf hR (k + 1) (by omega)) (by omega) (by omega) hs))
def fgC {α : Type} (r : Int ⊕ (Int × Int × α)) : PR := match r with
  | .inl e => .inl e
  | .inr (p, n, _) => .inr (p, n, [], fun _ => none)
def hdR (T : Int → Int) (sm : Int → Int → PR) (p n : Int) : PR := if T p = 1 ∨ T p = 2 then sm (p + 1) n else muR T 3 p n
theorem pCl_fg (T : Int → Int) (sm test : Int → Int → PR) (p n : Int) : fgR (seqR (hdR T sm) (optR T 4 test) p n) = fgR (fgC (pClause T sm test p n)) := by
  unfold pClause seqR hdR
  have w : ∀ (h : Int) (c : PK) (s : PS) (p2 n2 : Int), fgR (optR T 4 test p2 n2) = fgR (fgC (pWhen T test h c s p2 n2)) := fun h c s p2 n2 => by
    unfold optR pWhen
    by_cases z : T p2 = 4
    · rw [if_pos z, if_pos z]
      cases test (p2 + 1) n2 with
      | inl e => rfl
      | inr x => rfl
    · rw [if_neg z, if_neg z]; rfl
  by_cases z1 : T p = 1 ∨ T p = 2
  · rw [if_pos z1, if_pos z1]
    cases sm (p + 1) n with
    | inl e => rfl
    | inr x => exact w _ _ _ _ _
  · rw [if_neg z1, if_neg z1]
    unfold muR
    by_cases z2 : T p = 3
    · rw [if_pos z2, if_pos z2]
      exact w _ _ _ _ _
    · rw [if_neg z2, if_neg z2]; rfl
/-- a clause of orders: its head, both sums (code, sense), how often, its test if it has one -/
abbrev OC : Type := Int × PK × PS × PK × PS × Int × Option PK × PS
abbrev OCR : Type := Int ⊕ (Int × Int × OC)
def pOWhen (T : Int → Int) (test : Int → Int → PR) (h : Int) (c : PK) (s : PS) (c2 : PK) (s2 : PS) (t p n : Int) : OCR :=
  if T p = 4 then (match test (p + 1) n with
    | .inl e => .inl e
    | .inr (p2, n2, k, q) => .inr (p2, n2, h, c, s, c2, s2, t, some k, q))
  else .inr (p, n, h, c, s, c2, s2, t, none, fun _ => some 1)
def pOTimes (T V : Int → Int) (test : Int → Int → PR) (h : Int) (c : PK) (s : PS) (c2 : PK) (s2 : PS) (p n : Int) : OCR :=
  if T p = 27 then (if T (p + 1) = 50 ∧ 1 ≤ V (p + 1) ∧ V (p + 1) ≤ 20 then pOWhen T test h c s c2 s2 (V (p + 1)) (p + 2) n else .inl (p + 1))
  else pOWhen T test h c s c2 s2 1 p n
def pOrder (T V : Int → Int) (sm test : Int → Int → PR) (p n : Int) : OCR :=
  if T p = 22 ∨ T p = 23 then (match sm (p + 1) n with
    | .inl e => .inl e
    | .inr (p2, n2, c, s) => if T p2 = 26 then (match sm (p2 + 1) n2 with
        | .inl e => .inl e
        | .inr (p3, n3, c2, s2) => pOTimes T V test (T p) c s c2 s2 p3 n3)
      else .inl p2)
  else if T p = 24 ∨ T p = 25 then pOTimes T V test (T p) [] (fun _ => some 0) [] (fun _ => some 0) (p + 1) n
  else .inl p
def ohR (T : Int → Int) (sm : Int → Int → PR) (p n : Int) : PR := if T p = 22 ∨ T p = 23 then seqR sm (seqR (muR T 26) sm) (p + 1) n else if T p = 24 then .inr (p + 1, n, [], fun _ => none) else muR T 25 p n
theorem pOr_fg (T V : Int → Int) (sm test : Int → Int → PR) (p n : Int) : fgR (seqR (ohR T sm) (seqR (optR T 27 (nuR T V 1 20)) (optR T 4 test)) p n) = fgR (fgC (pOrder T V sm test p n)) := by
  have w : ∀ (h : Int) (c : PK) (s : PS) (c2 : PK) (s2 : PS) (t p2 n2 : Int), fgR (optR T 4 test p2 n2) = fgR (fgC (pOWhen T test h c s c2 s2 t p2 n2)) := fun h c s c2 s2 t p2 n2 => by
    unfold optR pOWhen
    by_cases z : T p2 = 4
    · rw [if_pos z, if_pos z]
      cases test (p2 + 1) n2 with
      | inl e => rfl
      | inr x => rfl
    · rw [if_neg z, if_neg z]; rfl
  have v : ∀ (h : Int) (c : PK) (s : PS) (c2 : PK) (s2 : PS) (p2 n2 : Int), fgR (seqR (optR T 27 (nuR T V 1 20)) (optR T 4 test) p2 n2) = fgR (fgC (pOTimes T V test h c s c2 s2 p2 n2)) := fun h c s c2 s2 p2 n2 => by
    unfold pOTimes
    by_cases z : T p2 = 27
    · rw [if_pos z]
      have e : optR T 27 (nuR T V 1 20) p2 n2 = nuR T V 1 20 (p2 + 1) n2 := if_pos z
      unfold seqR
      rw [e]
      unfold nuR
      by_cases z2 : T (p2 + 1) = 50 ∧ 1 ≤ V (p2 + 1) ∧ V (p2 + 1) ≤ 20
      · rw [if_pos z2, if_pos z2]
        dsimp only
        rw [show p2 + 1 + 1 = p2 + 2 by omega]
        exact w _ _ _ _ _ _ _ _
      · rw [if_neg z2, if_neg z2]; rfl
    · rw [if_neg z]
      have e : optR T 27 (nuR T V 1 20) p2 n2 = .inr (p2, n2, [], fun _ => none) := if_neg z
      unfold seqR
      rw [e]
      exact w _ _ _ _ _ _ _ _
  unfold pOrder
  have sq : ∀ (r : PR), ohR T sm p n = r → fgR (seqR (ohR T sm) (seqR (optR T 27 (nuR T V 1 20)) (optR T 4 test)) p n) = fgR (match r with
    | .inl e => .inl e
    | .inr (p2, n2, _, _) => seqR (optR T 27 (nuR T V 1 20)) (optR T 4 test) p2 n2) := fun r e => by rw [← e]; rfl
  rw [sq _ rfl]
  unfold ohR
  by_cases z1 : T p = 22 ∨ T p = 23
  · rw [if_pos z1, if_pos z1]
    have e : seqR sm (seqR (muR T 26) sm) (p + 1) n = (match sm (p + 1) n with
      | .inl e => .inl e
      | .inr (p2, n2, _, _) => seqR (muR T 26) sm p2 n2) := rfl
    rw [e]
    cases sm (p + 1) n with
    | inl e => rfl
    | inr x =>
      obtain ⟨p2, n2, c, s⟩ := x
      dsimp only
      have e2 : seqR (muR T 26) sm p2 n2 = (match muR T 26 p2 n2 with
        | .inl e => .inl e
        | .inr (p2, n2, _, _) => sm p2 n2) := rfl
      rw [e2]
      unfold muR
      by_cases z2 : T p2 = 26
      · rw [if_pos z2, if_pos z2]
        dsimp only
        cases sm (p2 + 1) n2 with
        | inl e => rfl
        | inr x => exact v _ _ _ _ _ _ _
      · rw [if_neg z2, if_neg z2]; rfl
  · rw [if_neg z1, if_neg z1]
    by_cases z2 : T p = 24
    · rw [if_pos z2, if_pos (Or.inl z2)]
      exact v _ _ _ _ _ _ _
    · rw [if_neg z2]
      unfold muR
      by_cases z3 : T p = 25
      · rw [if_pos z3, if_pos (Or.inr z3)]
        exact v _ _ _ _ _ _ _
      · rw [if_neg z3, if_neg (by omega)]; rfl
