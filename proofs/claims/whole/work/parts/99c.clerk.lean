/-! ===== the clerk ===== -/
def okC (x : OC) : Prop := (x.1 = 24 ∨ x.1 = 25) → x.2.2.1 = (fun _ => some 0) ∧ x.2.2.2.2.1 = fun _ => some 0
theorem pOrder_s {T V : Int → Int} {sm test : Int → Int → PR} (hs : gP true sm) (ht : gT true test) {p n p2 n2 : Int} {x : OC} (e : pOrder T V sm test p n = .inr (p2, n2, x)) (hn : 0 ≤ n ∧ n ≤ 50) : okC x := by
  have key : ∀ (h : Int) (c : PK) (s : PS) (c2 : PK) (s2 : PS) (q m : Int), (0 ≤ m ∧ m ≤ 50) → pOTimes T V test h c s c2 s2 q m = .inr (p2, n2, x) → ((h = 22 ∨ h = 23) ∨ (s = (fun _ => some 0) ∧ s2 = fun _ => some 0)) → okC x := fun h c s c2 s2 q m hm e2 hh => by
    have key2 : ∀ t q', pOWhen T test h c s c2 s2 t q' m = .inr (p2, n2, x) → okC x := fun t q' e3 => by
      obtain ⟨a0, a1, a2, a3, a4, a5, a6, a7⟩ := pOWhen_k ht e3 hm
      intro z
      rw [a3, a5]
      rcases hh with y | y
      · omega
      · exact y
    unfold pOTimes at e2
    split at e2
    · split at e2
      · exact key2 _ _ e2
      · cases e2
    · exact key2 1 _ e2
  unfold pOrder at e
  split at e
  · next h1 =>
    cases hq : sm (p + 1) n with
    | inl y => rw [hq] at e; cases e
    | inr y =>
      obtain ⟨q2, m2, c, s⟩ := y
      rw [hq] at e
      have h2 := hs _ _ _ _ _ _ hq hn.2
      dsimp only at e
      split at e
      · cases hq2 : sm (q2 + 1) m2 with
        | inl y => rw [hq2] at e; cases e
        | inr y =>
          obtain ⟨q3, m3, c3, s3⟩ := y
          rw [hq2] at e
          have h3 := hs _ _ _ _ _ _ hq2 h2.1.2
          exact key _ _ _ _ _ _ _ (by omega) e (Or.inl h1)
      · cases e
  · split at e
    · next h6 => exact key _ _ _ _ _ _ _ hn e (Or.inr ⟨rfl, rfl⟩)
    · cases e
theorem ordRd_s {T V : Int → Int} {nt : Int} (hV : ∀ p, 0 ≤ V p) {L : List OC} (e : pOrd T V nt = .inr L) : ∀ c ∈ L, okC c := fun c hc => (pAll_k (P := fun c => clK true c ∧ okC c) (fun _ _ _ _ _ e hn => ⟨(pOrder_k (pSum_g hV 8) (pTest_g hV 8) e hn).1, (pOrder_k (pSum_g hV 8) (pTest_g hV 8) e hn).2, pOrder_s (pSum_g hV 8) (pTest_g hV 8) e hn⟩) e c hc).2
/-- the desk in the state σ -/
def clI (Λ : Int → List PC) (sh : gS) (σ : OS) (g : gM) : Prop := bdX Λ sh σ.1 g 1 ∧ trI σ.1 σ.2.1 σ.2.2 13 g
/-- what one order may change -/
def clkF (g g2 : gM) : Prop := ∀ a k, ¬ (2 ≤ a ∧ a ≤ 4) → a ≠ 10 → a ≠ 11 → ¬ (a = 8 ∧ 2 ≤ k ∧ k ≤ 3) → ¬ (13 ≤ a ∧ a ≤ 16) → g2 a k = g a k
theorem clkF.rf (g : gM) : clkF g g := fun _ _ _ _ _ _ _ => rfl
theorem clkF.tr {g g2 g3 : gM} (h : clkF g g2) (h2 : clkF g2 g3) : clkF g g3 := fun a k n m q x y => (h2 a k n m q x y).trans (h a k n m q x y)
theorem i1 : isBd 1 := Or.inl rfl
theorem iT : isTr 13 := Or.inl rfl
theorem tfF.bd {Λ : Int → List PC} {sh : gS} {r : Int → Int} {g g2 : gM} (h : tfF 13 g g2) (hX : bdX Λ sh r g 1) : bdX Λ sh r g2 1 := hX.of (fun a k z => h a k (by omega) (by omega))
theorem rPt_0 (r : Int → Int) (n p : Int) : rPt r (0 + n) p = rHr r n p := funext fun y => by
  show (if y = 0 + n then p else r y) = if y = n then p else r y
  rw [Int.zero_add]
def mvE (r : Int → Int) (n p : Int) : Int := if ¬ (0 ≤ p ∧ p ≤ 24) then -1 else if ¬ (0 ≤ n ∧ n < r 41) then -2 else -3
/-- a step's end: refused, or done -/
def stQ (Λ : Int → List PC) (sh : gS) (g : gM) (E : Int) (S : Option (Int × OS)) (x : Option gV) (s2 : gS) (g2 : gM) : Prop := s2 = sh ∧ ((S = none ∧ x = some (0, E) ∧ g2 = g) ∨ ∃ v σ', S = some (v, σ') ∧ x = some (0, v) ∧ clI Λ sh σ' g2 ∧ clkF g g2 ∧ gFin g2)
theorem exF_2 {r : Int → Int} {m : Int} (hm : 0 ≤ m ∧ m ≤ 12) (y : Int) : exF (exF r m) m y = r y := by
  unfold exF
  by_cases z : 0 ≤ y ∧ y < m
  · rw [if_pos z, if_neg (by omega), if_pos (by omega)]
    congr 1; omega
  · rw [if_neg z]
    by_cases w : 12 ≤ y ∧ y < 12 + m
    · rw [if_pos w, if_pos (by omega)]
      congr 1; omega
    · rw [if_neg w, if_neg z, if_neg w]
/-- the row taken back -/
theorem bkR_un {r L : Int → Int} {u T : Int} {g : gM} (h : trI r L u T g) (hm : 0 ≤ r 41 ∧ r 41 ≤ 12) (hu : 0 < u) : bkR r L u = unF (g (T + 1) (u - 1)) (g (T + 2) (u - 1)) (g (T + 3) (u - 1)) (r 41) r := funext fun y => by
  have q := h.2.2 (u - 1) (by omega) (by omega)
  by_cases z : 0 ≤ y ∧ y < 25
  · rw [bkR_in z, q.2.2.1 y z.1 z.2]
    unfold nxF
    rw [if_neg (by omega)]
  · rw [bkR_out (by omega)]
    unfold unF
    by_cases k0 : g (T + 1) (u - 1) = 0
    · rw [if_pos k0]
      have := q.2.1 (by omega)
      show _ = if y = g (T + 2) (u - 1) then _ else _
      rw [if_neg (by omega)]
    · rw [if_neg k0]
      by_cases k1 : g (T + 1) (u - 1) = 1
      · rw [if_pos k1]
        have := q.2.1 (by omega)
        show _ = if y = 12 + g (T + 2) (u - 1) then _ else _
        rw [if_neg (by omega)]
      · rw [if_neg k1]
        by_cases k2 : g (T + 1) (u - 1) = 2
        · rw [if_pos k2]
          unfold exF
          rw [if_neg (by omega), if_neg (by omega)]
        · rw [if_neg k2]
          show _ = if y = 24 then _ else _
          rw [if_neg (by omega)]
set_option maxHeartbeats 2000000 in
theorem c_Clerk_move_her {sh : gS} {g : gM} (hx : gFix sh) (hf : gFin g) {Λ : Int → List PC} {σ : OS} (hC : clI Λ sh σ g) (n p : Int) (hb : (-2147483648 ≤ n ∧ n ≤ 2147483647) ∧ (-2147483648 ≤ p ∧ p ≤ 2147483647)) : gTri f_Clerk_move 5 0 0 [(2, 12), (2, 3), (0, n), (0, p), (0, 0)] sh g (stQ Λ sh g (mvE σ.1 n p) (sMv 0 0 n p σ)) := by
  have ho := hC.1.1.1
  have hm := ro_many ho
  have h0 := hC.1.nums.1.1
  have hu := hC.2.1
  refine gTri.of (by decide +kernel) rfl ?_
  show gWP f_Clerk_move _ _ _ 0 [(2, 12), (2, 3), (0, n), (0, p), (0, 0), (9, 0)] [] sh g _
  refine gw_iload_n (gc k_Clerk_move_0 0 rfl) rfl ?_
  refine gw_cSN1 (gc k_Clerk_move_0 1 rfl) y_Desk_isPitch ln_Clerk_60 (c_Desk_isPitch p hb.2) rfl rfl rfl rfl ?_
  refine gw_bne (tgt := 9) (gc k_Clerk_move_0 2 rfl) rfl (fun c4 => ?_) (fun c4 => ?_)
  · have hp : 0 ≤ p ∧ p ≤ 24 := by omega
    refine gw_aload_n (gc k_Clerk_move_0 5 rfl) rfl rfl ?_
    refine gw_getref (gc k_Clerk_move_0 6 rfl) fl_Clerk_43 (by first | exact gAt hx rfl rfl | exact (bs hx i1).1 | exact (bs hx i1).2.1 | exact (bs hx i1).2.2.1 | exact (bs hx i1).2.2.2.1) (by first | exact gRf hf rfl rfl | exact (br hf i1).1 | exact (br hf i1).2.1 | exact (br hf i1).2.2.1) ?_
    refine gw_iload_n (gc k_Clerk_move_0 7 rfl) rfl ?_
    refine gw_cV1 (gc k_Clerk_move_0 8 rfl) y_Board_has ln_Clerk_64 (c_Board_has hx hf i1 n hb.1 (by omega)) rfl rfl (by first | exact gAt hx rfl rfl | exact (bs hx i1).1 | exact (bs hx i1).2.1 | exact (bs hx i1).2.2.1 | exact (bs hx i1).2.2.2.1) rfl rfl ?_
    rw [h0]
    refine gw_bne (tgt := 23) (gc k_Clerk_move_0 9 rfl) rfl (fun c17 => ?_) (fun c17 => ?_)
    · have hnn : 0 ≤ n ∧ n < σ.1 41 := by omega
      refine gw_aload_n (gc k_Clerk_move_0 12 rfl) rfl rfl ?_
      refine gw_iload_n (gc k_Clerk_move_0 13 rfl) rfl ?_
      refine gw_iald (gc k_Clerk_move_0 14 rfl) (gAt hx rfl rfl) (by omega) ?_
      obtain ⟨w, hw⟩ : ∃ w, w = σ.1 (0 + n) := ⟨_, rfl⟩
      rw [show g 3 n = w from ((hC.1.note hnn).2.1).trans ((congrArg σ.1 (by omega)).trans hw.symm)]
      have hwb : 0 ≤ w ∧ w ≤ 24 := by rw [hw]; exact ro_pitch ho _ (by omega)
      refine gw_istore_5 (gc k_Clerk_move_0 15 rfl) rfl rfl ?_
      refine gw_iload (gc k_Clerk_move_0 16 rfl) rfl ?_
      refine gw_iload_n (gc k_Clerk_move_0 17 rfl) rfl ?_
      refine gw_icmp_ne (tgt := 37) (gc k_Clerk_move_0 18 rfl) rfl (by omega) (fun c31 => ?_) (fun c31 => ?_)
      · refine gw_aload_n (gc k_Clerk_move_0 21 rfl) rfl rfl ?_
        refine gw_iload_n (gc k_Clerk_move_0 22 rfl) rfl ?_
        refine gw_iload_n (gc k_Clerk_move_0 23 rfl) rfl ?_
        refine gw_iastF (gc k_Clerk_move_0 24 rfl) (gAt hx rfl rfl) (by omega) hf (by rfl) (fun hf => ?_)
        obtain ⟨m, hm2⟩ : ∃ M, M = gup g 3 n p := ⟨_, rfl⟩
        rw [← hm2]
        have hf : gFin m := by rw [hm2]; exact hf
        refine gw_aload_n (gc k_Clerk_move_0 25 rfl) rfl rfl ?_
        refine gw_getref (gc k_Clerk_move_0 26 rfl) fl_Clerk_12 (by first | exact gAt hx rfl rfl | exact (bs hx i1).1 | exact (bs hx i1).2.1 | exact (bs hx i1).2.2.1 | exact (bs hx i1).2.2.2.1) (by first | exact gRf hf rfl rfl | exact (br hf i1).1 | exact (br hf i1).2.1 | exact (br hf i1).2.2.1) ?_
        refine gw_iload (gc k_Clerk_move_0 27 rfl) rfl ?_
        refine gw_iload_n (gc k_Clerk_move_0 28 rfl) rfl ?_
        refine gw_iload (gc k_Clerk_move_0 29 rfl) rfl ?_
        refine gw_xV1 (gc k_Clerk_move_0 30 rfl) y_Trail_keep ln_Clerk_67 (c_Trail_keep hx hf iT (by rw [hm2, gup_a _ _ _ _ _ (by decide), hC.2.2.1]; exact hu) 0 n w) rfl rfl (by first | exact gAt hx rfl rfl | exact (bs hx i1).1 | exact (bs hx i1).2.1 | exact (bs hx i1).2.2.1 | exact (bs hx i1).2.2.2.1) rfl rfl (fun r50 sh2 g50 hq50 => ?_)
        obtain ⟨rfl, hsh, hk⟩ := hq50
        subst sh2
        have hf50 := hk.1.fin iT hf
        have hm41 : m 13 3 = σ.2.2 := by rw [hm2, gup_a _ _ _ _ _ (by decide)]; exact hC.2.2.1
        have hX50 : bdX Λ sh (rPt σ.1 (0 + n) p) g50 1 := by
          refine hk.1.bd ?_
          rw [rPt_0, hm2]
          exact hC.1.her i1 hnn hp
        have hT50 : trI (rPt σ.1 (0 + n) p) (kpF σ.1 σ.2.1 σ.2.2 0) (kpN σ.2.2 + 1) 13 g50 := by
          have hTm : trI σ.1 σ.2.1 σ.2.2 13 m := hC.2.of (fun a k z1 z2 => by rw [hm2, gup_a _ _ _ _ _ (by omega)])
          refine hTm.keep ho hk (by decide) (fun _ => ⟨hnn, by omega⟩) (if_neg (by omega)) (fun y c d => ?_)
          show σ.1 y = if y = n then w else if y = 0 + n then p else σ.1 y
          by_cases e : y = 0 + n
          · rw [if_pos (by omega), hw, e]
          · rw [if_neg (by omega), if_neg e]
        refine gw_iload (gc k_Clerk_move_0 31 rfl) rfl ?_
        refine gw_ireturn (gc k_Clerk_move_0 32 rfl) rfl ?_
        refine ⟨rfl, Or.inr ⟨w, (rPt σ.1 (0 + n) p, kpF σ.1 σ.2.1 σ.2.2 0, kpN σ.2.2 + 1), ?_, rfl, ⟨hX50, hT50⟩, fun a k z1 z2 z3 z4 z5 => ?_, hf50⟩⟩
        · unfold sMv
          rw [if_pos ⟨hp, by omega, fun z => c31 (hw.trans z)⟩, hw]
        · rw [hk.1 a k (by omega) (by omega), hm2, gup_a _ _ _ _ _ (by omega)]
      · refine gw_bipush (gc k_Clerk_move_0 19 rfl) (by decide) ?_
        refine gw_ireturn (gc k_Clerk_move_0 20 rfl) rfl ?_
        refine ⟨rfl, Or.inl ⟨?_, ?_, rfl⟩⟩
        · unfold sMv; rw [if_neg (fun z => z.2.2 (hw.symm.trans c31))]
        · unfold mvE; rw [if_neg (by omega), if_neg (by omega)]
    · refine gw_bipush (gc k_Clerk_move_0 10 rfl) (by decide) ?_
      refine gw_ireturn (gc k_Clerk_move_0 11 rfl) rfl ?_
      refine ⟨rfl, Or.inl ⟨?_, ?_, rfl⟩⟩
      · unfold sMv; rw [if_neg (by omega)]
      · unfold mvE; rw [if_neg (by omega), if_pos (by omega)]
  · refine gw_iconst (gc k_Clerk_move_0 3 rfl) ?_
    refine gw_ireturn (gc k_Clerk_move_0 4 rfl) rfl ?_
    refine ⟨rfl, Or.inl ⟨?_, ?_, rfl⟩⟩
    · unfold sMv; rw [if_neg (by omega)]
    · unfold mvE; rw [if_pos (by omega)]
set_option maxHeartbeats 1000000 in
theorem c_Clerk_moveHere {sh : gS} {g : gM} (hx : gFix sh) (hf : gFin g) {Λ : Int → List PC} {σ : OS} (hC : clI Λ sh σ g) (n p : Int) (hb : (-2147483648 ≤ n ∧ n ≤ 2147483647) ∧ (-2147483648 ≤ p ∧ p ≤ 2147483647)) : gTri f_Clerk_moveHere 6 0 0 [(2, 12), (0, n), (0, p)] sh g (stQ Λ sh g (mvE σ.1 n p) (sMv 0 0 n p σ)) := by
  refine gTri.of (by decide +kernel) rfl ?_
  show gWP f_Clerk_moveHere _ _ _ 0 [(2, 12), (0, n), (0, p)] [] sh g _
  refine gw_aload_n (gc k_Clerk_moveHere_0 0 rfl) rfl rfl ?_
  refine gw_aload_n (gc k_Clerk_moveHere_0 1 rfl) rfl rfl ?_
  refine gw_getref (gc k_Clerk_moveHere_0 2 rfl) fl_Clerk_43 (by first | exact gAt hx rfl rfl | exact (bs hx i1).1 | exact (bs hx i1).2.1 | exact (bs hx i1).2.2.1 | exact (bs hx i1).2.2.2.1) (by first | exact gRf hf rfl rfl | exact (br hf i1).1 | exact (br hf i1).2.1 | exact (br hf i1).2.2.1) ?_
  refine gw_getref (gc k_Clerk_moveHere_0 3 rfl) fl_Clerk_50 (by first | exact gAt hx rfl rfl | exact (bs hx i1).1 | exact (bs hx i1).2.1 | exact (bs hx i1).2.2.1 | exact (bs hx i1).2.2.2.1) (by first | exact gRf hf rfl rfl | exact (br hf i1).1 | exact (br hf i1).2.1 | exact (br hf i1).2.2.1) ?_
  refine gw_iload_n (gc k_Clerk_moveHere_0 4 rfl) rfl ?_
  refine gw_iload_n (gc k_Clerk_moveHere_0 5 rfl) rfl ?_
  refine gw_iconst (gc k_Clerk_moveHere_0 6 rfl) ?_
  refine gw_xV1 (gc k_Clerk_moveHere_0 7 rfl) y_Clerk_move ln_Clerk_53 (c_Clerk_move_her hx hf hC n p hb) rfl rfl (by first | exact gAt hx rfl rfl | exact (bs hx i1).1 | exact (bs hx i1).2.1 | exact (bs hx i1).2.2.1 | exact (bs hx i1).2.2.2.1) rfl rfl (fun r11 sh2 g11 hq11 => ?_)
  obtain ⟨hsh, hQ⟩ := hq11
  subst sh2
  have hr : ∃ v, r11 = some (0, v) := hQ.elim (fun z => ⟨_, z.2.1⟩) (fun ⟨v, _, z⟩ => ⟨v, z.2.1⟩)
  obtain ⟨v, rfl⟩ := hr
  refine gw_ireturn (gc k_Clerk_moveHere_0 8 rfl) rfl ?_
  exact ⟨rfl, hQ⟩
set_option maxHeartbeats 2000000 in
theorem c_Clerk_move_und {sh : gS} {g : gM} (hx : gFix sh) (hf : gFin g) {Λ : Int → List PC} {σ : OS} (hC : clI Λ sh σ g) (n p : Int) (hb : (-2147483648 ≤ n ∧ n ≤ 2147483647) ∧ (-2147483648 ≤ p ∧ p ≤ 2147483647)) : gTri f_Clerk_move 5 0 0 [(2, 12), (2, 2), (0, n), (0, p), (0, 1)] sh g (stQ Λ sh g (mvE σ.1 n p) (sMv 1 12 n p σ)) := by
  have ho := hC.1.1.1
  have hm := ro_many ho
  have h0 := hC.1.nums.1.1
  have hu := hC.2.1
  refine gTri.of (by decide +kernel) rfl ?_
  show gWP f_Clerk_move _ _ _ 0 [(2, 12), (2, 2), (0, n), (0, p), (0, 1), (9, 0)] [] sh g _
  refine gw_iload_n (gc k_Clerk_move_0 0 rfl) rfl ?_
  refine gw_cSN1 (gc k_Clerk_move_0 1 rfl) y_Desk_isPitch ln_Clerk_60 (c_Desk_isPitch p hb.2) rfl rfl rfl rfl ?_
  refine gw_bne (tgt := 9) (gc k_Clerk_move_0 2 rfl) rfl (fun c4 => ?_) (fun c4 => ?_)
  · have hp : 0 ≤ p ∧ p ≤ 24 := by omega
    refine gw_aload_n (gc k_Clerk_move_0 5 rfl) rfl rfl ?_
    refine gw_getref (gc k_Clerk_move_0 6 rfl) fl_Clerk_43 (by first | exact gAt hx rfl rfl | exact (bs hx i1).1 | exact (bs hx i1).2.1 | exact (bs hx i1).2.2.1 | exact (bs hx i1).2.2.2.1) (by first | exact gRf hf rfl rfl | exact (br hf i1).1 | exact (br hf i1).2.1 | exact (br hf i1).2.2.1) ?_
    refine gw_iload_n (gc k_Clerk_move_0 7 rfl) rfl ?_
    refine gw_cV1 (gc k_Clerk_move_0 8 rfl) y_Board_has ln_Clerk_64 (c_Board_has hx hf i1 n hb.1 (by omega)) rfl rfl (by first | exact gAt hx rfl rfl | exact (bs hx i1).1 | exact (bs hx i1).2.1 | exact (bs hx i1).2.2.1 | exact (bs hx i1).2.2.2.1) rfl rfl ?_
    rw [h0]
    refine gw_bne (tgt := 23) (gc k_Clerk_move_0 9 rfl) rfl (fun c17 => ?_) (fun c17 => ?_)
    · have hnn : 0 ≤ n ∧ n < σ.1 41 := by omega
      refine gw_aload_n (gc k_Clerk_move_0 12 rfl) rfl rfl ?_
      refine gw_iload_n (gc k_Clerk_move_0 13 rfl) rfl ?_
      refine gw_iald (gc k_Clerk_move_0 14 rfl) (gAt hx rfl rfl) (by omega) ?_
      obtain ⟨w, hw⟩ : ∃ w, w = σ.1 (12 + n) := ⟨_, rfl⟩
      rw [show g 2 n = w from ((hC.1.note hnn).1.1).trans ((congrArg σ.1 (by omega)).trans hw.symm)]
      have hwb : 0 ≤ w ∧ w ≤ 24 := by rw [hw]; exact ro_pitch ho _ (by omega)
      refine gw_istore_5 (gc k_Clerk_move_0 15 rfl) rfl rfl ?_
      refine gw_iload (gc k_Clerk_move_0 16 rfl) rfl ?_
      refine gw_iload_n (gc k_Clerk_move_0 17 rfl) rfl ?_
      refine gw_icmp_ne (tgt := 37) (gc k_Clerk_move_0 18 rfl) rfl (by omega) (fun c31 => ?_) (fun c31 => ?_)
      · refine gw_aload_n (gc k_Clerk_move_0 21 rfl) rfl rfl ?_
        refine gw_iload_n (gc k_Clerk_move_0 22 rfl) rfl ?_
        refine gw_iload_n (gc k_Clerk_move_0 23 rfl) rfl ?_
        refine gw_iastF (gc k_Clerk_move_0 24 rfl) (gAt hx rfl rfl) (by omega) hf (by rfl) (fun hf => ?_)
        obtain ⟨m, hm2⟩ : ∃ M, M = gup g 2 n p := ⟨_, rfl⟩
        rw [← hm2]
        have hf : gFin m := by rw [hm2]; exact hf
        refine gw_aload_n (gc k_Clerk_move_0 25 rfl) rfl rfl ?_
        refine gw_getref (gc k_Clerk_move_0 26 rfl) fl_Clerk_12 (by first | exact gAt hx rfl rfl | exact (bs hx i1).1 | exact (bs hx i1).2.1 | exact (bs hx i1).2.2.1 | exact (bs hx i1).2.2.2.1) (by first | exact gRf hf rfl rfl | exact (br hf i1).1 | exact (br hf i1).2.1 | exact (br hf i1).2.2.1) ?_
        refine gw_iload (gc k_Clerk_move_0 27 rfl) rfl ?_
        refine gw_iload_n (gc k_Clerk_move_0 28 rfl) rfl ?_
        refine gw_iload (gc k_Clerk_move_0 29 rfl) rfl ?_
        refine gw_xV1 (gc k_Clerk_move_0 30 rfl) y_Trail_keep ln_Clerk_67 (c_Trail_keep hx hf iT (by rw [hm2, gup_a _ _ _ _ _ (by decide), hC.2.2.1]; exact hu) 1 n w) rfl rfl (by first | exact gAt hx rfl rfl | exact (bs hx i1).1 | exact (bs hx i1).2.1 | exact (bs hx i1).2.2.1 | exact (bs hx i1).2.2.2.1) rfl rfl (fun r50 sh2 g50 hq50 => ?_)
        obtain ⟨rfl, hsh, hk⟩ := hq50
        subst sh2
        have hf50 := hk.1.fin iT hf
        have hm41 : m 13 3 = σ.2.2 := by rw [hm2, gup_a _ _ _ _ _ (by decide)]; exact hC.2.2.1
        have hX50 : bdX Λ sh (rPt σ.1 (12 + n) p) g50 1 := by
          refine hk.1.bd ?_
          rw [show rPt σ.1 (12 + n) p = rSh σ.1 n p from rfl, hm2]
          exact hC.1.und i1 hnn hp
        have hT50 : trI (rPt σ.1 (12 + n) p) (kpF σ.1 σ.2.1 σ.2.2 1) (kpN σ.2.2 + 1) 13 g50 := by
          have hTm : trI σ.1 σ.2.1 σ.2.2 13 m := hC.2.of (fun a k z1 z2 => by rw [hm2, gup_a _ _ _ _ _ (by omega)])
          refine hTm.keep ho hk (by decide) (fun _ => ⟨hnn, by omega⟩) (if_neg (by omega)) (fun y c d => ?_)
          show σ.1 y = if y = 12 + n then w else if y = 12 + n then p else σ.1 y
          by_cases e : y = 12 + n
          · rw [if_pos (by omega), hw, e]
          · rw [if_neg (by omega), if_neg e]
        refine gw_iload (gc k_Clerk_move_0 31 rfl) rfl ?_
        refine gw_ireturn (gc k_Clerk_move_0 32 rfl) rfl ?_
        refine ⟨rfl, Or.inr ⟨w, (rPt σ.1 (12 + n) p, kpF σ.1 σ.2.1 σ.2.2 1, kpN σ.2.2 + 1), ?_, rfl, ⟨hX50, hT50⟩, fun a k z1 z2 z3 z4 z5 => ?_, hf50⟩⟩
        · unfold sMv
          rw [if_pos ⟨hp, by omega, fun z => c31 (hw.trans z)⟩, hw]
        · rw [hk.1 a k (by omega) (by omega), hm2, gup_a _ _ _ _ _ (by omega)]
      · refine gw_bipush (gc k_Clerk_move_0 19 rfl) (by decide) ?_
        refine gw_ireturn (gc k_Clerk_move_0 20 rfl) rfl ?_
        refine ⟨rfl, Or.inl ⟨?_, ?_, rfl⟩⟩
        · unfold sMv; rw [if_neg (fun z => z.2.2 (hw.symm.trans c31))]
        · unfold mvE; rw [if_neg (by omega), if_neg (by omega)]
    · refine gw_bipush (gc k_Clerk_move_0 10 rfl) (by decide) ?_
      refine gw_ireturn (gc k_Clerk_move_0 11 rfl) rfl ?_
      refine ⟨rfl, Or.inl ⟨?_, ?_, rfl⟩⟩
      · unfold sMv; rw [if_neg (by omega)]
      · unfold mvE; rw [if_neg (by omega), if_pos (by omega)]
  · refine gw_iconst (gc k_Clerk_move_0 3 rfl) ?_
    refine gw_ireturn (gc k_Clerk_move_0 4 rfl) rfl ?_
    refine ⟨rfl, Or.inl ⟨?_, ?_, rfl⟩⟩
    · unfold sMv; rw [if_neg (by omega)]
    · unfold mvE; rw [if_pos (by omega)]
set_option maxHeartbeats 1000000 in
theorem c_Clerk_moveUnder {sh : gS} {g : gM} (hx : gFix sh) (hf : gFin g) {Λ : Int → List PC} {σ : OS} (hC : clI Λ sh σ g) (n p : Int) (hb : (-2147483648 ≤ n ∧ n ≤ 2147483647) ∧ (-2147483648 ≤ p ∧ p ≤ 2147483647)) : gTri f_Clerk_moveUnder 6 0 0 [(2, 12), (0, n), (0, p)] sh g (stQ Λ sh g (mvE σ.1 n p) (sMv 1 12 n p σ)) := by
  refine gTri.of (by decide +kernel) rfl ?_
  show gWP f_Clerk_moveUnder _ _ _ 0 [(2, 12), (0, n), (0, p)] [] sh g _
  refine gw_aload_n (gc k_Clerk_moveUnder_0 0 rfl) rfl rfl ?_
  refine gw_aload_n (gc k_Clerk_moveUnder_0 1 rfl) rfl rfl ?_
  refine gw_getref (gc k_Clerk_moveUnder_0 2 rfl) fl_Clerk_43 (by first | exact gAt hx rfl rfl | exact (bs hx i1).1 | exact (bs hx i1).2.1 | exact (bs hx i1).2.2.1 | exact (bs hx i1).2.2.2.1) (by first | exact gRf hf rfl rfl | exact (br hf i1).1 | exact (br hf i1).2.1 | exact (br hf i1).2.2.1) ?_
  refine gw_getref (gc k_Clerk_moveUnder_0 3 rfl) fl_Clerk_57 (by first | exact gAt hx rfl rfl | exact (bs hx i1).1 | exact (bs hx i1).2.1 | exact (bs hx i1).2.2.1 | exact (bs hx i1).2.2.2.1) (by first | exact gRf hf rfl rfl | exact (br hf i1).1 | exact (br hf i1).2.1 | exact (br hf i1).2.2.1) ?_
  refine gw_iload_n (gc k_Clerk_moveUnder_0 4 rfl) rfl ?_
  refine gw_iload_n (gc k_Clerk_moveUnder_0 5 rfl) rfl ?_
  refine gw_iconst (gc k_Clerk_moveUnder_0 6 rfl) ?_
  refine gw_xV1 (gc k_Clerk_moveUnder_0 7 rfl) y_Clerk_move ln_Clerk_53 (c_Clerk_move_und hx hf hC n p hb) rfl rfl (by first | exact gAt hx rfl rfl | exact (bs hx i1).1 | exact (bs hx i1).2.1 | exact (bs hx i1).2.2.1 | exact (bs hx i1).2.2.2.1) rfl rfl (fun r11 sh2 g11 hq11 => ?_)
  obtain ⟨hsh, hQ⟩ := hq11
  subst sh2
  have hr : ∃ v, r11 = some (0, v) := hQ.elim (fun z => ⟨_, z.2.1⟩) (fun ⟨v, _, z⟩ => ⟨v, z.2.1⟩)
  obtain ⟨v, rfl⟩ := hr
  refine gw_ireturn (gc k_Clerk_moveUnder_0 8 rfl) rfl ?_
  exact ⟨rfl, hQ⟩
set_option maxHeartbeats 2000000 in
theorem c_Clerk_exchange {sh : gS} {g : gM} (hx : gFix sh) (hf : gFin g) {Λ : Int → List PC} {σ : OS} (hC : clI Λ sh σ g) : gTri f_Clerk_exchange 5 0 0 [(2, 12)] sh g (stQ Λ sh g (-3) (sSw σ)) := by
  have ho := hC.1.1.1
  have hm := ro_many ho
  have h0 := hC.1.nums.1.1
  have hu := hC.2.1
  refine gTri.of (by decide +kernel) rfl ?_
  show gWP f_Clerk_exchange _ _ _ 0 [(2, 12)] [] sh g _
  refine gw_aload_n (gc k_Clerk_exchange_0 0 rfl) rfl rfl ?_
  refine gw_getref (gc k_Clerk_exchange_0 1 rfl) fl_Clerk_43 (by first | exact gAt hx rfl rfl | exact (bs hx i1).1 | exact (bs hx i1).2.1 | exact (bs hx i1).2.2.1 | exact (bs hx i1).2.2.2.1) (by first | exact gRf hf rfl rfl | exact (br hf i1).1 | exact (br hf i1).2.1 | exact (br hf i1).2.2.1) ?_
  refine gw_getf 0 rfl (gc k_Clerk_exchange_0 2 rfl) fl_Clerk_71 (by first | exact gAt hx rfl rfl | exact (bs hx i1).1 | exact (bs hx i1).2.1 | exact (bs hx i1).2.2.1 | exact (bs hx i1).2.2.2.1) ?_
  rw [h0]
  refine gw_if_ne (tgt := 13) (gc k_Clerk_exchange_0 3 rfl) rfl (by omega) (fun c7 => ?_) (fun c7 => ?_)
  · refine gw_aload_n (gc k_Clerk_exchange_0 6 rfl) rfl rfl ?_
    refine gw_getref (gc k_Clerk_exchange_0 7 rfl) fl_Clerk_43 (by first | exact gAt hx rfl rfl | exact (bs hx i1).1 | exact (bs hx i1).2.1 | exact (bs hx i1).2.2.1 | exact (bs hx i1).2.2.2.1) (by first | exact gRf hf rfl rfl | exact (br hf i1).1 | exact (br hf i1).2.1 | exact (br hf i1).2.2.1) ?_
    refine gw_cV0 (gc k_Clerk_exchange_0 8 rfl) y_Board_exchangeAll ln_Clerk_74 (c_Board_exchangeAll hx hf i1 (by omega)) rfl rfl (by first | exact gAt hx rfl rfl | exact (bs hx i1).1 | exact (bs hx i1).2.1 | exact (bs hx i1).2.2.1 | exact (bs hx i1).2.2.2.1) rfl rfl ?_
    obtain ⟨m, hm2⟩ : ∃ M, M = gfr (gfr g (1 + 1) (fun y => if 0 ≤ y ∧ y < g 1 0 then g (1 + 2) y else g (1 + 1) y)) (1 + 2) (fun y => if 0 ≤ y ∧ y < g 1 0 then g (1 + 1) y else g (1 + 2) y) := ⟨_, rfl⟩
    rw [← hm2]
    have hf : gFin m := by rw [hm2]; exact (hf.fr (fun _ => rfl)).fr (fun _ => rfl)
    have hXm : bdX Λ sh (exF σ.1 (σ.1 41)) m 1 := by rw [hm2]; exact hC.1.exc i1
    have hFm : ∀ a k, a ≠ 2 → a ≠ 3 → m a k = g a k := fun a k z1 z2 => by rw [hm2, gfr_fn _ _ _ (by omega), gfr_fn _ _ _ (by omega)]
    have hTm : trI σ.1 σ.2.1 σ.2.2 13 m := hC.2.of (fun a k z1 z2 => hFm a k (by omega) (by omega))
    refine gw_aload_n (gc k_Clerk_exchange_0 9 rfl) rfl rfl ?_
    refine gw_getref (gc k_Clerk_exchange_0 10 rfl) fl_Clerk_12 (by first | exact gAt hx rfl rfl | exact (bs hx i1).1 | exact (bs hx i1).2.1 | exact (bs hx i1).2.2.1 | exact (bs hx i1).2.2.2.1) (by first | exact gRf hf rfl rfl | exact (br hf i1).1 | exact (br hf i1).2.1 | exact (br hf i1).2.2.1) ?_
    refine gw_iconst (gc k_Clerk_exchange_0 11 rfl) ?_
    refine gw_iconst (gc k_Clerk_exchange_0 12 rfl) ?_
    refine gw_iconst (gc k_Clerk_exchange_0 13 rfl) ?_
    refine gw_xV1 (gc k_Clerk_exchange_0 14 rfl) y_Trail_keep ln_Clerk_67 (c_Trail_keep hx hf iT (by rw [hTm.2.1]; exact hu) 2 0 0) rfl rfl (by first | exact gAt hx rfl rfl | exact (bs hx i1).1 | exact (bs hx i1).2.1 | exact (bs hx i1).2.2.1 | exact (bs hx i1).2.2.2.1) rfl rfl (fun r27 sh2 g27 hq27 => ?_)
    obtain ⟨rfl, hsh, hk⟩ := hq27
    subst sh2
    have hfk := hk.1.fin iT hf
    have hf := hfk
    have hXk : bdX Λ sh (exF σ.1 (σ.1 41)) g27 1 := hk.1.bd hXm
    have hTk : trI (exF σ.1 (σ.1 41)) (kpF σ.1 σ.2.1 σ.2.2 2) (kpN σ.2.2 + 1) 13 g27 := by
      refine hTm.keep ho hk (by decide) (fun z => absurd z (by decide)) (exF_low σ.1 hm 41 (by omega)) (fun y c d => ?_)
      exact (exF_2 hm y).symm
    refine gw_aload_n (gc k_Clerk_exchange_0 15 rfl) rfl rfl ?_
    refine gw_getref (gc k_Clerk_exchange_0 16 rfl) fl_Clerk_43 (by first | exact gAt hx rfl rfl | exact (bs hx i1).1 | exact (bs hx i1).2.1 | exact (bs hx i1).2.2.1 | exact (bs hx i1).2.2.2.1) (by first | exact gRf hf rfl rfl | exact (br hf i1).1 | exact (br hf i1).2.1 | exact (br hf i1).2.2.1) ?_
    refine gw_getf 0 rfl (gc k_Clerk_exchange_0 17 rfl) fl_Clerk_71 (by first | exact gAt hx rfl rfl | exact (bs hx i1).1 | exact (bs hx i1).2.1 | exact (bs hx i1).2.2.1 | exact (bs hx i1).2.2.2.1) ?_
    rw [hXk.nums.1.1, exF_low σ.1 hm 41 (by omega)]
    refine gw_ireturn (gc k_Clerk_exchange_0 18 rfl) rfl ?_
    refine ⟨rfl, Or.inr ⟨_, (exF σ.1 (σ.1 41), kpF σ.1 σ.2.1 σ.2.2 2, kpN σ.2.2 + 1), ?_, rfl, ⟨hXk, hTk⟩, fun a k z1 z2 z3 z4 z5 => ?_, hfk⟩⟩
    · unfold sSw; rw [if_neg (by omega)]
    · rw [hk.1 a k (by omega) (by omega)]; exact hFm a k (by omega) (by omega)
  · refine gw_bipush (gc k_Clerk_exchange_0 4 rfl) (by decide) ?_
    refine gw_ireturn (gc k_Clerk_exchange_0 5 rfl) rfl ?_
    refine ⟨rfl, Or.inl ⟨?_, rfl, rfl⟩⟩
    unfold sSw; rw [if_pos (by omega)]
set_option maxHeartbeats 2000000 in
theorem c_Clerk_nextDay {sh : gS} {g : gM} (hx : gFix sh) (hf : gFin g) {Λ : Int → List PC} {σ : OS} (hC : clI Λ sh σ g) : gTri f_Clerk_nextDay 5 0 0 [(2, 12)] sh g (stQ Λ sh g (-3) (sPs σ)) := by
  have ho := hC.1.1.1
  have hm := ro_many ho
  have hdy := ro_day ho
  have hu := hC.2.1
  have hd0 : g 4 0 = σ.1 24 := hC.1.2.1.2.2.2.2.2.1.1
  have hab := allN_bd2 ho
  refine gTri.of (by decide +kernel) rfl ?_
  show gWP f_Clerk_nextDay _ _ _ 0 [(2, 12), (9, 0)] [] sh g _
  refine gw_aload_n (gc k_Clerk_nextDay_0 0 rfl) rfl rfl ?_
  refine gw_getref (gc k_Clerk_nextDay_0 1 rfl) fl_Clerk_43 (by first | exact gAt hx rfl rfl | exact (bs hx i1).1 | exact (bs hx i1).2.1 | exact (bs hx i1).2.2.1 | exact (bs hx i1).2.2.2.1) (by first | exact gRf hf rfl rfl | exact (br hf i1).1 | exact (br hf i1).2.1 | exact (br hf i1).2.2.1) ?_
  refine gw_getref (gc k_Clerk_nextDay_0 2 rfl) fl_Clerk_77 (by first | exact gAt hx rfl rfl | exact (bs hx i1).1 | exact (bs hx i1).2.1 | exact (bs hx i1).2.2.1 | exact (bs hx i1).2.2.2.1) (by first | exact gRf hf rfl rfl | exact (br hf i1).1 | exact (br hf i1).2.1 | exact (br hf i1).2.2.1) ?_
  refine gw_iconst (gc k_Clerk_nextDay_0 3 rfl) ?_
  refine gw_iald (gc k_Clerk_nextDay_0 4 rfl) (by first | exact gAt hx rfl rfl | exact (bs hx i1).1 | exact (bs hx i1).2.1 | exact (bs hx i1).2.2.1 | exact (bs hx i1).2.2.2.1) (by omega) ?_
  rw [hd0]
  refine gw_sipush (gc k_Clerk_nextDay_0 5 rfl) (by decide) ?_
  refine gw_icmp_lt (tgt := 18) (gc k_Clerk_nextDay_0 6 rfl) rfl (by omega) (fun c12 => ?_) (fun c12 => ?_)
  · refine gw_aload_n (gc k_Clerk_nextDay_0 9 rfl) rfl rfl ?_
    refine gw_getref (gc k_Clerk_nextDay_0 10 rfl) fl_Clerk_46 (by first | exact gAt hx rfl rfl | exact (bs hx i1).1 | exact (bs hx i1).2.1 | exact (bs hx i1).2.2.1 | exact (bs hx i1).2.2.2.1) (by first | exact gRf hf rfl rfl | exact (br hf i1).1 | exact (br hf i1).2.1 | exact (br hf i1).2.2.1) ?_
    refine gw_aload_n (gc k_Clerk_nextDay_0 11 rfl) rfl rfl ?_
    refine gw_getref (gc k_Clerk_nextDay_0 12 rfl) fl_Clerk_43 (by first | exact gAt hx rfl rfl | exact (bs hx i1).1 | exact (bs hx i1).2.1 | exact (bs hx i1).2.2.1 | exact (bs hx i1).2.2.2.1) (by first | exact gRf hf rfl rfl | exact (br hf i1).1 | exact (br hf i1).2.1 | exact (br hf i1).2.2.1) ?_
    refine gw_iconst (gc k_Clerk_nextDay_0 13 rfl) ?_
    refine gw_xV1 (gc k_Clerk_nextDay_0 14 rfl) y_Judge_total ln_Clerk_80 (c_Judge_total hx hf i1 hC.1 2 (by decide)) rfl rfl (by first | exact gAt hx rfl rfl | exact (bs hx i1).1 | exact (bs hx i1).2.1 | exact (bs hx i1).2.2.1 | exact (bs hx i1).2.2.2.1) rfl rfl (fun r27 sh2 g27 hq27 => ?_)
    obtain ⟨rfl, hsh, hj⟩ := hq27
    subst sh2
    have hf := hj.fin hf
    have hd1 : g27 4 0 = σ.1 24 := (hj 4 0 (by decide) (by decide) (by decide)).trans hd0
    refine gw_istore_1 (gc k_Clerk_nextDay_0 15 rfl) rfl rfl ?_
    refine gw_aload_n (gc k_Clerk_nextDay_0 16 rfl) rfl rfl ?_
    refine gw_getref (gc k_Clerk_nextDay_0 17 rfl) fl_Clerk_43 (by first | exact gAt hx rfl rfl | exact (bs hx i1).1 | exact (bs hx i1).2.1 | exact (bs hx i1).2.2.1 | exact (bs hx i1).2.2.2.1) (by first | exact gRf hf rfl rfl | exact (br hf i1).1 | exact (br hf i1).2.1 | exact (br hf i1).2.2.1) ?_
    refine gw_getref (gc k_Clerk_nextDay_0 18 rfl) fl_Clerk_77 (by first | exact gAt hx rfl rfl | exact (bs hx i1).1 | exact (bs hx i1).2.1 | exact (bs hx i1).2.2.1 | exact (bs hx i1).2.2.2.1) (by first | exact gRf hf rfl rfl | exact (br hf i1).1 | exact (br hf i1).2.1 | exact (br hf i1).2.2.1) ?_
    refine gw_iconst (gc k_Clerk_nextDay_0 19 rfl) ?_
    refine gw_dup2 (gc k_Clerk_nextDay_0 20 rfl) rfl ?_
    refine gw_iald (gc k_Clerk_nextDay_0 21 rfl) (by first | exact gAt hx rfl rfl | exact (bs hx i1).1 | exact (bs hx i1).2.1 | exact (bs hx i1).2.2.1 | exact (bs hx i1).2.2.2.1) (by omega) ?_
    rw [hd1]
    refine gw_iconst (gc k_Clerk_nextDay_0 22 rfl) ?_
    refine gw_iadd (gc k_Clerk_nextDay_0 23 rfl) ?_
    refine gw_iastF (gc k_Clerk_nextDay_0 24 rfl) (by first | exact gAt hx rfl rfl | exact (bs hx i1).1 | exact (bs hx i1).2.1 | exact (bs hx i1).2.2.1 | exact (bs hx i1).2.2.2.1) (by omega) hf (by rfl) (fun hf => ?_)
    obtain ⟨m, hm2⟩ : ∃ M, M = gup g27 4 0 (σ.1 24 + 1) := ⟨_, rfl⟩
    rw [← hm2]
    have hf : gFin m := by rw [hm2]; exact hf
    have hXm : bdX Λ sh (rDa σ.1) m 1 := by rw [hm2]; exact (hC.1.jg i1 hj).day i1 (rDa_ok ho (by omega)) (fun y hy => if_neg hy) (if_pos rfl).symm
    have hTm : trI σ.1 σ.2.1 σ.2.2 13 m := hC.2.of (fun a k z1 z2 => by rw [hm2, gup_a _ _ _ _ _ (by omega)]; exact hj a k (by omega) (by omega) (by omega))
    refine gw_aload_n (gc k_Clerk_nextDay_0 25 rfl) rfl rfl ?_
    refine gw_getref (gc k_Clerk_nextDay_0 26 rfl) fl_Clerk_12 (by first | exact gAt hx rfl rfl | exact (bs hx i1).1 | exact (bs hx i1).2.1 | exact (bs hx i1).2.2.1 | exact (bs hx i1).2.2.2.1) (by first | exact gRf hf rfl rfl | exact (br hf i1).1 | exact (br hf i1).2.1 | exact (br hf i1).2.2.1) ?_
    refine gw_iconst (gc k_Clerk_nextDay_0 27 rfl) ?_
    refine gw_iconst (gc k_Clerk_nextDay_0 28 rfl) ?_
    refine gw_iconst (gc k_Clerk_nextDay_0 29 rfl) ?_
    refine gw_xV1 (gc k_Clerk_nextDay_0 30 rfl) y_Trail_keep ln_Clerk_67 (c_Trail_keep hx hf iT (by rw [hTm.2.1]; exact hu) 3 0 0) rfl rfl (by first | exact gAt hx rfl rfl | exact (bs hx i1).1 | exact (bs hx i1).2.1 | exact (bs hx i1).2.2.1 | exact (bs hx i1).2.2.2.1) rfl rfl (fun r51 sh2 g51 hq51 => ?_)
    obtain ⟨rfl, hsh, hk⟩ := hq51
    subst sh2
    have hfk := hk.1.fin iT hf
    have hf := hfk
    have hXk : bdX Λ sh (rDa σ.1) g51 1 := hk.1.bd hXm
    have hTk : trI (rDa σ.1) (kpF σ.1 σ.2.1 σ.2.2 3) (kpN σ.2.2 + 1) 13 g51 := by
      refine hTm.keep ho hk (by decide) (fun z => absurd z (by decide)) (if_neg (by decide)) (fun y c d => ?_)
      show σ.1 y = if y = 24 then rDa σ.1 24 - 1 else rDa σ.1 y
      by_cases e : y = 24
      · subst e; rw [if_pos rfl, show rDa σ.1 24 = σ.1 24 + 1 from if_pos rfl]; omega
      · rw [if_neg e]; exact (if_neg e).symm
    refine gw_iload_n (gc k_Clerk_nextDay_0 31 rfl) rfl ?_
    refine gw_ireturn (gc k_Clerk_nextDay_0 32 rfl) rfl ?_
    refine ⟨rfl, Or.inr ⟨_, (rDa σ.1, kpF σ.1 σ.2.1 σ.2.2 3, kpN σ.2.2 + 1), ?_, rfl, ⟨hXk, hTk⟩, fun a k z1 z2 z3 z4 z5 => ?_, hfk⟩⟩
    · unfold sPs; rw [if_neg (by omega)]
    · rw [hk.1 a k (by omega) (by omega), hm2, gup_a _ _ _ _ _ (by omega)]; exact hj a k z2 z3 z4
  · refine gw_bipush (gc k_Clerk_nextDay_0 7 rfl) (by decide) ?_
    refine gw_ireturn (gc k_Clerk_nextDay_0 8 rfl) rfl ?_
    refine ⟨rfl, Or.inl ⟨?_, rfl, rfl⟩⟩
    unfold sPs; rw [if_pos (by omega)]
set_option maxHeartbeats 4000000 in
theorem c_Clerk_takeBack {sh : gS} {g : gM} (hx : gFix sh) (hf : gFin g) {Λ : Int → List PC} {σ : OS} (hC : clI Λ sh σ g) : gTri f_Clerk_takeBack 2 0 0 [(2, 12)] sh g (fun x s2 g2 => s2 = sh ∧ ((σ.2.2 = 0 ∧ x = some (0, -3) ∧ g2 = g) ∨ (0 < σ.2.2 ∧ x = some (0, σ.2.1 (26 * (σ.2.2 - 1) + 25)) ∧ clI Λ sh (bkR σ.1 σ.2.1 σ.2.2, σ.2.1, σ.2.2 - 1) g2 ∧ clkF g g2 ∧ gFin g2))) := by
  have ho := hC.1.1.1
  have hm := ro_many ho
  have hdy := ro_day ho
  have hu := hC.2.1
  have h3 : g 13 3 = σ.2.2 := hC.2.2.1
  refine gTri.of (by decide +kernel) rfl ?_
  show gWP f_Clerk_takeBack _ _ _ 0 [(2, 12), (9, 0)] [] sh g _
  refine gw_aload_n (gc k_Clerk_takeBack_0 0 rfl) rfl rfl ?_
  refine gw_getref (gc k_Clerk_takeBack_0 1 rfl) fl_Clerk_12 (by first | exact gAt hx rfl rfl | exact (bs hx i1).1 | exact (bs hx i1).2.1 | exact (bs hx i1).2.2.1 | exact (bs hx i1).2.2.2.1) (by first | exact gRf hf rfl rfl | exact (br hf i1).1 | exact (br hf i1).2.1 | exact (br hf i1).2.2.1) ?_
  refine gw_getf 3 rfl (gc k_Clerk_takeBack_0 2 rfl) fl_Clerk_86 (by first | exact gAt hx rfl rfl | exact (bs hx i1).1 | exact (bs hx i1).2.1 | exact (bs hx i1).2.2.1 | exact (bs hx i1).2.2.2.1) ?_
  rw [h3]
  refine gw_if_gt (tgt := 13) (gc k_Clerk_takeBack_0 3 rfl) rfl (by omega) (fun c7 => ?_) (fun c7 => ?_)
  · refine gw_aload_n (gc k_Clerk_takeBack_0 6 rfl) rfl rfl ?_
    refine gw_getref (gc k_Clerk_takeBack_0 7 rfl) fl_Clerk_12 (by first | exact gAt hx rfl rfl | exact (bs hx i1).1 | exact (bs hx i1).2.1 | exact (bs hx i1).2.2.1 | exact (bs hx i1).2.2.2.1) (by first | exact gRf hf rfl rfl | exact (br hf i1).1 | exact (br hf i1).2.1 | exact (br hf i1).2.2.1) ?_
    refine gw_getf 3 rfl (gc k_Clerk_takeBack_0 8 rfl) fl_Clerk_86 (by first | exact gAt hx rfl rfl | exact (bs hx i1).1 | exact (bs hx i1).2.1 | exact (bs hx i1).2.2.1 | exact (bs hx i1).2.2.2.1) ?_
    rw [h3]
    refine gw_iconst (gc k_Clerk_takeBack_0 9 rfl) ?_
    refine gw_isub (gc k_Clerk_takeBack_0 10 rfl) ?_
    refine gw_istore_1 (gc k_Clerk_takeBack_0 11 rfl) rfl rfl ?_
    refine gw_aload_n (gc k_Clerk_takeBack_0 12 rfl) rfl rfl ?_
    refine gw_getref (gc k_Clerk_takeBack_0 13 rfl) fl_Clerk_12 (by first | exact gAt hx rfl rfl | exact (bs hx i1).1 | exact (bs hx i1).2.1 | exact (bs hx i1).2.2.1 | exact (bs hx i1).2.2.2.1) (by first | exact gRf hf rfl rfl | exact (br hf i1).1 | exact (br hf i1).2.1 | exact (br hf i1).2.2.1) ?_
    refine gw_iload_n (gc k_Clerk_takeBack_0 14 rfl) rfl ?_
    refine gw_putIK 3 rfl (gc k_Clerk_takeBack_0 15 rfl) fl_Clerk_86 (by first | exact gAt hx rfl rfl | exact (bs hx i1).1 | exact (bs hx i1).2.1 | exact (bs hx i1).2.2.1 | exact (bs hx i1).2.2.2.1) hf (by rfl) (fun hf => ?_)
    obtain ⟨m, hme⟩ : ∃ M, M = gup g 13 3 (σ.2.2 - 1) := ⟨_, rfl⟩
    rw [← hme]
    have hf : gFin m := by rw [hme]; exact hf
    have hm0 : ∀ a k, a ≠ 13 → m a k = g a k := fun a k z => by rw [hme, gup_a _ _ _ _ _ z]
    have hm14 : m 14 (σ.2.2 - 1) = g (13 + 1) (σ.2.2 - 1) := hm0 _ _ (by decide)
    have hm15 : m 15 (σ.2.2 - 1) = g (13 + 2) (σ.2.2 - 1) := hm0 _ _ (by decide)
    have hm16 : m 16 (σ.2.2 - 1) = g (13 + 3) (σ.2.2 - 1) := hm0 _ _ (by decide)
    have hq := hC.2.2.2 (σ.2.2 - 1) (by omega) (by omega)
    have hkb : 0 ≤ m 14 (σ.2.2 - 1) ∧ m 14 (σ.2.2 - 1) ≤ 3 := by rw [hm14]; exact hq.1.2
    have hnp : m 14 (σ.2.2 - 1) < 2 → (0 ≤ m 15 (σ.2.2 - 1) ∧ m 15 (σ.2.2 - 1) < σ.1 41) ∧ 0 ≤ m 16 (σ.2.2 - 1) ∧ m 16 (σ.2.2 - 1) ≤ 24 := by rw [hm14, hm15, hm16]; exact hq.2.1
    have hkL : m 14 (σ.2.2 - 1) = σ.2.1 (26 * (σ.2.2 - 1) + 25) := hm14.trans hq.1.1
    have hXm0 : bdX Λ sh σ.1 m 1 := hC.1.of (fun a k z => hm0 a k (by omega))
    have hbk := hC.2.back (g2 := m) ho c7 (by rw [hme, gup_s]) (fun a k z1 z2 => hm0 a k (by omega))
    have hd0 : m 4 0 = σ.1 24 := hXm0.2.1.2.2.2.2.2.1.1
    clear hq
    refine gw_aload_n (gc k_Clerk_takeBack_0 16 rfl) rfl rfl ?_
    refine gw_getref (gc k_Clerk_takeBack_0 17 rfl) fl_Clerk_12 (by first | exact gAt hx rfl rfl | exact (bs hx i1).1 | exact (bs hx i1).2.1 | exact (bs hx i1).2.2.1 | exact (bs hx i1).2.2.2.1) (by first | exact gRf hf rfl rfl | exact (br hf i1).1 | exact (br hf i1).2.1 | exact (br hf i1).2.2.1) ?_
    refine gw_getref (gc k_Clerk_takeBack_0 18 rfl) fl_Clerk_89 (by first | exact gAt hx rfl rfl | exact (bs hx i1).1 | exact (bs hx i1).2.1 | exact (bs hx i1).2.2.1 | exact (bs hx i1).2.2.2.1) (by first | exact gRf hf rfl rfl | exact (br hf i1).1 | exact (br hf i1).2.1 | exact (br hf i1).2.2.1) ?_
    refine gw_iload_n (gc k_Clerk_takeBack_0 19 rfl) rfl ?_
    refine gw_iald (gc k_Clerk_takeBack_0 20 rfl) (by first | exact gAt hx rfl rfl | exact (bs hx i1).1 | exact (bs hx i1).2.1 | exact (bs hx i1).2.2.1 | exact (bs hx i1).2.2.2.1) (by omega) ?_
    rcases (show m 14 (σ.2.2 - 1) = 0 ∨ m 14 (σ.2.2 - 1) = 1 ∨ m 14 (σ.2.2 - 1) = 2 ∨ (m 14 (σ.2.2 - 1) < 0 ∨ 2 < m 14 (σ.2.2 - 1)) by omega) with hs40 | hs40 | hs40 | hs40
    · refine gw_tableIn (tgt := 68) (gc k_Clerk_takeBack_0 21 rfl) (by omega) (by omega) (by rw [hs40]; rfl) rfl ?_
      have hnp := hnp (by omega)
      refine gw_aload_n (gc k_Clerk_takeBack_0 22 rfl) rfl rfl ?_
      refine gw_getref (gc k_Clerk_takeBack_0 23 rfl) fl_Clerk_43 (by first | exact gAt hx rfl rfl | exact (bs hx i1).1 | exact (bs hx i1).2.1 | exact (bs hx i1).2.2.1 | exact (bs hx i1).2.2.2.1) (by first | exact gRf hf rfl rfl | exact (br hf i1).1 | exact (br hf i1).2.1 | exact (br hf i1).2.2.1) ?_
      refine gw_getref (gc k_Clerk_takeBack_0 24 rfl) fl_Clerk_50 (by first | exact gAt hx rfl rfl | exact (bs hx i1).1 | exact (bs hx i1).2.1 | exact (bs hx i1).2.2.1 | exact (bs hx i1).2.2.2.1) (by first | exact gRf hf rfl rfl | exact (br hf i1).1 | exact (br hf i1).2.1 | exact (br hf i1).2.2.1) ?_
      refine gw_aload_n (gc k_Clerk_takeBack_0 25 rfl) rfl rfl ?_
      refine gw_getref (gc k_Clerk_takeBack_0 26 rfl) fl_Clerk_12 (by first | exact gAt hx rfl rfl | exact (bs hx i1).1 | exact (bs hx i1).2.1 | exact (bs hx i1).2.2.1 | exact (bs hx i1).2.2.2.1) (by first | exact gRf hf rfl rfl | exact (br hf i1).1 | exact (br hf i1).2.1 | exact (br hf i1).2.2.1) ?_
      refine gw_getref (gc k_Clerk_takeBack_0 27 rfl) fl_Clerk_92 (by first | exact gAt hx rfl rfl | exact (bs hx i1).1 | exact (bs hx i1).2.1 | exact (bs hx i1).2.2.1 | exact (bs hx i1).2.2.2.1) (by first | exact gRf hf rfl rfl | exact (br hf i1).1 | exact (br hf i1).2.1 | exact (br hf i1).2.2.1) ?_
      refine gw_iload_n (gc k_Clerk_takeBack_0 28 rfl) rfl ?_
      refine gw_iald (gc k_Clerk_takeBack_0 29 rfl) (by first | exact gAt hx rfl rfl | exact (bs hx i1).1 | exact (bs hx i1).2.1 | exact (bs hx i1).2.2.1 | exact (bs hx i1).2.2.2.1) (by omega) ?_
      refine gw_aload_n (gc k_Clerk_takeBack_0 30 rfl) rfl rfl ?_
      refine gw_getref (gc k_Clerk_takeBack_0 31 rfl) fl_Clerk_12 (by first | exact gAt hx rfl rfl | exact (bs hx i1).1 | exact (bs hx i1).2.1 | exact (bs hx i1).2.2.1 | exact (bs hx i1).2.2.2.1) (by first | exact gRf hf rfl rfl | exact (br hf i1).1 | exact (br hf i1).2.1 | exact (br hf i1).2.2.1) ?_
      refine gw_getref (gc k_Clerk_takeBack_0 32 rfl) fl_Clerk_94 (by first | exact gAt hx rfl rfl | exact (bs hx i1).1 | exact (bs hx i1).2.1 | exact (bs hx i1).2.2.1 | exact (bs hx i1).2.2.2.1) (by first | exact gRf hf rfl rfl | exact (br hf i1).1 | exact (br hf i1).2.1 | exact (br hf i1).2.2.1) ?_
      refine gw_iload_n (gc k_Clerk_takeBack_0 33 rfl) rfl ?_
      refine gw_iald (gc k_Clerk_takeBack_0 34 rfl) (by first | exact gAt hx rfl rfl | exact (bs hx i1).1 | exact (bs hx i1).2.1 | exact (bs hx i1).2.2.1 | exact (bs hx i1).2.2.2.1) (by omega) ?_
      refine gw_iastF (gc k_Clerk_takeBack_0 35 rfl) (by first | exact gAt hx rfl rfl | exact (bs hx i1).1 | exact (bs hx i1).2.1 | exact (bs hx i1).2.2.1 | exact (bs hx i1).2.2.2.1) (by omega) hf (by rfl) (fun hf => ?_)
      refine gw_goto (tgt := 149) (gc k_Clerk_takeBack_0 36 rfl) rfl ?_
      obtain ⟨w, hw⟩ : ∃ M, M = gup m 3 (m 15 (σ.2.2 - 1)) (m 16 (σ.2.2 - 1)) := ⟨_, rfl⟩
      show gWP _ _ _ _ _ _ _ _ (gup m 3 (m 15 (σ.2.2 - 1)) (m 16 (σ.2.2 - 1))) _
      rw [← hw]
      have hf : gFin w := by rw [hw]; exact hf
      have hun : bkR σ.1 σ.2.1 σ.2.2 = rHr σ.1 (m 15 (σ.2.2 - 1)) (m 16 (σ.2.2 - 1)) := by
        rw [bkR_un hC.2 hm c7, ← hm15, ← hm16, ← hm14]
        unfold unF; rw [if_pos (by omega)]
        try rfl
      have hXw : bdX Λ sh (bkR σ.1 σ.2.1 σ.2.2) w 1 := by
        rw [hun, hw]
        exact hXm0.her i1 hnp.1 hnp.2
      have hFw : ∀ a k, ¬ (2 ≤ a ∧ a ≤ 4) → w a k = m a k := fun a k z => by rw [hw, gup_a _ _ _ _ _ (by omega)]
      refine gw_aload_n (gc k_Clerk_takeBack_1 25 rfl) rfl rfl ?_
      refine gw_getref (gc k_Clerk_takeBack_1 26 rfl) fl_Clerk_12 (by first | exact gAt hx rfl rfl | exact (bs hx i1).1 | exact (bs hx i1).2.1 | exact (bs hx i1).2.2.1 | exact (bs hx i1).2.2.2.1) (by first | exact gRf hf rfl rfl | exact (br hf i1).1 | exact (br hf i1).2.1 | exact (br hf i1).2.2.1) ?_
      refine gw_getref (gc k_Clerk_takeBack_1 27 rfl) fl_Clerk_89 (by first | exact gAt hx rfl rfl | exact (bs hx i1).1 | exact (bs hx i1).2.1 | exact (bs hx i1).2.2.1 | exact (bs hx i1).2.2.2.1) (by first | exact gRf hf rfl rfl | exact (br hf i1).1 | exact (br hf i1).2.1 | exact (br hf i1).2.2.1) ?_
      refine gw_iload_n (gc k_Clerk_takeBack_1 28 rfl) rfl ?_
      refine gw_iald (gc k_Clerk_takeBack_1 29 rfl) (by first | exact gAt hx rfl rfl | exact (bs hx i1).1 | exact (bs hx i1).2.1 | exact (bs hx i1).2.2.1 | exact (bs hx i1).2.2.2.1) (by omega) ?_
      rw [hFw 14 _ (by decide), hkL]
      refine gw_ireturn (gc k_Clerk_takeBack_1 30 rfl) rfl ?_
      refine ⟨rfl, Or.inr ⟨c7, rfl, ⟨hXw, hbk.1.of (fun a k z1 z2 => hFw a k (by omega))⟩, fun a k z1 z2 z3 z4 z5 => ?_, hf⟩⟩
      rw [hFw a k z1, hm0 a k (by omega)]
    · refine gw_tableIn (tgt := 97) (gc k_Clerk_takeBack_0 21 rfl) (by omega) (by omega) (by rw [hs40]; rfl) rfl ?_
      have hnp := hnp (by omega)
      refine gw_aload_n (gc k_Clerk_takeBack_0 37 rfl) rfl rfl ?_
      refine gw_getref (gc k_Clerk_takeBack_0 38 rfl) fl_Clerk_43 (by first | exact gAt hx rfl rfl | exact (bs hx i1).1 | exact (bs hx i1).2.1 | exact (bs hx i1).2.2.1 | exact (bs hx i1).2.2.2.1) (by first | exact gRf hf rfl rfl | exact (br hf i1).1 | exact (br hf i1).2.1 | exact (br hf i1).2.2.1) ?_
      refine gw_getref (gc k_Clerk_takeBack_0 39 rfl) fl_Clerk_57 (by first | exact gAt hx rfl rfl | exact (bs hx i1).1 | exact (bs hx i1).2.1 | exact (bs hx i1).2.2.1 | exact (bs hx i1).2.2.2.1) (by first | exact gRf hf rfl rfl | exact (br hf i1).1 | exact (br hf i1).2.1 | exact (br hf i1).2.2.1) ?_
      refine gw_aload_n (gc k_Clerk_takeBack_1 0 rfl) rfl rfl ?_
      refine gw_getref (gc k_Clerk_takeBack_1 1 rfl) fl_Clerk_12 (by first | exact gAt hx rfl rfl | exact (bs hx i1).1 | exact (bs hx i1).2.1 | exact (bs hx i1).2.2.1 | exact (bs hx i1).2.2.2.1) (by first | exact gRf hf rfl rfl | exact (br hf i1).1 | exact (br hf i1).2.1 | exact (br hf i1).2.2.1) ?_
      refine gw_getref (gc k_Clerk_takeBack_1 2 rfl) fl_Clerk_92 (by first | exact gAt hx rfl rfl | exact (bs hx i1).1 | exact (bs hx i1).2.1 | exact (bs hx i1).2.2.1 | exact (bs hx i1).2.2.2.1) (by first | exact gRf hf rfl rfl | exact (br hf i1).1 | exact (br hf i1).2.1 | exact (br hf i1).2.2.1) ?_
      refine gw_iload_n (gc k_Clerk_takeBack_1 3 rfl) rfl ?_
      refine gw_iald (gc k_Clerk_takeBack_1 4 rfl) (by first | exact gAt hx rfl rfl | exact (bs hx i1).1 | exact (bs hx i1).2.1 | exact (bs hx i1).2.2.1 | exact (bs hx i1).2.2.2.1) (by omega) ?_
      refine gw_aload_n (gc k_Clerk_takeBack_1 5 rfl) rfl rfl ?_
      refine gw_getref (gc k_Clerk_takeBack_1 6 rfl) fl_Clerk_12 (by first | exact gAt hx rfl rfl | exact (bs hx i1).1 | exact (bs hx i1).2.1 | exact (bs hx i1).2.2.1 | exact (bs hx i1).2.2.2.1) (by first | exact gRf hf rfl rfl | exact (br hf i1).1 | exact (br hf i1).2.1 | exact (br hf i1).2.2.1) ?_
      refine gw_getref (gc k_Clerk_takeBack_1 7 rfl) fl_Clerk_94 (by first | exact gAt hx rfl rfl | exact (bs hx i1).1 | exact (bs hx i1).2.1 | exact (bs hx i1).2.2.1 | exact (bs hx i1).2.2.2.1) (by first | exact gRf hf rfl rfl | exact (br hf i1).1 | exact (br hf i1).2.1 | exact (br hf i1).2.2.1) ?_
      refine gw_iload_n (gc k_Clerk_takeBack_1 8 rfl) rfl ?_
      refine gw_iald (gc k_Clerk_takeBack_1 9 rfl) (by first | exact gAt hx rfl rfl | exact (bs hx i1).1 | exact (bs hx i1).2.1 | exact (bs hx i1).2.2.1 | exact (bs hx i1).2.2.2.1) (by omega) ?_
      refine gw_iastF (gc k_Clerk_takeBack_1 10 rfl) (by first | exact gAt hx rfl rfl | exact (bs hx i1).1 | exact (bs hx i1).2.1 | exact (bs hx i1).2.2.1 | exact (bs hx i1).2.2.2.1) (by omega) hf (by rfl) (fun hf => ?_)
      refine gw_goto (tgt := 149) (gc k_Clerk_takeBack_1 11 rfl) rfl ?_
      obtain ⟨w, hw⟩ : ∃ M, M = gup m 2 (m 15 (σ.2.2 - 1)) (m 16 (σ.2.2 - 1)) := ⟨_, rfl⟩
      show gWP _ _ _ _ _ _ _ _ (gup m 2 (m 15 (σ.2.2 - 1)) (m 16 (σ.2.2 - 1))) _
      rw [← hw]
      have hf : gFin w := by rw [hw]; exact hf
      have hun : bkR σ.1 σ.2.1 σ.2.2 = rSh σ.1 (m 15 (σ.2.2 - 1)) (m 16 (σ.2.2 - 1)) := by
        rw [bkR_un hC.2 hm c7, ← hm15, ← hm16, ← hm14]
        unfold unF; rw [if_neg (by omega), if_pos (by omega)]
        try rfl
      have hXw : bdX Λ sh (bkR σ.1 σ.2.1 σ.2.2) w 1 := by
        rw [hun, hw]
        exact hXm0.und i1 hnp.1 hnp.2
      have hFw : ∀ a k, ¬ (2 ≤ a ∧ a ≤ 4) → w a k = m a k := fun a k z => by rw [hw, gup_a _ _ _ _ _ (by omega)]
      refine gw_aload_n (gc k_Clerk_takeBack_1 25 rfl) rfl rfl ?_
      refine gw_getref (gc k_Clerk_takeBack_1 26 rfl) fl_Clerk_12 (by first | exact gAt hx rfl rfl | exact (bs hx i1).1 | exact (bs hx i1).2.1 | exact (bs hx i1).2.2.1 | exact (bs hx i1).2.2.2.1) (by first | exact gRf hf rfl rfl | exact (br hf i1).1 | exact (br hf i1).2.1 | exact (br hf i1).2.2.1) ?_
      refine gw_getref (gc k_Clerk_takeBack_1 27 rfl) fl_Clerk_89 (by first | exact gAt hx rfl rfl | exact (bs hx i1).1 | exact (bs hx i1).2.1 | exact (bs hx i1).2.2.1 | exact (bs hx i1).2.2.2.1) (by first | exact gRf hf rfl rfl | exact (br hf i1).1 | exact (br hf i1).2.1 | exact (br hf i1).2.2.1) ?_
      refine gw_iload_n (gc k_Clerk_takeBack_1 28 rfl) rfl ?_
      refine gw_iald (gc k_Clerk_takeBack_1 29 rfl) (by first | exact gAt hx rfl rfl | exact (bs hx i1).1 | exact (bs hx i1).2.1 | exact (bs hx i1).2.2.1 | exact (bs hx i1).2.2.2.1) (by omega) ?_
      rw [hFw 14 _ (by decide), hkL]
      refine gw_ireturn (gc k_Clerk_takeBack_1 30 rfl) rfl ?_
      refine ⟨rfl, Or.inr ⟨c7, rfl, ⟨hXw, hbk.1.of (fun a k z1 z2 => hFw a k (by omega))⟩, fun a k z1 z2 z3 z4 z5 => ?_, hf⟩⟩
      rw [hFw a k z1, hm0 a k (by omega)]
    · refine gw_tableIn (tgt := 126) (gc k_Clerk_takeBack_0 21 rfl) (by omega) (by omega) (by rw [hs40]; rfl) rfl ?_
      refine gw_aload_n (gc k_Clerk_takeBack_1 12 rfl) rfl rfl ?_
      refine gw_getref (gc k_Clerk_takeBack_1 13 rfl) fl_Clerk_43 (by first | exact gAt hx rfl rfl | exact (bs hx i1).1 | exact (bs hx i1).2.1 | exact (bs hx i1).2.2.1 | exact (bs hx i1).2.2.2.1) (by first | exact gRf hf rfl rfl | exact (br hf i1).1 | exact (br hf i1).2.1 | exact (br hf i1).2.2.1) ?_
      refine gw_cV0 (gc k_Clerk_takeBack_1 14 rfl) y_Board_exchangeAll ln_Clerk_74 (c_Board_exchangeAll hx hf i1 (by rw [hXm0.nums.1.1]; exact hm)) rfl rfl (by first | exact gAt hx rfl rfl | exact (bs hx i1).1 | exact (bs hx i1).2.1 | exact (bs hx i1).2.2.1 | exact (bs hx i1).2.2.2.1) rfl rfl ?_
      refine gw_goto (tgt := 149) (gc k_Clerk_takeBack_1 15 rfl) rfl ?_
      obtain ⟨w, hw⟩ : ∃ M, M = gfr (gfr m (1 + 1) (fun y => if 0 ≤ y ∧ y < m 1 0 then m (1 + 2) y else m (1 + 1) y)) (1 + 2) (fun y => if 0 ≤ y ∧ y < m 1 0 then m (1 + 1) y else m (1 + 2) y) := ⟨_, rfl⟩
      show gWP _ _ _ _ _ _ _ _ (gfr (gfr m (1 + 1) (fun y => if 0 ≤ y ∧ y < m 1 0 then m (1 + 2) y else m (1 + 1) y)) (1 + 2) (fun y => if 0 ≤ y ∧ y < m 1 0 then m (1 + 1) y else m (1 + 2) y)) _
      rw [← hw]
      have hf : gFin w := by rw [hw]; exact (hf.fr (fun _ => rfl)).fr (fun _ => rfl)
      have hun : bkR σ.1 σ.2.1 σ.2.2 = exF σ.1 (σ.1 41) := by
        rw [bkR_un hC.2 hm c7, ← hm15, ← hm16, ← hm14]
        unfold unF; rw [if_neg (by omega), if_neg (by omega), if_pos (by omega)]
        try rfl
      have hXw : bdX Λ sh (bkR σ.1 σ.2.1 σ.2.2) w 1 := by
        rw [hun, hw]
        exact hXm0.exc i1
      have hFw : ∀ a k, ¬ (2 ≤ a ∧ a ≤ 4) → w a k = m a k := fun a k z => by rw [hw, gfr_fn _ _ _ (by omega), gfr_fn _ _ _ (by omega)]
      refine gw_aload_n (gc k_Clerk_takeBack_1 25 rfl) rfl rfl ?_
      refine gw_getref (gc k_Clerk_takeBack_1 26 rfl) fl_Clerk_12 (by first | exact gAt hx rfl rfl | exact (bs hx i1).1 | exact (bs hx i1).2.1 | exact (bs hx i1).2.2.1 | exact (bs hx i1).2.2.2.1) (by first | exact gRf hf rfl rfl | exact (br hf i1).1 | exact (br hf i1).2.1 | exact (br hf i1).2.2.1) ?_
      refine gw_getref (gc k_Clerk_takeBack_1 27 rfl) fl_Clerk_89 (by first | exact gAt hx rfl rfl | exact (bs hx i1).1 | exact (bs hx i1).2.1 | exact (bs hx i1).2.2.1 | exact (bs hx i1).2.2.2.1) (by first | exact gRf hf rfl rfl | exact (br hf i1).1 | exact (br hf i1).2.1 | exact (br hf i1).2.2.1) ?_
      refine gw_iload_n (gc k_Clerk_takeBack_1 28 rfl) rfl ?_
      refine gw_iald (gc k_Clerk_takeBack_1 29 rfl) (by first | exact gAt hx rfl rfl | exact (bs hx i1).1 | exact (bs hx i1).2.1 | exact (bs hx i1).2.2.1 | exact (bs hx i1).2.2.2.1) (by omega) ?_
      rw [hFw 14 _ (by decide), hkL]
      refine gw_ireturn (gc k_Clerk_takeBack_1 30 rfl) rfl ?_
      refine ⟨rfl, Or.inr ⟨c7, rfl, ⟨hXw, hbk.1.of (fun a k z1 z2 => hFw a k (by omega))⟩, fun a k z1 z2 z3 z4 z5 => ?_, hf⟩⟩
      rw [hFw a k z1, hm0 a k (by omega)]
    · refine gw_tableOut (tgt := 136) (gc k_Clerk_takeBack_0 21 rfl) (by omega) (by omega) rfl ?_
      refine gw_aload_n (gc k_Clerk_takeBack_1 16 rfl) rfl rfl ?_
      refine gw_getref (gc k_Clerk_takeBack_1 17 rfl) fl_Clerk_43 (by first | exact gAt hx rfl rfl | exact (bs hx i1).1 | exact (bs hx i1).2.1 | exact (bs hx i1).2.2.1 | exact (bs hx i1).2.2.2.1) (by first | exact gRf hf rfl rfl | exact (br hf i1).1 | exact (br hf i1).2.1 | exact (br hf i1).2.2.1) ?_
      refine gw_getref (gc k_Clerk_takeBack_1 18 rfl) fl_Clerk_77 (by first | exact gAt hx rfl rfl | exact (bs hx i1).1 | exact (bs hx i1).2.1 | exact (bs hx i1).2.2.1 | exact (bs hx i1).2.2.2.1) (by first | exact gRf hf rfl rfl | exact (br hf i1).1 | exact (br hf i1).2.1 | exact (br hf i1).2.2.1) ?_
      refine gw_iconst (gc k_Clerk_takeBack_1 19 rfl) ?_
      refine gw_dup2 (gc k_Clerk_takeBack_1 20 rfl) rfl ?_
      refine gw_iald (gc k_Clerk_takeBack_1 21 rfl) (by first | exact gAt hx rfl rfl | exact (bs hx i1).1 | exact (bs hx i1).2.1 | exact (bs hx i1).2.2.1 | exact (bs hx i1).2.2.2.1) (by omega) ?_
      rw [hd0]
      refine gw_iconst (gc k_Clerk_takeBack_1 22 rfl) ?_
      refine gw_isub (gc k_Clerk_takeBack_1 23 rfl) ?_
      refine gw_iastF (gc k_Clerk_takeBack_1 24 rfl) (by first | exact gAt hx rfl rfl | exact (bs hx i1).1 | exact (bs hx i1).2.1 | exact (bs hx i1).2.2.1 | exact (bs hx i1).2.2.2.1) (by omega) hf (by rfl) (fun hf => ?_)
      obtain ⟨w, hw⟩ : ∃ M, M = gup m 4 0 (σ.1 24 - 1) := ⟨_, rfl⟩
      show gWP _ _ _ _ _ _ _ _ (gup m 4 0 (σ.1 24 - 1)) _
      rw [← hw]
      have hf : gFin w := by rw [hw]; exact hf
      have hun : bkR σ.1 σ.2.1 σ.2.2 = fun y => if y = 24 then σ.1 24 - 1 else σ.1 y := by
        rw [bkR_un hC.2 hm c7, ← hm15, ← hm16, ← hm14]
        unfold unF; rw [if_neg (by omega), if_neg (by omega), if_neg (by omega)]
        try rfl
      have hXw : bdX Λ sh (bkR σ.1 σ.2.1 σ.2.2) w 1 := by
        rw [hun, hw]
        exact hXm0.day i1 (by rw [← hun]; exact hbk.2.1) (fun y hy => if_neg hy) (if_pos rfl).symm
      have hFw : ∀ a k, ¬ (2 ≤ a ∧ a ≤ 4) → w a k = m a k := fun a k z => by rw [hw, gup_a _ _ _ _ _ (by omega)]
      refine gw_aload_n (gc k_Clerk_takeBack_1 25 rfl) rfl rfl ?_
      refine gw_getref (gc k_Clerk_takeBack_1 26 rfl) fl_Clerk_12 (by first | exact gAt hx rfl rfl | exact (bs hx i1).1 | exact (bs hx i1).2.1 | exact (bs hx i1).2.2.1 | exact (bs hx i1).2.2.2.1) (by first | exact gRf hf rfl rfl | exact (br hf i1).1 | exact (br hf i1).2.1 | exact (br hf i1).2.2.1) ?_
      refine gw_getref (gc k_Clerk_takeBack_1 27 rfl) fl_Clerk_89 (by first | exact gAt hx rfl rfl | exact (bs hx i1).1 | exact (bs hx i1).2.1 | exact (bs hx i1).2.2.1 | exact (bs hx i1).2.2.2.1) (by first | exact gRf hf rfl rfl | exact (br hf i1).1 | exact (br hf i1).2.1 | exact (br hf i1).2.2.1) ?_
      refine gw_iload_n (gc k_Clerk_takeBack_1 28 rfl) rfl ?_
      refine gw_iald (gc k_Clerk_takeBack_1 29 rfl) (by first | exact gAt hx rfl rfl | exact (bs hx i1).1 | exact (bs hx i1).2.1 | exact (bs hx i1).2.2.1 | exact (bs hx i1).2.2.2.1) (by omega) ?_
      rw [hFw 14 _ (by decide), hkL]
      refine gw_ireturn (gc k_Clerk_takeBack_1 30 rfl) rfl ?_
      refine ⟨rfl, Or.inr ⟨c7, rfl, ⟨hXw, hbk.1.of (fun a k z1 z2 => hFw a k (by omega))⟩, fun a k z1 z2 z3 z4 z5 => ?_, hf⟩⟩
      rw [hFw a k z1, hm0 a k (by omega)]
  · refine gw_bipush (gc k_Clerk_takeBack_0 4 rfl) (by decide) ?_
    refine gw_ireturn (gc k_Clerk_takeBack_0 5 rfl) rfl ?_
    exact ⟨rfl, Or.inl ⟨by omega, rfl, rfl⟩⟩
