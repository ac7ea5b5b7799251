/-! ===== the reference reads: the small ones ===== -/
def rdM (g : gM) (p n b : Int) : gM := gup (gup (gup g 177 19 p) 177 20 n) 177 21 b
theorem rdM_19 (g : gM) (p n b : Int) : rdM g p n b 177 19 = p := by unfold rdM; rw [gup_k _ _ _ _ (by decide), gup_k _ _ _ _ (by decide), gup_s]
theorem rdM_20 (g : gM) (p n b : Int) : rdM g p n b 177 20 = n := by unfold rdM; rw [gup_k _ _ _ _ (by decide), gup_s]
theorem rdM_21 (g : gM) (p n b : Int) : rdM g p n b 177 21 = b := gup_s _ _ _ _
theorem rdM_k (g : gM) (p n b : Int) {k : Int} (h1 : k ≠ 19) (h2 : k ≠ 20) (h3 : k ≠ 21) : rdM g p n b 177 k = g 177 k := by unfold rdM; rw [gup_k _ _ _ _ h3, gup_k _ _ _ _ h2, gup_k _ _ _ _ h1]
theorem rdM_fn (g : gM) (p n b : Int) {a : Int} (h : a ≠ 177) : rdM g p n b a = g a := by unfold rdM; rw [gup_fn _ _ _ _ h, gup_fn _ _ _ _ h, gup_fn _ _ _ _ h]
theorem rdM_p (g : gM) (p n b v : Int) : gup (rdM g p n b) 177 19 v = rdM g v n b := by
  funext a k
  unfold rdM gup
  by_cases h : a = 177 <;> by_cases h1 : k = 19 <;> by_cases h2 : k = 20 <;> by_cases h3 : k = 21 <;> simp [h, h1, h2, h3]
theorem rdM_n (g : gM) (p n b v : Int) : gup (rdM g p n b) 177 20 v = rdM g p v b := by
  funext a k
  unfold rdM gup
  by_cases h : a = 177 <;> by_cases h1 : k = 19 <;> by_cases h2 : k = 20 <;> by_cases h3 : k = 21 <;> simp [h, h1, h2, h3]
theorem rdM_b (g : gM) (p n b v : Int) : gup (rdM g p n b) 177 21 v = rdM g p n v := gup_gup _ _ _ _ _
theorem gFin.rd {g : gM} (h : gFin g) (p n b : Int) : gFin (rdM g p n b) := ((h.up rfl).up rfl).up rfl
def RdC (T V P : Int → Int) (o : Bool) (nt : Int) (g : gM) : Prop := (0 ≤ nt ∧ nt ≤ 400) ∧ pOK T nt ∧ (∀ p, 0 ≤ p → p ≤ nt → g 186 p = T p ∧ g 187 p = V p ∧ g 188 p = P p) ∧ (∀ p, 0 ≤ T p ∧ T p ≤ 355) ∧ (∀ p, 0 ≤ p → p ≤ nt → 0 ≤ V p ∧ V p ≤ 20000000) ∧ (∀ p, 0 ≤ p → p ≤ nt → 0 ≤ P p ∧ P p ≤ 400) ∧ g 177 10 = (if o = true then 1 else 0) ∧ g 177 8 = (if o = true then 15 else 8) ∧ g 177 9 = (if o = true then 21 else 17)
/-- a state of reading: fine, at a token that is there -/
def rdG (nt p n b : Int) : Prop := (b = -1 → (0 ≤ p ∧ p ≤ nt) ∧ 0 ≤ n ∧ n ≤ 50) ∧ -1 ≤ b ∧ b ≤ 400
def rdT (nt : Int) (P : Int → Int) (r : PR) (p n b p2 n2 b2 : Int) : Prop := (b ≠ -1 ∧ b2 = b ∧ p2 = p ∧ n2 = n) ∨ (b = -1 ∧ ((∃ e, r = .inl e ∧ b2 = P e ∧ 0 ≤ e ∧ e ≤ nt) ∨ (∃ c s, r = .inr (p2, n2, c, s) ∧ b2 = -1 ∧ (0 ≤ p2 ∧ p2 ≤ nt) ∧ 0 ≤ n2 ∧ n2 ≤ 50)))
theorem rdT.ok {nt : Int} {P : Int → Int} {r : PR} {p n b p2 n2 b2 : Int} (hP : ∀ p, 0 ≤ p → p ≤ nt → 0 ≤ P p ∧ P p ≤ 400) (hG : rdG nt p n b) (h : rdT nt P r p n b p2 n2 b2) : rdG nt p2 n2 b2 := by
  rcases h with ⟨h1, rfl, rfl, rfl⟩ | ⟨h1, ⟨e, -, rfl, h2, h3⟩ | ⟨c, s, -, rfl, h2, h3⟩⟩
  · exact hG
  · have := hP e h2 h3
    exact ⟨fun z => by omega, by omega⟩
  · exact ⟨fun _ => ⟨h2, h3⟩, by omega⟩
/-- the method F reads what f says -/
def RdL (sh : gS) (g : gM) (P : Int → Int) (nt : Int) (F : gF) (d : Nat) (as : List gV) (f : Int → Int → PR) : Prop := ∀ p n b, rdG nt p n b → gTri F d 0 0 as sh (rdM g p n b) (fun x s2 g2 => x = none ∧ s2 = sh ∧ ∃ p2 n2 b2, g2 = rdM g p2 n2 b2 ∧ rdT nt P (f p n) p n b p2 n2 b2)
set_option maxHeartbeats 1000000 in
theorem c_Model_fine {sh : gS} {g : gM} (hx : gFix sh) (hf : gFin g) (p n b : Int) (hb : -1 ≤ b ∧ b ≤ 400) : gTri f_Model_fine 0 0 0 [(2, 177)] sh (rdM g p n b) (gR (some (0, bi (b = -1))) sh (rdM g p n b)) := by
  have hf := hf.rd p n b
  refine gTri.of (by decide +kernel) rfl ?_
  show gWP f_Model_fine _ _ _ 0 [(2, 177)] [] sh (rdM g p n b) _
  refine gw_aload_n (gc k_Model_fine_0 0 rfl) rfl rfl ?_
  refine gw_getf 21 rfl (gc k_Model_fine_0 1 rfl) fl_Model_174 (gAt hx rfl rfl) ?_
  rw [rdM_21]
  refine gw_iconst (gc k_Model_fine_0 2 rfl) ?_
  refine gw_icmp_ne (tgt := 12) (gc k_Model_fine_0 3 rfl) rfl (by omega) (fun c5 => ?_) (fun c5 => ?_)
  · refine gw_iconst (gc k_Model_fine_0 6 rfl) ?_
    refine gw_zreturn (gc k_Model_fine_0 7 rfl) rfl (by omega) ?_
    exact ⟨by first | rw [bi_1 (by omega)] | rw [bi_0 (by omega)], rfl, rfl⟩
  · refine gw_iconst (gc k_Model_fine_0 4 rfl) ?_
    refine gw_goto (tgt := 13) (gc k_Model_fine_0 5 rfl) rfl ?_
    refine gw_zreturn (gc k_Model_fine_0 7 rfl) rfl (by omega) ?_
    exact ⟨by first | rw [bi_1 (by omega)] | rw [bi_0 (by omega)], rfl, rfl⟩
set_option maxHeartbeats 1000000 in
theorem c_Model_faults {sh : gS} {g : gM} (hx : gFix sh) (hf : gFin g) (p n b : Int) {T V P : Int → Int} {o : Bool} {nt : Int} (hR : RdC T V P o nt g) (hG : rdG nt p n b) : gTri f_Model_faults 1 0 0 [(2, 177)] sh (rdM g p n b) (gR none sh (rdM g p n (if b = -1 then P p else b))) := by
  have hf0 := hf
  have hf := hf.rd p n b
  obtain ⟨hn0, hpk, hat, hTb, hVb, hPb, h10, h8, h9⟩ := hR
  have hG1 := hG.1
  have hG2 := hG.2
  have hTp := hTb p
  refine gTri.of (by decide +kernel) rfl ?_
  show gWP f_Model_faults _ _ _ 0 [(2, 177)] [] sh (rdM g p n b) _
  refine gw_aload_n (gc k_Model_faults_0 0 rfl) rfl rfl ?_
  refine gw_cV1 (gc k_Model_faults_0 1 rfl) y_Model_fine ln_Model_177 (c_Model_fine hx hf0 p n b hG2) rfl rfl (gAt hx rfl rfl) rfl rfl ?_
  refine gw_beq (tgt := 20) (gc k_Model_faults_0 2 rfl) rfl (fun c4 => ?_) (fun c4 => ?_)
  · refine gw_return (gc k_Model_faults_0 10 rfl) rfl ?_
    exact ⟨rfl, rfl, by rw [if_neg c4]⟩
  · have h1 := hat p (by omega) (by omega)
    have h2 := hPb p (by omega) (by omega)
    refine gw_aload_n (gc k_Model_faults_0 3 rfl) rfl rfl ?_
    refine gw_aload_n (gc k_Model_faults_0 4 rfl) rfl rfl ?_
    refine gw_getref (gc k_Model_faults_0 5 rfl) fl_Model_60 (gAt hx rfl rfl) (gRf hf rfl rfl) ?_
    refine gw_aload_n (gc k_Model_faults_0 6 rfl) rfl rfl ?_
    refine gw_getf 19 rfl (gc k_Model_faults_0 7 rfl) fl_Model_180 (gAt hx rfl rfl) ?_
    rw [rdM_19]
    refine gw_iald (gc k_Model_faults_0 8 rfl) (gAt hx rfl rfl) (by omega) ?_
    rw [rdM_fn _ _ _ _ (by decide), h1.2.2]
    refine gw_putIK 21 rfl (gc k_Model_faults_0 9 rfl) fl_Model_174 (gAt hx rfl rfl) hf rfl (fun hf => ?_)
    refine gw_return (gc k_Model_faults_0 10 rfl) rfl ?_
    exact ⟨rfl, rfl, by rw [rdM_b, if_pos c4]⟩
set_option maxHeartbeats 1000000 in
theorem c_Model_takes0 {sh : gS} {g : gM} (hx : gFix sh) (hf : gFin g) (p n b : Int) {T V P : Int → Int} {o : Bool} {nt : Int} (hR : RdC T V P o nt g) (hG : rdG nt p n b) (c : Int) (hc : 0 < c ∧ c ≤ 400) : gTri f_Model_takes0 1 0 0 [(2, 177), (0, c)] sh (rdM g p n b) (gR (some (0, bi (b = -1 ∧ T p = c))) sh (rdM g (if b = -1 ∧ T p = c then p + 1 else p) n b)) := by
  have hf0 := hf
  have hf := hf.rd p n b
  obtain ⟨hn0, hpk, hat, hTb, hVb, hPb, h10, h8, h9⟩ := hR
  have hG1 := hG.1
  have hG2 := hG.2
  have hTp := hTb p
  refine gTri.of (by decide +kernel) rfl ?_
  show gWP f_Model_takes0 _ _ _ 0 [(2, 177), (0, c), (9, 0)] [] sh (rdM g p n b) _
  refine gw_join0 25 (fun v => v = bi (b = -1 ∧ T p = c)) (fun v0 hv0 => ?_) (fun kj0 => ?_)
  · subst hv0
    refine gw_istore_2 (gc k_Model_takes0_0 13 rfl) rfl rfl ?_
    refine gw_iload_n (gc k_Model_takes0_0 14 rfl) rfl ?_
    refine gw_beq (tgt := 40) (gc k_Model_takes0_0 15 rfl) rfl (fun c27 => ?_) (fun c27 => ?_)
    · refine gw_iload_n (gc k_Model_takes0_0 22 rfl) rfl ?_
      refine gw_zreturn (gc k_Model_takes0_0 23 rfl) rfl (bi_01 _) ?_
      exact ⟨rfl, rfl, by first | rw [rdM_p, if_pos c27] | rw [if_neg c27]⟩
    · refine gw_aload_n (gc k_Model_takes0_0 16 rfl) rfl rfl ?_
      refine gw_dup (gc k_Model_takes0_0 17 rfl) rfl ?_
      refine gw_getf 19 rfl (gc k_Model_takes0_0 18 rfl) fl_Model_180 (gAt hx rfl rfl) ?_
      rw [rdM_19]
      refine gw_iconst (gc k_Model_takes0_0 19 rfl) ?_
      refine gw_iadd (gc k_Model_takes0_0 20 rfl) ?_
      refine gw_putIK 19 rfl (gc k_Model_takes0_0 21 rfl) fl_Model_180 (gAt hx rfl rfl) hf rfl (fun hf => ?_)
      refine gw_iload_n (gc k_Model_takes0_0 22 rfl) rfl ?_
      refine gw_zreturn (gc k_Model_takes0_0 23 rfl) rfl (bi_01 _) ?_
      exact ⟨rfl, rfl, by first | rw [rdM_p, if_pos c27] | rw [if_neg c27]⟩
  · refine gw_aload_n (gc k_Model_takes0_0 0 rfl) rfl rfl ?_
    refine gw_cV1 (gc k_Model_takes0_0 1 rfl) y_Model_fine ln_Model_177 (c_Model_fine hx hf0 p n b hG2) rfl rfl (gAt hx rfl rfl) rfl rfl ?_
    refine gw_beq (tgt := 24) (gc k_Model_takes0_0 2 rfl) rfl (fun c4 => ?_) (fun c4 => ?_)
    · refine gw_iconst (gc k_Model_takes0_0 12 rfl) ?_
      exact kj0 _ (by first | exact (bi_1 (by omega)).symm | exact (bi_0 (by omega)).symm)
    · have h1 := hat p (by omega) (by omega)
      refine gw_aload_n (gc k_Model_takes0_0 3 rfl) rfl rfl ?_
      refine gw_getref (gc k_Model_takes0_0 4 rfl) fl_Model_54 (gAt hx rfl rfl) (gRf hf rfl rfl) ?_
      refine gw_aload_n (gc k_Model_takes0_0 5 rfl) rfl rfl ?_
      refine gw_getf 19 rfl (gc k_Model_takes0_0 6 rfl) fl_Model_180 (gAt hx rfl rfl) ?_
      rw [rdM_19]
      refine gw_iald (gc k_Model_takes0_0 7 rfl) (gAt hx rfl rfl) (by omega) ?_
      rw [rdM_fn _ _ _ _ (by decide), h1.1]
      refine gw_iload_n (gc k_Model_takes0_0 8 rfl) rfl ?_
      refine gw_icmp_ne (tgt := 24) (gc k_Model_takes0_0 9 rfl) rfl (by omega) (fun c17 => ?_) (fun c17 => ?_)
      · refine gw_iconst (gc k_Model_takes0_0 12 rfl) ?_
        exact kj0 _ (by first | exact (bi_1 (by omega)).symm | exact (bi_0 (by omega)).symm)
      · refine gw_iconst (gc k_Model_takes0_0 10 rfl) ?_
        refine gw_goto (tgt := 25) (gc k_Model_takes0_0 11 rfl) rfl ?_
        exact kj0 _ (by first | exact (bi_1 (by omega)).symm | exact (bi_0 (by omega)).symm)
set_option maxHeartbeats 1000000 in
theorem c_Model_must {sh : gS} {g : gM} (hx : gFix sh) (hf : gFin g) (p n b : Int) {T V P : Int → Int} {o : Bool} {nt : Int} (hR : RdC T V P o nt g) (hG : rdG nt p n b) (c : Int) (hc : 0 < c ∧ c ≤ 400) : gTri f_Model_must 2 0 0 [(2, 177), (0, c)] sh (rdM g p n b) (gR none sh (rdM g (if b = -1 ∧ T p = c then p + 1 else p) n (if b = -1 ∧ ¬ T p = c then P p else b))) := by
  have hR0 := hR
  have hf0 := hf
  have hf := hf.rd p n b
  obtain ⟨hn0, hpk, hat, hTb, hVb, hPb, h10, h8, h9⟩ := hR
  have hG1 := hG.1
  have hG2 := hG.2
  have hTp := hTb p
  refine gTri.of (by decide +kernel) rfl ?_
  show gWP f_Model_must _ _ _ 0 [(2, 177), (0, c)] [] sh (rdM g p n b) _
  refine gw_aload_n (gc k_Model_must_0 0 rfl) rfl rfl ?_
  refine gw_iload_n (gc k_Model_must_0 1 rfl) rfl ?_
  refine gw_cV1 (gc k_Model_must_0 2 rfl) y_Model_takes0 ln_Model_183 (c_Model_takes0 hx hf0 p n b hR0 hG c hc) rfl rfl (gAt hx rfl rfl) rfl rfl ?_
  refine gw_bne (tgt := 12) (gc k_Model_must_0 3 rfl) rfl (fun c5 => ?_) (fun c5 => ?_)
  · refine gw_return (gc k_Model_must_0 6 rfl) rfl ?_
    exact ⟨rfl, rfl, by rw [if_neg (show ¬ (b = -1 ∧ ¬ T p = c) from fun z => z.2 c5.2)]⟩
  · rw [if_neg c5]
    refine gw_aload_n (gc k_Model_must_0 4 rfl) rfl rfl ?_
    refine gw_cV0 (gc k_Model_must_0 5 rfl) y_Model_faults ln_Model_186 (c_Model_faults hx hf0 p n b hR0 hG) rfl rfl (gAt hx rfl rfl) rfl rfl ?_
    refine gw_return (gc k_Model_must_0 6 rfl) rfl ?_
    exact ⟨rfl, rfl, by (by_cases z : b = -1) <;> first | (rw [if_pos z, if_pos ⟨z, fun z2 => c5 ⟨z, z2⟩⟩]) | (rw [if_neg z, if_neg (fun z2 => z z2.1)])⟩
set_option maxHeartbeats 1000000 in
theorem c_Model_leaf {sh : gS} {g : gM} (hx : gFix sh) (hf : gFin g) (p n : Int) {T V P : Int → Int} {o : Bool} {nt : Int} (hR : RdC T V P o nt g) (hG : rdG nt p n (-1)) : gTri f_Model_leaf 2 0 0 [(2, 177)] sh (rdM g p n (-1)) (gR none sh (rdM g (if n = 50 then p else p + 1) (n + 1) (if n = 50 then P p else -1))) := by
  have hR0 := hR
  have hf0 := hf
  have hf := hf.rd p n (-1)
  obtain ⟨hn0, hpk, hat, hTb, hVb, hPb, h10, h8, h9⟩ := hR
  have hG1 := hG.1
  have hG2 := hG.2
  have hTp := hTb p
  refine gTri.of (by decide +kernel) rfl ?_
  show gWP f_Model_leaf _ _ _ 0 [(2, 177)] [] sh (rdM g p n (-1)) _
  refine gw_aload_n (gc k_Model_leaf_0 0 rfl) rfl rfl ?_
  refine gw_getf 20 rfl (gc k_Model_leaf_0 1 rfl) fl_Model_189 (gAt hx rfl rfl) ?_
  rw [rdM_20]
  have hPp := hPb p (by omega) (by omega)
  refine gw_bipush (gc k_Model_leaf_0 2 rfl) (by decide) ?_
  refine gw_icmp_ne (tgt := 13) (gc k_Model_leaf_0 3 rfl) rfl (by omega) (fun c6 => ?_) (fun c6 => ?_)
  · refine gw_aload_n (gc k_Model_leaf_0 6 rfl) rfl rfl ?_
    refine gw_dup (gc k_Model_leaf_0 7 rfl) rfl ?_
    refine gw_getf 20 rfl (gc k_Model_leaf_0 8 rfl) fl_Model_189 (gAt hx rfl rfl) ?_
    rw [rdM_20]
    refine gw_iconst (gc k_Model_leaf_0 9 rfl) ?_
    refine gw_iadd (gc k_Model_leaf_0 10 rfl) ?_
    refine gw_putIK 20 rfl (gc k_Model_leaf_0 11 rfl) fl_Model_189 (gAt hx rfl rfl) hf rfl (fun hf => ?_)
    rw [rdM_n]
    have hf := hf0.rd p (n + 1) (-1)
    have hfb : -1 ≤ (-1 : Int) ∧ (-1 : Int) ≤ 400 := by omega
    refine gw_aload_n (gc k_Model_leaf_0 12 rfl) rfl rfl ?_
    refine gw_xV1 (gc k_Model_leaf_0 13 rfl) y_Model_fine ln_Model_177 (c_Model_fine hx hf0 _ _ _ hfb) rfl rfl (gAt hx rfl rfl) rfl rfl (fun r24 sh2 g24 hq24 => ?_)
    obtain ⟨rfl, rfl, rfl⟩ := hq24
    refine gw_beq (tgt := 40) (gc k_Model_leaf_0 14 rfl) rfl (fun c27 => ?_) (fun c27 => ?_)
    · refine gw_return (gc k_Model_leaf_0 21 rfl) rfl ?_
      exact ⟨rfl, rfl, by first | (exfalso; omega) | (rw [rdM_p, if_neg (by omega), if_neg (by omega)]) | (rw [if_pos (by omega), if_pos (by omega)])⟩
    · refine gw_aload_n (gc k_Model_leaf_0 15 rfl) rfl rfl ?_
      refine gw_dup (gc k_Model_leaf_0 16 rfl) rfl ?_
      refine gw_getf 19 rfl (gc k_Model_leaf_0 17 rfl) fl_Model_180 (gAt hx rfl rfl) ?_
      rw [rdM_19]
      refine gw_iconst (gc k_Model_leaf_0 18 rfl) ?_
      refine gw_iadd (gc k_Model_leaf_0 19 rfl) ?_
      refine gw_putIK 19 rfl (gc k_Model_leaf_0 20 rfl) fl_Model_180 (gAt hx rfl rfl) hf rfl (fun hf => ?_)
      refine gw_return (gc k_Model_leaf_0 21 rfl) rfl ?_
      exact ⟨rfl, rfl, by first | (exfalso; omega) | (rw [rdM_p, if_neg (by omega), if_neg (by omega)]) | (rw [if_pos (by omega), if_pos (by omega)])⟩
  · refine gw_aload_n (gc k_Model_leaf_0 4 rfl) rfl rfl ?_
    refine gw_cV0 (gc k_Model_leaf_0 5 rfl) y_Model_faults ln_Model_186 (c_Model_faults hx hf0 p n (-1) hR0 hG) rfl rfl (gAt hx rfl rfl) rfl rfl ?_
    rw [if_pos rfl]
    have hf := hf0.rd p n (P p)
    refine gw_aload_n (gc k_Model_leaf_0 6 rfl) rfl rfl ?_
    refine gw_dup (gc k_Model_leaf_0 7 rfl) rfl ?_
    refine gw_getf 20 rfl (gc k_Model_leaf_0 8 rfl) fl_Model_189 (gAt hx rfl rfl) ?_
    rw [rdM_20]
    refine gw_iconst (gc k_Model_leaf_0 9 rfl) ?_
    refine gw_iadd (gc k_Model_leaf_0 10 rfl) ?_
    refine gw_putIK 20 rfl (gc k_Model_leaf_0 11 rfl) fl_Model_189 (gAt hx rfl rfl) hf rfl (fun hf => ?_)
    rw [rdM_n]
    have hf := hf0.rd p (n + 1) (P p)
    have hfb : -1 ≤ P p ∧ P p ≤ 400 := by omega
    refine gw_aload_n (gc k_Model_leaf_0 12 rfl) rfl rfl ?_
    refine gw_xV1 (gc k_Model_leaf_0 13 rfl) y_Model_fine ln_Model_177 (c_Model_fine hx hf0 _ _ _ hfb) rfl rfl (gAt hx rfl rfl) rfl rfl (fun r24 sh2 g24 hq24 => ?_)
    obtain ⟨rfl, rfl, rfl⟩ := hq24
    refine gw_beq (tgt := 40) (gc k_Model_leaf_0 14 rfl) rfl (fun c27 => ?_) (fun c27 => ?_)
    · refine gw_return (gc k_Model_leaf_0 21 rfl) rfl ?_
      exact ⟨rfl, rfl, by first | (exfalso; omega) | (rw [rdM_p, if_neg (by omega), if_neg (by omega)]) | (rw [if_pos (by omega), if_pos (by omega)])⟩
    · refine gw_aload_n (gc k_Model_leaf_0 15 rfl) rfl rfl ?_
      refine gw_dup (gc k_Model_leaf_0 16 rfl) rfl ?_
      refine gw_getf 19 rfl (gc k_Model_leaf_0 17 rfl) fl_Model_180 (gAt hx rfl rfl) ?_
      rw [rdM_19]
      refine gw_iconst (gc k_Model_leaf_0 18 rfl) ?_
      refine gw_iadd (gc k_Model_leaf_0 19 rfl) ?_
      refine gw_putIK 19 rfl (gc k_Model_leaf_0 20 rfl) fl_Model_180 (gAt hx rfl rfl) hf rfl (fun hf => ?_)
      refine gw_return (gc k_Model_leaf_0 21 rfl) rfl ?_
      exact ⟨rfl, rfl, by first | (exfalso; omega) | (rw [rdM_p, if_neg (by omega), if_neg (by omega)]) | (rw [if_pos (by omega), if_pos (by omega)])⟩
set_option maxHeartbeats 1000000 in
theorem c_Model_mustNumber {sh : gS} {g : gM} (hx : gFix sh) (hf : gFin g) (p n b : Int) {T V P : Int → Int} {o : Bool} {nt : Int} (hR : RdC T V P o nt g) (hG : rdG nt p n b) (lo hi : Int) (hlh : (0 ≤ lo ∧ lo ≤ 100) ∧ 0 ≤ hi ∧ hi ≤ 100) : gTri f_Model_mustNumber 2 0 0 [(2, 177), (0, lo), (0, hi)] sh (rdM g p n b) (gR none sh (rdM g (if b = -1 ∧ (T p = 50 ∧ lo ≤ V p ∧ V p ≤ hi) then p + 1 else p) n (if b = -1 ∧ ¬ (T p = 50 ∧ lo ≤ V p ∧ V p ≤ hi) then P p else b))) := by
  have hR0 := hR
  have hf0 := hf
  have hf := hf.rd p n b
  obtain ⟨hn0, hpk, hat, hTb, hVb, hPb, h10, h8, h9⟩ := hR
  have hG1 := hG.1
  have hG2 := hG.2
  have hTp := hTb p
  refine gTri.of (by decide +kernel) rfl ?_
  show gWP f_Model_mustNumber _ _ _ 0 [(2, 177), (0, lo), (0, hi)] [] sh (rdM g p n b) _
  refine gw_aload_n (gc k_Model_mustNumber_0 0 rfl) rfl rfl ?_
  refine gw_cV1 (gc k_Model_mustNumber_0 1 rfl) y_Model_fine ln_Model_177 (c_Model_fine hx hf0 p n b hG2) rfl rfl (gAt hx rfl rfl) rfl rfl ?_
  refine gw_beq (tgt := 42) (gc k_Model_mustNumber_0 2 rfl) rfl (fun c4 => ?_) (fun c4 => ?_)
  · have hfb : -1 ≤ b ∧ b ≤ 400 := by omega
    have hf := hf0.rd p n b
    refine gw_aload_n (gc k_Model_mustNumber_0 21 rfl) rfl rfl ?_
    refine gw_xV1 (gc k_Model_mustNumber_0 22 rfl) y_Model_fine ln_Model_177 (c_Model_fine hx hf0 _ _ _ hfb) rfl rfl (gAt hx rfl rfl) rfl rfl (fun r43 sh2 g43 hq43 => ?_)
    obtain ⟨rfl, rfl, rfl⟩ := hq43
    refine gw_beq (tgt := 59) (gc k_Model_mustNumber_0 23 rfl) rfl (fun c46 => ?_) (fun c46 => ?_)
    · refine gw_return (gc k_Model_mustNumber_0 30 rfl) rfl ?_
      exact ⟨rfl, rfl, by first | (exfalso; omega) | (rw [rdM_p, if_pos (by omega), if_neg (by omega)]) | (rw [if_neg (by omega), if_pos (by omega)]) | (rw [if_neg (by omega), if_neg (by omega)])⟩
    · refine gw_aload_n (gc k_Model_mustNumber_0 24 rfl) rfl rfl ?_
      refine gw_dup (gc k_Model_mustNumber_0 25 rfl) rfl ?_
      refine gw_getf 19 rfl (gc k_Model_mustNumber_0 26 rfl) fl_Model_180 (gAt hx rfl rfl) ?_
      rw [rdM_19]
      refine gw_iconst (gc k_Model_mustNumber_0 27 rfl) ?_
      refine gw_iadd (gc k_Model_mustNumber_0 28 rfl) ?_
      refine gw_putIK 19 rfl (gc k_Model_mustNumber_0 29 rfl) fl_Model_180 (gAt hx rfl rfl) hf rfl (fun hf => ?_)
      refine gw_return (gc k_Model_mustNumber_0 30 rfl) rfl ?_
      exact ⟨rfl, rfl, by first | (exfalso; omega) | (rw [rdM_p, if_pos (by omega), if_neg (by omega)]) | (rw [if_neg (by omega), if_pos (by omega)]) | (rw [if_neg (by omega), if_neg (by omega)])⟩
  · have h1 := hat p (by omega) (by omega)
    have h2 := hVb p (by omega) (by omega)
    have h3 := hPb p (by omega) (by omega)
    refine gw_aload_n (gc k_Model_mustNumber_0 3 rfl) rfl rfl ?_
    refine gw_getref (gc k_Model_mustNumber_0 4 rfl) fl_Model_54 (gAt hx rfl rfl) (gRf hf rfl rfl) ?_
    refine gw_aload_n (gc k_Model_mustNumber_0 5 rfl) rfl rfl ?_
    refine gw_getf 19 rfl (gc k_Model_mustNumber_0 6 rfl) fl_Model_180 (gAt hx rfl rfl) ?_
    rw [rdM_19]
    refine gw_iald (gc k_Model_mustNumber_0 7 rfl) (gAt hx rfl rfl) (by omega) ?_
    rw [rdM_fn _ _ _ _ (by decide), h1.1]
    refine gw_bipush (gc k_Model_mustNumber_0 8 rfl) (by decide) ?_
    refine gw_icmp_ne (tgt := 38) (gc k_Model_mustNumber_0 9 rfl) rfl (by omega) (fun c18 => ?_) (fun c18 => ?_)
    · refine gw_aload_n (gc k_Model_mustNumber_0 19 rfl) rfl rfl ?_
      refine gw_cV0 (gc k_Model_mustNumber_0 20 rfl) y_Model_faults ln_Model_186 (c_Model_faults hx hf0 p n b hR0 hG) rfl rfl (gAt hx rfl rfl) rfl rfl ?_
      rw [if_pos c4]
      have hfb : -1 ≤ P p ∧ P p ≤ 400 := by omega
      have hf := hf0.rd p n (P p)
      refine gw_aload_n (gc k_Model_mustNumber_0 21 rfl) rfl rfl ?_
      refine gw_xV1 (gc k_Model_mustNumber_0 22 rfl) y_Model_fine ln_Model_177 (c_Model_fine hx hf0 _ _ _ hfb) rfl rfl (gAt hx rfl rfl) rfl rfl (fun r43 sh2 g43 hq43 => ?_)
      obtain ⟨rfl, rfl, rfl⟩ := hq43
      refine gw_beq (tgt := 59) (gc k_Model_mustNumber_0 23 rfl) rfl (fun c46 => ?_) (fun c46 => ?_)
      · refine gw_return (gc k_Model_mustNumber_0 30 rfl) rfl ?_
        exact ⟨rfl, rfl, by first | (exfalso; omega) | (rw [rdM_p, if_pos (by omega), if_neg (by omega)]) | (rw [if_neg (by omega), if_pos (by omega)]) | (rw [if_neg (by omega), if_neg (by omega)])⟩
      · refine gw_aload_n (gc k_Model_mustNumber_0 24 rfl) rfl rfl ?_
        refine gw_dup (gc k_Model_mustNumber_0 25 rfl) rfl ?_
        refine gw_getf 19 rfl (gc k_Model_mustNumber_0 26 rfl) fl_Model_180 (gAt hx rfl rfl) ?_
        rw [rdM_19]
        refine gw_iconst (gc k_Model_mustNumber_0 27 rfl) ?_
        refine gw_iadd (gc k_Model_mustNumber_0 28 rfl) ?_
        refine gw_putIK 19 rfl (gc k_Model_mustNumber_0 29 rfl) fl_Model_180 (gAt hx rfl rfl) hf rfl (fun hf => ?_)
        refine gw_return (gc k_Model_mustNumber_0 30 rfl) rfl ?_
        exact ⟨rfl, rfl, by first | (exfalso; omega) | (rw [rdM_p, if_pos (by omega), if_neg (by omega)]) | (rw [if_neg (by omega), if_pos (by omega)]) | (rw [if_neg (by omega), if_neg (by omega)])⟩
    · refine gw_aload_n (gc k_Model_mustNumber_0 10 rfl) rfl rfl ?_
      refine gw_getref (gc k_Model_mustNumber_0 11 rfl) fl_Model_57 (gAt hx rfl rfl) (gRf hf rfl rfl) ?_
      refine gw_aload_n (gc k_Model_mustNumber_0 12 rfl) rfl rfl ?_
      refine gw_getf 19 rfl (gc k_Model_mustNumber_0 13 rfl) fl_Model_180 (gAt hx rfl rfl) ?_
      rw [rdM_19]
      refine gw_iald (gc k_Model_mustNumber_0 14 rfl) (gAt hx rfl rfl) (by omega) ?_
      rw [rdM_fn _ _ _ _ (by decide), h1.2.1]
      refine gw_iload_n (gc k_Model_mustNumber_0 15 rfl) rfl ?_
      refine gw_iload_n (gc k_Model_mustNumber_0 16 rfl) rfl ?_
      refine gw_cS1 (gc k_Model_mustNumber_0 17 rfl) y_Model_lies ln_Model_18 (c_Model_lies _ _ _ (by omega)) rfl rfl rfl rfl ?_
      refine gw_bne (tgt := 42) (gc k_Model_mustNumber_0 18 rfl) rfl (fun c35 => ?_) (fun c35 => ?_)
      · have hfb : -1 ≤ b ∧ b ≤ 400 := by omega
        have hf := hf0.rd p n b
        refine gw_aload_n (gc k_Model_mustNumber_0 21 rfl) rfl rfl ?_
        refine gw_xV1 (gc k_Model_mustNumber_0 22 rfl) y_Model_fine ln_Model_177 (c_Model_fine hx hf0 _ _ _ hfb) rfl rfl (gAt hx rfl rfl) rfl rfl (fun r43 sh2 g43 hq43 => ?_)
        obtain ⟨rfl, rfl, rfl⟩ := hq43
        refine gw_beq (tgt := 59) (gc k_Model_mustNumber_0 23 rfl) rfl (fun c46 => ?_) (fun c46 => ?_)
        · refine gw_return (gc k_Model_mustNumber_0 30 rfl) rfl ?_
          exact ⟨rfl, rfl, by first | (exfalso; omega) | (rw [rdM_p, if_pos (by omega), if_neg (by omega)]) | (rw [if_neg (by omega), if_pos (by omega)]) | (rw [if_neg (by omega), if_neg (by omega)])⟩
        · refine gw_aload_n (gc k_Model_mustNumber_0 24 rfl) rfl rfl ?_
          refine gw_dup (gc k_Model_mustNumber_0 25 rfl) rfl ?_
          refine gw_getf 19 rfl (gc k_Model_mustNumber_0 26 rfl) fl_Model_180 (gAt hx rfl rfl) ?_
          rw [rdM_19]
          refine gw_iconst (gc k_Model_mustNumber_0 27 rfl) ?_
          refine gw_iadd (gc k_Model_mustNumber_0 28 rfl) ?_
          refine gw_putIK 19 rfl (gc k_Model_mustNumber_0 29 rfl) fl_Model_180 (gAt hx rfl rfl) hf rfl (fun hf => ?_)
          refine gw_return (gc k_Model_mustNumber_0 30 rfl) rfl ?_
          exact ⟨rfl, rfl, by first | (exfalso; omega) | (rw [rdM_p, if_pos (by omega), if_neg (by omega)]) | (rw [if_neg (by omega), if_pos (by omega)]) | (rw [if_neg (by omega), if_neg (by omega)])⟩
      · refine gw_aload_n (gc k_Model_mustNumber_0 19 rfl) rfl rfl ?_
        refine gw_cV0 (gc k_Model_mustNumber_0 20 rfl) y_Model_faults ln_Model_186 (c_Model_faults hx hf0 p n b hR0 hG) rfl rfl (gAt hx rfl rfl) rfl rfl ?_
        rw [if_pos c4]
        have hfb : -1 ≤ P p ∧ P p ≤ 400 := by omega
        have hf := hf0.rd p n (P p)
        refine gw_aload_n (gc k_Model_mustNumber_0 21 rfl) rfl rfl ?_
        refine gw_xV1 (gc k_Model_mustNumber_0 22 rfl) y_Model_fine ln_Model_177 (c_Model_fine hx hf0 _ _ _ hfb) rfl rfl (gAt hx rfl rfl) rfl rfl (fun r43 sh2 g43 hq43 => ?_)
        obtain ⟨rfl, rfl, rfl⟩ := hq43
        refine gw_beq (tgt := 59) (gc k_Model_mustNumber_0 23 rfl) rfl (fun c46 => ?_) (fun c46 => ?_)
        · refine gw_return (gc k_Model_mustNumber_0 30 rfl) rfl ?_
          exact ⟨rfl, rfl, by first | (exfalso; omega) | (rw [rdM_p, if_pos (by omega), if_neg (by omega)]) | (rw [if_neg (by omega), if_pos (by omega)]) | (rw [if_neg (by omega), if_neg (by omega)])⟩
        · refine gw_aload_n (gc k_Model_mustNumber_0 24 rfl) rfl rfl ?_
          refine gw_dup (gc k_Model_mustNumber_0 25 rfl) rfl ?_
          refine gw_getf 19 rfl (gc k_Model_mustNumber_0 26 rfl) fl_Model_180 (gAt hx rfl rfl) ?_
          rw [rdM_19]
          refine gw_iconst (gc k_Model_mustNumber_0 27 rfl) ?_
          refine gw_iadd (gc k_Model_mustNumber_0 28 rfl) ?_
          refine gw_putIK 19 rfl (gc k_Model_mustNumber_0 29 rfl) fl_Model_180 (gAt hx rfl rfl) hf rfl (fun hf => ?_)
          refine gw_return (gc k_Model_mustNumber_0 30 rfl) rfl ?_
          exact ⟨rfl, rfl, by first | (exfalso; omega) | (rw [rdM_p, if_pos (by omega), if_neg (by omega)]) | (rw [if_neg (by omega), if_pos (by omega)]) | (rw [if_neg (by omega), if_neg (by omega)])⟩
theorem pP_b0 {T V : Int → Int} {o : Bool} {p n : Int} (h : T p = 191) : pPartW T V o none p n = .inl p := if_pos h
theorem pP_be {T V : Int → Int} {o : Bool} {f : Int → Int → PR} {p n e : Int} (h : T p = 191) (hf : f (p + 1) n = .inl e) : pPartW T V o (some f) p n = .inl e := by
  unfold pPartW; rw [if_pos h]; dsimp only; rw [hf]
theorem pP_bi {T V : Int → Int} {o : Bool} {f : Int → Int → PR} {p n p2 n2 : Int} {c : PK} {s : PS} (h : T p = 191) (hf : f (p + 1) n = .inr (p2, n2, c, s)) : pPartW T V o (some f) p n = if T p2 = 193 then .inr (p2 + 1, n2, c, s) else .inl p2 := by
  unfold pPartW; rw [if_pos h]; dsimp only; rw [hf]
theorem pP_full {T V : Int → Int} {o : Bool} {sub : Option (Int → Int → PR)} {p n : Int} (h : ¬ T p = 191) (h2 : 50 ≤ n) : pPartW T V o sub p n = .inl p := by
  unfold pPartW; rw [if_neg h, if_pos h2]
theorem pP_num {T V : Int → Int} {o : Bool} {sub : Option (Int → Int → PR)} {p n : Int} (h : ¬ T p = 191) (h2 : ¬ 50 ≤ n) (h3 : T p = 50 ∧ V p ≤ 1000) : pPartW T V o sub p n = .inr (p + 1, n + 1, [(0, V p)], fun _ => some (V p)) := by
  unfold pPartW; rw [if_neg h, if_neg h2, if_pos h3]
theorem pP_law {T V : Int → Int} {o : Bool} {sub : Option (Int → Int → PR)} {p n : Int} (h : ¬ T p = 191) (h2 : ¬ 50 ≤ n) (h3 : ¬ (T p = 50 ∧ V p ≤ 1000)) (h4 : o = false ∧ 8 ≤ T p ∧ T p ≤ 17) : pPartW T V o sub p n = .inr (p + 1, n + 1, [(1, lwI (T p))], fun w => some (w (lwI (T p)))) := by
  unfold pPartW; rw [if_neg h, if_neg h2, if_neg h3, if_pos h4]
theorem pP_ord {T V : Int → Int} {o : Bool} {sub : Option (Int → Int → PR)} {p n : Int} (h : ¬ T p = 191) (h2 : ¬ 50 ≤ n) (h3 : ¬ (T p = 50 ∧ V p ≤ 1000)) (h4 : o = true ∧ 17 ≤ T p ∧ T p ≤ 21) : pPartW T V o sub p n = .inr (p + 1, n + 1, [(1, T p - 17)], fun w => some (w (T p - 17))) := by
  unfold pPartW; rw [if_neg h, if_neg h2, if_neg h3, if_neg (fun z => by rw [h4.1] at z; cases z.1), if_pos h4]
theorem pP_on {T V : Int → Int} {o : Bool} {sub : Option (Int → Int → PR)} {p n : Int} (h : ¬ T p = 191) (h2 : ¬ 50 ≤ n) (h3 : ¬ (T p = 50 ∧ V p ≤ 1000)) (h4 : o = true) (h5 : T p = 15 ∨ T p = 16) : pPartW T V o sub p n = (if T (p + 1) = 50 ∧ V (p + 1) ≤ 11 then .inr (p + 2, n + 1, [(1, (if T p = 15 then 5 else 17) + V (p + 1))], fun w => some (w ((if T p = 15 then 5 else 17) + V (p + 1)))) else .inl (p + 1)) := by
  unfold pPartW; rw [if_neg h, if_neg h2, if_neg h3, if_neg (fun z => by rw [h4] at z; cases z.1), if_neg (fun z => by omega), if_pos ⟨h4, h5⟩]
theorem pP_no {T V : Int → Int} {o : Bool} {sub : Option (Int → Int → PR)} {p n : Int} (h : ¬ T p = 191) (h3 : ¬ (T p = 50 ∧ V p ≤ 1000)) (h4 : ¬ ((if o = true then 15 else 8) ≤ T p ∧ T p ≤ (if o = true then 21 else 17))) : pPartW T V o sub p n = .inl p := by
  unfold pPartW; rw [if_neg h]
  by_cases h2 : 50 ≤ n
  · rw [if_pos h2]
  · rw [if_neg h2, if_neg h3]
    cases o
    · rw [if_neg (fun z => h4 ⟨z.2.1, z.2.2⟩), if_neg (fun z => by cases z.1), if_neg (fun z => by cases z.1)]
    · rw [if_pos rfl, if_pos rfl] at h4
      rw [if_neg (fun z => by cases z.1), if_neg (fun z => h4 (by omega)), if_neg (fun z => h4 (by omega))]
theorem rd_end {sh : gS} {g : gM} {P : Int → Int} {nt : Int} {r : PR} {p n b p2 n2 b2 : Int} (h : rdT nt P r p n b p2 n2 b2) : (none : Option gV) = none ∧ sh = sh ∧ ∃ p3 n3 b3, rdM g p2 n2 b2 = rdM g p3 n3 b3 ∧ rdT nt P r p n b p3 n3 b3 := ⟨rfl, rfl, p2, n2, b2, rfl, h⟩
theorem rdT.e {nt : Int} {P : Int → Int} {r : PR} {p n p2 n2 e : Int} (h : r = .inl e) (he : 0 ≤ e ∧ e ≤ nt) : rdT nt P r p n (-1) p2 n2 (P e) := Or.inr ⟨rfl, Or.inl ⟨e, h, rfl, he.1, he.2⟩⟩
theorem rdT.i {nt : Int} {P : Int → Int} {r : PR} {p n p2 n2 : Int} {c : PK} {s : PS} (h : r = .inr (p2, n2, c, s)) (h2 : (0 ≤ p2 ∧ p2 ≤ nt) ∧ 0 ≤ n2 ∧ n2 ≤ 50) : rdT nt P r p n (-1) p2 n2 (-1) := Or.inr ⟨rfl, Or.inr ⟨c, s, h, rfl, h2.1, h2.2⟩⟩
set_option maxHeartbeats 4000000 in
theorem rd_part0 {sh : gS} {g : gM} (hx : gFix sh) (hf : gFin g) {T V P : Int → Int} {o : Bool} {nt : Int} (hR : RdC T V P o nt g) {D : Nat} (hD : 3 ≤ D) : RdL sh g P nt f_Model_readPart D [(2, 177), (0, 8)] (pPartW T V o none) := by
  intro p n b hG
  have hR0 := hR
  have hf0 := hf
  have hf := hf.rd p n b
  obtain ⟨hn0, hpk, hat, hTb, hVb, hPb, h10, h8, h9⟩ := hR
  have hG1 := hG.1
  have hG2 := hG.2
  have hTp := hTb p
  refine gTri.of (by decide +kernel) rfl ?_
  show gWP f_Model_readPart _ _ _ 0 [(2, 177), (0, 8), (9, 0)] [] sh (rdM g p n b) _
  refine gw_aload_n (gc k_Model_readPart_0 0 rfl) rfl rfl ?_
  refine gw_cV1 (gc k_Model_readPart_0 1 rfl) y_Model_fine ln_Model_177 (c_Model_fine hx hf0 p n b hG2) rfl rfl (gAt hx rfl rfl) rfl (gble (by omega)) ?_
  refine gw_bne (tgt := 8) (gc k_Model_readPart_0 2 rfl) rfl (fun c4 => ?_) (fun c4 => ?_)
  · have hb1 : b = -1 := c4
    subst hb1
    have hG1 := hG1 rfl
    have h1 := hat p hG1.1.1 hG1.1.2
    have h2 := hVb p hG1.1.1 hG1.1.2
    have h3 := hPb p hG1.1.1 hG1.1.2
    have hb1 : (-1 : Int) = -1 := rfl
    refine gw_aload_n (gc k_Model_readPart_0 4 rfl) rfl rfl ?_
    refine gw_getref (gc k_Model_readPart_0 5 rfl) fl_Model_54 (gAt hx rfl rfl) (gRf hf rfl rfl) ?_
    refine gw_aload_n (gc k_Model_readPart_0 6 rfl) rfl rfl ?_
    refine gw_getf 19 rfl (gc k_Model_readPart_0 7 rfl) fl_Model_180 (gAt hx rfl rfl) ?_
    rw [rdM_19]
    refine gw_iald (gc k_Model_readPart_0 8 rfl) (gAt hx rfl rfl) (by omega) ?_
    rw [rdM_fn _ _ _ _ (by decide), h1.1]
    refine gw_istore_2 (gc k_Model_readPart_0 9 rfl) rfl rfl ?_
    refine gw_iload_n (gc k_Model_readPart_0 10 rfl) rfl ?_
    refine gw_bipush (gc k_Model_readPart_0 11 rfl) (by decide) ?_
    refine gw_cS1 (gc k_Model_readPart_0 12 rfl) y_Model_sign ln_Model_220 (c_Model_sign 91) rfl rfl rfl (gble (by omega)) ?_
    refine gw_icmp_ne (tgt := 74) (gc k_Model_readPart_0 13 rfl) rfl (by omega) (fun c24 => ?_) (fun c24 => ?_)
    · refine gw_iload_n (gc k_Model_readPart_0 39 rfl) rfl ?_
      refine gw_bipush (gc k_Model_readPart_1 0 rfl) (by decide) ?_
      refine gw_icmp_ne (tgt := 95) (gc k_Model_readPart_1 1 rfl) rfl (by omega) (fun c77 => ?_) (fun c77 => ?_)
      · refine gw_iload_n (gc k_Model_readPart_1 9 rfl) rfl ?_
        refine gw_aload_n (gc k_Model_readPart_1 10 rfl) rfl rfl ?_
        refine gw_getf 8 rfl (gc k_Model_readPart_1 11 rfl) fl_Model_230 (gAt hx rfl rfl) ?_
        rw [rdM_k _ _ _ _ (by decide) (by decide) (by decide), h8]
        refine gw_icmp_lt (tgt := 144) (gc k_Model_readPart_1 12 rfl) rfl (by omega) (fun c100 => ?_) (fun c100 => ?_)
        · refine gw_aload_n (gc k_Model_readPart_1 33 rfl) rfl rfl ?_
          refine gw_cV0 (gc k_Model_readPart_1 34 rfl) y_Model_faults ln_Model_186 (c_Model_faults hx hf0 p n (-1) hR0 hG) rfl rfl (gAt hx rfl rfl) rfl (gble (by omega)) ?_
          rw [if_pos rfl]
          refine gw_return (gc k_Model_readPart_1 35 rfl) rfl ?_
          exact rd_end (rdT.e (pP_no (by omega) (by omega) (fun z => by omega)) hG1.1)
        · refine gw_iload_n (gc k_Model_readPart_1 13 rfl) rfl ?_
          refine gw_aload_n (gc k_Model_readPart_1 14 rfl) rfl rfl ?_
          refine gw_getf 9 rfl (gc k_Model_readPart_1 15 rfl) fl_Model_233 (gAt hx rfl rfl) ?_
          rw [rdM_k _ _ _ _ (by decide) (by decide) (by decide), h9]
          refine gw_icmp_gt (tgt := 144) (gc k_Model_readPart_1 16 rfl) rfl (by omega) (fun c108 => ?_) (fun c108 => ?_)
          · refine gw_aload_n (gc k_Model_readPart_1 33 rfl) rfl rfl ?_
            refine gw_cV0 (gc k_Model_readPart_1 34 rfl) y_Model_faults ln_Model_186 (c_Model_faults hx hf0 p n (-1) hR0 hG) rfl rfl (gAt hx rfl rfl) rfl (gble (by omega)) ?_
            rw [if_pos rfl]
            refine gw_return (gc k_Model_readPart_1 35 rfl) rfl ?_
            exact rd_end (rdT.e (pP_no (by omega) (by omega) (fun z => by omega)) hG1.1)
          · refine gw_aload_n (gc k_Model_readPart_1 17 rfl) rfl rfl ?_
            refine gw_cV0 (gc k_Model_readPart_1 18 rfl) y_Model_leaf ln_Model_236 (c_Model_leaf hx hf0 p n hR0 hG) rfl rfl (gAt hx rfl rfl) rfl (gble (by omega)) ?_
            refine gw_aload_n (gc k_Model_readPart_1 19 rfl) rfl rfl ?_
            refine gw_getf 10 rfl (gc k_Model_readPart_1 20 rfl) fl_Model_204 (gAt hx rfl rfl) ?_
            rw [rdM_k _ _ _ _ (by decide) (by decide) (by decide), h10]
            refine gw_if_eq (tgt := 148) (gc k_Model_readPart_1 21 rfl) rfl (by omega) (fun c119 => ?_) (fun c119 => ?_)
            · refine gw_return (gc k_Model_readPart_1 35 rfl) rfl ?_
              have hpn := hpk p (by omega)
              by_cases z : n = 50
              · rw [if_pos z, if_pos z]
                exact rd_end (rdT.e (pP_full (by omega) (by omega)) (by omega))
              · rw [if_neg z, if_neg z]
                by_cases z2 : T p = 50 ∧ V p ≤ 1000
                · exact rd_end (rdT.i (pP_num (by omega) (by omega) z2) (by omega))
                · cases o with
                  | false =>
                    have q1 : (if false = true then (15 : Int) else 8) = 8 := rfl
                    have q2 : (if false = true then (21 : Int) else 17) = 17 := rfl
                    rw [q1] at h8; rw [q2] at h9
                    exact rd_end (rdT.i (pP_law (by omega) (by omega) z2 ⟨rfl, by first | (rw [q1, q2] at *; omega) | omega⟩) (by omega))
                  | true =>
                    have q1 : (if true = true then (15 : Int) else 8) = 15 := rfl
                    have q2 : (if true = true then (21 : Int) else 17) = 21 := rfl
                    first | exact absurd c119 (by decide) | exact rd_end (rdT.i (pP_ord (by omega) (by omega) z2 ⟨rfl, by first | (rw [q1, q2] at *; omega) | omega⟩) (by omega))
            · refine gw_iload_n (gc k_Model_readPart_1 22 rfl) rfl ?_
              refine gw_bipush (gc k_Model_readPart_1 23 rfl) (by decide) ?_
              refine gw_icmp_eq (tgt := 134) (gc k_Model_readPart_1 24 rfl) rfl (by omega) (fun c125 => ?_) (fun c125 => ?_)
              · have hot : o = true := Decidable.byContradiction fun z => c119 (if_neg z)
                have hpn := hpk p (by omega)
                have hGl : rdG nt (if n = 50 then p else p + 1) (n + 1) (if n = 50 then P p else -1) := by
                  unfold rdG
                  by_cases z : n = 50
                  · rw [if_pos z, if_pos z]; omega
                  · rw [if_neg z, if_neg z]; omega
                refine gw_aload_n (gc k_Model_readPart_1 28 rfl) rfl rfl ?_
                refine gw_iconst (gc k_Model_readPart_1 29 rfl) ?_
                refine gw_bipush (gc k_Model_readPart_1 30 rfl) (by decide) ?_
                refine gw_cV0 (gc k_Model_readPart_1 31 rfl) y_Model_mustNumber ln_Model_201 (c_Model_mustNumber hx hf0 _ _ _ hR0 hGl 0 11 (by omega)) rfl rfl (gAt hx rfl rfl) rfl (gble (by omega)) ?_
                refine gw_goto (tgt := 148) (gc k_Model_readPart_1 32 rfl) rfl ?_
                refine gw_return (gc k_Model_readPart_1 35 rfl) rfl ?_
                subst hot
                by_cases z : n = 50
                · rw [if_pos z, if_pos z, if_neg (by omega), if_neg (by omega)]
                  exact rd_end (rdT.e (pP_full (by omega) (by omega)) (by omega))
                · rw [if_neg z, if_neg z]
                  have hon := pP_on (T := T) (V := V) (o := true) (sub := none) (p := p) (n := n) (by omega) (by omega) (by omega) rfl (by omega)
                  have hv1 := hVb (p + 1) (by omega) (by omega)
                  by_cases z3 : T (p + 1) = 50 ∧ V (p + 1) ≤ 11
                  · have hpn2 := hpk (p + 1) (by omega)
                    rw [if_pos z3] at hon
                    rw [if_pos ⟨rfl, z3.1, hv1.1, z3.2⟩, if_neg (fun q => q.2 ⟨z3.1, hv1.1, z3.2⟩), show p + 1 + 1 = p + 2 by omega]
                    exact rd_end (rdT.i hon (by omega))
                  · rw [if_neg z3] at hon
                    rw [if_neg (fun q => z3 ⟨q.2.1, q.2.2.2⟩), if_pos ⟨rfl, fun q => z3 ⟨q.1, q.2.2⟩⟩]
                    exact rd_end (rdT.e hon (by omega))
              · refine gw_iload_n (gc k_Model_readPart_1 25 rfl) rfl ?_
                refine gw_bipush (gc k_Model_readPart_1 26 rfl) (by decide) ?_
                refine gw_icmp_ne (tgt := 148) (gc k_Model_readPart_1 27 rfl) rfl (by omega) (fun c131 => ?_) (fun c131 => ?_)
                · refine gw_return (gc k_Model_readPart_1 35 rfl) rfl ?_
                  have hpn := hpk p (by omega)
                  by_cases z : n = 50
                  · rw [if_pos z, if_pos z]
                    exact rd_end (rdT.e (pP_full (by omega) (by omega)) (by omega))
                  · rw [if_neg z, if_neg z]
                    by_cases z2 : T p = 50 ∧ V p ≤ 1000
                    · exact rd_end (rdT.i (pP_num (by omega) (by omega) z2) (by omega))
                    · cases o with
                      | false =>
                        have q1 : (if false = true then (15 : Int) else 8) = 8 := rfl
                        have q2 : (if false = true then (21 : Int) else 17) = 17 := rfl
                        rw [q1] at h8; rw [q2] at h9
                        exact rd_end (rdT.i (pP_law (by omega) (by omega) z2 ⟨rfl, by first | (rw [q1, q2] at *; omega) | omega⟩) (by omega))
                      | true =>
                        have q1 : (if true = true then (15 : Int) else 8) = 15 := rfl
                        have q2 : (if true = true then (21 : Int) else 17) = 21 := rfl
                        first | exact absurd c119 (by decide) | exact rd_end (rdT.i (pP_ord (by omega) (by omega) z2 ⟨rfl, by first | (rw [q1, q2] at *; omega) | omega⟩) (by omega))
                · have hot : o = true := Decidable.byContradiction fun z => c119 (if_neg z)
                  have hpn := hpk p (by omega)
                  have hGl : rdG nt (if n = 50 then p else p + 1) (n + 1) (if n = 50 then P p else -1) := by
                    unfold rdG
                    by_cases z : n = 50
                    · rw [if_pos z, if_pos z]; omega
                    · rw [if_neg z, if_neg z]; omega
                  refine gw_aload_n (gc k_Model_readPart_1 28 rfl) rfl rfl ?_
                  refine gw_iconst (gc k_Model_readPart_1 29 rfl) ?_
                  refine gw_bipush (gc k_Model_readPart_1 30 rfl) (by decide) ?_
                  refine gw_cV0 (gc k_Model_readPart_1 31 rfl) y_Model_mustNumber ln_Model_201 (c_Model_mustNumber hx hf0 _ _ _ hR0 hGl 0 11 (by omega)) rfl rfl (gAt hx rfl rfl) rfl (gble (by omega)) ?_
                  refine gw_goto (tgt := 148) (gc k_Model_readPart_1 32 rfl) rfl ?_
                  refine gw_return (gc k_Model_readPart_1 35 rfl) rfl ?_
                  subst hot
                  by_cases z : n = 50
                  · rw [if_pos z, if_pos z, if_neg (by omega), if_neg (by omega)]
                    exact rd_end (rdT.e (pP_full (by omega) (by omega)) (by omega))
                  · rw [if_neg z, if_neg z]
                    have hon := pP_on (T := T) (V := V) (o := true) (sub := none) (p := p) (n := n) (by omega) (by omega) (by omega) rfl (by omega)
                    have hv1 := hVb (p + 1) (by omega) (by omega)
                    by_cases z3 : T (p + 1) = 50 ∧ V (p + 1) ≤ 11
                    · have hpn2 := hpk (p + 1) (by omega)
                      rw [if_pos z3] at hon
                      rw [if_pos ⟨rfl, z3.1, hv1.1, z3.2⟩, if_neg (fun q => q.2 ⟨z3.1, hv1.1, z3.2⟩), show p + 1 + 1 = p + 2 by omega]
                      exact rd_end (rdT.i hon (by omega))
                    · rw [if_neg z3] at hon
                      rw [if_neg (fun q => z3 ⟨q.2.1, q.2.2.2⟩), if_pos ⟨rfl, fun q => z3 ⟨q.1, q.2.2⟩⟩]
                      exact rd_end (rdT.e hon (by omega))
      · refine gw_aload_n (gc k_Model_readPart_1 2 rfl) rfl rfl ?_
        refine gw_getref (gc k_Model_readPart_1 3 rfl) fl_Model_57 (gAt hx rfl rfl) (gRf hf rfl rfl) ?_
        refine gw_aload_n (gc k_Model_readPart_1 4 rfl) rfl rfl ?_
        refine gw_getf 19 rfl (gc k_Model_readPart_1 5 rfl) fl_Model_180 (gAt hx rfl rfl) ?_
        rw [rdM_19]
        refine gw_iald (gc k_Model_readPart_1 6 rfl) (gAt hx rfl rfl) (by omega) ?_
        rw [rdM_fn _ _ _ _ (by decide), h1.2.1]
        refine gw_sipush (gc k_Model_readPart_1 7 rfl) (by decide) ?_
        refine gw_icmp_le (tgt := 111) (gc k_Model_readPart_1 8 rfl) rfl (by omega) (fun c92 => ?_) (fun c92 => ?_)
        · refine gw_aload_n (gc k_Model_readPart_1 17 rfl) rfl rfl ?_
          refine gw_cV0 (gc k_Model_readPart_1 18 rfl) y_Model_leaf ln_Model_236 (c_Model_leaf hx hf0 p n hR0 hG) rfl rfl (gAt hx rfl rfl) rfl (gble (by omega)) ?_
          refine gw_aload_n (gc k_Model_readPart_1 19 rfl) rfl rfl ?_
          refine gw_getf 10 rfl (gc k_Model_readPart_1 20 rfl) fl_Model_204 (gAt hx rfl rfl) ?_
          rw [rdM_k _ _ _ _ (by decide) (by decide) (by decide), h10]
          refine gw_if_eq (tgt := 148) (gc k_Model_readPart_1 21 rfl) rfl (by omega) (fun c119 => ?_) (fun c119 => ?_)
          · refine gw_return (gc k_Model_readPart_1 35 rfl) rfl ?_
            have hpn := hpk p (by omega)
            by_cases z : n = 50
            · rw [if_pos z, if_pos z]
              exact rd_end (rdT.e (pP_full (by omega) (by omega)) (by omega))
            · rw [if_neg z, if_neg z]
              by_cases z2 : T p = 50 ∧ V p ≤ 1000
              · exact rd_end (rdT.i (pP_num (by omega) (by omega) z2) (by omega))
              · cases o with
                | false =>
                  have q1 : (if false = true then (15 : Int) else 8) = 8 := rfl
                  have q2 : (if false = true then (21 : Int) else 17) = 17 := rfl
                  rw [q1] at h8; rw [q2] at h9
                  exact rd_end (rdT.i (pP_law (by omega) (by omega) z2 ⟨rfl, by first | (rw [q1, q2] at *; omega) | omega⟩) (by omega))
                | true =>
                  have q1 : (if true = true then (15 : Int) else 8) = 15 := rfl
                  have q2 : (if true = true then (21 : Int) else 17) = 21 := rfl
                  first | exact absurd c119 (by decide) | exact rd_end (rdT.i (pP_ord (by omega) (by omega) z2 ⟨rfl, by first | (rw [q1, q2] at *; omega) | omega⟩) (by omega))
          · refine gw_iload_n (gc k_Model_readPart_1 22 rfl) rfl ?_
            refine gw_bipush (gc k_Model_readPart_1 23 rfl) (by decide) ?_
            refine gw_icmp_eq (tgt := 134) (gc k_Model_readPart_1 24 rfl) rfl (by omega) (fun c125 => ?_) (fun c125 => ?_)
            · have hot : o = true := Decidable.byContradiction fun z => c119 (if_neg z)
              have hpn := hpk p (by omega)
              have hGl : rdG nt (if n = 50 then p else p + 1) (n + 1) (if n = 50 then P p else -1) := by
                unfold rdG
                by_cases z : n = 50
                · rw [if_pos z, if_pos z]; omega
                · rw [if_neg z, if_neg z]; omega
              refine gw_aload_n (gc k_Model_readPart_1 28 rfl) rfl rfl ?_
              refine gw_iconst (gc k_Model_readPart_1 29 rfl) ?_
              refine gw_bipush (gc k_Model_readPart_1 30 rfl) (by decide) ?_
              refine gw_cV0 (gc k_Model_readPart_1 31 rfl) y_Model_mustNumber ln_Model_201 (c_Model_mustNumber hx hf0 _ _ _ hR0 hGl 0 11 (by omega)) rfl rfl (gAt hx rfl rfl) rfl (gble (by omega)) ?_
              refine gw_goto (tgt := 148) (gc k_Model_readPart_1 32 rfl) rfl ?_
              refine gw_return (gc k_Model_readPart_1 35 rfl) rfl ?_
              subst hot
              by_cases z : n = 50
              · rw [if_pos z, if_pos z, if_neg (by omega), if_neg (by omega)]
                exact rd_end (rdT.e (pP_full (by omega) (by omega)) (by omega))
              · rw [if_neg z, if_neg z]
                have hon := pP_on (T := T) (V := V) (o := true) (sub := none) (p := p) (n := n) (by omega) (by omega) (by omega) rfl (by omega)
                have hv1 := hVb (p + 1) (by omega) (by omega)
                by_cases z3 : T (p + 1) = 50 ∧ V (p + 1) ≤ 11
                · have hpn2 := hpk (p + 1) (by omega)
                  rw [if_pos z3] at hon
                  rw [if_pos ⟨rfl, z3.1, hv1.1, z3.2⟩, if_neg (fun q => q.2 ⟨z3.1, hv1.1, z3.2⟩), show p + 1 + 1 = p + 2 by omega]
                  exact rd_end (rdT.i hon (by omega))
                · rw [if_neg z3] at hon
                  rw [if_neg (fun q => z3 ⟨q.2.1, q.2.2.2⟩), if_pos ⟨rfl, fun q => z3 ⟨q.1, q.2.2⟩⟩]
                  exact rd_end (rdT.e hon (by omega))
            · refine gw_iload_n (gc k_Model_readPart_1 25 rfl) rfl ?_
              refine gw_bipush (gc k_Model_readPart_1 26 rfl) (by decide) ?_
              refine gw_icmp_ne (tgt := 148) (gc k_Model_readPart_1 27 rfl) rfl (by omega) (fun c131 => ?_) (fun c131 => ?_)
              · refine gw_return (gc k_Model_readPart_1 35 rfl) rfl ?_
                have hpn := hpk p (by omega)
                by_cases z : n = 50
                · rw [if_pos z, if_pos z]
                  exact rd_end (rdT.e (pP_full (by omega) (by omega)) (by omega))
                · rw [if_neg z, if_neg z]
                  by_cases z2 : T p = 50 ∧ V p ≤ 1000
                  · exact rd_end (rdT.i (pP_num (by omega) (by omega) z2) (by omega))
                  · cases o with
                    | false =>
                      have q1 : (if false = true then (15 : Int) else 8) = 8 := rfl
                      have q2 : (if false = true then (21 : Int) else 17) = 17 := rfl
                      rw [q1] at h8; rw [q2] at h9
                      exact rd_end (rdT.i (pP_law (by omega) (by omega) z2 ⟨rfl, by first | (rw [q1, q2] at *; omega) | omega⟩) (by omega))
                    | true =>
                      have q1 : (if true = true then (15 : Int) else 8) = 15 := rfl
                      have q2 : (if true = true then (21 : Int) else 17) = 21 := rfl
                      first | exact absurd c119 (by decide) | exact rd_end (rdT.i (pP_ord (by omega) (by omega) z2 ⟨rfl, by first | (rw [q1, q2] at *; omega) | omega⟩) (by omega))
              · have hot : o = true := Decidable.byContradiction fun z => c119 (if_neg z)
                have hpn := hpk p (by omega)
                have hGl : rdG nt (if n = 50 then p else p + 1) (n + 1) (if n = 50 then P p else -1) := by
                  unfold rdG
                  by_cases z : n = 50
                  · rw [if_pos z, if_pos z]; omega
                  · rw [if_neg z, if_neg z]; omega
                refine gw_aload_n (gc k_Model_readPart_1 28 rfl) rfl rfl ?_
                refine gw_iconst (gc k_Model_readPart_1 29 rfl) ?_
                refine gw_bipush (gc k_Model_readPart_1 30 rfl) (by decide) ?_
                refine gw_cV0 (gc k_Model_readPart_1 31 rfl) y_Model_mustNumber ln_Model_201 (c_Model_mustNumber hx hf0 _ _ _ hR0 hGl 0 11 (by omega)) rfl rfl (gAt hx rfl rfl) rfl (gble (by omega)) ?_
                refine gw_goto (tgt := 148) (gc k_Model_readPart_1 32 rfl) rfl ?_
                refine gw_return (gc k_Model_readPart_1 35 rfl) rfl ?_
                subst hot
                by_cases z : n = 50
                · rw [if_pos z, if_pos z, if_neg (by omega), if_neg (by omega)]
                  exact rd_end (rdT.e (pP_full (by omega) (by omega)) (by omega))
                · rw [if_neg z, if_neg z]
                  have hon := pP_on (T := T) (V := V) (o := true) (sub := none) (p := p) (n := n) (by omega) (by omega) (by omega) rfl (by omega)
                  have hv1 := hVb (p + 1) (by omega) (by omega)
                  by_cases z3 : T (p + 1) = 50 ∧ V (p + 1) ≤ 11
                  · have hpn2 := hpk (p + 1) (by omega)
                    rw [if_pos z3] at hon
                    rw [if_pos ⟨rfl, z3.1, hv1.1, z3.2⟩, if_neg (fun q => q.2 ⟨z3.1, hv1.1, z3.2⟩), show p + 1 + 1 = p + 2 by omega]
                    exact rd_end (rdT.i hon (by omega))
                  · rw [if_neg z3] at hon
                    rw [if_neg (fun q => z3 ⟨q.2.1, q.2.2.2⟩), if_pos ⟨rfl, fun q => z3 ⟨q.1, q.2.2⟩⟩]
                    exact rd_end (rdT.e hon (by omega))
        · refine gw_iload_n (gc k_Model_readPart_1 9 rfl) rfl ?_
          refine gw_aload_n (gc k_Model_readPart_1 10 rfl) rfl rfl ?_
          refine gw_getf 8 rfl (gc k_Model_readPart_1 11 rfl) fl_Model_230 (gAt hx rfl rfl) ?_
          rw [rdM_k _ _ _ _ (by decide) (by decide) (by decide), h8]
          refine gw_icmp_lt (tgt := 144) (gc k_Model_readPart_1 12 rfl) rfl (by omega) (fun c100 => ?_) (fun c100 => ?_)
          · refine gw_aload_n (gc k_Model_readPart_1 33 rfl) rfl rfl ?_
            refine gw_cV0 (gc k_Model_readPart_1 34 rfl) y_Model_faults ln_Model_186 (c_Model_faults hx hf0 p n (-1) hR0 hG) rfl rfl (gAt hx rfl rfl) rfl (gble (by omega)) ?_
            rw [if_pos rfl]
            refine gw_return (gc k_Model_readPart_1 35 rfl) rfl ?_
            exact rd_end (rdT.e (pP_no (by omega) (by omega) (fun z => by omega)) hG1.1)
          · refine gw_iload_n (gc k_Model_readPart_1 13 rfl) rfl ?_
            refine gw_aload_n (gc k_Model_readPart_1 14 rfl) rfl rfl ?_
            refine gw_getf 9 rfl (gc k_Model_readPart_1 15 rfl) fl_Model_233 (gAt hx rfl rfl) ?_
            rw [rdM_k _ _ _ _ (by decide) (by decide) (by decide), h9]
            refine gw_icmp_gt (tgt := 144) (gc k_Model_readPart_1 16 rfl) rfl (by omega) (fun c108 => ?_) (fun c108 => ?_)
            · refine gw_aload_n (gc k_Model_readPart_1 33 rfl) rfl rfl ?_
              refine gw_cV0 (gc k_Model_readPart_1 34 rfl) y_Model_faults ln_Model_186 (c_Model_faults hx hf0 p n (-1) hR0 hG) rfl rfl (gAt hx rfl rfl) rfl (gble (by omega)) ?_
              rw [if_pos rfl]
              refine gw_return (gc k_Model_readPart_1 35 rfl) rfl ?_
              exact rd_end (rdT.e (pP_no (by omega) (by omega) (fun z => by omega)) hG1.1)
            · refine gw_aload_n (gc k_Model_readPart_1 17 rfl) rfl rfl ?_
              refine gw_cV0 (gc k_Model_readPart_1 18 rfl) y_Model_leaf ln_Model_236 (c_Model_leaf hx hf0 p n hR0 hG) rfl rfl (gAt hx rfl rfl) rfl (gble (by omega)) ?_
              refine gw_aload_n (gc k_Model_readPart_1 19 rfl) rfl rfl ?_
              refine gw_getf 10 rfl (gc k_Model_readPart_1 20 rfl) fl_Model_204 (gAt hx rfl rfl) ?_
              rw [rdM_k _ _ _ _ (by decide) (by decide) (by decide), h10]
              refine gw_if_eq (tgt := 148) (gc k_Model_readPart_1 21 rfl) rfl (by omega) (fun c119 => ?_) (fun c119 => ?_)
              · refine gw_return (gc k_Model_readPart_1 35 rfl) rfl ?_
                have hpn := hpk p (by omega)
                by_cases z : n = 50
                · rw [if_pos z, if_pos z]
                  exact rd_end (rdT.e (pP_full (by omega) (by omega)) (by omega))
                · rw [if_neg z, if_neg z]
                  by_cases z2 : T p = 50 ∧ V p ≤ 1000
                  · exact rd_end (rdT.i (pP_num (by omega) (by omega) z2) (by omega))
                  · cases o with
                    | false =>
                      have q1 : (if false = true then (15 : Int) else 8) = 8 := rfl
                      have q2 : (if false = true then (21 : Int) else 17) = 17 := rfl
                      rw [q1] at h8; rw [q2] at h9
                      exact rd_end (rdT.i (pP_law (by omega) (by omega) z2 ⟨rfl, by first | (rw [q1, q2] at *; omega) | omega⟩) (by omega))
                    | true =>
                      have q1 : (if true = true then (15 : Int) else 8) = 15 := rfl
                      have q2 : (if true = true then (21 : Int) else 17) = 21 := rfl
                      first | exact absurd c119 (by decide) | exact rd_end (rdT.i (pP_ord (by omega) (by omega) z2 ⟨rfl, by first | (rw [q1, q2] at *; omega) | omega⟩) (by omega))
              · refine gw_iload_n (gc k_Model_readPart_1 22 rfl) rfl ?_
                refine gw_bipush (gc k_Model_readPart_1 23 rfl) (by decide) ?_
                refine gw_icmp_eq (tgt := 134) (gc k_Model_readPart_1 24 rfl) rfl (by omega) (fun c125 => ?_) (fun c125 => ?_)
                · have hot : o = true := Decidable.byContradiction fun z => c119 (if_neg z)
                  have hpn := hpk p (by omega)
                  have hGl : rdG nt (if n = 50 then p else p + 1) (n + 1) (if n = 50 then P p else -1) := by
                    unfold rdG
                    by_cases z : n = 50
                    · rw [if_pos z, if_pos z]; omega
                    · rw [if_neg z, if_neg z]; omega
                  refine gw_aload_n (gc k_Model_readPart_1 28 rfl) rfl rfl ?_
                  refine gw_iconst (gc k_Model_readPart_1 29 rfl) ?_
                  refine gw_bipush (gc k_Model_readPart_1 30 rfl) (by decide) ?_
                  refine gw_cV0 (gc k_Model_readPart_1 31 rfl) y_Model_mustNumber ln_Model_201 (c_Model_mustNumber hx hf0 _ _ _ hR0 hGl 0 11 (by omega)) rfl rfl (gAt hx rfl rfl) rfl (gble (by omega)) ?_
                  refine gw_goto (tgt := 148) (gc k_Model_readPart_1 32 rfl) rfl ?_
                  refine gw_return (gc k_Model_readPart_1 35 rfl) rfl ?_
                  subst hot
                  by_cases z : n = 50
                  · rw [if_pos z, if_pos z, if_neg (by omega), if_neg (by omega)]
                    exact rd_end (rdT.e (pP_full (by omega) (by omega)) (by omega))
                  · rw [if_neg z, if_neg z]
                    have hon := pP_on (T := T) (V := V) (o := true) (sub := none) (p := p) (n := n) (by omega) (by omega) (by omega) rfl (by omega)
                    have hv1 := hVb (p + 1) (by omega) (by omega)
                    by_cases z3 : T (p + 1) = 50 ∧ V (p + 1) ≤ 11
                    · have hpn2 := hpk (p + 1) (by omega)
                      rw [if_pos z3] at hon
                      rw [if_pos ⟨rfl, z3.1, hv1.1, z3.2⟩, if_neg (fun q => q.2 ⟨z3.1, hv1.1, z3.2⟩), show p + 1 + 1 = p + 2 by omega]
                      exact rd_end (rdT.i hon (by omega))
                    · rw [if_neg z3] at hon
                      rw [if_neg (fun q => z3 ⟨q.2.1, q.2.2.2⟩), if_pos ⟨rfl, fun q => z3 ⟨q.1, q.2.2⟩⟩]
                      exact rd_end (rdT.e hon (by omega))
                · refine gw_iload_n (gc k_Model_readPart_1 25 rfl) rfl ?_
                  refine gw_bipush (gc k_Model_readPart_1 26 rfl) (by decide) ?_
                  refine gw_icmp_ne (tgt := 148) (gc k_Model_readPart_1 27 rfl) rfl (by omega) (fun c131 => ?_) (fun c131 => ?_)
                  · refine gw_return (gc k_Model_readPart_1 35 rfl) rfl ?_
                    have hpn := hpk p (by omega)
                    by_cases z : n = 50
                    · rw [if_pos z, if_pos z]
                      exact rd_end (rdT.e (pP_full (by omega) (by omega)) (by omega))
                    · rw [if_neg z, if_neg z]
                      by_cases z2 : T p = 50 ∧ V p ≤ 1000
                      · exact rd_end (rdT.i (pP_num (by omega) (by omega) z2) (by omega))
                      · cases o with
                        | false =>
                          have q1 : (if false = true then (15 : Int) else 8) = 8 := rfl
                          have q2 : (if false = true then (21 : Int) else 17) = 17 := rfl
                          rw [q1] at h8; rw [q2] at h9
                          exact rd_end (rdT.i (pP_law (by omega) (by omega) z2 ⟨rfl, by first | (rw [q1, q2] at *; omega) | omega⟩) (by omega))
                        | true =>
                          have q1 : (if true = true then (15 : Int) else 8) = 15 := rfl
                          have q2 : (if true = true then (21 : Int) else 17) = 21 := rfl
                          first | exact absurd c119 (by decide) | exact rd_end (rdT.i (pP_ord (by omega) (by omega) z2 ⟨rfl, by first | (rw [q1, q2] at *; omega) | omega⟩) (by omega))
                  · have hot : o = true := Decidable.byContradiction fun z => c119 (if_neg z)
                    have hpn := hpk p (by omega)
                    have hGl : rdG nt (if n = 50 then p else p + 1) (n + 1) (if n = 50 then P p else -1) := by
                      unfold rdG
                      by_cases z : n = 50
                      · rw [if_pos z, if_pos z]; omega
                      · rw [if_neg z, if_neg z]; omega
                    refine gw_aload_n (gc k_Model_readPart_1 28 rfl) rfl rfl ?_
                    refine gw_iconst (gc k_Model_readPart_1 29 rfl) ?_
                    refine gw_bipush (gc k_Model_readPart_1 30 rfl) (by decide) ?_
                    refine gw_cV0 (gc k_Model_readPart_1 31 rfl) y_Model_mustNumber ln_Model_201 (c_Model_mustNumber hx hf0 _ _ _ hR0 hGl 0 11 (by omega)) rfl rfl (gAt hx rfl rfl) rfl (gble (by omega)) ?_
                    refine gw_goto (tgt := 148) (gc k_Model_readPart_1 32 rfl) rfl ?_
                    refine gw_return (gc k_Model_readPart_1 35 rfl) rfl ?_
                    subst hot
                    by_cases z : n = 50
                    · rw [if_pos z, if_pos z, if_neg (by omega), if_neg (by omega)]
                      exact rd_end (rdT.e (pP_full (by omega) (by omega)) (by omega))
                    · rw [if_neg z, if_neg z]
                      have hon := pP_on (T := T) (V := V) (o := true) (sub := none) (p := p) (n := n) (by omega) (by omega) (by omega) rfl (by omega)
                      have hv1 := hVb (p + 1) (by omega) (by omega)
                      by_cases z3 : T (p + 1) = 50 ∧ V (p + 1) ≤ 11
                      · have hpn2 := hpk (p + 1) (by omega)
                        rw [if_pos z3] at hon
                        rw [if_pos ⟨rfl, z3.1, hv1.1, z3.2⟩, if_neg (fun q => q.2 ⟨z3.1, hv1.1, z3.2⟩), show p + 1 + 1 = p + 2 by omega]
                        exact rd_end (rdT.i hon (by omega))
                      · rw [if_neg z3] at hon
                        rw [if_neg (fun q => z3 ⟨q.2.1, q.2.2.2⟩), if_pos ⟨rfl, fun q => z3 ⟨q.1, q.2.2⟩⟩]
                        exact rd_end (rdT.e hon (by omega))
    · refine gw_iload_n (gc k_Model_readPart_0 14 rfl) rfl ?_
      refine gw_bipush (gc k_Model_readPart_0 15 rfl) (by decide) ?_
      refine gw_icmp_ne (tgt := 37) (gc k_Model_readPart_0 16 rfl) rfl (by omega) (fun c30 => ?_) (fun c30 => ?_)
      · exact absurd rfl c30
      · refine gw_aload_n (gc k_Model_readPart_0 17 rfl) rfl rfl ?_
        refine gw_cV0 (gc k_Model_readPart_0 18 rfl) y_Model_faults ln_Model_186 (c_Model_faults hx hf0 p n (-1) hR0 hG) rfl rfl (gAt hx rfl rfl) rfl (gble (by omega)) ?_
        rw [if_pos rfl]
        have hfb : -1 ≤ P p ∧ P p ≤ 400 := by omega
        refine gw_aload_n (gc k_Model_readPart_0 19 rfl) rfl rfl ?_
        refine gw_xV1 (gc k_Model_readPart_0 20 rfl) y_Model_fine ln_Model_177 (c_Model_fine hx hf0 _ _ _ hfb) rfl rfl (gAt hx rfl rfl) rfl (gble (by omega)) (fun r38 sh2 g38 hq38 => ?_)
        obtain ⟨rfl, rfl, rfl⟩ := hq38
        refine gw_bne (tgt := 45) (gc k_Model_readPart_0 21 rfl) rfl  (fun c41 => ?_) (fun c41 => ?_)
        · exfalso; omega
        · refine gw_return (gc k_Model_readPart_0 22 rfl) rfl ?_
          exact rd_end (rdT.e (pP_b0 (by omega)) hG1.1)
  · refine gw_return (gc k_Model_readPart_0 3 rfl) rfl ?_
    exact rd_end (Or.inl ⟨c4, rfl, rfl, rfl⟩)
set_option maxHeartbeats 4000000 in
theorem rd_part1 {sh : gS} {g : gM} (hx : gFix sh) (hf : gFin g) {T V P : Int → Int} {o : Bool} {nt : Int} (hR : RdC T V P o nt g) {D : Nat} {dp : Int} (hdp : 0 ≤ dp ∧ dp < 8) {f : Int → Int → PR} (hD : 3 ≤ D) {D2 : Nat} (hD2 : D2 + 1 ≤ D) (hS : RdL sh g P nt f_Model_readSum D2 [(2, 177), (0, dp + 1)] f) : RdL sh g P nt f_Model_readPart D [(2, 177), (0, dp)] (pPartW T V o (some f)) := by
  intro p n b hG
  have hR0 := hR
  have hf0 := hf
  have hf := hf.rd p n b
  obtain ⟨hn0, hpk, hat, hTb, hVb, hPb, h10, h8, h9⟩ := hR
  have hG1 := hG.1
  have hG2 := hG.2
  have hTp := hTb p
  refine gTri.of (by decide +kernel) rfl ?_
  show gWP f_Model_readPart _ _ _ 0 [(2, 177), (0, dp), (9, 0)] [] sh (rdM g p n b) _
  refine gw_aload_n (gc k_Model_readPart_0 0 rfl) rfl rfl ?_
  refine gw_cV1 (gc k_Model_readPart_0 1 rfl) y_Model_fine ln_Model_177 (c_Model_fine hx hf0 p n b hG2) rfl rfl (gAt hx rfl rfl) rfl (gble (by omega)) ?_
  refine gw_bne (tgt := 8) (gc k_Model_readPart_0 2 rfl) rfl (fun c4 => ?_) (fun c4 => ?_)
  · have hb1 : b = -1 := c4
    subst hb1
    have hG1 := hG1 rfl
    have h1 := hat p hG1.1.1 hG1.1.2
    have h2 := hVb p hG1.1.1 hG1.1.2
    have h3 := hPb p hG1.1.1 hG1.1.2
    have hb1 : (-1 : Int) = -1 := rfl
    refine gw_aload_n (gc k_Model_readPart_0 4 rfl) rfl rfl ?_
    refine gw_getref (gc k_Model_readPart_0 5 rfl) fl_Model_54 (gAt hx rfl rfl) (gRf hf rfl rfl) ?_
    refine gw_aload_n (gc k_Model_readPart_0 6 rfl) rfl rfl ?_
    refine gw_getf 19 rfl (gc k_Model_readPart_0 7 rfl) fl_Model_180 (gAt hx rfl rfl) ?_
    rw [rdM_19]
    refine gw_iald (gc k_Model_readPart_0 8 rfl) (gAt hx rfl rfl) (by omega) ?_
    rw [rdM_fn _ _ _ _ (by decide), h1.1]
    refine gw_istore_2 (gc k_Model_readPart_0 9 rfl) rfl rfl ?_
    refine gw_iload_n (gc k_Model_readPart_0 10 rfl) rfl ?_
    refine gw_bipush (gc k_Model_readPart_0 11 rfl) (by decide) ?_
    refine gw_cS1 (gc k_Model_readPart_0 12 rfl) y_Model_sign ln_Model_220 (c_Model_sign 91) rfl rfl rfl (gble (by omega)) ?_
    refine gw_icmp_ne (tgt := 74) (gc k_Model_readPart_0 13 rfl) rfl (by omega) (fun c24 => ?_) (fun c24 => ?_)
    · refine gw_iload_n (gc k_Model_readPart_0 39 rfl) rfl ?_
      refine gw_bipush (gc k_Model_readPart_1 0 rfl) (by decide) ?_
      refine gw_icmp_ne (tgt := 95) (gc k_Model_readPart_1 1 rfl) rfl (by omega) (fun c77 => ?_) (fun c77 => ?_)
      · refine gw_iload_n (gc k_Model_readPart_1 9 rfl) rfl ?_
        refine gw_aload_n (gc k_Model_readPart_1 10 rfl) rfl rfl ?_
        refine gw_getf 8 rfl (gc k_Model_readPart_1 11 rfl) fl_Model_230 (gAt hx rfl rfl) ?_
        rw [rdM_k _ _ _ _ (by decide) (by decide) (by decide), h8]
        refine gw_icmp_lt (tgt := 144) (gc k_Model_readPart_1 12 rfl) rfl (by omega) (fun c100 => ?_) (fun c100 => ?_)
        · refine gw_aload_n (gc k_Model_readPart_1 33 rfl) rfl rfl ?_
          refine gw_cV0 (gc k_Model_readPart_1 34 rfl) y_Model_faults ln_Model_186 (c_Model_faults hx hf0 p n (-1) hR0 hG) rfl rfl (gAt hx rfl rfl) rfl (gble (by omega)) ?_
          rw [if_pos rfl]
          refine gw_return (gc k_Model_readPart_1 35 rfl) rfl ?_
          exact rd_end (rdT.e (pP_no (by omega) (by omega) (fun z => by omega)) hG1.1)
        · refine gw_iload_n (gc k_Model_readPart_1 13 rfl) rfl ?_
          refine gw_aload_n (gc k_Model_readPart_1 14 rfl) rfl rfl ?_
          refine gw_getf 9 rfl (gc k_Model_readPart_1 15 rfl) fl_Model_233 (gAt hx rfl rfl) ?_
          rw [rdM_k _ _ _ _ (by decide) (by decide) (by decide), h9]
          refine gw_icmp_gt (tgt := 144) (gc k_Model_readPart_1 16 rfl) rfl (by omega) (fun c108 => ?_) (fun c108 => ?_)
          · refine gw_aload_n (gc k_Model_readPart_1 33 rfl) rfl rfl ?_
            refine gw_cV0 (gc k_Model_readPart_1 34 rfl) y_Model_faults ln_Model_186 (c_Model_faults hx hf0 p n (-1) hR0 hG) rfl rfl (gAt hx rfl rfl) rfl (gble (by omega)) ?_
            rw [if_pos rfl]
            refine gw_return (gc k_Model_readPart_1 35 rfl) rfl ?_
            exact rd_end (rdT.e (pP_no (by omega) (by omega) (fun z => by omega)) hG1.1)
          · refine gw_aload_n (gc k_Model_readPart_1 17 rfl) rfl rfl ?_
            refine gw_cV0 (gc k_Model_readPart_1 18 rfl) y_Model_leaf ln_Model_236 (c_Model_leaf hx hf0 p n hR0 hG) rfl rfl (gAt hx rfl rfl) rfl (gble (by omega)) ?_
            refine gw_aload_n (gc k_Model_readPart_1 19 rfl) rfl rfl ?_
            refine gw_getf 10 rfl (gc k_Model_readPart_1 20 rfl) fl_Model_204 (gAt hx rfl rfl) ?_
            rw [rdM_k _ _ _ _ (by decide) (by decide) (by decide), h10]
            refine gw_if_eq (tgt := 148) (gc k_Model_readPart_1 21 rfl) rfl (by omega) (fun c119 => ?_) (fun c119 => ?_)
            · refine gw_return (gc k_Model_readPart_1 35 rfl) rfl ?_
              have hpn := hpk p (by omega)
              by_cases z : n = 50
              · rw [if_pos z, if_pos z]
                exact rd_end (rdT.e (pP_full (by omega) (by omega)) (by omega))
              · rw [if_neg z, if_neg z]
                by_cases z2 : T p = 50 ∧ V p ≤ 1000
                · exact rd_end (rdT.i (pP_num (by omega) (by omega) z2) (by omega))
                · cases o with
                  | false =>
                    have q1 : (if false = true then (15 : Int) else 8) = 8 := rfl
                    have q2 : (if false = true then (21 : Int) else 17) = 17 := rfl
                    rw [q1] at h8; rw [q2] at h9
                    exact rd_end (rdT.i (pP_law (by omega) (by omega) z2 ⟨rfl, by first | (rw [q1, q2] at *; omega) | omega⟩) (by omega))
                  | true =>
                    have q1 : (if true = true then (15 : Int) else 8) = 15 := rfl
                    have q2 : (if true = true then (21 : Int) else 17) = 21 := rfl
                    first | exact absurd c119 (by decide) | exact rd_end (rdT.i (pP_ord (by omega) (by omega) z2 ⟨rfl, by first | (rw [q1, q2] at *; omega) | omega⟩) (by omega))
            · refine gw_iload_n (gc k_Model_readPart_1 22 rfl) rfl ?_
              refine gw_bipush (gc k_Model_readPart_1 23 rfl) (by decide) ?_
              refine gw_icmp_eq (tgt := 134) (gc k_Model_readPart_1 24 rfl) rfl (by omega) (fun c125 => ?_) (fun c125 => ?_)
              · have hot : o = true := Decidable.byContradiction fun z => c119 (if_neg z)
                have hpn := hpk p (by omega)
                have hGl : rdG nt (if n = 50 then p else p + 1) (n + 1) (if n = 50 then P p else -1) := by
                  unfold rdG
                  by_cases z : n = 50
                  · rw [if_pos z, if_pos z]; omega
                  · rw [if_neg z, if_neg z]; omega
                refine gw_aload_n (gc k_Model_readPart_1 28 rfl) rfl rfl ?_
                refine gw_iconst (gc k_Model_readPart_1 29 rfl) ?_
                refine gw_bipush (gc k_Model_readPart_1 30 rfl) (by decide) ?_
                refine gw_cV0 (gc k_Model_readPart_1 31 rfl) y_Model_mustNumber ln_Model_201 (c_Model_mustNumber hx hf0 _ _ _ hR0 hGl 0 11 (by omega)) rfl rfl (gAt hx rfl rfl) rfl (gble (by omega)) ?_
                refine gw_goto (tgt := 148) (gc k_Model_readPart_1 32 rfl) rfl ?_
                refine gw_return (gc k_Model_readPart_1 35 rfl) rfl ?_
                subst hot
                by_cases z : n = 50
                · rw [if_pos z, if_pos z, if_neg (by omega), if_neg (by omega)]
                  exact rd_end (rdT.e (pP_full (by omega) (by omega)) (by omega))
                · rw [if_neg z, if_neg z]
                  have hon := pP_on (T := T) (V := V) (o := true) (sub := (some f)) (p := p) (n := n) (by omega) (by omega) (by omega) rfl (by omega)
                  have hv1 := hVb (p + 1) (by omega) (by omega)
                  by_cases z3 : T (p + 1) = 50 ∧ V (p + 1) ≤ 11
                  · have hpn2 := hpk (p + 1) (by omega)
                    rw [if_pos z3] at hon
                    rw [if_pos ⟨rfl, z3.1, hv1.1, z3.2⟩, if_neg (fun q => q.2 ⟨z3.1, hv1.1, z3.2⟩), show p + 1 + 1 = p + 2 by omega]
                    exact rd_end (rdT.i hon (by omega))
                  · rw [if_neg z3] at hon
                    rw [if_neg (fun q => z3 ⟨q.2.1, q.2.2.2⟩), if_pos ⟨rfl, fun q => z3 ⟨q.1, q.2.2⟩⟩]
                    exact rd_end (rdT.e hon (by omega))
              · refine gw_iload_n (gc k_Model_readPart_1 25 rfl) rfl ?_
                refine gw_bipush (gc k_Model_readPart_1 26 rfl) (by decide) ?_
                refine gw_icmp_ne (tgt := 148) (gc k_Model_readPart_1 27 rfl) rfl (by omega) (fun c131 => ?_) (fun c131 => ?_)
                · refine gw_return (gc k_Model_readPart_1 35 rfl) rfl ?_
                  have hpn := hpk p (by omega)
                  by_cases z : n = 50
                  · rw [if_pos z, if_pos z]
                    exact rd_end (rdT.e (pP_full (by omega) (by omega)) (by omega))
                  · rw [if_neg z, if_neg z]
                    by_cases z2 : T p = 50 ∧ V p ≤ 1000
                    · exact rd_end (rdT.i (pP_num (by omega) (by omega) z2) (by omega))
                    · cases o with
                      | false =>
                        have q1 : (if false = true then (15 : Int) else 8) = 8 := rfl
                        have q2 : (if false = true then (21 : Int) else 17) = 17 := rfl
                        rw [q1] at h8; rw [q2] at h9
                        exact rd_end (rdT.i (pP_law (by omega) (by omega) z2 ⟨rfl, by first | (rw [q1, q2] at *; omega) | omega⟩) (by omega))
                      | true =>
                        have q1 : (if true = true then (15 : Int) else 8) = 15 := rfl
                        have q2 : (if true = true then (21 : Int) else 17) = 21 := rfl
                        first | exact absurd c119 (by decide) | exact rd_end (rdT.i (pP_ord (by omega) (by omega) z2 ⟨rfl, by first | (rw [q1, q2] at *; omega) | omega⟩) (by omega))
                · have hot : o = true := Decidable.byContradiction fun z => c119 (if_neg z)
                  have hpn := hpk p (by omega)
                  have hGl : rdG nt (if n = 50 then p else p + 1) (n + 1) (if n = 50 then P p else -1) := by
                    unfold rdG
                    by_cases z : n = 50
                    · rw [if_pos z, if_pos z]; omega
                    · rw [if_neg z, if_neg z]; omega
                  refine gw_aload_n (gc k_Model_readPart_1 28 rfl) rfl rfl ?_
                  refine gw_iconst (gc k_Model_readPart_1 29 rfl) ?_
                  refine gw_bipush (gc k_Model_readPart_1 30 rfl) (by decide) ?_
                  refine gw_cV0 (gc k_Model_readPart_1 31 rfl) y_Model_mustNumber ln_Model_201 (c_Model_mustNumber hx hf0 _ _ _ hR0 hGl 0 11 (by omega)) rfl rfl (gAt hx rfl rfl) rfl (gble (by omega)) ?_
                  refine gw_goto (tgt := 148) (gc k_Model_readPart_1 32 rfl) rfl ?_
                  refine gw_return (gc k_Model_readPart_1 35 rfl) rfl ?_
                  subst hot
                  by_cases z : n = 50
                  · rw [if_pos z, if_pos z, if_neg (by omega), if_neg (by omega)]
                    exact rd_end (rdT.e (pP_full (by omega) (by omega)) (by omega))
                  · rw [if_neg z, if_neg z]
                    have hon := pP_on (T := T) (V := V) (o := true) (sub := (some f)) (p := p) (n := n) (by omega) (by omega) (by omega) rfl (by omega)
                    have hv1 := hVb (p + 1) (by omega) (by omega)
                    by_cases z3 : T (p + 1) = 50 ∧ V (p + 1) ≤ 11
                    · have hpn2 := hpk (p + 1) (by omega)
                      rw [if_pos z3] at hon
                      rw [if_pos ⟨rfl, z3.1, hv1.1, z3.2⟩, if_neg (fun q => q.2 ⟨z3.1, hv1.1, z3.2⟩), show p + 1 + 1 = p + 2 by omega]
                      exact rd_end (rdT.i hon (by omega))
                    · rw [if_neg z3] at hon
                      rw [if_neg (fun q => z3 ⟨q.2.1, q.2.2.2⟩), if_pos ⟨rfl, fun q => z3 ⟨q.1, q.2.2⟩⟩]
                      exact rd_end (rdT.e hon (by omega))
      · refine gw_aload_n (gc k_Model_readPart_1 2 rfl) rfl rfl ?_
        refine gw_getref (gc k_Model_readPart_1 3 rfl) fl_Model_57 (gAt hx rfl rfl) (gRf hf rfl rfl) ?_
        refine gw_aload_n (gc k_Model_readPart_1 4 rfl) rfl rfl ?_
        refine gw_getf 19 rfl (gc k_Model_readPart_1 5 rfl) fl_Model_180 (gAt hx rfl rfl) ?_
        rw [rdM_19]
        refine gw_iald (gc k_Model_readPart_1 6 rfl) (gAt hx rfl rfl) (by omega) ?_
        rw [rdM_fn _ _ _ _ (by decide), h1.2.1]
        refine gw_sipush (gc k_Model_readPart_1 7 rfl) (by decide) ?_
        refine gw_icmp_le (tgt := 111) (gc k_Model_readPart_1 8 rfl) rfl (by omega) (fun c92 => ?_) (fun c92 => ?_)
        · refine gw_aload_n (gc k_Model_readPart_1 17 rfl) rfl rfl ?_
          refine gw_cV0 (gc k_Model_readPart_1 18 rfl) y_Model_leaf ln_Model_236 (c_Model_leaf hx hf0 p n hR0 hG) rfl rfl (gAt hx rfl rfl) rfl (gble (by omega)) ?_
          refine gw_aload_n (gc k_Model_readPart_1 19 rfl) rfl rfl ?_
          refine gw_getf 10 rfl (gc k_Model_readPart_1 20 rfl) fl_Model_204 (gAt hx rfl rfl) ?_
          rw [rdM_k _ _ _ _ (by decide) (by decide) (by decide), h10]
          refine gw_if_eq (tgt := 148) (gc k_Model_readPart_1 21 rfl) rfl (by omega) (fun c119 => ?_) (fun c119 => ?_)
          · refine gw_return (gc k_Model_readPart_1 35 rfl) rfl ?_
            have hpn := hpk p (by omega)
            by_cases z : n = 50
            · rw [if_pos z, if_pos z]
              exact rd_end (rdT.e (pP_full (by omega) (by omega)) (by omega))
            · rw [if_neg z, if_neg z]
              by_cases z2 : T p = 50 ∧ V p ≤ 1000
              · exact rd_end (rdT.i (pP_num (by omega) (by omega) z2) (by omega))
              · cases o with
                | false =>
                  have q1 : (if false = true then (15 : Int) else 8) = 8 := rfl
                  have q2 : (if false = true then (21 : Int) else 17) = 17 := rfl
                  rw [q1] at h8; rw [q2] at h9
                  exact rd_end (rdT.i (pP_law (by omega) (by omega) z2 ⟨rfl, by first | (rw [q1, q2] at *; omega) | omega⟩) (by omega))
                | true =>
                  have q1 : (if true = true then (15 : Int) else 8) = 15 := rfl
                  have q2 : (if true = true then (21 : Int) else 17) = 21 := rfl
                  first | exact absurd c119 (by decide) | exact rd_end (rdT.i (pP_ord (by omega) (by omega) z2 ⟨rfl, by first | (rw [q1, q2] at *; omega) | omega⟩) (by omega))
          · refine gw_iload_n (gc k_Model_readPart_1 22 rfl) rfl ?_
            refine gw_bipush (gc k_Model_readPart_1 23 rfl) (by decide) ?_
            refine gw_icmp_eq (tgt := 134) (gc k_Model_readPart_1 24 rfl) rfl (by omega) (fun c125 => ?_) (fun c125 => ?_)
            · have hot : o = true := Decidable.byContradiction fun z => c119 (if_neg z)
              have hpn := hpk p (by omega)
              have hGl : rdG nt (if n = 50 then p else p + 1) (n + 1) (if n = 50 then P p else -1) := by
                unfold rdG
                by_cases z : n = 50
                · rw [if_pos z, if_pos z]; omega
                · rw [if_neg z, if_neg z]; omega
              refine gw_aload_n (gc k_Model_readPart_1 28 rfl) rfl rfl ?_
              refine gw_iconst (gc k_Model_readPart_1 29 rfl) ?_
              refine gw_bipush (gc k_Model_readPart_1 30 rfl) (by decide) ?_
              refine gw_cV0 (gc k_Model_readPart_1 31 rfl) y_Model_mustNumber ln_Model_201 (c_Model_mustNumber hx hf0 _ _ _ hR0 hGl 0 11 (by omega)) rfl rfl (gAt hx rfl rfl) rfl (gble (by omega)) ?_
              refine gw_goto (tgt := 148) (gc k_Model_readPart_1 32 rfl) rfl ?_
              refine gw_return (gc k_Model_readPart_1 35 rfl) rfl ?_
              subst hot
              by_cases z : n = 50
              · rw [if_pos z, if_pos z, if_neg (by omega), if_neg (by omega)]
                exact rd_end (rdT.e (pP_full (by omega) (by omega)) (by omega))
              · rw [if_neg z, if_neg z]
                have hon := pP_on (T := T) (V := V) (o := true) (sub := (some f)) (p := p) (n := n) (by omega) (by omega) (by omega) rfl (by omega)
                have hv1 := hVb (p + 1) (by omega) (by omega)
                by_cases z3 : T (p + 1) = 50 ∧ V (p + 1) ≤ 11
                · have hpn2 := hpk (p + 1) (by omega)
                  rw [if_pos z3] at hon
                  rw [if_pos ⟨rfl, z3.1, hv1.1, z3.2⟩, if_neg (fun q => q.2 ⟨z3.1, hv1.1, z3.2⟩), show p + 1 + 1 = p + 2 by omega]
                  exact rd_end (rdT.i hon (by omega))
                · rw [if_neg z3] at hon
                  rw [if_neg (fun q => z3 ⟨q.2.1, q.2.2.2⟩), if_pos ⟨rfl, fun q => z3 ⟨q.1, q.2.2⟩⟩]
                  exact rd_end (rdT.e hon (by omega))
            · refine gw_iload_n (gc k_Model_readPart_1 25 rfl) rfl ?_
              refine gw_bipush (gc k_Model_readPart_1 26 rfl) (by decide) ?_
              refine gw_icmp_ne (tgt := 148) (gc k_Model_readPart_1 27 rfl) rfl (by omega) (fun c131 => ?_) (fun c131 => ?_)
              · refine gw_return (gc k_Model_readPart_1 35 rfl) rfl ?_
                have hpn := hpk p (by omega)
                by_cases z : n = 50
                · rw [if_pos z, if_pos z]
                  exact rd_end (rdT.e (pP_full (by omega) (by omega)) (by omega))
                · rw [if_neg z, if_neg z]
                  by_cases z2 : T p = 50 ∧ V p ≤ 1000
                  · exact rd_end (rdT.i (pP_num (by omega) (by omega) z2) (by omega))
                  · cases o with
                    | false =>
                      have q1 : (if false = true then (15 : Int) else 8) = 8 := rfl
                      have q2 : (if false = true then (21 : Int) else 17) = 17 := rfl
                      rw [q1] at h8; rw [q2] at h9
                      exact rd_end (rdT.i (pP_law (by omega) (by omega) z2 ⟨rfl, by first | (rw [q1, q2] at *; omega) | omega⟩) (by omega))
                    | true =>
                      have q1 : (if true = true then (15 : Int) else 8) = 15 := rfl
                      have q2 : (if true = true then (21 : Int) else 17) = 21 := rfl
                      first | exact absurd c119 (by decide) | exact rd_end (rdT.i (pP_ord (by omega) (by omega) z2 ⟨rfl, by first | (rw [q1, q2] at *; omega) | omega⟩) (by omega))
              · have hot : o = true := Decidable.byContradiction fun z => c119 (if_neg z)
                have hpn := hpk p (by omega)
                have hGl : rdG nt (if n = 50 then p else p + 1) (n + 1) (if n = 50 then P p else -1) := by
                  unfold rdG
                  by_cases z : n = 50
                  · rw [if_pos z, if_pos z]; omega
                  · rw [if_neg z, if_neg z]; omega
                refine gw_aload_n (gc k_Model_readPart_1 28 rfl) rfl rfl ?_
                refine gw_iconst (gc k_Model_readPart_1 29 rfl) ?_
                refine gw_bipush (gc k_Model_readPart_1 30 rfl) (by decide) ?_
                refine gw_cV0 (gc k_Model_readPart_1 31 rfl) y_Model_mustNumber ln_Model_201 (c_Model_mustNumber hx hf0 _ _ _ hR0 hGl 0 11 (by omega)) rfl rfl (gAt hx rfl rfl) rfl (gble (by omega)) ?_
                refine gw_goto (tgt := 148) (gc k_Model_readPart_1 32 rfl) rfl ?_
                refine gw_return (gc k_Model_readPart_1 35 rfl) rfl ?_
                subst hot
                by_cases z : n = 50
                · rw [if_pos z, if_pos z, if_neg (by omega), if_neg (by omega)]
                  exact rd_end (rdT.e (pP_full (by omega) (by omega)) (by omega))
                · rw [if_neg z, if_neg z]
                  have hon := pP_on (T := T) (V := V) (o := true) (sub := (some f)) (p := p) (n := n) (by omega) (by omega) (by omega) rfl (by omega)
                  have hv1 := hVb (p + 1) (by omega) (by omega)
                  by_cases z3 : T (p + 1) = 50 ∧ V (p + 1) ≤ 11
                  · have hpn2 := hpk (p + 1) (by omega)
                    rw [if_pos z3] at hon
                    rw [if_pos ⟨rfl, z3.1, hv1.1, z3.2⟩, if_neg (fun q => q.2 ⟨z3.1, hv1.1, z3.2⟩), show p + 1 + 1 = p + 2 by omega]
                    exact rd_end (rdT.i hon (by omega))
                  · rw [if_neg z3] at hon
                    rw [if_neg (fun q => z3 ⟨q.2.1, q.2.2.2⟩), if_pos ⟨rfl, fun q => z3 ⟨q.1, q.2.2⟩⟩]
                    exact rd_end (rdT.e hon (by omega))
        · refine gw_iload_n (gc k_Model_readPart_1 9 rfl) rfl ?_
          refine gw_aload_n (gc k_Model_readPart_1 10 rfl) rfl rfl ?_
          refine gw_getf 8 rfl (gc k_Model_readPart_1 11 rfl) fl_Model_230 (gAt hx rfl rfl) ?_
          rw [rdM_k _ _ _ _ (by decide) (by decide) (by decide), h8]
          refine gw_icmp_lt (tgt := 144) (gc k_Model_readPart_1 12 rfl) rfl (by omega) (fun c100 => ?_) (fun c100 => ?_)
          · refine gw_aload_n (gc k_Model_readPart_1 33 rfl) rfl rfl ?_
            refine gw_cV0 (gc k_Model_readPart_1 34 rfl) y_Model_faults ln_Model_186 (c_Model_faults hx hf0 p n (-1) hR0 hG) rfl rfl (gAt hx rfl rfl) rfl (gble (by omega)) ?_
            rw [if_pos rfl]
            refine gw_return (gc k_Model_readPart_1 35 rfl) rfl ?_
            exact rd_end (rdT.e (pP_no (by omega) (by omega) (fun z => by omega)) hG1.1)
          · refine gw_iload_n (gc k_Model_readPart_1 13 rfl) rfl ?_
            refine gw_aload_n (gc k_Model_readPart_1 14 rfl) rfl rfl ?_
            refine gw_getf 9 rfl (gc k_Model_readPart_1 15 rfl) fl_Model_233 (gAt hx rfl rfl) ?_
            rw [rdM_k _ _ _ _ (by decide) (by decide) (by decide), h9]
            refine gw_icmp_gt (tgt := 144) (gc k_Model_readPart_1 16 rfl) rfl (by omega) (fun c108 => ?_) (fun c108 => ?_)
            · refine gw_aload_n (gc k_Model_readPart_1 33 rfl) rfl rfl ?_
              refine gw_cV0 (gc k_Model_readPart_1 34 rfl) y_Model_faults ln_Model_186 (c_Model_faults hx hf0 p n (-1) hR0 hG) rfl rfl (gAt hx rfl rfl) rfl (gble (by omega)) ?_
              rw [if_pos rfl]
              refine gw_return (gc k_Model_readPart_1 35 rfl) rfl ?_
              exact rd_end (rdT.e (pP_no (by omega) (by omega) (fun z => by omega)) hG1.1)
            · refine gw_aload_n (gc k_Model_readPart_1 17 rfl) rfl rfl ?_
              refine gw_cV0 (gc k_Model_readPart_1 18 rfl) y_Model_leaf ln_Model_236 (c_Model_leaf hx hf0 p n hR0 hG) rfl rfl (gAt hx rfl rfl) rfl (gble (by omega)) ?_
              refine gw_aload_n (gc k_Model_readPart_1 19 rfl) rfl rfl ?_
              refine gw_getf 10 rfl (gc k_Model_readPart_1 20 rfl) fl_Model_204 (gAt hx rfl rfl) ?_
              rw [rdM_k _ _ _ _ (by decide) (by decide) (by decide), h10]
              refine gw_if_eq (tgt := 148) (gc k_Model_readPart_1 21 rfl) rfl (by omega) (fun c119 => ?_) (fun c119 => ?_)
              · refine gw_return (gc k_Model_readPart_1 35 rfl) rfl ?_
                have hpn := hpk p (by omega)
                by_cases z : n = 50
                · rw [if_pos z, if_pos z]
                  exact rd_end (rdT.e (pP_full (by omega) (by omega)) (by omega))
                · rw [if_neg z, if_neg z]
                  by_cases z2 : T p = 50 ∧ V p ≤ 1000
                  · exact rd_end (rdT.i (pP_num (by omega) (by omega) z2) (by omega))
                  · cases o with
                    | false =>
                      have q1 : (if false = true then (15 : Int) else 8) = 8 := rfl
                      have q2 : (if false = true then (21 : Int) else 17) = 17 := rfl
                      rw [q1] at h8; rw [q2] at h9
                      exact rd_end (rdT.i (pP_law (by omega) (by omega) z2 ⟨rfl, by first | (rw [q1, q2] at *; omega) | omega⟩) (by omega))
                    | true =>
                      have q1 : (if true = true then (15 : Int) else 8) = 15 := rfl
                      have q2 : (if true = true then (21 : Int) else 17) = 21 := rfl
                      first | exact absurd c119 (by decide) | exact rd_end (rdT.i (pP_ord (by omega) (by omega) z2 ⟨rfl, by first | (rw [q1, q2] at *; omega) | omega⟩) (by omega))
              · refine gw_iload_n (gc k_Model_readPart_1 22 rfl) rfl ?_
                refine gw_bipush (gc k_Model_readPart_1 23 rfl) (by decide) ?_
                refine gw_icmp_eq (tgt := 134) (gc k_Model_readPart_1 24 rfl) rfl (by omega) (fun c125 => ?_) (fun c125 => ?_)
                · have hot : o = true := Decidable.byContradiction fun z => c119 (if_neg z)
                  have hpn := hpk p (by omega)
                  have hGl : rdG nt (if n = 50 then p else p + 1) (n + 1) (if n = 50 then P p else -1) := by
                    unfold rdG
                    by_cases z : n = 50
                    · rw [if_pos z, if_pos z]; omega
                    · rw [if_neg z, if_neg z]; omega
                  refine gw_aload_n (gc k_Model_readPart_1 28 rfl) rfl rfl ?_
                  refine gw_iconst (gc k_Model_readPart_1 29 rfl) ?_
                  refine gw_bipush (gc k_Model_readPart_1 30 rfl) (by decide) ?_
                  refine gw_cV0 (gc k_Model_readPart_1 31 rfl) y_Model_mustNumber ln_Model_201 (c_Model_mustNumber hx hf0 _ _ _ hR0 hGl 0 11 (by omega)) rfl rfl (gAt hx rfl rfl) rfl (gble (by omega)) ?_
                  refine gw_goto (tgt := 148) (gc k_Model_readPart_1 32 rfl) rfl ?_
                  refine gw_return (gc k_Model_readPart_1 35 rfl) rfl ?_
                  subst hot
                  by_cases z : n = 50
                  · rw [if_pos z, if_pos z, if_neg (by omega), if_neg (by omega)]
                    exact rd_end (rdT.e (pP_full (by omega) (by omega)) (by omega))
                  · rw [if_neg z, if_neg z]
                    have hon := pP_on (T := T) (V := V) (o := true) (sub := (some f)) (p := p) (n := n) (by omega) (by omega) (by omega) rfl (by omega)
                    have hv1 := hVb (p + 1) (by omega) (by omega)
                    by_cases z3 : T (p + 1) = 50 ∧ V (p + 1) ≤ 11
                    · have hpn2 := hpk (p + 1) (by omega)
                      rw [if_pos z3] at hon
                      rw [if_pos ⟨rfl, z3.1, hv1.1, z3.2⟩, if_neg (fun q => q.2 ⟨z3.1, hv1.1, z3.2⟩), show p + 1 + 1 = p + 2 by omega]
                      exact rd_end (rdT.i hon (by omega))
                    · rw [if_neg z3] at hon
                      rw [if_neg (fun q => z3 ⟨q.2.1, q.2.2.2⟩), if_pos ⟨rfl, fun q => z3 ⟨q.1, q.2.2⟩⟩]
                      exact rd_end (rdT.e hon (by omega))
                · refine gw_iload_n (gc k_Model_readPart_1 25 rfl) rfl ?_
                  refine gw_bipush (gc k_Model_readPart_1 26 rfl) (by decide) ?_
                  refine gw_icmp_ne (tgt := 148) (gc k_Model_readPart_1 27 rfl) rfl (by omega) (fun c131 => ?_) (fun c131 => ?_)
                  · refine gw_return (gc k_Model_readPart_1 35 rfl) rfl ?_
                    have hpn := hpk p (by omega)
                    by_cases z : n = 50
                    · rw [if_pos z, if_pos z]
                      exact rd_end (rdT.e (pP_full (by omega) (by omega)) (by omega))
                    · rw [if_neg z, if_neg z]
                      by_cases z2 : T p = 50 ∧ V p ≤ 1000
                      · exact rd_end (rdT.i (pP_num (by omega) (by omega) z2) (by omega))
                      · cases o with
                        | false =>
                          have q1 : (if false = true then (15 : Int) else 8) = 8 := rfl
                          have q2 : (if false = true then (21 : Int) else 17) = 17 := rfl
                          rw [q1] at h8; rw [q2] at h9
                          exact rd_end (rdT.i (pP_law (by omega) (by omega) z2 ⟨rfl, by first | (rw [q1, q2] at *; omega) | omega⟩) (by omega))
                        | true =>
                          have q1 : (if true = true then (15 : Int) else 8) = 15 := rfl
                          have q2 : (if true = true then (21 : Int) else 17) = 21 := rfl
                          first | exact absurd c119 (by decide) | exact rd_end (rdT.i (pP_ord (by omega) (by omega) z2 ⟨rfl, by first | (rw [q1, q2] at *; omega) | omega⟩) (by omega))
                  · have hot : o = true := Decidable.byContradiction fun z => c119 (if_neg z)
                    have hpn := hpk p (by omega)
                    have hGl : rdG nt (if n = 50 then p else p + 1) (n + 1) (if n = 50 then P p else -1) := by
                      unfold rdG
                      by_cases z : n = 50
                      · rw [if_pos z, if_pos z]; omega
                      · rw [if_neg z, if_neg z]; omega
                    refine gw_aload_n (gc k_Model_readPart_1 28 rfl) rfl rfl ?_
                    refine gw_iconst (gc k_Model_readPart_1 29 rfl) ?_
                    refine gw_bipush (gc k_Model_readPart_1 30 rfl) (by decide) ?_
                    refine gw_cV0 (gc k_Model_readPart_1 31 rfl) y_Model_mustNumber ln_Model_201 (c_Model_mustNumber hx hf0 _ _ _ hR0 hGl 0 11 (by omega)) rfl rfl (gAt hx rfl rfl) rfl (gble (by omega)) ?_
                    refine gw_goto (tgt := 148) (gc k_Model_readPart_1 32 rfl) rfl ?_
                    refine gw_return (gc k_Model_readPart_1 35 rfl) rfl ?_
                    subst hot
                    by_cases z : n = 50
                    · rw [if_pos z, if_pos z, if_neg (by omega), if_neg (by omega)]
                      exact rd_end (rdT.e (pP_full (by omega) (by omega)) (by omega))
                    · rw [if_neg z, if_neg z]
                      have hon := pP_on (T := T) (V := V) (o := true) (sub := (some f)) (p := p) (n := n) (by omega) (by omega) (by omega) rfl (by omega)
                      have hv1 := hVb (p + 1) (by omega) (by omega)
                      by_cases z3 : T (p + 1) = 50 ∧ V (p + 1) ≤ 11
                      · have hpn2 := hpk (p + 1) (by omega)
                        rw [if_pos z3] at hon
                        rw [if_pos ⟨rfl, z3.1, hv1.1, z3.2⟩, if_neg (fun q => q.2 ⟨z3.1, hv1.1, z3.2⟩), show p + 1 + 1 = p + 2 by omega]
                        exact rd_end (rdT.i hon (by omega))
                      · rw [if_neg z3] at hon
                        rw [if_neg (fun q => z3 ⟨q.2.1, q.2.2.2⟩), if_pos ⟨rfl, fun q => z3 ⟨q.1, q.2.2⟩⟩]
                        exact rd_end (rdT.e hon (by omega))
    · refine gw_iload_n (gc k_Model_readPart_0 14 rfl) rfl ?_
      refine gw_bipush (gc k_Model_readPart_0 15 rfl) (by decide) ?_
      refine gw_icmp_ne (tgt := 37) (gc k_Model_readPart_0 16 rfl) rfl (by omega) (fun c30 => ?_) (fun c30 => ?_)
      · have hfb : -1 ≤ (-1 : Int) ∧ (-1 : Int) ≤ 400 := by omega
        refine gw_aload_n (gc k_Model_readPart_0 19 rfl) rfl rfl ?_
        refine gw_xV1 (gc k_Model_readPart_0 20 rfl) y_Model_fine ln_Model_177 (c_Model_fine hx hf0 _ _ _ hfb) rfl rfl (gAt hx rfl rfl) rfl (gble (by omega)) (fun r38 sh2 g38 hq38 => ?_)
        obtain ⟨rfl, rfl, rfl⟩ := hq38
        refine gw_bne (tgt := 45) (gc k_Model_readPart_0 21 rfl) rfl  (fun c41 => ?_) (fun c41 => ?_)
        · refine gw_aload_n (gc k_Model_readPart_0 23 rfl) rfl rfl ?_
          refine gw_dup (gc k_Model_readPart_0 24 rfl) rfl ?_
          refine gw_getf 19 rfl (gc k_Model_readPart_0 25 rfl) fl_Model_180 (gAt hx rfl rfl) ?_
          rw [rdM_19]
          refine gw_iconst (gc k_Model_readPart_0 26 rfl) ?_
          refine gw_iadd (gc k_Model_readPart_0 27 rfl) ?_
          refine gw_putIK 19 rfl (gc k_Model_readPart_0 28 rfl) fl_Model_180 (gAt hx rfl rfl) hf rfl (fun hf => ?_)
          rw [rdM_p]
          refine gw_aload_n (gc k_Model_readPart_0 29 rfl) rfl rfl ?_
          refine gw_iload_n (gc k_Model_readPart_0 30 rfl) rfl ?_
          refine gw_iconst (gc k_Model_readPart_0 31 rfl) ?_
          refine gw_iadd (gc k_Model_readPart_0 32 rfl) ?_
          refine gw_xV1 (gc k_Model_readPart_0 33 rfl) y_Model_readSum ln_Model_192 (hS (p + 1) n (-1) (by exact ⟨fun _ => ⟨⟨by omega, by have := hpk p (by omega); omega⟩, hG1.2⟩, by omega⟩)) rfl rfl (gAt hx rfl rfl) rfl (gble (by omega)) (fun r59 sh2 g59 hq59 => ?_)
          obtain ⟨rfl, rfl, p2, n2, b2, rfl, hT⟩ := hq59
          have hG3 := hT.ok hPb ⟨fun _ => ⟨⟨by omega, by have := hpk p (by omega); omega⟩, hG1.2⟩, by omega⟩
          have hfx := hf0
          refine gw_aload_n (gc k_Model_readPart_0 34 rfl) rfl rfl ?_
          refine gw_bipush (gc k_Model_readPart_0 35 rfl) (by decide) ?_
          refine gw_cS1 (gc k_Model_readPart_0 36 rfl) y_Model_sign ln_Model_220 (c_Model_sign 93) rfl rfl rfl (gble (by omega)) ?_
          refine gw_cV0 (gc k_Model_readPart_0 37 rfl) y_Model_must ln_Model_195 (c_Model_must hx hf0 p2 n2 b2 hR0 hG3 193 (by omega)) rfl rfl (gAt hx rfl rfl) rfl (gble (by omega)) ?_
          refine gw_goto (tgt := 148) (gc k_Model_readPart_0 38 rfl) rfl ?_
          refine gw_return (gc k_Model_readPart_1 35 rfl) rfl ?_
          rcases hT with ⟨q1, -⟩ | ⟨-, ⟨e, q1, rfl, q2, q3⟩ | ⟨c, s, q1, rfl, q2, q3⟩⟩
          · exact absurd rfl q1
          · have := hPb e q2 q3
            rw [if_neg (by omega), if_neg (by omega)]
            exact rd_end (rdT.e (pP_be (by omega) q1) ⟨q2, q3⟩)
          · have hi := pP_bi (V := V) (o := o) (by omega : T p = 191) q1
            by_cases z : T p2 = 193
            · rw [if_pos z] at hi
              have := hpk p2 (by omega)
              rw [if_pos ⟨rfl, z⟩, if_neg (fun q => q.2 z)]
              exact rd_end (rdT.i hi (by omega))
            · rw [if_neg z] at hi
              rw [if_neg (fun q => z q.2), if_pos ⟨rfl, z⟩]
              exact rd_end (rdT.e hi q2)
        · exfalso; omega
      · exfalso; omega
  · refine gw_return (gc k_Model_readPart_0 3 rfl) rfl ?_
    exact rd_end (Or.inl ⟨c4, rfl, rfl, rfl⟩)
