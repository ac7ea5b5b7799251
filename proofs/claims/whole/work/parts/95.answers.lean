/-! ===== the paper's answers are the reference's ===== -/
/-- the least of both: as high as b at the most, or none -/
def rl (b x y : Int) : Prop := (0 ≤ x ∧ x ≤ b ∧ y = x) ∨ (100000000 ≤ x ∧ y = 1000000)
theorem rl.up {b b2 x y : Int} (h : rl b x y) (hb : b ≤ b2) : rl b2 x y := h.elim (fun z => Or.inl ⟨z.1, by omega, z.2.2⟩) Or.inr
theorem mnF_le (C P : Int → Int) (lo : Int) : ∀ k : Nat, mnF C P lo k ≤ 100000000
  | 0 => Int.le_refl _
  | k + 1 => by
    have := mnF_le C P lo k
    show (if C (lo + k) = 1 then mnI (mnF C P lo k) (P (lo + k)) else mnF C P lo k) ≤ _
    unfold mnI
    split
    · split <;> omega
    · exact this
/-- the least on [lo, lo + k) -/
theorem mn_ck {C P P2 : Int → Int} {lo b : Int} (hb : 0 ≤ b ∧ b < 1000000) : ∀ k : Nat, (∀ q, lo ≤ q → q < lo + k → (C q = 0 ∨ C q = 1) ∧ (C q = 1 → rl b (P q) (P2 q) ∨ (100000000 ≤ P q ∧ 1000000 ≤ P2 q))) → rl b (mnF C P lo k) (ckF C P2 lo k).1 ∧ (mnF C P lo k < 100000000 → (lo ≤ (ckF C P2 lo k).2 ∧ (ckF C P2 lo k).2 < lo + k) ∧ (C (ckF C P2 lo k).2 = 1 ∧ P (ckF C P2 lo k).2 = mnF C P lo k) ∧ ∀ q, lo ≤ q → q < (ckF C P2 lo k).2 → ¬ (C q = 1 ∧ P q = mnF C P lo k)) ∧ ∀ q, lo ≤ q → q < lo + k → C q = 1 → mnF C P lo k ≤ P q
  | 0, _ => ⟨Or.inr ⟨by unfold mnF; decide, rfl⟩, fun h => by unfold mnF at h; omega, fun q a c => by omega⟩
  | k + 1, hq => by
    obtain ⟨h1, h2, h4⟩ := mn_ck hb k (fun q a c => hq q a (by omega))
    have h3 := hq (lo + k) (by omega) (by omega)
    have em : mnF C P lo (k + 1) = if C (lo + k) = 1 then mnI (mnF C P lo k) (P (lo + k)) else mnF C P lo k := rfl
    have ec : ckF C P2 lo (k + 1) = if C (lo + k) = 1 ∧ P2 (lo + k) < (ckF C P2 lo k).1 then (P2 (lo + k), lo + k) else ckF C P2 lo k := rfl
    by_cases z : C (lo + k) = 1
    · rw [if_pos z] at em
      have h5 := h3.2 z
      by_cases y : P2 (lo + k) < (ckF C P2 lo k).1
      · rw [if_pos ⟨z, y⟩] at ec
        have hP : P (lo + k) = P2 (lo + k) ∧ 0 ≤ P (lo + k) ∧ P (lo + k) ≤ b := by
          rcases h1 with w | w <;> rcases h5 with (v | v) | v <;> omega
        have hm : mnF C P lo (k + 1) = P (lo + k) := by
          rw [em]; unfold mnI
          rcases h1 with w | w
          · rw [if_neg (by omega)]
          · rw [if_neg (by omega)]
        rw [hm, ec]
        refine ⟨Or.inl ⟨hP.2.1, hP.2.2, hP.1.symm⟩, fun _ => ⟨⟨by show lo ≤ lo + k; omega, by show lo + k < lo + (k + 1 : Nat); omega⟩, ⟨z, rfl⟩, fun q a c e => ?_⟩, fun q a c e => ?_⟩
        · have c : q < lo + k := c
          have := h4 q a c e.1
          rcases h1 with w | w <;> omega
        · by_cases x : q < lo + k
          · have := h4 q a x e
            rcases h1 with w | w <;> omega
          · rw [show q = lo + k by omega]; exact Int.le_refl _
      · rw [if_neg (fun w => y w.2)] at ec
        have hm : mnF C P lo (k + 1) = mnF C P lo k ∧ mnF C P lo k ≤ P (lo + k) := by
          rw [em]; unfold mnI
          have hmb : mnF C P lo k ≤ 100000000 := by
            rcases h1 with w | w
            · omega
            · have := mnF_le C P lo k; omega
          have hle : mnF C P lo k ≤ P (lo + k) := by
            rcases h1 with w | w <;> rcases h5 with (v | v) | v <;> omega
          refine ⟨?_, hle⟩
          split <;> omega
        rw [hm.1, ec]
        refine ⟨h1, fun w => ?_, fun q a c e => ?_⟩
        · have v := h2 w
          exact ⟨⟨v.1.1, by omega⟩, v.2⟩
        · by_cases x : q < lo + k
          · exact h4 q a x e
          · rw [show q = lo + k by omega]; exact hm.2
    · rw [if_neg z] at em
      rw [if_neg (fun w => z w.1)] at ec
      rw [em, ec]
      refine ⟨h1, fun w => ?_, fun q a c e => ?_⟩
      · have v := h2 w
        exact ⟨⟨v.1.1, by omega⟩, v.2⟩
      · by_cases x : q < lo + k
        · exact h4 q a x e
        · exact absurd (show C (lo + k) = 1 by rw [← show q = lo + k by omega]; exact e) z
/-- the first at just this much -/
theorem fsF_at {C P : Int → Int} {want : Int} : ∀ (k : Nat) (lo t : Int), lo ≤ t → t < lo + k → C t = 1 ∧ P t = want → (∀ q, lo ≤ q → q < t → ¬ (C q = 1 ∧ P q = want)) → fsF C P want k lo = t
  | 0, lo, t, h1, h2, _, _ => by omega
  | k + 1, lo, t, h1, h2, h3, h4 => by
    unfold fsF
    by_cases z : lo = t
    · subst z; rw [if_pos h3]
    · rw [if_neg (h4 lo (Int.le_refl _) (by omega))]
      exact fsF_at k (lo + 1) t (by omega) (by omega) h3 (fun q a c => h4 q (by omega) c)
theorem kF_bd {r : Int → Int} (ho : rowOK r) : ∀ i, 0 ≤ i → i < 12 → (0 ≤ kF (r 39) i ∧ kF (r 39) i ≤ 24) ∧ (0 ≤ kF (r 40) i ∧ kF (r 40) i ≤ 24) := fun _ _ _ => ⟨ro_low ho, ro_high ho⟩
def aimK (kp : Int) : Int := if kp = 1 then 3 else 0
theorem cp_ca {r : Int → Int} {kp : Int} (hk : kp = 0 ∨ kp = 1) (n h q : Int) (hv : vBar r n h q = 0) : cpP r kp n h q = caF r (aimK kp) n h q := by
  rcases hk with rfl | rfl
  · show vPrice r n h q = vPay r n h q
    unfold vPrice
    rw [if_neg (by omega)]
  · have e1 : cpP r 1 n h q = if q = r n then 0 else 1 := if_pos rfl
    have e2 : caF r (aimK 1) n h q = if q = r n then 0 else 1 := (if_neg (by decide)).trans (if_neg (by decide))
    rw [e1, e2]
/-- the heart: the reference's least and the class's -/
theorem ls_la {Λ : Int → List PC} {sh : gS} {g : gM} {r : Int → Int} {a : Int} (hL : lwP Λ sh g r a) (ho : rowOK r) {kp : Int} (hk : kp = 0 ∨ kp = 1) {lo hi : Int} (hlo : 0 ≤ lo ∧ lo ≤ 24) (hhi : 0 ≤ hi ∧ hi ≤ 24) : ∀ (m : Nat) (n h : Int), 0 ≤ n → n + m = r 41 - 1 → (0 ≤ h ∧ h ≤ 24) → rl (999 * (m + 1)) (lsV r lo hi kp n h) (laV r (aimK kp) (kF lo) (kF hi) n h).1 ∧ (lsV r lo hi kp n h < 100000000 → fsF (vcC r n h) (vcP r lo hi kp n h) (lsV r lo hi kp n h) (hi + 1 - lo).toNat lo = (laV r (aimK kp) (kF lo) (kF hi) n h).2) := by
  have hm := ro_many ho
  intro m
  induction m with
  | zero =>
    intro n h h0 h1 hh
    have e := laV_eq r (aimK kp) (kF lo) (kF hi) (n := n) (by omega) h
    have q := mn_ck (C := vwC r n h) (P := vcP r lo hi kp n h) (P2 := fun q => caF r (aimK kp) n h q + raR r (aimK kp) (kF lo) (kF hi) n q) (lo := lo) (b := 999) (by omega) (hi + 1 - lo).toNat (fun q x y => by
      have hv := vBar_01 r n h q
      refine ⟨by unfold vwC; omega, fun w => Or.inl (Or.inl ?_)⟩
      have hc := cp_ca (r := r) hk n h q (by unfold vwC at w; omega)
      have hcb := caF_bd hL (aimK kp) n h q hh (by omega)
      show 0 ≤ cpP r kp n h q + rsR r lo hi kp n q ∧ cpP r kp n h q + rsR r lo hi kp n q ≤ 999 ∧ caF r (aimK kp) n h q + raR r (aimK kp) (kF lo) (kF hi) n q = cpP r kp n h q + rsR r lo hi kp n q
      have e1 : raR r (aimK kp) (kF lo) (kF hi) n q = 0 := if_neg (by omega)
      rw [rsR_last (by omega), e1, hc]
      omega)
    rw [show (laV r (aimK kp) (kF lo) (kF hi) n h) = ckF (vwC r n h) (fun q => caF r (aimK kp) n h q + raR r (aimK kp) (kF lo) (kF hi) n q) lo (hi + 1 - lo).toNat from e]
    refine ⟨q.1.up (by omega), fun w => ?_⟩
    have t := q.2.1 w
    exact fsF_at _ _ _ t.1.1 t.1.2 t.2.1 t.2.2
  | succ m ih =>
    intro n h h0 h1 hh
    have e := laV_eq r (aimK kp) (kF lo) (kF hi) (n := n) (by omega) h
    have q := mn_ck (C := vwC r n h) (P := vcP r lo hi kp n h) (P2 := fun q => caF r (aimK kp) n h q + raR r (aimK kp) (kF lo) (kF hi) n q) (lo := lo) (b := 999 * (m + 1) + 999) (by omega) (hi + 1 - lo).toNat (fun q x y => by
      have hv := vBar_01 r n h q
      refine ⟨by unfold vwC; omega, fun w => ?_⟩
      have hc := cp_ca (r := r) hk n h q (by unfold vwC at w; omega)
      have hcb := caF_bd hL (aimK kp) n h q hh (by omega)
      have i1 := (ih (n + 1) q (by omega) (by omega) (by omega)).1
      have e1 : raR r (aimK kp) (kF lo) (kF hi) n q = (laV r (aimK kp) (kF lo) (kF hi) (n + 1) q).1 := if_pos (by omega)
      have ev : vcP r lo hi kp n h q = caF r (aimK kp) n h q + lsV r lo hi kp (n + 1) q := by
        show cpP r kp n h q + rsR r lo hi kp n q = _
        rw [rsR_step (by omega), hc]
      show rl _ (vcP r lo hi kp n h q) (caF r (aimK kp) n h q + raR r (aimK kp) (kF lo) (kF hi) n q) ∨ _ ≤ vcP r lo hi kp n h q ∧ _ ≤ caF r (aimK kp) n h q + raR r (aimK kp) (kF lo) (kF hi) n q
      rw [ev, e1]
      rcases i1 with i1 | i1
      · exact Or.inl (Or.inl (by omega))
      · exact Or.inr (by omega))
    rw [show (laV r (aimK kp) (kF lo) (kF hi) n h) = ckF (vwC r n h) (fun q => caF r (aimK kp) n h q + raR r (aimK kp) (kF lo) (kF hi) n q) lo (hi + 1 - lo).toNat from e]
    refine ⟨q.1.up (by omega), fun w => ?_⟩
    have t := q.2.1 w
    exact fsF_at _ _ _ t.1.1 t.1.2 t.2.1 t.2.2
theorem lo_la {Λ : Int → List PC} {sh : gS} {g : gM} {r : Int → Int} {a : Int} (hL : lwP Λ sh g r a) (ho : rowOK r) {kp : Int} (hk : kp = 0 ∨ kp = 1) : loF r kp = laR r (aimK kp) (kF (r 39)) (kF (r 40)) ∧ (¬ loF r kp = -1 → ¬ r 41 = 0 → (laV r (aimK kp) (kF (r 39)) (kF (r 40)) 0 0).1 < 1000000) := by
  have hm := ro_many ho
  unfold loF laR
  by_cases z : r 41 = 0
  · rw [if_pos z, if_pos z]; exact ⟨rfl, fun _ w => absurd z w⟩
  · rw [if_neg z, if_neg z]
    have q := (ls_la hL ho hk (ro_low ho) (ro_high ho) (r 41 - 1).toNat 0 0 (by decide) (by omega) (by decide)).1
    rcases q with q | q
    · rw [if_neg (by omega), if_pos (by omega)]
      exact ⟨q.2.2.symm, fun _ _ => by omega⟩
    · rw [if_pos (by omega), if_neg (by omega)]
      exact ⟨rfl, fun w => absurd rfl w⟩
theorem vc_vK {Λ : Int → List PC} {sh : gS} {g : gM} {r : Int → Int} {a : Int} (hL : lwP Λ sh g r a) (ho : rowOK r) {kp : Int} (hk : kp = 0 ∨ kp = 1) (h0 : ¬ loF r kp = -1) : ∀ n : Nat, (n : Int) ≤ r 41 → vcF r (r 39) (r 40) kp n = vcK r (aimK kp) (kF (r 39)) (kF (r 40)) n
  | 0, _ => rfl
  | n + 1, hn => by
    have hm := ro_many ho
    have ih := vc_vK hL ho hk h0 n (by omega)
    have hls := loF_lt h0 (by omega)
    have q := vcF_ok hls n (by omega)
    have hb := vcK_ok hL ho (kF_bd ho) ((lo_la hL ho hk).2 h0 (by omega)) n (by omega)
    have t := (ls_la hL ho hk (ro_low ho) (ro_high ho) (r 41 - 1 - n).toNat n (vcF r (r 39) (r 40) kp n) (by omega) (by omega) (by rw [ih]; exact hb.2.1)).2 q.1
    show fsF (vcC r n (vcF r (r 39) (r 40) kp n)) (vcP r (r 39) (r 40) kp n (vcF r (r 39) (r 40) kp n)) (lsV r (r 39) (r 40) kp n (vcF r (r 39) (r 40) kp n)) (r 40 + 1 - r 39).toNat (r 39) = (laV r (aimK kp) (kF (r 39)) (kF (r 40)) n (vcK r (aimK kp) (kF (r 39)) (kF (r 40)) n)).2
    rw [t, ih]
/-- richest: the most, or what is missed at least -/
def rx (b x y : Int) : Prop := (0 ≤ x ∧ x ≤ b ∧ y = b - x) ∨ (x ≤ b - 100000000 ∧ y = 1000000)
theorem mx_ck {C P P2 : Int → Int} {lo b : Int} (hb : 0 ≤ b ∧ b < 1000000) : ∀ k : Nat, (∀ q, lo ≤ q → q < lo + k → C q = 1 → rx b (P q) (P2 q) ∨ (P q ≤ b - 100000000 ∧ 1000000 ≤ P2 q)) → rx b (mxF C P lo k) (ckF C P2 lo k).1
  | 0, _ => Or.inr ⟨by unfold mxF; omega, rfl⟩
  | k + 1, hq => by
    have h1 := mx_ck hb k (fun q a c => hq q a (by omega))
    have h3 := hq (lo + k) (by omega) (by omega)
    have em : mxF C P lo (k + 1) = if C (lo + k) = 1 then mxI (mxF C P lo k) (P (lo + k)) else mxF C P lo k := rfl
    have ec : ckF C P2 lo (k + 1) = if C (lo + k) = 1 ∧ P2 (lo + k) < (ckF C P2 lo k).1 then (P2 (lo + k), lo + k) else ckF C P2 lo k := rfl
    by_cases z : C (lo + k) = 1
    · have h5 := h3 z
      rw [if_pos z] at em
      unfold mxI at em
      by_cases y : P2 (lo + k) < (ckF C P2 lo k).1
      · rw [if_pos ⟨z, y⟩] at ec
        rw [ec]
        show rx b _ (P2 (lo + k))
        unfold rx at h1 h5 ⊢
        by_cases x : P (lo + k) < mxF C P lo k
        · rw [if_pos x] at em
          rcases h1 with w | w <;> rcases h5 with (v | v) | v <;> omega
        · rw [if_neg x] at em
          rcases h1 with w | w <;> rcases h5 with (v | v) | v <;> omega
      · rw [if_neg (fun w => y w.2)] at ec
        rw [ec]
        unfold rx at h1 h5 ⊢
        by_cases x : P (lo + k) < mxF C P lo k
        · rw [if_pos x] at em
          rcases h1 with w | w <;> rcases h5 with (v | v) | v <;> omega
        · rw [if_neg x] at em
          rcases h1 with w | w <;> rcases h5 with (v | v) | v <;> omega
    · rw [if_neg z] at em
      rw [if_neg (fun w => z w.1)] at ec
      rw [em, ec]
      exact h1
theorem mx_la {Λ : Int → List PC} {sh : gS} {g : gM} {r : Int → Int} {a : Int} (hL : lwP Λ sh g r a) (ho : rowOK r) : ∀ (m : Nat) (n h : Int), 0 ≤ n → n + m = r 41 - 1 → (0 ≤ h ∧ h ≤ 24) → rx (99 * (m + 1)) (mxV r n h) (laV r 1 (kF (r 39)) (kF (r 40)) n h).1 := by
  have hm := ro_many ho
  have hlo := ro_low ho
  have hhi := ro_high ho
  have hg : ∀ n h q, vBar r n h q = 0 → vGain r n h q = 99 - caF r 1 n h q := fun n h q hv => by
    show (if vBar r n h q = 1 then 0 else tlR r (vW r n h q) 2 99 1) = 99 - (99 - tlR r (vW r n h q) 2 99 1)
    rw [if_neg (by omega)]; omega
  have hcb : ∀ n h q, 0 ≤ caF r 1 n h q ∧ caF r 1 n h q ≤ 99 := fun n h q => by
    have e : caF r 1 n h q = 99 - tlR r (vW r n h q) 2 99 1 := rfl
    have := jL_1 (L := Λ a) (W := vW r n h q)
    rw [e, gain_j hL]
    omega
  intro m
  induction m with
  | zero =>
    intro n h h0 h1 hh
    rw [laV_eq r 1 (kF (r 39)) (kF (r 40)) (n := n) (by omega) h]
    refine mx_ck (by omega) _ (fun q x y w => Or.inl (Or.inl ?_))
    have hv := vBar_01 r n h q
    have w : 1 - vBar r n h q = 1 := w
    have e1 : raR r 1 (kF (r 39)) (kF (r 40)) n q = 0 := if_neg (by omega)
    have := hcb n h q
    show 0 ≤ vGain r n h q + grR r n q ∧ vGain r n h q + grR r n q ≤ 99 * (((0 : Nat) : Int) + 1) ∧ caF r 1 n h q + raR r 1 (kF (r 39)) (kF (r 40)) n q = 99 * (((0 : Nat) : Int) + 1) - (vGain r n h q + grR r n q)
    rw [grR_last (by omega), e1, hg n h q (by omega)]
    omega
  | succ m ih =>
    intro n h h0 h1 hh
    rw [laV_eq r 1 (kF (r 39)) (kF (r 40)) (n := n) (by omega) h]
    refine mx_ck (by omega) _ (fun q x y w => ?_)
    have hv := vBar_01 r n h q
    have w : 1 - vBar r n h q = 1 := w
    have e1 : raR r 1 (kF (r 39)) (kF (r 40)) n q = (laV r 1 (kF (r 39)) (kF (r 40)) (n + 1) q).1 := if_pos (by omega)
    have y : q < r 39 + (r 40 + 1 - r 39).toNat := y
    have x : r 39 ≤ q := x
    have i1 := ih (n + 1) q (by omega) (by omega) (by omega)
    have := hcb n h q
    show rx (99 * (((m + 1 : Nat) : Int) + 1)) (vGain r n h q + grR r n q) (caF r 1 n h q + raR r 1 (kF (r 39)) (kF (r 40)) n q) ∨ vGain r n h q + grR r n q ≤ 99 * (((m + 1 : Nat) : Int) + 1) - 100000000 ∧ 1000000 ≤ caF r 1 n h q + raR r 1 (kF (r 39)) (kF (r 40)) n q
    rw [grR_step (by omega), e1, hg n h q (by omega)]
    rcases i1 with i1 | i1
    · exact Or.inl (Or.inl (by omega))
    · exact Or.inr (by omega)
theorem me_ri {Λ : Int → List PC} {sh : gS} {g : gM} {r : Int → Int} {a : Int} (hL : lwP Λ sh g r a) (ho : rowOK r) : meR r = riR r := by
  have hm := ro_many ho
  by_cases z : r 41 = 0
  · have e : laR r 1 (kF (r 39)) (kF (r 40)) = 0 := if_pos z
    unfold meR riR
    rw [e, if_neg (by decide), if_pos z, z]; rfl
  · have q := mx_la hL ho (r 41 - 1).toNat 0 0 (by decide) (by omega) (by decide)
    unfold meR riR
    rcases q with q | q
    · have e : laR r 1 (kF (r 39)) (kF (r 40)) = (laV r 1 (kF (r 39)) (kF (r 40)) 0 0).1 := (if_neg z).trans (if_pos (by omega))
      rw [e, if_neg (by omega), if_neg z, if_pos q.1]
      omega
    · have e : laR r 1 (kF (r 39)) (kF (r 40)) = -1 := (if_neg z).trans (if_neg (by omega))
      rw [e, if_pos rfl, if_neg z, if_neg (by omega)]
/-- between: the first and the last note told -/
theorem ck_one {C P : Int → Int} (p : Int) : (ckF C P p (p + 1 - p).toNat).1 = if C p = 1 ∧ P p < 1000000 then P p else 1000000 := by
  rw [show (p + 1 - p).toNat = 0 + 1 by omega]
  show (if C (p + ((0 : Nat) : Int)) = 1 ∧ P (p + ((0 : Nat) : Int)) < (ckF C P p 0).1 then (P (p + ((0 : Nat) : Int)), p + ((0 : Nat) : Int)) else ckF C P p 0).1 = _
  rw [show p + ((0 : Nat) : Int) = p by omega]
  show (if C p = 1 ∧ P p < 1000000 then (P p, p) else (1000000, p)).1 = _
  split <;> rfl
theorem mn_far {C P : Int → Int} {lo : Int} : ∀ k : Nat, (∀ q, lo ≤ q → q < lo + k → 100000000 ≤ P q) → mnF C P lo k = 100000000
  | 0, _ => rfl
  | k + 1, h => by
    have := h (lo + k) (by omega) (by omega)
    show (if C (lo + k) = 1 then mnI (mnF C P lo k) (P (lo + k)) else mnF C P lo k) = _
    rw [mn_far k (fun q x y => h q x (by omega))]
    unfold mnI
    split
    · split <;> omega
    · rfl
theorem mn_one {C P : Int → Int} {lo b : Int} : ∀ k : Nat, lo ≤ b → b < lo + k → (∀ q, lo ≤ q → q < lo + k → q ≠ b → 100000000 ≤ P q) → mnF C P lo k = if C b = 1 ∧ P b < 100000000 then P b else 100000000
  | 0, h1, h2, _ => by omega
  | k + 1, h1, h2, h3 => by
    have em : mnF C P lo (k + 1) = if C (lo + k) = 1 then mnI (mnF C P lo k) (P (lo + k)) else mnF C P lo k := rfl
    obtain ⟨R, hR⟩ : ∃ R, R = if C b = 1 ∧ P b < 100000000 then P b else 100000000 := ⟨_, rfl⟩
    rw [em, ← hR]
    unfold mnI
    by_cases z : lo + k = b
    · have e : mnF C P lo k = 100000000 := mn_far k (fun q x y => h3 q x (by omega) (by omega))
      rw [e, z]
      by_cases c : C b = 1
      · rw [if_pos c]
        by_cases d : P b < 100000000
        · rw [if_pos ⟨c, d⟩] at hR
          rw [if_neg (by omega), hR]
        · rw [if_neg (fun w => d w.2)] at hR
          rw [hR]; split <;> omega
      · rw [if_neg (fun w => c w.1)] at hR
        rw [if_neg c, hR]
    · have e := mn_one (C := C) (P := P) k h1 (by omega) (fun q x y w => h3 q x (by omega) w)
      rw [← hR] at e
      have hRb : R ≤ 100000000 := by rw [hR]; split <;> omega
      have := h3 (lo + k) (by omega) (by omega) z
      rw [e]
      split
      · split <;> omega
      · rfl
theorem bt_la {Λ : Int → List PC} {sh : gS} {g : gM} {r : Int → Int} {a : Int} (hL : lwP Λ sh g r a) (ho : rowOK r) (p b : Int) (hb : r 39 ≤ b ∧ b ≤ r 40) : ∀ (m : Nat) (n h : Int), 1 ≤ n → n + m = r 41 - 1 → (0 ≤ h ∧ h ≤ 24) → rl (999 * (m + 1)) (btV r b n h) (laV r 0 (bwL r p b (r 39)) (bwL r p b (r 40)) n h).1 := by
  have hm := ro_many ho
  have hlo := ro_low ho
  have hhi := ro_high ho
  have hc : ∀ n h q, vBar r n h q = 0 → vPrice r n h q = caF r 0 n h q := fun n h q hv => by
    show (if vBar r n h q = 1 then 0 else vPay r n h q) = vPay r n h q
    rw [if_neg (by omega)]
  intro m
  induction m with
  | zero =>
    intro n h h0 h1 hh
    have hv := vBar_01 r n h b
    have hcb := caF_bd hL 0 n h b hh (by omega)
    have e1 : raR r 0 (bwL r p b (r 39)) (bwL r p b (r 40)) n b = 0 := if_neg (by omega)
    have e2 : btV r b n h = if 1 - vBar r n h b = 1 ∧ vPrice r n h b + btR r b n b < 100000000 then vPrice r n h b + btR r b n b else 100000000 := mn_one _ hb.1 (by omega) (fun q x y w => by
      show 100000000 ≤ vPrice r n h q + btR r b n q
      have := vPrice_nn r n h q
      unfold btR
      rw [show (r 41 - 1 - n).toNat = 0 by omega]
      show 100000000 ≤ vPrice r n h q + (if q = b then 0 else 100000000)
      rw [if_neg w]; omega)
    have e3 : btR r b n b = 0 := by
      unfold btR
      rw [show (r 41 - 1 - n).toNat = 0 by omega]
      exact if_pos rfl
    rw [laV_eq r 0 _ _ (n := n) (by omega) h, show bwL r p b (r 39) n = b from if_pos (by omega), show bwL r p b (r 40) n = b from if_pos (by omega), ck_one, e2, e3]
    show rl _ (if 1 - vBar r n h b = 1 ∧ vPrice r n h b + 0 < 100000000 then vPrice r n h b + 0 else 100000000) (if 1 - vBar r n h b = 1 ∧ caF r 0 n h b + raR r 0 (bwL r p b (r 39)) (bwL r p b (r 40)) n b < 1000000 then caF r 0 n h b + raR r 0 (bwL r p b (r 39)) (bwL r p b (r 40)) n b else 1000000)
    rw [e1]
    by_cases z : vBar r n h b = 0
    · rw [hc n h b z, if_pos (by omega), if_pos (by omega)]
      exact Or.inl (by omega)
    · rw [if_neg (by omega), if_neg (by omega)]
      exact Or.inr (by omega)
  | succ m ih =>
    intro n h h0 h1 hh
    rw [laV_eq r 0 _ _ (n := n) (by omega) h, show bwL r p b (r 39) n = r 39 from (if_neg (by omega)).trans (if_neg (by omega)), show bwL r p b (r 40) n = r 40 from (if_neg (by omega)).trans (if_neg (by omega))]
    refine ((mn_ck (b := 999 * (m + 1) + 999) (by omega) _ (fun q x y => ?_)).1).up (by omega)
    have hv := vBar_01 r n h q
    refine ⟨by show 1 - vBar r n h q = 0 ∨ 1 - vBar r n h q = 1; omega, fun w => ?_⟩
    have w : 1 - vBar r n h q = 1 := w
    have hcb := caF_bd hL 0 n h q hh (by omega)
    have i1 := ih (n + 1) q (by omega) (by omega) (by omega)
    have e1 : raR r 0 (bwL r p b (r 39)) (bwL r p b (r 40)) n q = (laV r 0 (bwL r p b (r 39)) (bwL r p b (r 40)) (n + 1) q).1 := if_pos (by omega)
    show rl _ (vPrice r n h q + btR r b n q) (caF r 0 n h q + raR r 0 (bwL r p b (r 39)) (bwL r p b (r 40)) n q) ∨ 100000000 ≤ vPrice r n h q + btR r b n q ∧ 1000000 ≤ caF r 0 n h q + raR r 0 (bwL r p b (r 39)) (bwL r p b (r 40)) n q
    rw [e1, show btR r b n q = btV r b (n + 1) q from by
      unfold btR btV btR
      rw [show (r 41 - 1 - n).toNat = (r 41 - 1 - (n + 1)).toNat + 1 by omega]
      rfl, hc n h q (by omega)]
    rcases i1 with i1 | i1
    · exact Or.inl (Or.inl (by omega))
    · exact Or.inr (by omega)
theorem bw_be {Λ : Int → List PC} {sh : gS} {g : gM} {r : Int → Int} {a : Int} (hL : lwP Λ sh g r a) (ho : rowOK r) (p q : Int) : bwR r p q = beR r p q := by
  have hm := ro_many ho
  have hlo := ro_low ho
  have hhi := ro_high ho
  unfold bwR beR
  by_cases z : ¬ r 41 = 0 ∧ (r 39 ≤ p ∧ p ≤ r 40) ∧ (r 39 ≤ q ∧ q ≤ r 40)
  · rw [if_pos z, if_neg (by split <;> split <;> omega)]
    have hv := vBar_01 r 0 0 p
    have hcb := caF_bd hL 0 0 0 p (by decide) (by omega)
    have hc : vBar r 0 0 p = 0 → vPrice r 0 0 p = caF r 0 0 0 p := fun hv => by
      show (if vBar r 0 0 p = 1 then 0 else vPay r 0 0 p) = vPay r 0 0 p
      rw [if_neg (by omega)]
    by_cases y : r 41 = 1
    · have e3 : btR r q 0 p = if p = q then 0 else 100000000 := by
        unfold btR
        rw [show (r 41 - 1 - 0).toNat = 0 by omega]
        rfl
      rw [e3]
      by_cases x : p = q
      · subst x
        rw [if_neg (fun w => w.2 rfl), if_pos rfl]
        unfold laR
        rw [if_neg z.1, laV_eq r 0 _ _ (n := 0) (by omega) 0, show bwL r p p (r 39) 0 = p from if_pos (by omega), show bwL r p p (r 40) 0 = p from if_pos (by omega), ck_one]
        have e1 : raR r 0 (bwL r p p (r 39)) (bwL r p p (r 40)) 0 p = 0 := if_neg (by omega)
        show (if (if 1 - vBar r 0 0 p = 1 ∧ caF r 0 0 0 p + raR r 0 (bwL r p p (r 39)) (bwL r p p (r 40)) 0 p < 1000000 then caF r 0 0 0 p + raR r 0 (bwL r p p (r 39)) (bwL r p p (r 40)) 0 p else 1000000) < 1000000 then (if 1 - vBar r 0 0 p = 1 ∧ caF r 0 0 0 p + raR r 0 (bwL r p p (r 39)) (bwL r p p (r 40)) 0 p < 1000000 then caF r 0 0 0 p + raR r 0 (bwL r p p (r 39)) (bwL r p p (r 40)) 0 p else 1000000) else -1) = _
        rw [e1]
        by_cases w : vBar r 0 0 p = 0
        · rw [hc w, if_pos (show 1 - vBar r 0 0 p = 1 ∧ caF r 0 0 0 p + 0 < 1000000 by omega), if_pos (by omega), if_pos (by omega)]
        · rw [if_neg (show ¬ (1 - vBar r 0 0 p = 1 ∧ caF r 0 0 0 p + 0 < 1000000) by omega), if_neg (by omega), if_neg (fun v => w v.1)]
      · rw [if_pos ⟨y, x⟩, if_neg x, if_neg]
        have := vPrice_nn r 0 0 p
        omega
    · rw [if_neg (fun w => y w.1)]
      unfold laR
      rw [if_neg z.1, laV_eq r 0 _ _ (n := 0) (by omega) 0, show bwL r p q (r 39) 0 = p from (if_neg (by omega)).trans (if_pos rfl), show bwL r p q (r 40) 0 = p from (if_neg (by omega)).trans (if_pos rfl), ck_one]
      have e1 : raR r 0 (bwL r p q (r 39)) (bwL r p q (r 40)) 0 p = (laV r 0 (bwL r p q (r 39)) (bwL r p q (r 40)) (0 + 1) p).1 := if_pos (by omega)
      have e2 : btR r q 0 p = btV r q (0 + 1) p := by
        unfold btR btV btR
        rw [show (r 41 - 1 - 0).toNat = (r 41 - 1 - (0 + 1)).toNat + 1 by omega]
        rfl
      have i1 := bt_la hL ho p q z.2.2 (r 41 - 1 - (0 + 1)).toNat (0 + 1) p (by decide) (by omega) (by omega)
      show (if (if 1 - vBar r 0 0 p = 1 ∧ caF r 0 0 0 p + raR r 0 (bwL r p q (r 39)) (bwL r p q (r 40)) 0 p < 1000000 then caF r 0 0 0 p + raR r 0 (bwL r p q (r 39)) (bwL r p q (r 40)) 0 p else 1000000) < 1000000 then (if 1 - vBar r 0 0 p = 1 ∧ caF r 0 0 0 p + raR r 0 (bwL r p q (r 39)) (bwL r p q (r 40)) 0 p < 1000000 then caF r 0 0 0 p + raR r 0 (bwL r p q (r 39)) (bwL r p q (r 40)) 0 p else 1000000) else -1) = _
      rw [e1, e2]
      by_cases w : vBar r 0 0 p = 0
      · rw [hc w]
        rcases i1 with i1 | i1
        · rw [if_pos (show 1 - vBar r 0 0 p = 1 ∧ caF r 0 0 0 p + (laV r 0 (bwL r p q (r 39)) (bwL r p q (r 40)) (0 + 1) p).1 < 1000000 by omega), if_pos (by omega), if_pos (by omega), i1.2.2]
        · rw [if_neg (show ¬ (1 - vBar r 0 0 p = 1 ∧ caF r 0 0 0 p + (laV r 0 (bwL r p q (r 39)) (bwL r p q (r 40)) (0 + 1) p).1 < 1000000) by omega), if_neg (by omega), if_neg (by omega)]
      · rw [if_neg (show ¬ (1 - vBar r 0 0 p = 1 ∧ caF r 0 0 0 p + (laV r 0 (bwL r p q (r 39)) (bwL r p q (r 40)) (0 + 1) p).1 < 1000000) by omega), if_neg (by omega), if_neg (fun v => w v.1)]
  · rw [if_neg z, if_pos (by split <;> split <;> omega)]
