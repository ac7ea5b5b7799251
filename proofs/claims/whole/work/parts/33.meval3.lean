theorem bd9_pjn {op a b v : Int} (h : pjn op a b = some v) : bd9 v := by
  unfold pjn at h
  have hl : ∀ x, plim x = some v → bd9 v := fun x hx => by
    unfold plim at hx
    split at hx
    · cases hx
    · cases hx; unfold bd9; omega
  have hb : ∀ (p : Prop) [Decidable p], some (bi p) = some v → bd9 v := fun p _ hx => by
    cases hx
    rcases bi_01 p with q | q <;> rw [q] <;> exact ⟨by decide, by decide⟩
  split at h
  · exact hl _ h
  split at h
  · exact hl _ h
  split at h
  · exact hl _ h
  split at h
  · split at h
    · cases h
    · exact hl _ h
  split at h
  · split at h
    · cases h
    · exact hl _ h
  split at h
  · exact hb _ h
  split at h
  · exact hb _ h
  · exact hb _ h
theorem bd9_pjs {op : Int} {s t : PS} {w : Int → Int} : ∀ v, pjs op s t w = some v → bd9 v := by
  intro v h
  unfold pjs at h
  cases h1 : s w with
  | none => rw [h1] at h; cases h
  | some a =>
    cases h2 : t w with
    | none => rw [h1, h2] at h; cases h
    | some c => rw [h1, h2] at h; exact bd9_pjn h
theorem pTermL_bd {T : Int → Int} {w : Int → Int} {part : Int → Int → PR} : ∀ (f : Nat) (p n : Int) (c : PK) (s : PS) p2 n2 c2 s2, pTermL T part f p n c s = .inr (p2, n2, c2, s2) → (∀ v, s w = some v → bd9 v) → ∀ v, s2 w = some v → bd9 v
  | 0, p, n, c, s, p2, n2, c2, s2, e, h => by cases e; exact h
  | f + 1, p, n, c, s, p2, n2, c2, s2, e, h => by
    unfold pTermL at e
    split at e
    · cases hq : part (p + 1) n with
      | inl x => rw [hq] at e; cases e
      | inr x =>
        obtain ⟨q2, m2, d2, t2⟩ := x
        rw [hq] at e
        exact pTermL_bd f _ _ _ _ _ _ _ _ e bd9_pjs
    · cases e; exact h
theorem pSumL_bd {T : Int → Int} {w : Int → Int} {part : Int → Int → PR} : ∀ (f : Nat) (p n : Int) (c : PK) (s : PS) p2 n2 c2 s2, pSumL T part f p n c s = .inr (p2, n2, c2, s2) → (∀ v, s w = some v → bd9 v) → ∀ v, s2 w = some v → bd9 v
  | 0, p, n, c, s, p2, n2, c2, s2, e, h => by cases e; exact h
  | f + 1, p, n, c, s, p2, n2, c2, s2, e, h => by
    unfold pSumL at e
    split at e
    · cases hq : part (p + 1) n with
      | inl x => rw [hq] at e; cases e
      | inr x =>
        obtain ⟨q2, m2, d2, t2⟩ := x
        rw [hq] at e
        exact pSumL_bd f _ _ _ _ _ _ _ _ e bd9_pjs
    · cases e; exact h
/-- what the reference keeps behind an operation, by what both sides kept -/
theorem ev_join {live br : Int} {sv tv r : Option Int} {x : Int} (hl : live = 0 ∨ live = 1) (hb : br = 0 ∨ br = 1)
    (h0 : live = 0 → x = 0) (hr : r = sv.bind fun a => tv.bind fun b => if x > 1000000000 ∨ x < -1000000000 then none else some x) :
    bdV live (evB live (evB live br sv) tv) x = evV live br r ∧ bdB live (evB live (evB live br sv) tv) x = evB live br r := by
  subst hr
  rcases hl with rfl | rfl
  · have h0 := h0 rfl
    subst h0
    simp only [evB_0, evV_0]
    have : bdB 0 br 0 = br := if_neg (by omega)
    refine ⟨?_, this⟩
    unfold bdV
    rw [this]
    split <;> rfl
  · rcases hb with rfl | rfl
    · cases sv with
      | none =>
        simp only [Option.bind_none, evB_n, evB_b, evV_n]
        have : bdB 1 1 x = 1 := by unfold bdB; split <;> rfl
        exact ⟨by unfold bdV; rw [this]; rfl, this⟩
      | some a =>
        simp only [evB_s, Option.bind_some]
        cases tv with
        | none =>
          simp only [Option.bind_none, evB_n, evV_n]
          have : bdB 1 1 x = 1 := by unfold bdB; split <;> rfl
          exact ⟨by unfold bdV; rw [this]; rfl, this⟩
        | some c =>
          simp only [evB_s, Option.bind_some]
          by_cases h : x > 1000000000 ∨ x < -1000000000
          · rw [if_pos h, evV_n, evB_n]
            have : bdB 1 0 x = 1 := if_pos ⟨rfl, h⟩
            exact ⟨by unfold bdV; rw [this]; rfl, this⟩
          · rw [if_neg h, evV_s, evB_s]
            have : bdB 1 0 x = 0 := if_neg (fun z => h z.2)
            exact ⟨by unfold bdV; rw [this]; rfl, this⟩
    · simp only [evB_b, evV_b]
      have : bdB 1 1 x = 1 := by unfold bdB; split <;> rfl
      exact ⟨by unfold bdV; rw [this]; rfl, this⟩
/-- what both sides kept of an operation within its numbers -/
theorem ev_pjs {op live br : Int} {s t : PS} {w : Int → Int} {x : Int} (hl : live = 0 ∨ live = 1) (hb : br = 0 ∨ br = 1) (h0 : live = 0 → x = 0)
    (hx : live = 1 → br = 0 → ∀ a c, s w = some a → t w = some c → pjn op a c = plim x) :
    bdV live (evB live (evB live br (s w)) (t w)) x = evV live br (pjs op s t w) ∧ bdB live (evB live (evB live br (s w)) (t w)) x = evB live br (pjs op s t w) := by
  by_cases h : live = 1 ∧ br = 0
  · refine ev_join hl hb h0 ?_
    unfold pjs
    cases h1 : s w with
    | none => rfl
    | some a =>
      cases h2 : t w with
      | none => rfl
      | some c => exact hx h.1 h.2 a c h1 h2
  · have e := ev_join (sv := s w) (tv := t w) hl hb h0 rfl
    refine ⟨e.1.trans ?_, e.2.trans ?_⟩
    · unfold evV; rw [if_neg h, if_neg h]
    · unfold evB; rw [if_neg (fun z => h ⟨z.1, z.2.1⟩), if_neg (fun z => h ⟨z.1, z.2.1⟩)]
/-- a division by 0 -/
theorem ev_pjz {op live br : Int} {s t : PS} {w : Int → Int} {x v : Int} (ho : op = 8 ∨ op = 9) (hl : live = 0 ∨ live = 1) (hb : br = 0 ∨ br = 1) (h0 : live = 0 → x = 0)
    (hz : evV live (evB live br (s w)) (t w) = 0) (hv : (v = 1 ∧ (evB live (evB live br (s w)) (t w) = 1 ∨ live = 1)) ∨ (v = 0 ∧ evB live (evB live br (s w)) (t w) = 0 ∧ live = 0)) :
    bdV live v x = evV live br (pjs op s t w) ∧ bdB live v x = evB live br (pjs op s t w) := by
  rcases hl with rfl | rfl
  · have h0 := h0 rfl
    subst h0
    simp only [evB_0, evV_0] at *
    have hvb : v = br := by omega
    subst hvb
    have : bdB 0 v 0 = v := if_neg (by omega)
    refine ⟨?_, this⟩
    unfold bdV
    rw [this]
    split <;> rfl
  · have hv1 : v = 1 := by omega
    subst hv1
    have h1 : bdB 1 1 x = 1 := by unfold bdB; split <;> rfl
    have h2 : bdV 1 1 x = 0 := by unfold bdV; rw [h1]; rfl
    rw [h1, h2]
    rcases hb with rfl | rfl
    · have hn : pjs op s t w = none := by
        unfold pjs
        cases h3 : s w with
        | none => rfl
        | some a =>
          cases h4 : t w with
          | none => rfl
          | some c =>
            rw [h3, h4] at hz
            simp only [evB_s, evV_s] at hz
            subst hz
            rcases ho with rfl | rfl <;> rfl
      rw [hn, evV_n, evB_n]
      exact ⟨rfl, rfl⟩
    · rw [evV_b, evB_b]
      exact ⟨rfl, rfl⟩
theorem gmul9 {a b : Int} (h : -1000000000 ≤ a ∧ a ≤ 1000000000) (h2 : -1000000000 ≤ b ∧ b ≤ 1000000000) : -1000000000000000000 ≤ a * b ∧ a * b ≤ 1000000000000000000 := by
  have h3 : (a * b).natAbs ≤ 1000000000 * 1000000000 := by
    rw [Int.natAbs_mul]
    exact Nat.mul_le_mul (by omega) (by omega)
  omega
theorem gtd_bd {a : Int} (h : -1000000000 ≤ a ∧ a ≤ 1000000000) (b : Int) : -9000000000000000000 ≤ a.tdiv b ∧ a.tdiv b ≤ 9000000000000000000 := by
  have h1 : (a.tdiv b).natAbs ≤ a.natAbs := by
    rw [Int.natAbs_tdiv]
    exact Nat.div_le_self _ _
  omega
theorem gtm_bd {a : Int} (h : -1000000000 ≤ a ∧ a ≤ 1000000000) (b : Int) : -9000000000000000000 ≤ a.tmod b ∧ a.tmod b ≤ 9000000000000000000 := by
  have h1 : (a.tmod b).natAbs ≤ a.natAbs := by
    rw [Int.natAbs_tmod]
    exact Nat.mod_le _ _
  omega
theorem evV_z {live br : Int} {v : Option Int} (h : live = 0) : evV live br v = 0 := by subst h; exact evV_0
set_option maxHeartbeats 2000000 in
theorem ev_sum_exit {sh : gS} {g : gM} (hx : gFix sh) (hf : gFin g) {T V : Int → Int} {b : Int} {o : Bool} {w : Int → Int} (E : EvC T V b o w g) {D : Nat} (hD : 3 ≤ D) (p : Int) (hp : 0 ≤ p ∧ p ≤ 401) (live br : Int) (hl : live = 0 ∨ live = 1) (hb : br = 0 ∨ br = 1) (s : PS) (x4 x5 x6 : gV) (hop : ¬ (T p = 143 ∨ T p = 145)) : gWP f_Model_sumOf D 0 0 6 [(2, 177), (0, live), (1, evV live br (s w)), (9, 0), x4, x5, x6] [] sh (evM g (b + p) (evB live br (s w))) (gR (some (1, evV live br (s w))) sh (evM g (b + p) (evB live br (s w)))) := by
  have hfe := fun x y => hf.ev x y
  have h1 := E.1
  have hrg := E.rg p hp.1
  show gWP f_Model_sumOf _ _ _ 6 [(2, 177), (0, live), (1, evV live br (s w)), (9, 0), x4, x5, x6] [] sh (evM g (b + p) (evB live br (s w))) _
  refine gw_aload_n (gc k_Model_sumOf_0 4 rfl) rfl rfl ?_
  refine gw_aload_n (gc k_Model_sumOf_0 5 rfl) rfl rfl ?_
  refine gw_getf 22 rfl (gc k_Model_sumOf_0 6 rfl) fl_Model_261 (gAt hx rfl rfl) ?_
  rw [evM_22]
  refine gw_cV1 (gc k_Model_sumOf_0 7 rfl) y_Model_codeAt ln_Model_264 (c_codeAt hx hf E p _ _ (by omega)) rfl rfl (gAt hx rfl rfl) rfl (gble (by omega)) ?_
  refine gw_bipush (gc k_Model_sumOf_0 8 rfl) (by decide) ?_
  refine gw_cS1 (gc k_Model_sumOf_0 9 rfl) y_Model_sign ln_Model_220 (c_Model_sign 43) rfl rfl rfl (gble (by omega)) ?_
  refine gw_icmp_eq (tgt := 38) (gc k_Model_sumOf_0 10 rfl) rfl (by omega) (fun c19 => ?_) (fun c19 => ?_)
  · exact absurd c19 (by omega)
  · refine gw_aload_n (gc k_Model_sumOf_0 11 rfl) rfl rfl ?_
    refine gw_aload_n (gc k_Model_sumOf_0 12 rfl) rfl rfl ?_
    refine gw_getf 22 rfl (gc k_Model_sumOf_0 13 rfl) fl_Model_261 (gAt hx rfl rfl) ?_
    rw [evM_22]
    refine gw_cV1 (gc k_Model_sumOf_0 14 rfl) y_Model_codeAt ln_Model_264 (c_codeAt hx hf E p _ _ (by omega)) rfl rfl (gAt hx rfl rfl) rfl (gble (by omega)) ?_
    refine gw_bipush (gc k_Model_sumOf_0 15 rfl) (by decide) ?_
    refine gw_cS1 (gc k_Model_sumOf_0 16 rfl) y_Model_sign ln_Model_220 (c_Model_sign 45) rfl rfl rfl (gble (by omega)) ?_
    refine gw_icmp_ne (tgt := 103) (gc k_Model_sumOf_0 17 rfl) rfl (by omega) (fun c35 => ?_) (fun c35 => ?_)
    · refine gw_lload_n (gc k_Model_sumOf_1 13 rfl) rfl ?_
      refine gw_lreturn (gc k_Model_sumOf_1 14 rfl) rfl ?_
      exact ⟨rfl, rfl, rfl⟩
    · exact absurd c35 (by omega)
set_option maxHeartbeats 2000000 in
theorem ev_sum_143 {sh : gS} {g : gM} (hx : gFix sh) (hf : gFin g) {T V : Int → Int} {b : Int} {o : Bool} {w : Int → Int} (E : EvC T V b o w g) {D : Nat} (hD : 3 ≤ D) (p : Int) (hp : 0 ≤ p ∧ p ≤ 401) (live br : Int) (hl : live = 0 ∨ live = 1) (hb : br = 0 ∨ br = 1) (s : PS) (x4 x5 x6 : gV) (hT : T p = 143) {d : Nat} (hd : d + 1 ≤ D) (q : Int) (t : PS) (hS : (∀ v, t w = some v → bd9 v) ∧ ∀ live br : Int, (live = 0 ∨ live = 1) → (br = 0 ∨ br = 1) → gTri f_Model_termOf d 0 0 [(2, 177), (0, live)] sh (evM g (b + (p + 1)) br) (gR (some (1, evV live br (t w))) sh (evM g (b + q) (evB live br (t w))))) (hs : ∀ v, s w = some v → bd9 v) {Q : gQ} (k : ∀ y4 y5 y6 : gV, gWP f_Model_sumOf D 0 0 6 [(2, 177), (0, live), (1, evV live br (pjs 5 s t w)), (9, 0), y4, y5, y6] [] sh (evM g (b + q) (evB live br (pjs 5 s t w))) Q) : gWP f_Model_sumOf D 0 0 6 [(2, 177), (0, live), (1, evV live br (s w)), (9, 0), x4, x5, x6] [] sh (evM g (b + p) (evB live br (s w))) Q := by
  have hfe := fun x y => hf.ev x y
  have h1 := E.1
  have hrg := E.rg p hp.1
  have hB1 := evB_01 (live := live) (v := s w) hb
  have hV1 := evV_bd (live := live) (br := br) hs
  have hV2 := evV_bd (live := live) (br := evB live br (s w)) hS.1
  have hB2 := evB_01 (live := live) (v := t w) hB1
  unfold bd9 at hV1 hV2
  have hmul : -1000000000000000000 ≤ evV live br (s w) * evV live (evB live br (s w)) (t w) ∧ evV live br (s w) * evV live (evB live br (s w)) (t w) ≤ 1000000000000000000 := gmul9 hV1 hV2
  show gWP f_Model_sumOf _ _ _ 6 [(2, 177), (0, live), (1, evV live br (s w)), (9, 0), x4, x5, x6] [] sh (evM g (b + p) (evB live br (s w))) _
  refine gw_joinN0 38 ?_ (fun kj6 => ?_)
  · refine gw_aload_n (gc k_Model_sumOf_0 18 rfl) rfl rfl ?_
    refine gw_aload_n (gc k_Model_sumOf_0 19 rfl) rfl rfl ?_
    refine gw_getf 22 rfl (gc k_Model_sumOf_0 20 rfl) fl_Model_261 (gAt hx rfl rfl) ?_
    rw [evM_22]
    refine gw_cV1 (gc k_Model_sumOf_0 21 rfl) y_Model_codeAt ln_Model_264 (c_codeAt hx hf E p _ _ (by omega)) rfl rfl (gAt hx rfl rfl) rfl (gble (by omega)) ?_
    refine gw_bipush (gc k_Model_sumOf_0 22 rfl) (by decide) ?_
    refine gw_cS1 (gc k_Model_sumOf_0 23 rfl) y_Model_sign ln_Model_220 (c_Model_sign 43) rfl rfl rfl (gble (by omega)) ?_
    refine gw_icmp_ne (tgt := 58) (gc k_Model_sumOf_0 24 rfl) rfl (by omega) (fun c51 => ?_) (fun c51 => ?_)
    · exact absurd hT c51
    · refine gw_iconst (gc k_Model_sumOf_0 25 rfl) ?_
      refine gw_goto (tgt := 59) (gc k_Model_sumOf_0 26 rfl) rfl ?_
      refine gw_istore_4 (gc k_Model_sumOf_0 28 rfl) rfl rfl ?_
      refine gw_aload_n (gc k_Model_sumOf_0 29 rfl) rfl rfl ?_
      refine gw_dup (gc k_Model_sumOf_0 30 rfl) rfl ?_
      refine gw_getf 22 rfl (gc k_Model_sumOf_0 31 rfl) fl_Model_261 (gAt hx rfl rfl) ?_
      refine gw_iconst (gc k_Model_sumOf_0 32 rfl) ?_
      refine gw_iadd (gc k_Model_sumOf_0 33 rfl) ?_
      refine gw_putIK 22 rfl (gc k_Model_sumOf_0 34 rfl) fl_Model_261 (gAt hx rfl rfl) (hfe _ _) rfl (fun _ => ?_)
      rw [evM_inc]
      refine gw_aload_n (gc k_Model_sumOf_0 35 rfl) rfl rfl ?_
      refine gw_iload_n (gc k_Model_sumOf_0 36 rfl) rfl ?_
      refine gw_cV1 (gc k_Model_sumOf_0 37 rfl) y_Model_termOf ln_Model_274 (hS.2 live _ hl hB1) rfl rfl (gAt hx rfl rfl) rfl (gble (by omega)) ?_
      refine gw_lstore_5 (gc k_Model_sumOf_0 38 rfl) rfl rfl ?_
      refine gw_aload_n (gc k_Model_sumOf_0 39 rfl) rfl rfl ?_
      refine gw_iload (gc k_Model_sumOf_1 0 rfl) rfl ?_
      refine gw_if_eq (tgt := 91) (gc k_Model_sumOf_1 1 rfl) rfl (by omega) (fun c81 => ?_) (fun c81 => ?_)
      · exact absurd c81 (by decide)
      · refine gw_lload_n (gc k_Model_sumOf_1 2 rfl) rfl ?_
        refine gw_lload (gc k_Model_sumOf_1 3 rfl) rfl ?_
        refine gw_ladd (gc k_Model_sumOf_1 4 rfl) ?_
        refine gw_goto (tgt := 95) (gc k_Model_sumOf_1 5 rfl) rfl ?_
        refine gw_iload_n (gc k_Model_sumOf_1 9 rfl) rfl ?_
        refine gw_cV1 (gc k_Model_sumOf_1 10 rfl) y_Model_bounded ln_Model_278 (c_Model_bounded hx hf _ live _ _ hl hB2 (by omega)) rfl rfl (gAt hx rfl rfl) rfl (gble (by omega)) ?_
        rw [(ev_pjs (op := 5) hl hb (fun z => by rw [evV_z z, evV_z z]; rfl) (fun z1 z2 a c ha hc => by subst z1; subst z2; rw [ha, hc]; simp only [evB_s, evV_s]; rfl)).1, (ev_pjs (op := 5) hl hb (fun z => by rw [evV_z z, evV_z z]; rfl) (fun z1 z2 a c ha hc => by subst z1; subst z2; rw [ha, hc]; simp only [evB_s, evV_s]; rfl)).2]
        refine gw_lstore_2 (gc k_Model_sumOf_1 11 rfl) rfl rfl ?_
        refine gw_goto (tgt := 6) (gc k_Model_sumOf_1 12 rfl) rfl ?_
        exact k _ _ _
  · refine gw_aload_n (gc k_Model_sumOf_0 4 rfl) rfl rfl ?_
    refine gw_aload_n (gc k_Model_sumOf_0 5 rfl) rfl rfl ?_
    refine gw_getf 22 rfl (gc k_Model_sumOf_0 6 rfl) fl_Model_261 (gAt hx rfl rfl) ?_
    rw [evM_22]
    refine gw_cV1 (gc k_Model_sumOf_0 7 rfl) y_Model_codeAt ln_Model_264 (c_codeAt hx hf E p _ _ (by omega)) rfl rfl (gAt hx rfl rfl) rfl (gble (by omega)) ?_
    refine gw_bipush (gc k_Model_sumOf_0 8 rfl) (by decide) ?_
    refine gw_cS1 (gc k_Model_sumOf_0 9 rfl) y_Model_sign ln_Model_220 (c_Model_sign 43) rfl rfl rfl (gble (by omega)) ?_
    refine gw_icmp_eq (tgt := 38) (gc k_Model_sumOf_0 10 rfl) rfl (by omega) (fun c19 => ?_) (fun c19 => ?_)
    · exact kj6
    · exact absurd hT c19
set_option maxHeartbeats 2000000 in
theorem ev_sum_145 {sh : gS} {g : gM} (hx : gFix sh) (hf : gFin g) {T V : Int → Int} {b : Int} {o : Bool} {w : Int → Int} (E : EvC T V b o w g) {D : Nat} (hD : 3 ≤ D) (p : Int) (hp : 0 ≤ p ∧ p ≤ 401) (live br : Int) (hl : live = 0 ∨ live = 1) (hb : br = 0 ∨ br = 1) (s : PS) (x4 x5 x6 : gV) (hT : T p = 145) {d : Nat} (hd : d + 1 ≤ D) (q : Int) (t : PS) (hS : (∀ v, t w = some v → bd9 v) ∧ ∀ live br : Int, (live = 0 ∨ live = 1) → (br = 0 ∨ br = 1) → gTri f_Model_termOf d 0 0 [(2, 177), (0, live)] sh (evM g (b + (p + 1)) br) (gR (some (1, evV live br (t w))) sh (evM g (b + q) (evB live br (t w))))) (hs : ∀ v, s w = some v → bd9 v) {Q : gQ} (k : ∀ y4 y5 y6 : gV, gWP f_Model_sumOf D 0 0 6 [(2, 177), (0, live), (1, evV live br (pjs 6 s t w)), (9, 0), y4, y5, y6] [] sh (evM g (b + q) (evB live br (pjs 6 s t w))) Q) : gWP f_Model_sumOf D 0 0 6 [(2, 177), (0, live), (1, evV live br (s w)), (9, 0), x4, x5, x6] [] sh (evM g (b + p) (evB live br (s w))) Q := by
  have hfe := fun x y => hf.ev x y
  have h1 := E.1
  have hrg := E.rg p hp.1
  have hB1 := evB_01 (live := live) (v := s w) hb
  have hV1 := evV_bd (live := live) (br := br) hs
  have hV2 := evV_bd (live := live) (br := evB live br (s w)) hS.1
  have hB2 := evB_01 (live := live) (v := t w) hB1
  unfold bd9 at hV1 hV2
  have hmul : -1000000000000000000 ≤ evV live br (s w) * evV live (evB live br (s w)) (t w) ∧ evV live br (s w) * evV live (evB live br (s w)) (t w) ≤ 1000000000000000000 := gmul9 hV1 hV2
  show gWP f_Model_sumOf _ _ _ 6 [(2, 177), (0, live), (1, evV live br (s w)), (9, 0), x4, x5, x6] [] sh (evM g (b + p) (evB live br (s w))) _
  refine gw_joinN0 38 ?_ (fun kj6 => ?_)
  · refine gw_aload_n (gc k_Model_sumOf_0 18 rfl) rfl rfl ?_
    refine gw_aload_n (gc k_Model_sumOf_0 19 rfl) rfl rfl ?_
    refine gw_getf 22 rfl (gc k_Model_sumOf_0 20 rfl) fl_Model_261 (gAt hx rfl rfl) ?_
    rw [evM_22]
    refine gw_cV1 (gc k_Model_sumOf_0 21 rfl) y_Model_codeAt ln_Model_264 (c_codeAt hx hf E p _ _ (by omega)) rfl rfl (gAt hx rfl rfl) rfl (gble (by omega)) ?_
    refine gw_bipush (gc k_Model_sumOf_0 22 rfl) (by decide) ?_
    refine gw_cS1 (gc k_Model_sumOf_0 23 rfl) y_Model_sign ln_Model_220 (c_Model_sign 43) rfl rfl rfl (gble (by omega)) ?_
    refine gw_icmp_ne (tgt := 58) (gc k_Model_sumOf_0 24 rfl) rfl (by omega) (fun c51 => ?_) (fun c51 => ?_)
    · refine gw_iconst (gc k_Model_sumOf_0 27 rfl) ?_
      refine gw_istore_4 (gc k_Model_sumOf_0 28 rfl) rfl rfl ?_
      refine gw_aload_n (gc k_Model_sumOf_0 29 rfl) rfl rfl ?_
      refine gw_dup (gc k_Model_sumOf_0 30 rfl) rfl ?_
      refine gw_getf 22 rfl (gc k_Model_sumOf_0 31 rfl) fl_Model_261 (gAt hx rfl rfl) ?_
      refine gw_iconst (gc k_Model_sumOf_0 32 rfl) ?_
      refine gw_iadd (gc k_Model_sumOf_0 33 rfl) ?_
      refine gw_putIK 22 rfl (gc k_Model_sumOf_0 34 rfl) fl_Model_261 (gAt hx rfl rfl) (hfe _ _) rfl (fun _ => ?_)
      rw [evM_inc]
      refine gw_aload_n (gc k_Model_sumOf_0 35 rfl) rfl rfl ?_
      refine gw_iload_n (gc k_Model_sumOf_0 36 rfl) rfl ?_
      refine gw_cV1 (gc k_Model_sumOf_0 37 rfl) y_Model_termOf ln_Model_274 (hS.2 live _ hl hB1) rfl rfl (gAt hx rfl rfl) rfl (gble (by omega)) ?_
      refine gw_lstore_5 (gc k_Model_sumOf_0 38 rfl) rfl rfl ?_
      refine gw_aload_n (gc k_Model_sumOf_0 39 rfl) rfl rfl ?_
      refine gw_iload (gc k_Model_sumOf_1 0 rfl) rfl ?_
      refine gw_if_eq (tgt := 91) (gc k_Model_sumOf_1 1 rfl) rfl (by omega) (fun c81 => ?_) (fun c81 => ?_)
      · refine gw_lload_n (gc k_Model_sumOf_1 6 rfl) rfl ?_
        refine gw_lload (gc k_Model_sumOf_1 7 rfl) rfl ?_
        refine gw_lsub (gc k_Model_sumOf_1 8 rfl) ?_
        refine gw_iload_n (gc k_Model_sumOf_1 9 rfl) rfl ?_
        refine gw_cV1 (gc k_Model_sumOf_1 10 rfl) y_Model_bounded ln_Model_278 (c_Model_bounded hx hf _ live _ _ hl hB2 (by omega)) rfl rfl (gAt hx rfl rfl) rfl (gble (by omega)) ?_
        rw [(ev_pjs (op := 6) hl hb (fun z => by rw [evV_z z, evV_z z]; rfl) (fun z1 z2 a c ha hc => by subst z1; subst z2; rw [ha, hc]; simp only [evB_s, evV_s]; rfl)).1, (ev_pjs (op := 6) hl hb (fun z => by rw [evV_z z, evV_z z]; rfl) (fun z1 z2 a c ha hc => by subst z1; subst z2; rw [ha, hc]; simp only [evB_s, evV_s]; rfl)).2]
        refine gw_lstore_2 (gc k_Model_sumOf_1 11 rfl) rfl rfl ?_
        refine gw_goto (tgt := 6) (gc k_Model_sumOf_1 12 rfl) rfl ?_
        exact k _ _ _
      · exact absurd rfl c81
    · exact absurd c51 (by omega)
  · refine gw_aload_n (gc k_Model_sumOf_0 4 rfl) rfl rfl ?_
    refine gw_aload_n (gc k_Model_sumOf_0 5 rfl) rfl rfl ?_
    refine gw_getf 22 rfl (gc k_Model_sumOf_0 6 rfl) fl_Model_261 (gAt hx rfl rfl) ?_
    rw [evM_22]
    refine gw_cV1 (gc k_Model_sumOf_0 7 rfl) y_Model_codeAt ln_Model_264 (c_codeAt hx hf E p _ _ (by omega)) rfl rfl (gAt hx rfl rfl) rfl (gble (by omega)) ?_
    refine gw_bipush (gc k_Model_sumOf_0 8 rfl) (by decide) ?_
    refine gw_cS1 (gc k_Model_sumOf_0 9 rfl) y_Model_sign ln_Model_220 (c_Model_sign 43) rfl rfl rfl (gble (by omega)) ?_
    refine gw_icmp_eq (tgt := 38) (gc k_Model_sumOf_0 10 rfl) rfl (by omega) (fun c19 => ?_) (fun c19 => ?_)
    · exact absurd c19 (by omega)
    · refine gw_aload_n (gc k_Model_sumOf_0 11 rfl) rfl rfl ?_
      refine gw_aload_n (gc k_Model_sumOf_0 12 rfl) rfl rfl ?_
      refine gw_getf 22 rfl (gc k_Model_sumOf_0 13 rfl) fl_Model_261 (gAt hx rfl rfl) ?_
      rw [evM_22]
      refine gw_cV1 (gc k_Model_sumOf_0 14 rfl) y_Model_codeAt ln_Model_264 (c_codeAt hx hf E p _ _ (by omega)) rfl rfl (gAt hx rfl rfl) rfl (gble (by omega)) ?_
      refine gw_bipush (gc k_Model_sumOf_0 15 rfl) (by decide) ?_
      refine gw_cS1 (gc k_Model_sumOf_0 16 rfl) y_Model_sign ln_Model_220 (c_Model_sign 45) rfl rfl rfl (gble (by omega)) ?_
      refine gw_icmp_ne (tgt := 103) (gc k_Model_sumOf_0 17 rfl) rfl (by omega) (fun c35 => ?_) (fun c35 => ?_)
      · exact absurd hT c35
      · exact kj6
set_option maxHeartbeats 2000000 in
theorem ev_term_exit {sh : gS} {g : gM} (hx : gFix sh) (hf : gFin g) {T V : Int → Int} {b : Int} {o : Bool} {w : Int → Int} (E : EvC T V b o w g) {D : Nat} (hD : 3 ≤ D) (p : Int) (hp : 0 ≤ p ∧ p ≤ 401) (live br : Int) (hl : live = 0 ∨ live = 1) (hb : br = 0 ∨ br = 1) (s : PS) (x4 x5 x6 : gV) (hop : ¬ (T p = 142 ∨ T p = 147 ∨ T p = 137)) : gWP f_Model_termOf D 0 0 6 [(2, 177), (0, live), (1, evV live br (s w)), (9, 0), x4, x5, x6] [] sh (evM g (b + p) (evB live br (s w))) (gR (some (1, evV live br (s w))) sh (evM g (b + p) (evB live br (s w)))) := by
  have hfe := fun x y => hf.ev x y
  have h1 := E.1
  have hrg := E.rg p hp.1
  show gWP f_Model_termOf _ _ _ 6 [(2, 177), (0, live), (1, evV live br (s w)), (9, 0), x4, x5, x6] [] sh (evM g (b + p) (evB live br (s w))) _
  refine gw_aload_n (gc k_Model_termOf_0 4 rfl) rfl rfl ?_
  refine gw_aload_n (gc k_Model_termOf_0 5 rfl) rfl rfl ?_
  refine gw_getf 22 rfl (gc k_Model_termOf_0 6 rfl) fl_Model_261 (gAt hx rfl rfl) ?_
  rw [evM_22]
  refine gw_cV1 (gc k_Model_termOf_0 7 rfl) y_Model_codeAt ln_Model_264 (c_codeAt hx hf E p _ _ (by omega)) rfl rfl (gAt hx rfl rfl) rfl (gble (by omega)) ?_
  refine gw_bipush (gc k_Model_termOf_0 8 rfl) (by decide) ?_
  refine gw_cS1 (gc k_Model_termOf_0 9 rfl) y_Model_sign ln_Model_220 (c_Model_sign 42) rfl rfl rfl (gble (by omega)) ?_
  refine gw_icmp_eq (tgt := 54) (gc k_Model_termOf_0 10 rfl) rfl (by omega) (fun c19 => ?_) (fun c19 => ?_)
  · exact absurd c19 (by omega)
  · refine gw_aload_n (gc k_Model_termOf_0 11 rfl) rfl rfl ?_
    refine gw_aload_n (gc k_Model_termOf_0 12 rfl) rfl rfl ?_
    refine gw_getf 22 rfl (gc k_Model_termOf_0 13 rfl) fl_Model_261 (gAt hx rfl rfl) ?_
    rw [evM_22]
    refine gw_cV1 (gc k_Model_termOf_0 14 rfl) y_Model_codeAt ln_Model_264 (c_codeAt hx hf E p _ _ (by omega)) rfl rfl (gAt hx rfl rfl) rfl (gble (by omega)) ?_
    refine gw_bipush (gc k_Model_termOf_0 15 rfl) (by decide) ?_
    refine gw_cS1 (gc k_Model_termOf_0 16 rfl) y_Model_sign ln_Model_220 (c_Model_sign 47) rfl rfl rfl (gble (by omega)) ?_
    refine gw_icmp_eq (tgt := 54) (gc k_Model_termOf_0 17 rfl) rfl (by omega) (fun c35 => ?_) (fun c35 => ?_)
    · exact absurd c35 (by omega)
    · refine gw_aload_n (gc k_Model_termOf_0 18 rfl) rfl rfl ?_
      refine gw_aload_n (gc k_Model_termOf_0 19 rfl) rfl rfl ?_
      refine gw_getf 22 rfl (gc k_Model_termOf_0 20 rfl) fl_Model_261 (gAt hx rfl rfl) ?_
      rw [evM_22]
      refine gw_cV1 (gc k_Model_termOf_0 21 rfl) y_Model_codeAt ln_Model_264 (c_codeAt hx hf E p _ _ (by omega)) rfl rfl (gAt hx rfl rfl) rfl (gble (by omega)) ?_
      refine gw_bipush (gc k_Model_termOf_0 22 rfl) (by decide) ?_
      refine gw_cS1 (gc k_Model_termOf_0 23 rfl) y_Model_sign ln_Model_220 (c_Model_sign 37) rfl rfl rfl (gble (by omega)) ?_
      refine gw_icmp_ne (tgt := 168) (gc k_Model_termOf_0 24 rfl) rfl (by omega) (fun c51 => ?_) (fun c51 => ?_)
      · refine gw_lload_n (gc k_Model_termOf_2 4 rfl) rfl ?_
        refine gw_lreturn (gc k_Model_termOf_2 5 rfl) rfl ?_
        exact ⟨rfl, rfl, rfl⟩
      · exact absurd c51 (by omega)
set_option maxHeartbeats 2000000 in
theorem ev_term_142 {sh : gS} {g : gM} (hx : gFix sh) (hf : gFin g) {T V : Int → Int} {b : Int} {o : Bool} {w : Int → Int} (E : EvC T V b o w g) {D : Nat} (hD : 3 ≤ D) (p : Int) (hp : 0 ≤ p ∧ p ≤ 401) (live br : Int) (hl : live = 0 ∨ live = 1) (hb : br = 0 ∨ br = 1) (s : PS) (x4 x5 x6 : gV) (hT : T p = 142) {d : Nat} (hd : d + 1 ≤ D) (q : Int) (t : PS) (hS : (∀ v, t w = some v → bd9 v) ∧ ∀ live br : Int, (live = 0 ∨ live = 1) → (br = 0 ∨ br = 1) → gTri f_Model_partOf d 0 0 [(2, 177), (0, live)] sh (evM g (b + (p + 1)) br) (gR (some (1, evV live br (t w))) sh (evM g (b + q) (evB live br (t w))))) (hs : ∀ v, s w = some v → bd9 v) {Q : gQ} (k : ∀ y4 y5 y6 : gV, gWP f_Model_termOf D 0 0 6 [(2, 177), (0, live), (1, evV live br (pjs 7 s t w)), (9, 0), y4, y5, y6] [] sh (evM g (b + q) (evB live br (pjs 7 s t w))) Q) : gWP f_Model_termOf D 0 0 6 [(2, 177), (0, live), (1, evV live br (s w)), (9, 0), x4, x5, x6] [] sh (evM g (b + p) (evB live br (s w))) Q := by
  have hfe := fun x y => hf.ev x y
  have h1 := E.1
  have hrg := E.rg p hp.1
  have hB1 := evB_01 (live := live) (v := s w) hb
  have hV1 := evV_bd (live := live) (br := br) hs
  have hV2 := evV_bd (live := live) (br := evB live br (s w)) hS.1
  have hB2 := evB_01 (live := live) (v := t w) hB1
  unfold bd9 at hV1 hV2
  have hmul : -1000000000000000000 ≤ evV live br (s w) * evV live (evB live br (s w)) (t w) ∧ evV live br (s w) * evV live (evB live br (s w)) (t w) ≤ 1000000000000000000 := gmul9 hV1 hV2
  show gWP f_Model_termOf _ _ _ 6 [(2, 177), (0, live), (1, evV live br (s w)), (9, 0), x4, x5, x6] [] sh (evM g (b + p) (evB live br (s w))) _
  refine gw_joinN0 54 ?_ (fun kj6 => ?_)
  · refine gw_aload_n (gc k_Model_termOf_0 25 rfl) rfl rfl ?_
    refine gw_aload_n (gc k_Model_termOf_0 26 rfl) rfl rfl ?_
    refine gw_getf 22 rfl (gc k_Model_termOf_0 27 rfl) fl_Model_261 (gAt hx rfl rfl) ?_
    rw [evM_22]
    refine gw_cV1 (gc k_Model_termOf_0 28 rfl) y_Model_codeAt ln_Model_264 (c_codeAt hx hf E p _ _ (by omega)) rfl rfl (gAt hx rfl rfl) rfl (gble (by omega)) ?_
    refine gw_istore_4 (gc k_Model_termOf_0 29 rfl) rfl rfl ?_
    refine gw_aload_n (gc k_Model_termOf_0 30 rfl) rfl rfl ?_
    refine gw_dup (gc k_Model_termOf_0 31 rfl) rfl ?_
    refine gw_getf 22 rfl (gc k_Model_termOf_0 32 rfl) fl_Model_261 (gAt hx rfl rfl) ?_
    refine gw_iconst (gc k_Model_termOf_0 33 rfl) ?_
    refine gw_iadd (gc k_Model_termOf_0 34 rfl) ?_
    refine gw_putIK 22 rfl (gc k_Model_termOf_0 35 rfl) fl_Model_261 (gAt hx rfl rfl) (hfe _ _) rfl (fun _ => ?_)
    rw [evM_inc]
    refine gw_aload_n (gc k_Model_termOf_0 36 rfl) rfl rfl ?_
    refine gw_iload_n (gc k_Model_termOf_0 37 rfl) rfl ?_
    refine gw_cV1 (gc k_Model_termOf_0 38 rfl) y_Model_partOf ln_Model_282 (hS.2 live _ hl hB1) rfl rfl (gAt hx rfl rfl) rfl (gble (by omega)) ?_
    refine gw_lstore_5 (gc k_Model_termOf_0 39 rfl) rfl rfl ?_
    refine gw_iload (gc k_Model_termOf_1 0 rfl) rfl ?_
    refine gw_bipush (gc k_Model_termOf_1 1 rfl) (by decide) ?_
    refine gw_cS1 (gc k_Model_termOf_1 2 rfl) y_Model_sign ln_Model_220 (c_Model_sign 42) rfl rfl rfl (gble (by omega)) ?_
    refine gw_icmp_eq (tgt := 121) (gc k_Model_termOf_1 3 rfl) rfl (by omega) (fun c88 => ?_) (fun c88 => ?_)
    · refine gw_aload_n (gc k_Model_termOf_1 20 rfl) rfl rfl ?_
      refine gw_iload (gc k_Model_termOf_1 21 rfl) rfl ?_
      refine gw_bipush (gc k_Model_termOf_1 22 rfl) (by decide) ?_
      refine gw_cS1 (gc k_Model_termOf_1 23 rfl) y_Model_sign ln_Model_220 (c_Model_sign 42) rfl rfl rfl (gble (by omega)) ?_
      refine gw_icmp_ne (tgt := 139) (gc k_Model_termOf_1 24 rfl) rfl (by omega) (fun c129 => ?_) (fun c129 => ?_)
      · exact absurd hT c129
      · refine gw_lload_n (gc k_Model_termOf_1 25 rfl) rfl ?_
        refine gw_lload (gc k_Model_termOf_1 26 rfl) rfl ?_
        refine gw_lmul (gc k_Model_termOf_1 27 rfl) ?_
        refine gw_goto (tgt := 160) (gc k_Model_termOf_1 28 rfl) rfl ?_
        refine gw_iload_n (gc k_Model_termOf_2 0 rfl) rfl ?_
        refine gw_cV1 (gc k_Model_termOf_2 1 rfl) y_Model_bounded ln_Model_278 (c_Model_bounded hx hf _ live _ _ hl hB2 (by omega)) rfl rfl (gAt hx rfl rfl) rfl (gble (by omega)) ?_
        rw [(ev_pjs (op := 7) hl hb (fun z => by rw [evV_z z]; exact Int.zero_mul _) (fun z1 z2 a c ha hc => by subst z1; subst z2; rw [ha, hc]; simp only [evB_s, evV_s]; rfl)).1, (ev_pjs (op := 7) hl hb (fun z => by rw [evV_z z]; exact Int.zero_mul _) (fun z1 z2 a c ha hc => by subst z1; subst z2; rw [ha, hc]; simp only [evB_s, evV_s]; rfl)).2]
        refine gw_lstore_2 (gc k_Model_termOf_2 2 rfl) rfl rfl ?_
        refine gw_goto (tgt := 6) (gc k_Model_termOf_2 3 rfl) rfl ?_
        exact k _ _ _
    · exact absurd hT c88
  · refine gw_aload_n (gc k_Model_termOf_0 4 rfl) rfl rfl ?_
    refine gw_aload_n (gc k_Model_termOf_0 5 rfl) rfl rfl ?_
    refine gw_getf 22 rfl (gc k_Model_termOf_0 6 rfl) fl_Model_261 (gAt hx rfl rfl) ?_
    rw [evM_22]
    refine gw_cV1 (gc k_Model_termOf_0 7 rfl) y_Model_codeAt ln_Model_264 (c_codeAt hx hf E p _ _ (by omega)) rfl rfl (gAt hx rfl rfl) rfl (gble (by omega)) ?_
    refine gw_bipush (gc k_Model_termOf_0 8 rfl) (by decide) ?_
    refine gw_cS1 (gc k_Model_termOf_0 9 rfl) y_Model_sign ln_Model_220 (c_Model_sign 42) rfl rfl rfl (gble (by omega)) ?_
    refine gw_icmp_eq (tgt := 54) (gc k_Model_termOf_0 10 rfl) rfl (by omega) (fun c19 => ?_) (fun c19 => ?_)
    · exact kj6
    · exact absurd hT c19
set_option maxHeartbeats 2000000 in
theorem ev_term_147 {sh : gS} {g : gM} (hx : gFix sh) (hf : gFin g) {T V : Int → Int} {b : Int} {o : Bool} {w : Int → Int} (E : EvC T V b o w g) {D : Nat} (hD : 3 ≤ D) (p : Int) (hp : 0 ≤ p ∧ p ≤ 401) (live br : Int) (hl : live = 0 ∨ live = 1) (hb : br = 0 ∨ br = 1) (s : PS) (x4 x5 x6 : gV) (hT : T p = 147) {d : Nat} (hd : d + 1 ≤ D) (q : Int) (t : PS) (hS : (∀ v, t w = some v → bd9 v) ∧ ∀ live br : Int, (live = 0 ∨ live = 1) → (br = 0 ∨ br = 1) → gTri f_Model_partOf d 0 0 [(2, 177), (0, live)] sh (evM g (b + (p + 1)) br) (gR (some (1, evV live br (t w))) sh (evM g (b + q) (evB live br (t w))))) (hs : ∀ v, s w = some v → bd9 v) {Q : gQ} (k : ∀ y4 y5 y6 : gV, gWP f_Model_termOf D 0 0 6 [(2, 177), (0, live), (1, evV live br (pjs 8 s t w)), (9, 0), y4, y5, y6] [] sh (evM g (b + q) (evB live br (pjs 8 s t w))) Q) : gWP f_Model_termOf D 0 0 6 [(2, 177), (0, live), (1, evV live br (s w)), (9, 0), x4, x5, x6] [] sh (evM g (b + p) (evB live br (s w))) Q := by
  have hfe := fun x y => hf.ev x y
  have h1 := E.1
  have hrg := E.rg p hp.1
  have hB1 := evB_01 (live := live) (v := s w) hb
  have hV1 := evV_bd (live := live) (br := br) hs
  have hV2 := evV_bd (live := live) (br := evB live br (s w)) hS.1
  have hB2 := evB_01 (live := live) (v := t w) hB1
  unfold bd9 at hV1 hV2
  have hmul : -1000000000000000000 ≤ evV live br (s w) * evV live (evB live br (s w)) (t w) ∧ evV live br (s w) * evV live (evB live br (s w)) (t w) ≤ 1000000000000000000 := gmul9 hV1 hV2
  show gWP f_Model_termOf _ _ _ 6 [(2, 177), (0, live), (1, evV live br (s w)), (9, 0), x4, x5, x6] [] sh (evM g (b + p) (evB live br (s w))) _
  refine gw_joinN0 54 ?_ (fun kj6 => ?_)
  · refine gw_aload_n (gc k_Model_termOf_0 25 rfl) rfl rfl ?_
    refine gw_aload_n (gc k_Model_termOf_0 26 rfl) rfl rfl ?_
    refine gw_getf 22 rfl (gc k_Model_termOf_0 27 rfl) fl_Model_261 (gAt hx rfl rfl) ?_
    rw [evM_22]
    refine gw_cV1 (gc k_Model_termOf_0 28 rfl) y_Model_codeAt ln_Model_264 (c_codeAt hx hf E p _ _ (by omega)) rfl rfl (gAt hx rfl rfl) rfl (gble (by omega)) ?_
    refine gw_istore_4 (gc k_Model_termOf_0 29 rfl) rfl rfl ?_
    refine gw_aload_n (gc k_Model_termOf_0 30 rfl) rfl rfl ?_
    refine gw_dup (gc k_Model_termOf_0 31 rfl) rfl ?_
    refine gw_getf 22 rfl (gc k_Model_termOf_0 32 rfl) fl_Model_261 (gAt hx rfl rfl) ?_
    refine gw_iconst (gc k_Model_termOf_0 33 rfl) ?_
    refine gw_iadd (gc k_Model_termOf_0 34 rfl) ?_
    refine gw_putIK 22 rfl (gc k_Model_termOf_0 35 rfl) fl_Model_261 (gAt hx rfl rfl) (hfe _ _) rfl (fun _ => ?_)
    rw [evM_inc]
    refine gw_aload_n (gc k_Model_termOf_0 36 rfl) rfl rfl ?_
    refine gw_iload_n (gc k_Model_termOf_0 37 rfl) rfl ?_
    refine gw_cV1 (gc k_Model_termOf_0 38 rfl) y_Model_partOf ln_Model_282 (hS.2 live _ hl hB1) rfl rfl (gAt hx rfl rfl) rfl (gble (by omega)) ?_
    refine gw_lstore_5 (gc k_Model_termOf_0 39 rfl) rfl rfl ?_
    refine gw_iload (gc k_Model_termOf_1 0 rfl) rfl ?_
    refine gw_bipush (gc k_Model_termOf_1 1 rfl) (by decide) ?_
    refine gw_cS1 (gc k_Model_termOf_1 2 rfl) y_Model_sign ln_Model_220 (c_Model_sign 42) rfl rfl rfl (gble (by omega)) ?_
    refine gw_icmp_eq (tgt := 121) (gc k_Model_termOf_1 3 rfl) rfl (by omega) (fun c88 => ?_) (fun c88 => ?_)
    · exact absurd c88 (by omega)
    · refine gw_lload (gc k_Model_termOf_1 4 rfl) rfl ?_
      refine gw_lconst0 (gc k_Model_termOf_1 5 rfl) ?_
      refine gw_lc_ne (tgt := 121) (gc k_Model_termOf_1 6 rfl) (gc k_Model_termOf_1 7 rfl) rfl (by omega) (fun c95 => ?_) (fun c95 => ?_)
      · refine gw_aload_n (gc k_Model_termOf_1 20 rfl) rfl rfl ?_
        refine gw_iload (gc k_Model_termOf_1 21 rfl) rfl ?_
        refine gw_bipush (gc k_Model_termOf_1 22 rfl) (by decide) ?_
        refine gw_cS1 (gc k_Model_termOf_1 23 rfl) y_Model_sign ln_Model_220 (c_Model_sign 42) rfl rfl rfl (gble (by omega)) ?_
        refine gw_icmp_ne (tgt := 139) (gc k_Model_termOf_1 24 rfl) rfl (by omega) (fun c129 => ?_) (fun c129 => ?_)
        · refine gw_iload (gc k_Model_termOf_1 29 rfl) rfl ?_
          refine gw_bipush (gc k_Model_termOf_1 30 rfl) (by decide) ?_
          refine gw_cS1 (gc k_Model_termOf_1 31 rfl) y_Model_sign ln_Model_220 (c_Model_sign 47) rfl rfl rfl (gble (by omega)) ?_
          refine gw_icmp_ne (tgt := 156) (gc k_Model_termOf_1 32 rfl) rfl (by omega) (fun c146 => ?_) (fun c146 => ?_)
          · exact absurd hT c146
          · refine gw_lload_n (gc k_Model_termOf_1 33 rfl) rfl ?_
            refine gw_lload (gc k_Model_termOf_1 34 rfl) rfl ?_
            refine gw_ldiv (gc k_Model_termOf_1 35 rfl) (by omega) ?_
            refine gw_goto (tgt := 160) (gc k_Model_termOf_1 36 rfl) rfl ?_
            refine gw_iload_n (gc k_Model_termOf_2 0 rfl) rfl ?_
            refine gw_cV1 (gc k_Model_termOf_2 1 rfl) y_Model_bounded ln_Model_278 (c_Model_bounded hx hf _ live _ _ hl (by first | exact hB2 | omega) (gtd_bd hV1 _)) rfl rfl (gAt hx rfl rfl) rfl (gble (by omega)) ?_
            have hz := (ev_pjs (op := 8) (s := s) (t := t) (w := w) (x := (evV live br (s w)).tdiv (evV live (evB live br (s w)) (t w))) hl hb (fun z => by rw [evV_z z]; exact Int.zero_tdiv _) (fun z1 z2 a c ha hc => by
              subst z1; subst z2
              rw [ha, hc] at c95 ⊢
              simp only [evB_s, evV_s] at c95 ⊢
              exact if_neg c95))
            rw [hz.1, hz.2]
            refine gw_lstore_2 (gc k_Model_termOf_2 2 rfl) rfl rfl ?_
            refine gw_goto (tgt := 6) (gc k_Model_termOf_2 3 rfl) rfl ?_
            exact k _ _ _
        · exact absurd c129 (by omega)
      · refine gw_aload_n (gc k_Model_termOf_1 8 rfl) rfl rfl ?_
        refine gw_aload_n (gc k_Model_termOf_1 9 rfl) rfl rfl ?_
        refine gw_getf 24 rfl (gc k_Model_termOf_1 10 rfl) fl_Model_271 (gAt hx rfl rfl) ?_
        rw [evM_24]
        refine gw_if_ne (tgt := 110) (gc k_Model_termOf_1 11 rfl) rfl (by omega) (fun c103 => ?_) (fun c103 => ?_)
        · refine gw_iconst (gc k_Model_termOf_1 14 rfl) ?_
          refine gw_goto (tgt := 115) (gc k_Model_termOf_1 15 rfl) rfl ?_
          refine gw_putZK 24 rfl (gc k_Model_termOf_1 17 rfl) fl_Model_271 (gAt hx rfl rfl) (by omega) (hfe _ _) rfl (fun _ => ?_)
          rw [evM_br]
          refine gw_lconst1 (gc k_Model_termOf_1 18 rfl) ?_
          refine gw_lstore_5 (gc k_Model_termOf_1 19 rfl) rfl rfl ?_
          refine gw_aload_n (gc k_Model_termOf_1 20 rfl) rfl rfl ?_
          refine gw_iload (gc k_Model_termOf_1 21 rfl) rfl ?_
          refine gw_bipush (gc k_Model_termOf_1 22 rfl) (by decide) ?_
          refine gw_cS1 (gc k_Model_termOf_1 23 rfl) y_Model_sign ln_Model_220 (c_Model_sign 42) rfl rfl rfl (gble (by omega)) ?_
          refine gw_icmp_ne (tgt := 139) (gc k_Model_termOf_1 24 rfl) rfl (by omega) (fun c129 => ?_) (fun c129 => ?_)
          · refine gw_iload (gc k_Model_termOf_1 29 rfl) rfl ?_
            refine gw_bipush (gc k_Model_termOf_1 30 rfl) (by decide) ?_
            refine gw_cS1 (gc k_Model_termOf_1 31 rfl) y_Model_sign ln_Model_220 (c_Model_sign 47) rfl rfl rfl (gble (by omega)) ?_
            refine gw_icmp_ne (tgt := 156) (gc k_Model_termOf_1 32 rfl) rfl (by omega) (fun c146 => ?_) (fun c146 => ?_)
            · exact absurd hT c146
            · refine gw_lload_n (gc k_Model_termOf_1 33 rfl) rfl ?_
              refine gw_lload (gc k_Model_termOf_1 34 rfl) rfl ?_
              refine gw_ldiv (gc k_Model_termOf_1 35 rfl) (by omega) ?_
              refine gw_goto (tgt := 160) (gc k_Model_termOf_1 36 rfl) rfl ?_
              refine gw_iload_n (gc k_Model_termOf_2 0 rfl) rfl ?_
              refine gw_cV1 (gc k_Model_termOf_2 1 rfl) y_Model_bounded ln_Model_278 (c_Model_bounded hx hf _ live _ _ hl (by first | exact hB2 | omega) (gtd_bd hV1 _)) rfl rfl (gAt hx rfl rfl) rfl (gble (by omega)) ?_
              have hz := (ev_pjz (op := 8) (s := s) (t := t) (w := w) (x := (evV live br (s w)).tdiv 1) (v := 1) (Or.inl rfl) hl hb (fun z => by rw [evV_z z]; exact Int.zero_tdiv _) c95 (by omega))
              rw [hz.1, hz.2]
              refine gw_lstore_2 (gc k_Model_termOf_2 2 rfl) rfl rfl ?_
              refine gw_goto (tgt := 6) (gc k_Model_termOf_2 3 rfl) rfl ?_
              exact k _ _ _
          · exact absurd c129 (by omega)
        · refine gw_iload_n (gc k_Model_termOf_1 12 rfl) rfl ?_
          refine gw_if_eq (tgt := 114) (gc k_Model_termOf_1 13 rfl) rfl (by omega) (fun c107 => ?_) (fun c107 => ?_)
          · refine gw_iconst (gc k_Model_termOf_1 16 rfl) ?_
            refine gw_putZK 24 rfl (gc k_Model_termOf_1 17 rfl) fl_Model_271 (gAt hx rfl rfl) (by omega) (hfe _ _) rfl (fun _ => ?_)
            rw [evM_br]
            refine gw_lconst1 (gc k_Model_termOf_1 18 rfl) ?_
            refine gw_lstore_5 (gc k_Model_termOf_1 19 rfl) rfl rfl ?_
            refine gw_aload_n (gc k_Model_termOf_1 20 rfl) rfl rfl ?_
            refine gw_iload (gc k_Model_termOf_1 21 rfl) rfl ?_
            refine gw_bipush (gc k_Model_termOf_1 22 rfl) (by decide) ?_
            refine gw_cS1 (gc k_Model_termOf_1 23 rfl) y_Model_sign ln_Model_220 (c_Model_sign 42) rfl rfl rfl (gble (by omega)) ?_
            refine gw_icmp_ne (tgt := 139) (gc k_Model_termOf_1 24 rfl) rfl (by omega) (fun c129 => ?_) (fun c129 => ?_)
            · refine gw_iload (gc k_Model_termOf_1 29 rfl) rfl ?_
              refine gw_bipush (gc k_Model_termOf_1 30 rfl) (by decide) ?_
              refine gw_cS1 (gc k_Model_termOf_1 31 rfl) y_Model_sign ln_Model_220 (c_Model_sign 47) rfl rfl rfl (gble (by omega)) ?_
              refine gw_icmp_ne (tgt := 156) (gc k_Model_termOf_1 32 rfl) rfl (by omega) (fun c146 => ?_) (fun c146 => ?_)
              · exact absurd hT c146
              · refine gw_lload_n (gc k_Model_termOf_1 33 rfl) rfl ?_
                refine gw_lload (gc k_Model_termOf_1 34 rfl) rfl ?_
                refine gw_ldiv (gc k_Model_termOf_1 35 rfl) (by omega) ?_
                refine gw_goto (tgt := 160) (gc k_Model_termOf_1 36 rfl) rfl ?_
                refine gw_iload_n (gc k_Model_termOf_2 0 rfl) rfl ?_
                refine gw_cV1 (gc k_Model_termOf_2 1 rfl) y_Model_bounded ln_Model_278 (c_Model_bounded hx hf _ live _ _ hl (by first | exact hB2 | omega) (gtd_bd hV1 _)) rfl rfl (gAt hx rfl rfl) rfl (gble (by omega)) ?_
                have hz := (ev_pjz (op := 8) (s := s) (t := t) (w := w) (x := (evV live br (s w)).tdiv 1) (v := 0) (Or.inl rfl) hl hb (fun z => by rw [evV_z z]; exact Int.zero_tdiv _) c95 (by omega))
                rw [hz.1, hz.2]
                refine gw_lstore_2 (gc k_Model_termOf_2 2 rfl) rfl rfl ?_
                refine gw_goto (tgt := 6) (gc k_Model_termOf_2 3 rfl) rfl ?_
                exact k _ _ _
            · exact absurd c129 (by omega)
          · refine gw_iconst (gc k_Model_termOf_1 14 rfl) ?_
            refine gw_goto (tgt := 115) (gc k_Model_termOf_1 15 rfl) rfl ?_
            refine gw_putZK 24 rfl (gc k_Model_termOf_1 17 rfl) fl_Model_271 (gAt hx rfl rfl) (by omega) (hfe _ _) rfl (fun _ => ?_)
            rw [evM_br]
            refine gw_lconst1 (gc k_Model_termOf_1 18 rfl) ?_
            refine gw_lstore_5 (gc k_Model_termOf_1 19 rfl) rfl rfl ?_
            refine gw_aload_n (gc k_Model_termOf_1 20 rfl) rfl rfl ?_
            refine gw_iload (gc k_Model_termOf_1 21 rfl) rfl ?_
            refine gw_bipush (gc k_Model_termOf_1 22 rfl) (by decide) ?_
            refine gw_cS1 (gc k_Model_termOf_1 23 rfl) y_Model_sign ln_Model_220 (c_Model_sign 42) rfl rfl rfl (gble (by omega)) ?_
            refine gw_icmp_ne (tgt := 139) (gc k_Model_termOf_1 24 rfl) rfl (by omega) (fun c129 => ?_) (fun c129 => ?_)
            · refine gw_iload (gc k_Model_termOf_1 29 rfl) rfl ?_
              refine gw_bipush (gc k_Model_termOf_1 30 rfl) (by decide) ?_
              refine gw_cS1 (gc k_Model_termOf_1 31 rfl) y_Model_sign ln_Model_220 (c_Model_sign 47) rfl rfl rfl (gble (by omega)) ?_
              refine gw_icmp_ne (tgt := 156) (gc k_Model_termOf_1 32 rfl) rfl (by omega) (fun c146 => ?_) (fun c146 => ?_)
              · exact absurd hT c146
              · refine gw_lload_n (gc k_Model_termOf_1 33 rfl) rfl ?_
                refine gw_lload (gc k_Model_termOf_1 34 rfl) rfl ?_
                refine gw_ldiv (gc k_Model_termOf_1 35 rfl) (by omega) ?_
                refine gw_goto (tgt := 160) (gc k_Model_termOf_1 36 rfl) rfl ?_
                refine gw_iload_n (gc k_Model_termOf_2 0 rfl) rfl ?_
                refine gw_cV1 (gc k_Model_termOf_2 1 rfl) y_Model_bounded ln_Model_278 (c_Model_bounded hx hf _ live _ _ hl (by first | exact hB2 | omega) (gtd_bd hV1 _)) rfl rfl (gAt hx rfl rfl) rfl (gble (by omega)) ?_
                have hz := (ev_pjz (op := 8) (s := s) (t := t) (w := w) (x := (evV live br (s w)).tdiv 1) (v := 1) (Or.inl rfl) hl hb (fun z => by rw [evV_z z]; exact Int.zero_tdiv _) c95 (by omega))
                rw [hz.1, hz.2]
                refine gw_lstore_2 (gc k_Model_termOf_2 2 rfl) rfl rfl ?_
                refine gw_goto (tgt := 6) (gc k_Model_termOf_2 3 rfl) rfl ?_
                exact k _ _ _
            · exact absurd c129 (by omega)
  · refine gw_aload_n (gc k_Model_termOf_0 4 rfl) rfl rfl ?_
    refine gw_aload_n (gc k_Model_termOf_0 5 rfl) rfl rfl ?_
    refine gw_getf 22 rfl (gc k_Model_termOf_0 6 rfl) fl_Model_261 (gAt hx rfl rfl) ?_
    rw [evM_22]
    refine gw_cV1 (gc k_Model_termOf_0 7 rfl) y_Model_codeAt ln_Model_264 (c_codeAt hx hf E p _ _ (by omega)) rfl rfl (gAt hx rfl rfl) rfl (gble (by omega)) ?_
    refine gw_bipush (gc k_Model_termOf_0 8 rfl) (by decide) ?_
    refine gw_cS1 (gc k_Model_termOf_0 9 rfl) y_Model_sign ln_Model_220 (c_Model_sign 42) rfl rfl rfl (gble (by omega)) ?_
    refine gw_icmp_eq (tgt := 54) (gc k_Model_termOf_0 10 rfl) rfl (by omega) (fun c19 => ?_) (fun c19 => ?_)
    · exact absurd c19 (by omega)
    · refine gw_aload_n (gc k_Model_termOf_0 11 rfl) rfl rfl ?_
      refine gw_aload_n (gc k_Model_termOf_0 12 rfl) rfl rfl ?_
      refine gw_getf 22 rfl (gc k_Model_termOf_0 13 rfl) fl_Model_261 (gAt hx rfl rfl) ?_
      rw [evM_22]
      refine gw_cV1 (gc k_Model_termOf_0 14 rfl) y_Model_codeAt ln_Model_264 (c_codeAt hx hf E p _ _ (by omega)) rfl rfl (gAt hx rfl rfl) rfl (gble (by omega)) ?_
      refine gw_bipush (gc k_Model_termOf_0 15 rfl) (by decide) ?_
      refine gw_cS1 (gc k_Model_termOf_0 16 rfl) y_Model_sign ln_Model_220 (c_Model_sign 47) rfl rfl rfl (gble (by omega)) ?_
      refine gw_icmp_eq (tgt := 54) (gc k_Model_termOf_0 17 rfl) rfl (by omega) (fun c35 => ?_) (fun c35 => ?_)
      · exact kj6
      · exact absurd hT c35
set_option maxHeartbeats 2000000 in
theorem ev_term_137 {sh : gS} {g : gM} (hx : gFix sh) (hf : gFin g) {T V : Int → Int} {b : Int} {o : Bool} {w : Int → Int} (E : EvC T V b o w g) {D : Nat} (hD : 3 ≤ D) (p : Int) (hp : 0 ≤ p ∧ p ≤ 401) (live br : Int) (hl : live = 0 ∨ live = 1) (hb : br = 0 ∨ br = 1) (s : PS) (x4 x5 x6 : gV) (hT : T p = 137) {d : Nat} (hd : d + 1 ≤ D) (q : Int) (t : PS) (hS : (∀ v, t w = some v → bd9 v) ∧ ∀ live br : Int, (live = 0 ∨ live = 1) → (br = 0 ∨ br = 1) → gTri f_Model_partOf d 0 0 [(2, 177), (0, live)] sh (evM g (b + (p + 1)) br) (gR (some (1, evV live br (t w))) sh (evM g (b + q) (evB live br (t w))))) (hs : ∀ v, s w = some v → bd9 v) {Q : gQ} (k : ∀ y4 y5 y6 : gV, gWP f_Model_termOf D 0 0 6 [(2, 177), (0, live), (1, evV live br (pjs 9 s t w)), (9, 0), y4, y5, y6] [] sh (evM g (b + q) (evB live br (pjs 9 s t w))) Q) : gWP f_Model_termOf D 0 0 6 [(2, 177), (0, live), (1, evV live br (s w)), (9, 0), x4, x5, x6] [] sh (evM g (b + p) (evB live br (s w))) Q := by
  have hfe := fun x y => hf.ev x y
  have h1 := E.1
  have hrg := E.rg p hp.1
  have hB1 := evB_01 (live := live) (v := s w) hb
  have hV1 := evV_bd (live := live) (br := br) hs
  have hV2 := evV_bd (live := live) (br := evB live br (s w)) hS.1
  have hB2 := evB_01 (live := live) (v := t w) hB1
  unfold bd9 at hV1 hV2
  have hmul : -1000000000000000000 ≤ evV live br (s w) * evV live (evB live br (s w)) (t w) ∧ evV live br (s w) * evV live (evB live br (s w)) (t w) ≤ 1000000000000000000 := gmul9 hV1 hV2
  show gWP f_Model_termOf _ _ _ 6 [(2, 177), (0, live), (1, evV live br (s w)), (9, 0), x4, x5, x6] [] sh (evM g (b + p) (evB live br (s w))) _
  refine gw_joinN0 54 ?_ (fun kj6 => ?_)
  · refine gw_aload_n (gc k_Model_termOf_0 25 rfl) rfl rfl ?_
    refine gw_aload_n (gc k_Model_termOf_0 26 rfl) rfl rfl ?_
    refine gw_getf 22 rfl (gc k_Model_termOf_0 27 rfl) fl_Model_261 (gAt hx rfl rfl) ?_
    rw [evM_22]
    refine gw_cV1 (gc k_Model_termOf_0 28 rfl) y_Model_codeAt ln_Model_264 (c_codeAt hx hf E p _ _ (by omega)) rfl rfl (gAt hx rfl rfl) rfl (gble (by omega)) ?_
    refine gw_istore_4 (gc k_Model_termOf_0 29 rfl) rfl rfl ?_
    refine gw_aload_n (gc k_Model_termOf_0 30 rfl) rfl rfl ?_
    refine gw_dup (gc k_Model_termOf_0 31 rfl) rfl ?_
    refine gw_getf 22 rfl (gc k_Model_termOf_0 32 rfl) fl_Model_261 (gAt hx rfl rfl) ?_
    refine gw_iconst (gc k_Model_termOf_0 33 rfl) ?_
    refine gw_iadd (gc k_Model_termOf_0 34 rfl) ?_
    refine gw_putIK 22 rfl (gc k_Model_termOf_0 35 rfl) fl_Model_261 (gAt hx rfl rfl) (hfe _ _) rfl (fun _ => ?_)
    rw [evM_inc]
    refine gw_aload_n (gc k_Model_termOf_0 36 rfl) rfl rfl ?_
    refine gw_iload_n (gc k_Model_termOf_0 37 rfl) rfl ?_
    refine gw_cV1 (gc k_Model_termOf_0 38 rfl) y_Model_partOf ln_Model_282 (hS.2 live _ hl hB1) rfl rfl (gAt hx rfl rfl) rfl (gble (by omega)) ?_
    refine gw_lstore_5 (gc k_Model_termOf_0 39 rfl) rfl rfl ?_
    refine gw_iload (gc k_Model_termOf_1 0 rfl) rfl ?_
    refine gw_bipush (gc k_Model_termOf_1 1 rfl) (by decide) ?_
    refine gw_cS1 (gc k_Model_termOf_1 2 rfl) y_Model_sign ln_Model_220 (c_Model_sign 42) rfl rfl rfl (gble (by omega)) ?_
    refine gw_icmp_eq (tgt := 121) (gc k_Model_termOf_1 3 rfl) rfl (by omega) (fun c88 => ?_) (fun c88 => ?_)
    · exact absurd c88 (by omega)
    · refine gw_lload (gc k_Model_termOf_1 4 rfl) rfl ?_
      refine gw_lconst0 (gc k_Model_termOf_1 5 rfl) ?_
      refine gw_lc_ne (tgt := 121) (gc k_Model_termOf_1 6 rfl) (gc k_Model_termOf_1 7 rfl) rfl (by omega) (fun c95 => ?_) (fun c95 => ?_)
      · refine gw_aload_n (gc k_Model_termOf_1 20 rfl) rfl rfl ?_
        refine gw_iload (gc k_Model_termOf_1 21 rfl) rfl ?_
        refine gw_bipush (gc k_Model_termOf_1 22 rfl) (by decide) ?_
        refine gw_cS1 (gc k_Model_termOf_1 23 rfl) y_Model_sign ln_Model_220 (c_Model_sign 42) rfl rfl rfl (gble (by omega)) ?_
        refine gw_icmp_ne (tgt := 139) (gc k_Model_termOf_1 24 rfl) rfl (by omega) (fun c129 => ?_) (fun c129 => ?_)
        · refine gw_iload (gc k_Model_termOf_1 29 rfl) rfl ?_
          refine gw_bipush (gc k_Model_termOf_1 30 rfl) (by decide) ?_
          refine gw_cS1 (gc k_Model_termOf_1 31 rfl) y_Model_sign ln_Model_220 (c_Model_sign 47) rfl rfl rfl (gble (by omega)) ?_
          refine gw_icmp_ne (tgt := 156) (gc k_Model_termOf_1 32 rfl) rfl (by omega) (fun c146 => ?_) (fun c146 => ?_)
          · refine gw_lload_n (gc k_Model_termOf_1 37 rfl) rfl ?_
            refine gw_lload (gc k_Model_termOf_1 38 rfl) rfl ?_
            refine gw_lrem (gc k_Model_termOf_1 39 rfl) (by omega) ?_
            refine gw_iload_n (gc k_Model_termOf_2 0 rfl) rfl ?_
            refine gw_cV1 (gc k_Model_termOf_2 1 rfl) y_Model_bounded ln_Model_278 (c_Model_bounded hx hf _ live _ _ hl (by first | exact hB2 | omega) (gtm_bd hV1 _)) rfl rfl (gAt hx rfl rfl) rfl (gble (by omega)) ?_
            have hz := (ev_pjs (op := 9) (s := s) (t := t) (w := w) (x := (evV live br (s w)).tmod (evV live (evB live br (s w)) (t w))) hl hb (fun z => by rw [evV_z z]; exact Int.zero_tmod _) (fun z1 z2 a c ha hc => by
              subst z1; subst z2
              rw [ha, hc] at c95 ⊢
              simp only [evB_s, evV_s] at c95 ⊢
              exact if_neg c95))
            rw [hz.1, hz.2]
            refine gw_lstore_2 (gc k_Model_termOf_2 2 rfl) rfl rfl ?_
            refine gw_goto (tgt := 6) (gc k_Model_termOf_2 3 rfl) rfl ?_
            exact k _ _ _
          · exact absurd c146 (by omega)
        · exact absurd c129 (by omega)
      · refine gw_aload_n (gc k_Model_termOf_1 8 rfl) rfl rfl ?_
        refine gw_aload_n (gc k_Model_termOf_1 9 rfl) rfl rfl ?_
        refine gw_getf 24 rfl (gc k_Model_termOf_1 10 rfl) fl_Model_271 (gAt hx rfl rfl) ?_
        rw [evM_24]
        refine gw_if_ne (tgt := 110) (gc k_Model_termOf_1 11 rfl) rfl (by omega) (fun c103 => ?_) (fun c103 => ?_)
        · refine gw_iconst (gc k_Model_termOf_1 14 rfl) ?_
          refine gw_goto (tgt := 115) (gc k_Model_termOf_1 15 rfl) rfl ?_
          refine gw_putZK 24 rfl (gc k_Model_termOf_1 17 rfl) fl_Model_271 (gAt hx rfl rfl) (by omega) (hfe _ _) rfl (fun _ => ?_)
          rw [evM_br]
          refine gw_lconst1 (gc k_Model_termOf_1 18 rfl) ?_
          refine gw_lstore_5 (gc k_Model_termOf_1 19 rfl) rfl rfl ?_
          refine gw_aload_n (gc k_Model_termOf_1 20 rfl) rfl rfl ?_
          refine gw_iload (gc k_Model_termOf_1 21 rfl) rfl ?_
          refine gw_bipush (gc k_Model_termOf_1 22 rfl) (by decide) ?_
          refine gw_cS1 (gc k_Model_termOf_1 23 rfl) y_Model_sign ln_Model_220 (c_Model_sign 42) rfl rfl rfl (gble (by omega)) ?_
          refine gw_icmp_ne (tgt := 139) (gc k_Model_termOf_1 24 rfl) rfl (by omega) (fun c129 => ?_) (fun c129 => ?_)
          · refine gw_iload (gc k_Model_termOf_1 29 rfl) rfl ?_
            refine gw_bipush (gc k_Model_termOf_1 30 rfl) (by decide) ?_
            refine gw_cS1 (gc k_Model_termOf_1 31 rfl) y_Model_sign ln_Model_220 (c_Model_sign 47) rfl rfl rfl (gble (by omega)) ?_
            refine gw_icmp_ne (tgt := 156) (gc k_Model_termOf_1 32 rfl) rfl (by omega) (fun c146 => ?_) (fun c146 => ?_)
            · refine gw_lload_n (gc k_Model_termOf_1 37 rfl) rfl ?_
              refine gw_lload (gc k_Model_termOf_1 38 rfl) rfl ?_
              refine gw_lrem (gc k_Model_termOf_1 39 rfl) (by omega) ?_
              refine gw_iload_n (gc k_Model_termOf_2 0 rfl) rfl ?_
              refine gw_cV1 (gc k_Model_termOf_2 1 rfl) y_Model_bounded ln_Model_278 (c_Model_bounded hx hf _ live _ _ hl (by first | exact hB2 | omega) (gtm_bd hV1 _)) rfl rfl (gAt hx rfl rfl) rfl (gble (by omega)) ?_
              have hz := (ev_pjz (op := 9) (s := s) (t := t) (w := w) (x := (evV live br (s w)).tmod 1) (v := 1) (Or.inr rfl) hl hb (fun z => by rw [evV_z z]; exact Int.zero_tmod _) c95 (by omega))
              rw [hz.1, hz.2]
              refine gw_lstore_2 (gc k_Model_termOf_2 2 rfl) rfl rfl ?_
              refine gw_goto (tgt := 6) (gc k_Model_termOf_2 3 rfl) rfl ?_
              exact k _ _ _
            · exact absurd c146 (by omega)
          · exact absurd c129 (by omega)
        · refine gw_iload_n (gc k_Model_termOf_1 12 rfl) rfl ?_
          refine gw_if_eq (tgt := 114) (gc k_Model_termOf_1 13 rfl) rfl (by omega) (fun c107 => ?_) (fun c107 => ?_)
          · refine gw_iconst (gc k_Model_termOf_1 16 rfl) ?_
            refine gw_putZK 24 rfl (gc k_Model_termOf_1 17 rfl) fl_Model_271 (gAt hx rfl rfl) (by omega) (hfe _ _) rfl (fun _ => ?_)
            rw [evM_br]
            refine gw_lconst1 (gc k_Model_termOf_1 18 rfl) ?_
            refine gw_lstore_5 (gc k_Model_termOf_1 19 rfl) rfl rfl ?_
            refine gw_aload_n (gc k_Model_termOf_1 20 rfl) rfl rfl ?_
            refine gw_iload (gc k_Model_termOf_1 21 rfl) rfl ?_
            refine gw_bipush (gc k_Model_termOf_1 22 rfl) (by decide) ?_
            refine gw_cS1 (gc k_Model_termOf_1 23 rfl) y_Model_sign ln_Model_220 (c_Model_sign 42) rfl rfl rfl (gble (by omega)) ?_
            refine gw_icmp_ne (tgt := 139) (gc k_Model_termOf_1 24 rfl) rfl (by omega) (fun c129 => ?_) (fun c129 => ?_)
            · refine gw_iload (gc k_Model_termOf_1 29 rfl) rfl ?_
              refine gw_bipush (gc k_Model_termOf_1 30 rfl) (by decide) ?_
              refine gw_cS1 (gc k_Model_termOf_1 31 rfl) y_Model_sign ln_Model_220 (c_Model_sign 47) rfl rfl rfl (gble (by omega)) ?_
              refine gw_icmp_ne (tgt := 156) (gc k_Model_termOf_1 32 rfl) rfl (by omega) (fun c146 => ?_) (fun c146 => ?_)
              · refine gw_lload_n (gc k_Model_termOf_1 37 rfl) rfl ?_
                refine gw_lload (gc k_Model_termOf_1 38 rfl) rfl ?_
                refine gw_lrem (gc k_Model_termOf_1 39 rfl) (by omega) ?_
                refine gw_iload_n (gc k_Model_termOf_2 0 rfl) rfl ?_
                refine gw_cV1 (gc k_Model_termOf_2 1 rfl) y_Model_bounded ln_Model_278 (c_Model_bounded hx hf _ live _ _ hl (by first | exact hB2 | omega) (gtm_bd hV1 _)) rfl rfl (gAt hx rfl rfl) rfl (gble (by omega)) ?_
                have hz := (ev_pjz (op := 9) (s := s) (t := t) (w := w) (x := (evV live br (s w)).tmod 1) (v := 0) (Or.inr rfl) hl hb (fun z => by rw [evV_z z]; exact Int.zero_tmod _) c95 (by omega))
                rw [hz.1, hz.2]
                refine gw_lstore_2 (gc k_Model_termOf_2 2 rfl) rfl rfl ?_
                refine gw_goto (tgt := 6) (gc k_Model_termOf_2 3 rfl) rfl ?_
                exact k _ _ _
              · exact absurd c146 (by omega)
            · exact absurd c129 (by omega)
          · refine gw_iconst (gc k_Model_termOf_1 14 rfl) ?_
            refine gw_goto (tgt := 115) (gc k_Model_termOf_1 15 rfl) rfl ?_
            refine gw_putZK 24 rfl (gc k_Model_termOf_1 17 rfl) fl_Model_271 (gAt hx rfl rfl) (by omega) (hfe _ _) rfl (fun _ => ?_)
            rw [evM_br]
            refine gw_lconst1 (gc k_Model_termOf_1 18 rfl) ?_
            refine gw_lstore_5 (gc k_Model_termOf_1 19 rfl) rfl rfl ?_
            refine gw_aload_n (gc k_Model_termOf_1 20 rfl) rfl rfl ?_
            refine gw_iload (gc k_Model_termOf_1 21 rfl) rfl ?_
            refine gw_bipush (gc k_Model_termOf_1 22 rfl) (by decide) ?_
            refine gw_cS1 (gc k_Model_termOf_1 23 rfl) y_Model_sign ln_Model_220 (c_Model_sign 42) rfl rfl rfl (gble (by omega)) ?_
            refine gw_icmp_ne (tgt := 139) (gc k_Model_termOf_1 24 rfl) rfl (by omega) (fun c129 => ?_) (fun c129 => ?_)
            · refine gw_iload (gc k_Model_termOf_1 29 rfl) rfl ?_
              refine gw_bipush (gc k_Model_termOf_1 30 rfl) (by decide) ?_
              refine gw_cS1 (gc k_Model_termOf_1 31 rfl) y_Model_sign ln_Model_220 (c_Model_sign 47) rfl rfl rfl (gble (by omega)) ?_
              refine gw_icmp_ne (tgt := 156) (gc k_Model_termOf_1 32 rfl) rfl (by omega) (fun c146 => ?_) (fun c146 => ?_)
              · refine gw_lload_n (gc k_Model_termOf_1 37 rfl) rfl ?_
                refine gw_lload (gc k_Model_termOf_1 38 rfl) rfl ?_
                refine gw_lrem (gc k_Model_termOf_1 39 rfl) (by omega) ?_
                refine gw_iload_n (gc k_Model_termOf_2 0 rfl) rfl ?_
                refine gw_cV1 (gc k_Model_termOf_2 1 rfl) y_Model_bounded ln_Model_278 (c_Model_bounded hx hf _ live _ _ hl (by first | exact hB2 | omega) (gtm_bd hV1 _)) rfl rfl (gAt hx rfl rfl) rfl (gble (by omega)) ?_
                have hz := (ev_pjz (op := 9) (s := s) (t := t) (w := w) (x := (evV live br (s w)).tmod 1) (v := 1) (Or.inr rfl) hl hb (fun z => by rw [evV_z z]; exact Int.zero_tmod _) c95 (by omega))
                rw [hz.1, hz.2]
                refine gw_lstore_2 (gc k_Model_termOf_2 2 rfl) rfl rfl ?_
                refine gw_goto (tgt := 6) (gc k_Model_termOf_2 3 rfl) rfl ?_
                exact k _ _ _
              · exact absurd c146 (by omega)
            · exact absurd c129 (by omega)
  · refine gw_aload_n (gc k_Model_termOf_0 4 rfl) rfl rfl ?_
    refine gw_aload_n (gc k_Model_termOf_0 5 rfl) rfl rfl ?_
    refine gw_getf 22 rfl (gc k_Model_termOf_0 6 rfl) fl_Model_261 (gAt hx rfl rfl) ?_
    rw [evM_22]
    refine gw_cV1 (gc k_Model_termOf_0 7 rfl) y_Model_codeAt ln_Model_264 (c_codeAt hx hf E p _ _ (by omega)) rfl rfl (gAt hx rfl rfl) rfl (gble (by omega)) ?_
    refine gw_bipush (gc k_Model_termOf_0 8 rfl) (by decide) ?_
    refine gw_cS1 (gc k_Model_termOf_0 9 rfl) y_Model_sign ln_Model_220 (c_Model_sign 42) rfl rfl rfl (gble (by omega)) ?_
    refine gw_icmp_eq (tgt := 54) (gc k_Model_termOf_0 10 rfl) rfl (by omega) (fun c19 => ?_) (fun c19 => ?_)
    · exact absurd c19 (by omega)
    · refine gw_aload_n (gc k_Model_termOf_0 11 rfl) rfl rfl ?_
      refine gw_aload_n (gc k_Model_termOf_0 12 rfl) rfl rfl ?_
      refine gw_getf 22 rfl (gc k_Model_termOf_0 13 rfl) fl_Model_261 (gAt hx rfl rfl) ?_
      rw [evM_22]
      refine gw_cV1 (gc k_Model_termOf_0 14 rfl) y_Model_codeAt ln_Model_264 (c_codeAt hx hf E p _ _ (by omega)) rfl rfl (gAt hx rfl rfl) rfl (gble (by omega)) ?_
      refine gw_bipush (gc k_Model_termOf_0 15 rfl) (by decide) ?_
      refine gw_cS1 (gc k_Model_termOf_0 16 rfl) y_Model_sign ln_Model_220 (c_Model_sign 47) rfl rfl rfl (gble (by omega)) ?_
      refine gw_icmp_eq (tgt := 54) (gc k_Model_termOf_0 17 rfl) rfl (by omega) (fun c35 => ?_) (fun c35 => ?_)
      · exact absurd c35 (by omega)
      · refine gw_aload_n (gc k_Model_termOf_0 18 rfl) rfl rfl ?_
        refine gw_aload_n (gc k_Model_termOf_0 19 rfl) rfl rfl ?_
        refine gw_getf 22 rfl (gc k_Model_termOf_0 20 rfl) fl_Model_261 (gAt hx rfl rfl) ?_
        rw [evM_22]
        refine gw_cV1 (gc k_Model_termOf_0 21 rfl) y_Model_codeAt ln_Model_264 (c_codeAt hx hf E p _ _ (by omega)) rfl rfl (gAt hx rfl rfl) rfl (gble (by omega)) ?_
        refine gw_bipush (gc k_Model_termOf_0 22 rfl) (by decide) ?_
        refine gw_cS1 (gc k_Model_termOf_0 23 rfl) y_Model_sign ln_Model_220 (c_Model_sign 37) rfl rfl rfl (gble (by omega)) ?_
        refine gw_icmp_ne (tgt := 168) (gc k_Model_termOf_0 24 rfl) rfl (by omega) (fun c51 => ?_) (fun c51 => ?_)
        · exact absurd hT c51
        · exact kj6
theorem ev_termL {sh : gS} {g : gM} (hx : gFix sh) (hf : gFin g) {T V : Int → Int} {b : Int} {o : Bool} {w : Int → Int} (E : EvC T V b o w g) {D d : Nat} (hD : 3 ≤ D) (hd : d + 1 ≤ D) {part : Int → Int → PR} (hE : EvL sh g b w 1 f_Model_partOf d part) (hF : pFar (g 177 23 - b) part) : ∀ (f : Nat) (p n : Int) (c : PK) (s : PS) p2 n2 c2 s2, pTermL T part f p n c s = .inr (p2, n2, c2, s2) → (0 ≤ p ∧ p ≤ 401) → 401 ≤ p + f → (∀ v, s w = some v → bd9 v) → ∀ live br : Int, (live = 0 ∨ live = 1) → (br = 0 ∨ br = 1) → ∀ x4 x5 x6 : gV, gWP f_Model_termOf D 0 0 6 [(2, 177), (0, live), (1, evV live br (s w)), (9, 0), x4, x5, x6] [] sh (evM g (b + p) (evB live br (s w))) (gR (some (1, evV live br (s2 w))) sh (evM g (b + p2) (evB live br (s2 w))))
  | 0, p, n, c, s, p2, n2, c2, s2, e, hp, hq, hs, live, br, hl, hb, x4, x5, x6 => by
    cases e
    have h1 := E.1
    have hT : T p = 0 := by
      rw [E.at p hp.1, if_neg (by omega)]
    exact ev_term_exit hx hf E hD p hp live br hl hb s x4 x5 x6 (by omega)
  | f + 1, p, n, c, s, p2, n2, c2, s2, e, hp, hq, hs, live, br, hl, hb, x4, x5, x6 => by
    have h1 := E.1
    unfold pTermL at e
    split at e
    · next hop =>
      cases hr : part (p + 1) n with
      | inl x => rw [hr] at e; cases e
      | inr x =>
        obtain ⟨q, m, d2, t⟩ := x
        rw [hr] at e
        dsimp only at e
        have hlt := E.lt p hp.1 (by omega)
        have hq2 := hF _ _ _ _ _ _ hr
        have hS := hE _ _ _ _ _ _ hr (by omega)
        have hk := fun (op : Int) (e : pTermL T part f q m (c ++ d2 ++ [(op, 0)]) (pjs op s t) = .inr (p2, n2, c2, s2)) => ev_termL hx hf E hD hd hE hF f q m _ _ p2 n2 c2 s2 e (by omega) (by omega) bd9_pjs live br hl hb
        rcases hop with hT | hT | hT
        · rw [if_pos hT] at e
          exact ev_term_142 hx hf E hD p hp live br hl hb s x4 x5 x6 hT hd q t ⟨hS.1, hS.2.2⟩ hs (hk 7 e)
        · rw [if_neg (show ¬ T p = 142 by omega), if_pos hT] at e
          exact ev_term_147 hx hf E hD p hp live br hl hb s x4 x5 x6 hT hd q t ⟨hS.1, hS.2.2⟩ hs (hk 8 e)
        · rw [if_neg (show ¬ T p = 142 by omega), if_neg (show ¬ T p = 147 by omega)] at e
          exact ev_term_137 hx hf E hD p hp live br hl hb s x4 x5 x6 hT hd q t ⟨hS.1, hS.2.2⟩ hs (hk 9 e)
    · next hop =>
      cases e
      exact ev_term_exit hx hf E hD p hp live br hl hb s x4 x5 x6 hop
theorem ev_term {sh : gS} {g : gM} (hx : gFix sh) (hf : gFin g) {T V : Int → Int} {b : Int} {o : Bool} {w : Int → Int} (E : EvC T V b o w g) {D d : Nat} (hD : 3 ≤ D) (hd : d + 1 ≤ D) {part : Int → Int → PR} (hE : EvL sh g b w 1 f_Model_partOf d part) (hF : pFar (g 177 23 - b) part) : EvL sh g b w 1 f_Model_termOf D (pTermW T part) := by
  intro p n p2 n2 c s e hp
  have h1 := E.1
  unfold pTermW at e
  cases hr : part p n with
  | inl x => rw [hr] at e; cases e
  | inr x =>
    obtain ⟨q, m, d2, t⟩ := x
    rw [hr] at e
    dsimp only at e
    have hq2 := hF _ _ _ _ _ _ hr
    have hS := hE _ _ _ _ _ _ hr hp
    refine ⟨pTermL_bd _ _ _ _ _ _ _ _ _ e hS.1, fun z => absurd z (by decide), fun live br hl hb => ?_⟩
    refine gTri.of (by decide +kernel) rfl ?_
    show gWP f_Model_termOf _ _ _ 0 [(2, 177), (0, live), (9, 0), (9, 0), (9, 0), (9, 0), (9, 0)] [] sh (evM g (b + p) br) _
    refine gw_aload_n (gc k_Model_termOf_0 0 rfl) rfl rfl ?_
    refine gw_iload_n (gc k_Model_termOf_0 1 rfl) rfl ?_
    refine gw_cV1 (gc k_Model_termOf_0 2 rfl) y_Model_partOf ln_Model_282 (hS.2.2 live br hl hb) rfl rfl (gAt hx rfl rfl) rfl (gble hd) ?_
    refine gw_lstore_2 (gc k_Model_termOf_0 3 rfl) rfl rfl ?_
    exact ev_termL hx hf E hD hd hE hF 401 q m d2 t p2 n2 c s e (by omega) (by omega) hS.1 live br hl hb _ _ _
theorem ev_sumL {sh : gS} {g : gM} (hx : gFix sh) (hf : gFin g) {T V : Int → Int} {b : Int} {o : Bool} {w : Int → Int} (E : EvC T V b o w g) {D d : Nat} (hD : 3 ≤ D) (hd : d + 1 ≤ D) {part : Int → Int → PR} (hE : EvL sh g b w 1 f_Model_termOf d part) (hF : pFar (g 177 23 - b) part) : ∀ (f : Nat) (p n : Int) (c : PK) (s : PS) p2 n2 c2 s2, pSumL T part f p n c s = .inr (p2, n2, c2, s2) → (0 ≤ p ∧ p ≤ 401) → 401 ≤ p + f → (∀ v, s w = some v → bd9 v) → ∀ live br : Int, (live = 0 ∨ live = 1) → (br = 0 ∨ br = 1) → ∀ x4 x5 x6 : gV, gWP f_Model_sumOf D 0 0 6 [(2, 177), (0, live), (1, evV live br (s w)), (9, 0), x4, x5, x6] [] sh (evM g (b + p) (evB live br (s w))) (gR (some (1, evV live br (s2 w))) sh (evM g (b + p2) (evB live br (s2 w))))
  | 0, p, n, c, s, p2, n2, c2, s2, e, hp, hq, hs, live, br, hl, hb, x4, x5, x6 => by
    cases e
    have h1 := E.1
    have hT : T p = 0 := by
      rw [E.at p hp.1, if_neg (by omega)]
    exact ev_sum_exit hx hf E hD p hp live br hl hb s x4 x5 x6 (by omega)
  | f + 1, p, n, c, s, p2, n2, c2, s2, e, hp, hq, hs, live, br, hl, hb, x4, x5, x6 => by
    have h1 := E.1
    unfold pSumL at e
    split at e
    · next hop =>
      cases hr : part (p + 1) n with
      | inl x => rw [hr] at e; cases e
      | inr x =>
        obtain ⟨q, m, d2, t⟩ := x
        rw [hr] at e
        dsimp only at e
        have hlt := E.lt p hp.1 (by omega)
        have hq2 := hF _ _ _ _ _ _ hr
        have hS := hE _ _ _ _ _ _ hr (by omega)
        have hk := fun (op : Int) (e : pSumL T part f q m (c ++ d2 ++ [(op, 0)]) (pjs op s t) = .inr (p2, n2, c2, s2)) => ev_sumL hx hf E hD hd hE hF f q m _ _ p2 n2 c2 s2 e (by omega) (by omega) bd9_pjs live br hl hb
        rcases hop with hT | hT
        · rw [if_pos hT] at e
          exact ev_sum_143 hx hf E hD p hp live br hl hb s x4 x5 x6 hT hd q t ⟨hS.1, hS.2.2⟩ hs (hk 5 e)
        · rw [if_neg (show ¬ T p = 143 by omega)] at e
          exact ev_sum_145 hx hf E hD p hp live br hl hb s x4 x5 x6 hT hd q t ⟨hS.1, hS.2.2⟩ hs (hk 6 e)
    · next hop =>
      cases e
      exact ev_sum_exit hx hf E hD p hp live br hl hb s x4 x5 x6 hop
theorem ev_sum {sh : gS} {g : gM} (hx : gFix sh) (hf : gFin g) {T V : Int → Int} {b : Int} {o : Bool} {w : Int → Int} (E : EvC T V b o w g) {D d : Nat} (hD : 3 ≤ D) (hd : d + 1 ≤ D) {part : Int → Int → PR} (hE : EvL sh g b w 1 f_Model_termOf d part) (hF : pFar (g 177 23 - b) part) : EvL sh g b w 1 f_Model_sumOf D (pSumW T part) := by
  intro p n p2 n2 c s e hp
  have h1 := E.1
  unfold pSumW at e
  cases hr : part p n with
  | inl x => rw [hr] at e; cases e
  | inr x =>
    obtain ⟨q, m, d2, t⟩ := x
    rw [hr] at e
    dsimp only at e
    have hq2 := hF _ _ _ _ _ _ hr
    have hS := hE _ _ _ _ _ _ hr hp
    refine ⟨pSumL_bd _ _ _ _ _ _ _ _ _ e hS.1, fun z => absurd z (by decide), fun live br hl hb => ?_⟩
    refine gTri.of (by decide +kernel) rfl ?_
    show gWP f_Model_sumOf _ _ _ 0 [(2, 177), (0, live), (9, 0), (9, 0), (9, 0), (9, 0), (9, 0)] [] sh (evM g (b + p) br) _
    refine gw_aload_n (gc k_Model_sumOf_0 0 rfl) rfl rfl ?_
    refine gw_iload_n (gc k_Model_sumOf_0 1 rfl) rfl ?_
    refine gw_cV1 (gc k_Model_sumOf_0 2 rfl) y_Model_termOf ln_Model_274 (hS.2.2 live br hl hb) rfl rfl (gAt hx rfl rfl) rfl (gble hd) ?_
    refine gw_lstore_2 (gc k_Model_sumOf_0 3 rfl) rfl rfl ?_
    exact ev_sumL hx hf E hD hd hE hF 401 q m d2 t p2 n2 c s e (by omega) (by omega) hS.1 live br hl hb _ _ _
theorem ev_sumK {sh : gS} {g : gM} (hx : gFix sh) (hf : gFin g) {T V : Int → Int} {b : Int} {o : Bool} {w : Int → Int} (E : EvC T V b o w g) : ∀ k : Nat, EvL sh g b w 1 f_Model_sumOf (5 + 3 * k) (pSum T V o k)
  | 0 => ev_sum hx hf E (by omega) (d := 4) (by omega) (ev_term hx hf E (by omega) (d := 3) (by omega) (ev_part hx hf E (by omega) (fun f hf => by cases hf)) (pPartW_far E.ok (fun f hf => by cases hf))) (pTermW_far (pPartW_far E.ok (fun f hf => by cases hf)))
  | k + 1 => ev_sum hx hf E (by omega) (d := 5 + 3 * k + 2) (by omega) (ev_term hx hf E (by omega) (d := 5 + 3 * k + 1) (by omega) (ev_part hx hf E (by omega) (fun f hf => by cases hf; exact ⟨5 + 3 * k, by omega, ev_sumK hx hf E k⟩)) (pPartW_far E.ok (fun f hf => by cases hf; exact pSum_far E.ok k))) (pTermW_far (pPartW_far E.ok (fun f hf => by cases hf; exact pSum_far E.ok k)))
