def EvT (sh : gS) (g : gM) (b : Int) (w : Int → Int) (F : gF) (d : Nat) (f : Int → Int → PR) : Prop := ∀ (p n p2 n2 : Int) (c : PK) (s : PS), f p n = .inr (p2, n2, c, s) → (0 ≤ p ∧ p ≤ 401) → (∀ v, s w = some v → v = 0 ∨ v = 1) ∧ ∀ live br : Int, (live = 0 ∨ live = 1) → (br = 0 ∨ br = 1) → ∃ y : Int, (y = 0 ∨ y = 1) ∧ (live = 1 → evB live br (s w) = 0 → s w = some y) ∧ gTri F d 0 0 [(2, 177), (0, live)] sh (evM g (b + p) br) (gR (some (0, y)) sh (evM g (b + p2) (evB live br (s w))))
theorem pand_01 {s t : PS} {w : Int → Int} (h1 : ∀ v, s w = some v → v = 0 ∨ v = 1) (h2 : ∀ v, t w = some v → v = 0 ∨ v = 1) : ∀ v, pand s t w = some v → v = 0 ∨ v = 1 := by
  intro v h
  unfold pand at h
  cases h3 : s w with
  | none => rw [h3] at h; cases h
  | some a =>
    rw [h3, Option.bind_some] at h
    split at h
    · cases h; exact h1 _ h3
    · exact h2 _ h
theorem por_01 {s t : PS} {w : Int → Int} (h1 : ∀ v, s w = some v → v = 0 ∨ v = 1) (h2 : ∀ v, t w = some v → v = 0 ∨ v = 1) : ∀ v, por s t w = some v → v = 0 ∨ v = 1 := by
  intro v h
  unfold por at h
  cases h3 : s w with
  | none => rw [h3] at h; cases h
  | some a =>
    rw [h3, Option.bind_some] at h
    split at h
    · exact h2 _ h
    · cases h; exact h1 _ h3
theorem pnot_01 {s : PS} {w : Int → Int} (h1 : ∀ v, s w = some v → v = 0 ∨ v = 1) : ∀ v, pnot s w = some v → v = 0 ∨ v = 1 := by
  intro v h
  unfold pnot at h
  cases h3 : s w with
  | none => rw [h3] at h; cases h
  | some a =>
    rw [h3, Option.bind_some] at h
    cases h
    have := h1 a h3
    omega
theorem evB_not {live br : Int} {s : PS} {w : Int → Int} : evB live br (pnot s w) = evB live br (s w) := by
  unfold pnot
  cases h3 : s w with
  | none => rfl
  | some a => rw [Option.bind_some, evB_some, evB_some]
theorem ev_and {live br v l2 y z : Int} {s t : PS} {w : Int → Int} (hl : live = 0 ∨ live = 1) (hb : br = 0 ∨ br = 1) (hv : v = 0 ∨ v = 1)
    (hvs : live = 1 → evB live br (s w) = 0 → s w = some v) (hl2 : (l2 = 0 ∧ (live = 0 ∨ v = 0)) ∨ (l2 = 1 ∧ live = 1 ∧ v = 1))
    (hy : l2 = 1 → evB l2 (evB live br (s w)) (t w) = 0 → t w = some y) (hz : (z = 1 ∧ v = 1 ∧ y = 1) ∨ (z = 0 ∧ (v = 0 ∨ y = 0))) (hy1 : y = 0 ∨ y = 1) :
    evB l2 (evB live br (s w)) (t w) = evB live br (pand s t w) ∧ (live = 1 → evB live br (pand s t w) = 0 → pand s t w = some z) := by
  rcases hl with rfl | rfl
  · obtain rfl : l2 = 0 := by omega
    simp only [evB_0]
    exact ⟨trivial, fun h => absurd h (by decide)⟩
  · rcases hb with rfl | rfl
    · cases h1 : s w with
      | none =>
        have hn : pand s t w = none := by unfold pand; rw [h1]; rfl
        rw [hn, evB_n]
        refine ⟨?_, fun _ h => absurd h (by decide)⟩
        rw [evB_b]
      | some a =>
        rw [h1, evB_s] at hvs hy
        cases hvs rfl rfl
        rcases hv with rfl | rfl
        · obtain rfl : l2 = 0 := by omega
          obtain rfl : z = 0 := by omega
          have hn : pand s t w = some 0 := by unfold pand; rw [h1]; rfl
          rw [hn, evB_s, evB_0]
          exact ⟨rfl, fun _ _ => rfl⟩
        · obtain rfl : l2 = 1 := by omega
          obtain rfl : z = y := by omega
          have hn : pand s t w = t w := by unfold pand; rw [h1]; rfl
          rw [hn, evB_s]
          exact ⟨rfl, fun _ h => hy rfl h⟩
    · simp only [evB_b]
      exact ⟨trivial, fun _ h => absurd h (by decide)⟩
theorem ev_or {live br v l2 y z : Int} {s t : PS} {w : Int → Int} (hl : live = 0 ∨ live = 1) (hb : br = 0 ∨ br = 1) (hv : v = 0 ∨ v = 1)
    (hvs : live = 1 → evB live br (s w) = 0 → s w = some v) (hl2 : (l2 = 0 ∧ (live = 0 ∨ v = 1)) ∨ (l2 = 1 ∧ live = 1 ∧ v = 0))
    (hy : l2 = 1 → evB l2 (evB live br (s w)) (t w) = 0 → t w = some y) (hz : (z = 1 ∧ (v = 1 ∨ y = 1)) ∨ (z = 0 ∧ v = 0 ∧ y = 0)) (hy1 : y = 0 ∨ y = 1) :
    evB l2 (evB live br (s w)) (t w) = evB live br (por s t w) ∧ (live = 1 → evB live br (por s t w) = 0 → por s t w = some z) := by
  rcases hl with rfl | rfl
  · obtain rfl : l2 = 0 := by omega
    simp only [evB_0]
    exact ⟨trivial, fun h => absurd h (by decide)⟩
  · rcases hb with rfl | rfl
    · cases h1 : s w with
      | none =>
        have hn : por s t w = none := by unfold por; rw [h1]; rfl
        rw [hn, evB_n]
        refine ⟨?_, fun _ h => absurd h (by decide)⟩
        rw [evB_b]
      | some a =>
        rw [h1, evB_s] at hvs hy
        cases hvs rfl rfl
        rcases hv with rfl | rfl
        · obtain rfl : l2 = 1 := by omega
          obtain rfl : z = y := by omega
          have hn : por s t w = t w := by unfold por; rw [h1]; rfl
          rw [hn, evB_s]
          exact ⟨rfl, fun _ h => hy rfl h⟩
        · obtain rfl : l2 = 0 := by omega
          obtain rfl : z = 1 := by omega
          have hn : por s t w = some 1 := by unfold por; rw [h1]; rfl
          rw [hn, evB_s, evB_0]
          exact ⟨rfl, fun _ _ => rfl⟩
    · simp only [evB_b]
      exact ⟨trivial, fun _ h => absurd h (by decide)⟩
/-- a comparison -/
theorem ev_cmp {op live br : Int} {s t : PS} {w : Int → Int} (R : Int → Int → Prop) [∀ a c, Decidable (R a c)] (hR : ∀ a c, pjn op a c = some (bi (R a c))) (hl : live = 0 ∨ live = 1) (hb : br = 0 ∨ br = 1) :
    evB live (evB live br (s w)) (t w) = evB live br (pjs op s t w) ∧ evV live br (pjs op s t w) = bi (live = 1 ∧ evB live (evB live br (s w)) (t w) = 0 ∧ R (evV live br (s w)) (evV live (evB live br (s w)) (t w))) := by
  rcases hl with rfl | rfl
  · simp only [evB_0, evV_0]
    exact ⟨trivial, (bi_0 (by omega)).symm⟩
  · rcases hb with rfl | rfl
    · unfold pjs
      cases h1 : s w with
      | none =>
        simp only [Option.bind_none, evB_n, evB_b, evV_n]
        exact ⟨trivial, (bi_0 (by omega)).symm⟩
      | some a =>
        cases h2 : t w with
        | none =>
          simp only [Option.bind_some, Option.bind_none, evB_s, evB_n, evV_n]
          exact ⟨trivial, (bi_0 (by omega)).symm⟩
        | some c =>
          simp only [Option.bind_some, evB_s, evV_s, hR]
          refine ⟨trivial, ?_⟩
          by_cases h : R a c
          · rw [bi_1 h, bi_1 ⟨trivial, trivial, h⟩]
          · rw [bi_0 h, bi_0 (fun z => h z.2.2)]
    · simp only [evB_b, evV_b]
      exact ⟨trivial, (bi_0 (by omega)).symm⟩
set_option maxHeartbeats 2000000 in
theorem ev_posA {sh : gS} {g : gM} (hx : gFix sh) (hf : gFin g) {T V : Int → Int} {b : Int} {o : Bool} {w : Int → Int} (E : EvC T V b o w g) {D : Nat} (hD : 3 ≤ D) (p : Int) (hp : 0 ≤ p ∧ p ≤ 401) (live br : Int) (hl : live = 0 ∨ live = 1) (hb : br = 0 ∨ br = 1) (hT : T p = 140) (q B y : Int) (hq : 0 ≤ q ∧ q ≤ 401) (hy : y = 0 ∨ y = 1) {d : Nat} (hd : d + 1 ≤ D) (hS : gTri f_Model_testOf d 0 0 [(2, 177), (0, live)] sh (evM g (b + (p + 1)) br) (gR (some (0, y)) sh (evM g (b + q) B))) : gTri f_Model_positiveOf D 0 0 [(2, 177), (0, live)] sh (evM g (b + p) br) (gR (some (0, y)) sh (evM g (b + (q + 1)) B)) := by
  have hfe := fun x y => hf.ev x y
  have h1 := E.1
  have hrg := E.rg p hp.1
  refine gTri.of (by decide +kernel) rfl ?_
  show gWP f_Model_positiveOf _ _ _ 0 [(2, 177), (0, live), (9, 0), (9, 0), (9, 0), (9, 0), (9, 0)] [] sh (evM g (b + p) br) _
  refine gw_aload_n (gc k_Model_positiveOf_0 0 rfl) rfl rfl ?_
  refine gw_bipush (gc k_Model_positiveOf_0 1 rfl) (by decide) ?_
  refine gw_cS1 (gc k_Model_positiveOf_0 2 rfl) y_Model_sign ln_Model_220 (c_Model_sign 40) rfl rfl rfl (gble (by omega)) ?_
  refine gw_cV1 (gc k_Model_positiveOf_0 3 rfl) y_Model_passes0 ln_Model_285 (c_passY hx hf E p _ _ (by omega) (by omega) (by omega)) rfl rfl (gAt hx rfl rfl) rfl (gble (by omega)) ?_
  refine gw_if_eq (tgt := 30) (gc k_Model_positiveOf_0 4 rfl) rfl (by omega) (fun c9 => ?_) (fun c9 => ?_)
  · exact absurd c9 (by decide)
  · refine gw_aload_n (gc k_Model_positiveOf_0 5 rfl) rfl rfl ?_
    refine gw_iload_n (gc k_Model_positiveOf_0 6 rfl) rfl ?_
    refine gw_cV1 (gc k_Model_positiveOf_0 7 rfl) y_Model_testOf ln_Model_318 hS rfl rfl (gAt hx rfl rfl) rfl (gble (by omega)) ?_
    refine gw_istore_2 (gc k_Model_positiveOf_0 8 rfl) rfl rfl ?_
    refine gw_aload_n (gc k_Model_positiveOf_0 9 rfl) rfl rfl ?_
    refine gw_dup (gc k_Model_positiveOf_0 10 rfl) rfl ?_
    refine gw_getf 22 rfl (gc k_Model_positiveOf_0 11 rfl) fl_Model_261 (gAt hx rfl rfl) ?_
    rw [evM_22]
    refine gw_iconst (gc k_Model_positiveOf_0 12 rfl) ?_
    refine gw_iadd (gc k_Model_positiveOf_0 13 rfl) ?_
    refine gw_putIK 22 rfl (gc k_Model_positiveOf_0 14 rfl) fl_Model_261 (gAt hx rfl rfl) (hfe _ _) rfl (fun _ => ?_)
    rw [evM_go, Int.add_assoc]
    refine gw_iload_n (gc k_Model_positiveOf_0 15 rfl) rfl ?_
    refine gw_zreturn (gc k_Model_positiveOf_0 16 rfl) rfl (by omega) ?_
    exact ⟨rfl, rfl, rfl⟩
set_option maxHeartbeats 2000000 in
theorem ev_posB10 {sh : gS} {g : gM} (hx : gFix sh) (hf : gFin g) {T V : Int → Int} {b : Int} {o : Bool} {w : Int → Int} (E : EvC T V b o w g) {D : Nat} (hD : 3 ≤ D) (p : Int) (hp : 0 ≤ p ∧ p ≤ 401) (live br : Int) (hl : live = 0 ∨ live = 1) (hb : br = 0 ∨ br = 1) (hT : ¬ T p = 140) (s t : PS) (q q2 : Int) (hq : 0 ≤ q ∧ q ≤ 401) (hTq : T q = 160) {d : Nat} (hd : d + 1 ≤ D) (hs : ∀ v, s w = some v → bd9 v) (ht : ∀ v, t w = some v → bd9 v) (hS : gTri f_Model_sumOf d 0 0 [(2, 177), (0, live)] sh (evM g (b + p) br) (gR (some (1, evV live br (s w))) sh (evM g (b + q) (evB live br (s w))))) (hS2 : gTri f_Model_sumOf d 0 0 [(2, 177), (0, live)] sh (evM g (b + (q + 1)) (evB live br (s w))) (gR (some (1, evV live (evB live br (s w)) (t w))) sh (evM g (b + q2) (evB live (evB live br (s w)) (t w))))) : gTri f_Model_positiveOf D 0 0 [(2, 177), (0, live)] sh (evM g (b + p) br) (gR (some (0, evV live br (pjs 10 s t w))) sh (evM g (b + q2) (evB live br (pjs 10 s t w)))) := by
  have hfe := fun x y => hf.ev x y
  have h1 := E.1
  have hrg := E.rg p hp.1
  have hV1 := evV_bd (live := live) (br := br) hs
  have hV2 := evV_bd (live := live) (br := evB live br (s w)) ht
  have hB2 := evB_01 (live := live) (v := t w) (evB_01 (live := live) (v := s w) hb)
  unfold bd9 at hV1 hV2
  have hc := ev_cmp (op := 10) (s := s) (t := t) (w := w) (fun a c => a < c) (fun a c => rfl) hl hb
  refine gTri.of (by decide +kernel) rfl ?_
  show gWP f_Model_positiveOf _ _ _ 0 [(2, 177), (0, live), (9, 0), (9, 0), (9, 0), (9, 0), (9, 0)] [] sh (evM g (b + p) br) _
  refine gw_aload_n (gc k_Model_positiveOf_0 0 rfl) rfl rfl ?_
  refine gw_bipush (gc k_Model_positiveOf_0 1 rfl) (by decide) ?_
  refine gw_cS1 (gc k_Model_positiveOf_0 2 rfl) y_Model_sign ln_Model_220 (c_Model_sign 40) rfl rfl rfl (gble (by omega)) ?_
  refine gw_cV1 (gc k_Model_positiveOf_0 3 rfl) y_Model_passes0 ln_Model_285 (c_passN hx hf E p _ _ (by omega) (by omega) (by omega)) rfl rfl (gAt hx rfl rfl) rfl (gble (by omega)) ?_
  refine gw_if_eq (tgt := 30) (gc k_Model_positiveOf_0 4 rfl) rfl (by omega) (fun c9 => ?_) (fun c9 => ?_)
  · refine gw_aload_n (gc k_Model_positiveOf_0 17 rfl) rfl rfl ?_
    refine gw_iload_n (gc k_Model_positiveOf_0 18 rfl) rfl ?_
    refine gw_cV1 (gc k_Model_positiveOf_0 19 rfl) y_Model_sumOf ln_Model_288 hS rfl rfl (gAt hx rfl rfl) rfl (gble (by omega)) ?_
    refine gw_lstore_2 (gc k_Model_positiveOf_0 20 rfl) rfl rfl ?_
    refine gw_aload_n (gc k_Model_positiveOf_0 21 rfl) rfl rfl ?_
    refine gw_aload_n (gc k_Model_positiveOf_0 22 rfl) rfl rfl ?_
    refine gw_getf 22 rfl (gc k_Model_positiveOf_0 23 rfl) fl_Model_261 (gAt hx rfl rfl) ?_
    rw [evM_22]
    refine gw_cV1 (gc k_Model_positiveOf_0 24 rfl) y_Model_codeAt ln_Model_264 (c_codeAt hx hf E q _ _ (by omega)) rfl rfl (gAt hx rfl rfl) rfl (gble (by omega)) ?_
    refine gw_istore_4 (gc k_Model_positiveOf_0 25 rfl) rfl rfl ?_
    refine gw_aload_n (gc k_Model_positiveOf_0 26 rfl) rfl rfl ?_
    refine gw_dup (gc k_Model_positiveOf_0 27 rfl) rfl ?_
    refine gw_getf 22 rfl (gc k_Model_positiveOf_0 28 rfl) fl_Model_261 (gAt hx rfl rfl) ?_
    rw [evM_22]
    refine gw_iconst (gc k_Model_positiveOf_0 29 rfl) ?_
    refine gw_iadd (gc k_Model_positiveOf_0 30 rfl) ?_
    refine gw_putIK 22 rfl (gc k_Model_positiveOf_0 31 rfl) fl_Model_261 (gAt hx rfl rfl) (hfe _ _) rfl (fun _ => ?_)
    rw [evM_go, Int.add_assoc]
    refine gw_aload_n (gc k_Model_positiveOf_0 32 rfl) rfl rfl ?_
    refine gw_iload_n (gc k_Model_positiveOf_0 33 rfl) rfl ?_
    refine gw_cV1 (gc k_Model_positiveOf_0 34 rfl) y_Model_sumOf ln_Model_288 hS2 rfl rfl (gAt hx rfl rfl) rfl (gble (by omega)) ?_
    refine gw_lstore_5 (gc k_Model_positiveOf_0 35 rfl) rfl rfl ?_
    refine gw_iload_n (gc k_Model_positiveOf_0 36 rfl) rfl ?_
    refine gw_if_eq (tgt := 125) (gc k_Model_positiveOf_0 37 rfl) rfl (by omega) (fun c64 => ?_) (fun c64 => ?_)
    · refine gw_iconst (gc k_Model_positiveOf_1 25 rfl) ?_
      refine gw_zreturn (gc k_Model_positiveOf_1 26 rfl) rfl (by omega) ?_
      exact ⟨(congrArg (fun z => some ((0 : Nat), z)) (hc.2.trans (by first | exact bi_1 (by omega) | exact bi_0 (by omega)))).symm, rfl, congrArg (evM g (b + q2)) hc.1⟩
    · refine gw_aload_n (gc k_Model_positiveOf_0 38 rfl) rfl rfl ?_
      refine gw_getf 24 rfl (gc k_Model_positiveOf_0 39 rfl) fl_Model_271 (gAt hx rfl rfl) ?_
      rw [evM_24]
      refine gw_if_ne (tgt := 125) (gc k_Model_positiveOf_1 0 rfl) rfl (by omega) (fun c71 => ?_) (fun c71 => ?_)
      · refine gw_iconst (gc k_Model_positiveOf_1 25 rfl) ?_
        refine gw_zreturn (gc k_Model_positiveOf_1 26 rfl) rfl (by omega) ?_
        exact ⟨(congrArg (fun z => some ((0 : Nat), z)) (hc.2.trans (by first | exact bi_1 (by omega) | exact bi_0 (by omega)))).symm, rfl, congrArg (evM g (b + q2)) hc.1⟩
      · refine gw_iload (gc k_Model_positiveOf_1 1 rfl) rfl ?_
        refine gw_bipush (gc k_Model_positiveOf_1 2 rfl) (by decide) ?_
        refine gw_cS1 (gc k_Model_positiveOf_1 3 rfl) y_Model_sign ln_Model_220 (c_Model_sign 60) rfl rfl rfl (gble (by omega)) ?_
        refine gw_icmp_ne (tgt := 94) (gc k_Model_positiveOf_1 4 rfl) rfl (by omega) (fun c81 => ?_) (fun c81 => ?_)
        · exact absurd c81 (by omega)
        · refine gw_lload_n (gc k_Model_positiveOf_1 5 rfl) rfl ?_
          refine gw_lload (gc k_Model_positiveOf_1 6 rfl) rfl ?_
          refine gw_lc_ge (tgt := 125) (gc k_Model_positiveOf_1 7 rfl) (gc k_Model_positiveOf_1 8 rfl) rfl (by omega) (fun c88 => ?_) (fun c88 => ?_)
          · refine gw_iconst (gc k_Model_positiveOf_1 25 rfl) ?_
            refine gw_zreturn (gc k_Model_positiveOf_1 26 rfl) rfl (by omega) ?_
            exact ⟨(congrArg (fun z => some ((0 : Nat), z)) (hc.2.trans (by first | exact bi_1 (by omega) | exact bi_0 (by omega)))).symm, rfl, congrArg (evM g (b + q2)) hc.1⟩
          · refine gw_goto (tgt := 121) (gc k_Model_positiveOf_1 9 rfl) rfl ?_
            refine gw_iconst (gc k_Model_positiveOf_1 23 rfl) ?_
            refine gw_goto (tgt := 126) (gc k_Model_positiveOf_1 24 rfl) rfl ?_
            refine gw_zreturn (gc k_Model_positiveOf_1 26 rfl) rfl (by omega) ?_
            exact ⟨(congrArg (fun z => some ((0 : Nat), z)) (hc.2.trans (by first | exact bi_1 (by omega) | exact bi_0 (by omega)))).symm, rfl, congrArg (evM g (b + q2)) hc.1⟩
  · exact absurd rfl c9
set_option maxHeartbeats 2000000 in
theorem ev_posB11 {sh : gS} {g : gM} (hx : gFix sh) (hf : gFin g) {T V : Int → Int} {b : Int} {o : Bool} {w : Int → Int} (E : EvC T V b o w g) {D : Nat} (hD : 3 ≤ D) (p : Int) (hp : 0 ≤ p ∧ p ≤ 401) (live br : Int) (hl : live = 0 ∨ live = 1) (hb : br = 0 ∨ br = 1) (hT : ¬ T p = 140) (s t : PS) (q q2 : Int) (hq : 0 ≤ q ∧ q ≤ 401) (hTq : T q = 162) {d : Nat} (hd : d + 1 ≤ D) (hs : ∀ v, s w = some v → bd9 v) (ht : ∀ v, t w = some v → bd9 v) (hS : gTri f_Model_sumOf d 0 0 [(2, 177), (0, live)] sh (evM g (b + p) br) (gR (some (1, evV live br (s w))) sh (evM g (b + q) (evB live br (s w))))) (hS2 : gTri f_Model_sumOf d 0 0 [(2, 177), (0, live)] sh (evM g (b + (q + 1)) (evB live br (s w))) (gR (some (1, evV live (evB live br (s w)) (t w))) sh (evM g (b + q2) (evB live (evB live br (s w)) (t w))))) : gTri f_Model_positiveOf D 0 0 [(2, 177), (0, live)] sh (evM g (b + p) br) (gR (some (0, evV live br (pjs 11 s t w))) sh (evM g (b + q2) (evB live br (pjs 11 s t w)))) := by
  have hfe := fun x y => hf.ev x y
  have h1 := E.1
  have hrg := E.rg p hp.1
  have hV1 := evV_bd (live := live) (br := br) hs
  have hV2 := evV_bd (live := live) (br := evB live br (s w)) ht
  have hB2 := evB_01 (live := live) (v := t w) (evB_01 (live := live) (v := s w) hb)
  unfold bd9 at hV1 hV2
  have hc := ev_cmp (op := 11) (s := s) (t := t) (w := w) (fun a c => c < a) (fun a c => rfl) hl hb
  refine gTri.of (by decide +kernel) rfl ?_
  show gWP f_Model_positiveOf _ _ _ 0 [(2, 177), (0, live), (9, 0), (9, 0), (9, 0), (9, 0), (9, 0)] [] sh (evM g (b + p) br) _
  refine gw_aload_n (gc k_Model_positiveOf_0 0 rfl) rfl rfl ?_
  refine gw_bipush (gc k_Model_positiveOf_0 1 rfl) (by decide) ?_
  refine gw_cS1 (gc k_Model_positiveOf_0 2 rfl) y_Model_sign ln_Model_220 (c_Model_sign 40) rfl rfl rfl (gble (by omega)) ?_
  refine gw_cV1 (gc k_Model_positiveOf_0 3 rfl) y_Model_passes0 ln_Model_285 (c_passN hx hf E p _ _ (by omega) (by omega) (by omega)) rfl rfl (gAt hx rfl rfl) rfl (gble (by omega)) ?_
  refine gw_if_eq (tgt := 30) (gc k_Model_positiveOf_0 4 rfl) rfl (by omega) (fun c9 => ?_) (fun c9 => ?_)
  · refine gw_aload_n (gc k_Model_positiveOf_0 17 rfl) rfl rfl ?_
    refine gw_iload_n (gc k_Model_positiveOf_0 18 rfl) rfl ?_
    refine gw_cV1 (gc k_Model_positiveOf_0 19 rfl) y_Model_sumOf ln_Model_288 hS rfl rfl (gAt hx rfl rfl) rfl (gble (by omega)) ?_
    refine gw_lstore_2 (gc k_Model_positiveOf_0 20 rfl) rfl rfl ?_
    refine gw_aload_n (gc k_Model_positiveOf_0 21 rfl) rfl rfl ?_
    refine gw_aload_n (gc k_Model_positiveOf_0 22 rfl) rfl rfl ?_
    refine gw_getf 22 rfl (gc k_Model_positiveOf_0 23 rfl) fl_Model_261 (gAt hx rfl rfl) ?_
    rw [evM_22]
    refine gw_cV1 (gc k_Model_positiveOf_0 24 rfl) y_Model_codeAt ln_Model_264 (c_codeAt hx hf E q _ _ (by omega)) rfl rfl (gAt hx rfl rfl) rfl (gble (by omega)) ?_
    refine gw_istore_4 (gc k_Model_positiveOf_0 25 rfl) rfl rfl ?_
    refine gw_aload_n (gc k_Model_positiveOf_0 26 rfl) rfl rfl ?_
    refine gw_dup (gc k_Model_positiveOf_0 27 rfl) rfl ?_
    refine gw_getf 22 rfl (gc k_Model_positiveOf_0 28 rfl) fl_Model_261 (gAt hx rfl rfl) ?_
    rw [evM_22]
    refine gw_iconst (gc k_Model_positiveOf_0 29 rfl) ?_
    refine gw_iadd (gc k_Model_positiveOf_0 30 rfl) ?_
    refine gw_putIK 22 rfl (gc k_Model_positiveOf_0 31 rfl) fl_Model_261 (gAt hx rfl rfl) (hfe _ _) rfl (fun _ => ?_)
    rw [evM_go, Int.add_assoc]
    refine gw_aload_n (gc k_Model_positiveOf_0 32 rfl) rfl rfl ?_
    refine gw_iload_n (gc k_Model_positiveOf_0 33 rfl) rfl ?_
    refine gw_cV1 (gc k_Model_positiveOf_0 34 rfl) y_Model_sumOf ln_Model_288 hS2 rfl rfl (gAt hx rfl rfl) rfl (gble (by omega)) ?_
    refine gw_lstore_5 (gc k_Model_positiveOf_0 35 rfl) rfl rfl ?_
    refine gw_iload_n (gc k_Model_positiveOf_0 36 rfl) rfl ?_
    refine gw_if_eq (tgt := 125) (gc k_Model_positiveOf_0 37 rfl) rfl (by omega) (fun c64 => ?_) (fun c64 => ?_)
    · refine gw_iconst (gc k_Model_positiveOf_1 25 rfl) ?_
      refine gw_zreturn (gc k_Model_positiveOf_1 26 rfl) rfl (by omega) ?_
      exact ⟨(congrArg (fun z => some ((0 : Nat), z)) (hc.2.trans (by first | exact bi_1 (by omega) | exact bi_0 (by omega)))).symm, rfl, congrArg (evM g (b + q2)) hc.1⟩
    · refine gw_aload_n (gc k_Model_positiveOf_0 38 rfl) rfl rfl ?_
      refine gw_getf 24 rfl (gc k_Model_positiveOf_0 39 rfl) fl_Model_271 (gAt hx rfl rfl) ?_
      rw [evM_24]
      refine gw_if_ne (tgt := 125) (gc k_Model_positiveOf_1 0 rfl) rfl (by omega) (fun c71 => ?_) (fun c71 => ?_)
      · refine gw_iconst (gc k_Model_positiveOf_1 25 rfl) ?_
        refine gw_zreturn (gc k_Model_positiveOf_1 26 rfl) rfl (by omega) ?_
        exact ⟨(congrArg (fun z => some ((0 : Nat), z)) (hc.2.trans (by first | exact bi_1 (by omega) | exact bi_0 (by omega)))).symm, rfl, congrArg (evM g (b + q2)) hc.1⟩
      · refine gw_iload (gc k_Model_positiveOf_1 1 rfl) rfl ?_
        refine gw_bipush (gc k_Model_positiveOf_1 2 rfl) (by decide) ?_
        refine gw_cS1 (gc k_Model_positiveOf_1 3 rfl) y_Model_sign ln_Model_220 (c_Model_sign 60) rfl rfl rfl (gble (by omega)) ?_
        refine gw_icmp_ne (tgt := 94) (gc k_Model_positiveOf_1 4 rfl) rfl (by omega) (fun c81 => ?_) (fun c81 => ?_)
        · refine gw_iload (gc k_Model_positiveOf_1 10 rfl) rfl ?_
          refine gw_bipush (gc k_Model_positiveOf_1 11 rfl) (by decide) ?_
          refine gw_cS1 (gc k_Model_positiveOf_1 12 rfl) y_Model_sign ln_Model_220 (c_Model_sign 62) rfl rfl rfl (gble (by omega)) ?_
          refine gw_icmp_ne (tgt := 114) (gc k_Model_positiveOf_1 13 rfl) rfl (by omega) (fun c101 => ?_) (fun c101 => ?_)
          · exact absurd c101 (by omega)
          · refine gw_lload_n (gc k_Model_positiveOf_1 14 rfl) rfl ?_
            refine gw_lload (gc k_Model_positiveOf_1 15 rfl) rfl ?_
            refine gw_lc_le (tgt := 125) (gc k_Model_positiveOf_1 16 rfl) (gc k_Model_positiveOf_1 17 rfl) rfl (by omega) (fun c108 => ?_) (fun c108 => ?_)
            · refine gw_iconst (gc k_Model_positiveOf_1 25 rfl) ?_
              refine gw_zreturn (gc k_Model_positiveOf_1 26 rfl) rfl (by omega) ?_
              exact ⟨(congrArg (fun z => some ((0 : Nat), z)) (hc.2.trans (by first | exact bi_1 (by omega) | exact bi_0 (by omega)))).symm, rfl, congrArg (evM g (b + q2)) hc.1⟩
            · refine gw_goto (tgt := 121) (gc k_Model_positiveOf_1 18 rfl) rfl ?_
              refine gw_iconst (gc k_Model_positiveOf_1 23 rfl) ?_
              refine gw_goto (tgt := 126) (gc k_Model_positiveOf_1 24 rfl) rfl ?_
              refine gw_zreturn (gc k_Model_positiveOf_1 26 rfl) rfl (by omega) ?_
              exact ⟨(congrArg (fun z => some ((0 : Nat), z)) (hc.2.trans (by first | exact bi_1 (by omega) | exact bi_0 (by omega)))).symm, rfl, congrArg (evM g (b + q2)) hc.1⟩
        · exact absurd c81 (by omega)
  · exact absurd rfl c9
set_option maxHeartbeats 2000000 in
theorem ev_posB12 {sh : gS} {g : gM} (hx : gFix sh) (hf : gFin g) {T V : Int → Int} {b : Int} {o : Bool} {w : Int → Int} (E : EvC T V b o w g) {D : Nat} (hD : 3 ≤ D) (p : Int) (hp : 0 ≤ p ∧ p ≤ 401) (live br : Int) (hl : live = 0 ∨ live = 1) (hb : br = 0 ∨ br = 1) (hT : ¬ T p = 140) (s t : PS) (q q2 : Int) (hq : 0 ≤ q ∧ q ≤ 401) (hTq : T q = 161) {d : Nat} (hd : d + 1 ≤ D) (hs : ∀ v, s w = some v → bd9 v) (ht : ∀ v, t w = some v → bd9 v) (hS : gTri f_Model_sumOf d 0 0 [(2, 177), (0, live)] sh (evM g (b + p) br) (gR (some (1, evV live br (s w))) sh (evM g (b + q) (evB live br (s w))))) (hS2 : gTri f_Model_sumOf d 0 0 [(2, 177), (0, live)] sh (evM g (b + (q + 1)) (evB live br (s w))) (gR (some (1, evV live (evB live br (s w)) (t w))) sh (evM g (b + q2) (evB live (evB live br (s w)) (t w))))) : gTri f_Model_positiveOf D 0 0 [(2, 177), (0, live)] sh (evM g (b + p) br) (gR (some (0, evV live br (pjs 12 s t w))) sh (evM g (b + q2) (evB live br (pjs 12 s t w)))) := by
  have hfe := fun x y => hf.ev x y
  have h1 := E.1
  have hrg := E.rg p hp.1
  have hV1 := evV_bd (live := live) (br := br) hs
  have hV2 := evV_bd (live := live) (br := evB live br (s w)) ht
  have hB2 := evB_01 (live := live) (v := t w) (evB_01 (live := live) (v := s w) hb)
  unfold bd9 at hV1 hV2
  have hc := ev_cmp (op := 12) (s := s) (t := t) (w := w) (fun a c => a = c) (fun a c => rfl) hl hb
  refine gTri.of (by decide +kernel) rfl ?_
  show gWP f_Model_positiveOf _ _ _ 0 [(2, 177), (0, live), (9, 0), (9, 0), (9, 0), (9, 0), (9, 0)] [] sh (evM g (b + p) br) _
  refine gw_aload_n (gc k_Model_positiveOf_0 0 rfl) rfl rfl ?_
  refine gw_bipush (gc k_Model_positiveOf_0 1 rfl) (by decide) ?_
  refine gw_cS1 (gc k_Model_positiveOf_0 2 rfl) y_Model_sign ln_Model_220 (c_Model_sign 40) rfl rfl rfl (gble (by omega)) ?_
  refine gw_cV1 (gc k_Model_positiveOf_0 3 rfl) y_Model_passes0 ln_Model_285 (c_passN hx hf E p _ _ (by omega) (by omega) (by omega)) rfl rfl (gAt hx rfl rfl) rfl (gble (by omega)) ?_
  refine gw_if_eq (tgt := 30) (gc k_Model_positiveOf_0 4 rfl) rfl (by omega) (fun c9 => ?_) (fun c9 => ?_)
  · refine gw_aload_n (gc k_Model_positiveOf_0 17 rfl) rfl rfl ?_
    refine gw_iload_n (gc k_Model_positiveOf_0 18 rfl) rfl ?_
    refine gw_cV1 (gc k_Model_positiveOf_0 19 rfl) y_Model_sumOf ln_Model_288 hS rfl rfl (gAt hx rfl rfl) rfl (gble (by omega)) ?_
    refine gw_lstore_2 (gc k_Model_positiveOf_0 20 rfl) rfl rfl ?_
    refine gw_aload_n (gc k_Model_positiveOf_0 21 rfl) rfl rfl ?_
    refine gw_aload_n (gc k_Model_positiveOf_0 22 rfl) rfl rfl ?_
    refine gw_getf 22 rfl (gc k_Model_positiveOf_0 23 rfl) fl_Model_261 (gAt hx rfl rfl) ?_
    rw [evM_22]
    refine gw_cV1 (gc k_Model_positiveOf_0 24 rfl) y_Model_codeAt ln_Model_264 (c_codeAt hx hf E q _ _ (by omega)) rfl rfl (gAt hx rfl rfl) rfl (gble (by omega)) ?_
    refine gw_istore_4 (gc k_Model_positiveOf_0 25 rfl) rfl rfl ?_
    refine gw_aload_n (gc k_Model_positiveOf_0 26 rfl) rfl rfl ?_
    refine gw_dup (gc k_Model_positiveOf_0 27 rfl) rfl ?_
    refine gw_getf 22 rfl (gc k_Model_positiveOf_0 28 rfl) fl_Model_261 (gAt hx rfl rfl) ?_
    rw [evM_22]
    refine gw_iconst (gc k_Model_positiveOf_0 29 rfl) ?_
    refine gw_iadd (gc k_Model_positiveOf_0 30 rfl) ?_
    refine gw_putIK 22 rfl (gc k_Model_positiveOf_0 31 rfl) fl_Model_261 (gAt hx rfl rfl) (hfe _ _) rfl (fun _ => ?_)
    rw [evM_go, Int.add_assoc]
    refine gw_aload_n (gc k_Model_positiveOf_0 32 rfl) rfl rfl ?_
    refine gw_iload_n (gc k_Model_positiveOf_0 33 rfl) rfl ?_
    refine gw_cV1 (gc k_Model_positiveOf_0 34 rfl) y_Model_sumOf ln_Model_288 hS2 rfl rfl (gAt hx rfl rfl) rfl (gble (by omega)) ?_
    refine gw_lstore_5 (gc k_Model_positiveOf_0 35 rfl) rfl rfl ?_
    refine gw_iload_n (gc k_Model_positiveOf_0 36 rfl) rfl ?_
    refine gw_if_eq (tgt := 125) (gc k_Model_positiveOf_0 37 rfl) rfl (by omega) (fun c64 => ?_) (fun c64 => ?_)
    · refine gw_iconst (gc k_Model_positiveOf_1 25 rfl) ?_
      refine gw_zreturn (gc k_Model_positiveOf_1 26 rfl) rfl (by omega) ?_
      exact ⟨(congrArg (fun z => some ((0 : Nat), z)) (hc.2.trans (by first | exact bi_1 (by omega) | exact bi_0 (by omega)))).symm, rfl, congrArg (evM g (b + q2)) hc.1⟩
    · refine gw_aload_n (gc k_Model_positiveOf_0 38 rfl) rfl rfl ?_
      refine gw_getf 24 rfl (gc k_Model_positiveOf_0 39 rfl) fl_Model_271 (gAt hx rfl rfl) ?_
      rw [evM_24]
      refine gw_if_ne (tgt := 125) (gc k_Model_positiveOf_1 0 rfl) rfl (by omega) (fun c71 => ?_) (fun c71 => ?_)
      · refine gw_iconst (gc k_Model_positiveOf_1 25 rfl) ?_
        refine gw_zreturn (gc k_Model_positiveOf_1 26 rfl) rfl (by omega) ?_
        exact ⟨(congrArg (fun z => some ((0 : Nat), z)) (hc.2.trans (by first | exact bi_1 (by omega) | exact bi_0 (by omega)))).symm, rfl, congrArg (evM g (b + q2)) hc.1⟩
      · refine gw_iload (gc k_Model_positiveOf_1 1 rfl) rfl ?_
        refine gw_bipush (gc k_Model_positiveOf_1 2 rfl) (by decide) ?_
        refine gw_cS1 (gc k_Model_positiveOf_1 3 rfl) y_Model_sign ln_Model_220 (c_Model_sign 60) rfl rfl rfl (gble (by omega)) ?_
        refine gw_icmp_ne (tgt := 94) (gc k_Model_positiveOf_1 4 rfl) rfl (by omega) (fun c81 => ?_) (fun c81 => ?_)
        · refine gw_iload (gc k_Model_positiveOf_1 10 rfl) rfl ?_
          refine gw_bipush (gc k_Model_positiveOf_1 11 rfl) (by decide) ?_
          refine gw_cS1 (gc k_Model_positiveOf_1 12 rfl) y_Model_sign ln_Model_220 (c_Model_sign 62) rfl rfl rfl (gble (by omega)) ?_
          refine gw_icmp_ne (tgt := 114) (gc k_Model_positiveOf_1 13 rfl) rfl (by omega) (fun c101 => ?_) (fun c101 => ?_)
          · refine gw_lload_n (gc k_Model_positiveOf_1 19 rfl) rfl ?_
            refine gw_lload (gc k_Model_positiveOf_1 20 rfl) rfl ?_
            refine gw_lc_ne (tgt := 125) (gc k_Model_positiveOf_1 21 rfl) (gc k_Model_positiveOf_1 22 rfl) rfl (by omega) (fun c118 => ?_) (fun c118 => ?_)
            · refine gw_iconst (gc k_Model_positiveOf_1 25 rfl) ?_
              refine gw_zreturn (gc k_Model_positiveOf_1 26 rfl) rfl (by omega) ?_
              exact ⟨(congrArg (fun z => some ((0 : Nat), z)) (hc.2.trans (by first | exact bi_1 (by omega) | exact bi_0 (by omega)))).symm, rfl, congrArg (evM g (b + q2)) hc.1⟩
            · refine gw_iconst (gc k_Model_positiveOf_1 23 rfl) ?_
              refine gw_goto (tgt := 126) (gc k_Model_positiveOf_1 24 rfl) rfl ?_
              refine gw_zreturn (gc k_Model_positiveOf_1 26 rfl) rfl (by omega) ?_
              exact ⟨(congrArg (fun z => some ((0 : Nat), z)) (hc.2.trans (by first | exact bi_1 (by omega) | exact bi_0 (by omega)))).symm, rfl, congrArg (evM g (b + q2)) hc.1⟩
          · exact absurd c101 (by omega)
        · exact absurd c81 (by omega)
  · exact absurd rfl c9
set_option maxHeartbeats 2000000 in
theorem ev_not_step {sh : gS} {g : gM} (hx : gFix sh) (hf : gFin g) {T V : Int → Int} {b : Int} {o : Bool} {w : Int → Int} (E : EvC T V b o w g) {D : Nat} (hD : 3 ≤ D) (p : Int) (hp : 0 ≤ p ∧ p ≤ 401) (live br : Int) (hl : live = 0 ∨ live = 1) (hb : br = 0 ∨ br = 1) (hT : T p = 7) (neg : Int) (hn : neg = 0 ∨ neg = 1) {Q : gQ} (k : gWP f_Model_plainOf D 0 0 2 [(2, 177), (0, live), (0, 1 - neg)] [] sh (evM g (b + (p + 1)) br) Q) : gWP f_Model_plainOf D 0 0 2 [(2, 177), (0, live), (0, neg)] [] sh (evM g (b + p) br) Q := by
  have hfe := fun x y => hf.ev x y
  have h1 := E.1
  have hrg := E.rg p hp.1
  show gWP f_Model_plainOf _ _ _ 2 [(2, 177), (0, live), (0, neg)] [] sh (evM g (b + p) br) _
  skip
  refine gw_aload_n (gc k_Model_plainOf_0 2 rfl) rfl rfl ?_
  refine gw_bipush (gc k_Model_plainOf_0 3 rfl) (by decide) ?_
  refine gw_cV1 (gc k_Model_plainOf_0 4 rfl) y_Model_passes0 ln_Model_285 (c_passY hx hf E p _ _ (by omega) (by omega) (by omega)) rfl rfl (gAt hx rfl rfl) rfl (gble (by omega)) ?_
  refine gw_if_eq (tgt := 24) (gc k_Model_plainOf_0 5 rfl) rfl (by omega) (fun c8 => ?_) (fun c8 => ?_)
  · exact absurd c8 (by decide)
  · refine gw_iload_n (gc k_Model_plainOf_0 6 rfl) rfl ?_
    refine gw_if_ne (tgt := 19) (gc k_Model_plainOf_0 7 rfl) rfl (by omega) (fun c12 => ?_) (fun c12 => ?_)
    · rw [show (1 : Int) - neg = 0 by omega] at k
      refine gw_iconst (gc k_Model_plainOf_0 10 rfl) ?_
      refine gw_istore_2 (gc k_Model_plainOf_0 11 rfl) rfl rfl ?_
      refine gw_goto (tgt := 2) (gc k_Model_plainOf_0 12 rfl) rfl ?_
      exact k
    · rw [show (1 : Int) - neg = 1 by omega] at k
      refine gw_iconst (gc k_Model_plainOf_0 8 rfl) ?_
      refine gw_goto (tgt := 20) (gc k_Model_plainOf_0 9 rfl) rfl ?_
      refine gw_istore_2 (gc k_Model_plainOf_0 11 rfl) rfl rfl ?_
      refine gw_goto (tgt := 2) (gc k_Model_plainOf_0 12 rfl) rfl ?_
      exact k
set_option maxHeartbeats 2000000 in
theorem ev_not_exit {sh : gS} {g : gM} (hx : gFix sh) (hf : gFin g) {T V : Int → Int} {b : Int} {o : Bool} {w : Int → Int} (E : EvC T V b o w g) {D : Nat} (hD : 3 ≤ D) (p : Int) (hp : 0 ≤ p ∧ p ≤ 401) (live br : Int) (hl : live = 0 ∨ live = 1) (hb : br = 0 ∨ br = 1) (hT : ¬ T p = 7) (neg : Int) {Q : gQ} (k : gWP f_Model_plainOf D 0 0 24 [(2, 177), (0, live), (0, neg)] [] sh (evM g (b + p) br) Q) : gWP f_Model_plainOf D 0 0 2 [(2, 177), (0, live), (0, neg)] [] sh (evM g (b + p) br) Q := by
  have hfe := fun x y => hf.ev x y
  have h1 := E.1
  have hrg := E.rg p hp.1
  show gWP f_Model_plainOf _ _ _ 2 [(2, 177), (0, live), (0, neg)] [] sh (evM g (b + p) br) _
  refine gw_aload_n (gc k_Model_plainOf_0 2 rfl) rfl rfl ?_
  refine gw_bipush (gc k_Model_plainOf_0 3 rfl) (by decide) ?_
  refine gw_cV1 (gc k_Model_plainOf_0 4 rfl) y_Model_passes0 ln_Model_285 (c_passN hx hf E p _ _ (by omega) (by omega) (by omega)) rfl rfl (gAt hx rfl rfl) rfl (gble (by omega)) ?_
  refine gw_if_eq (tgt := 24) (gc k_Model_plainOf_0 5 rfl) rfl (by omega) (fun c8 => ?_) (fun c8 => ?_)
  · exact k
  · exact absurd rfl c8
set_option maxHeartbeats 2000000 in
theorem ev_plain_end {sh : gS} {g : gM} (hx : gFix sh) (hf : gFin g) {T V : Int → Int} {b : Int} {o : Bool} {w : Int → Int} (E : EvC T V b o w g) {D : Nat} (hD : 3 ≤ D) (p : Int) (hp : 0 ≤ p ∧ p ≤ 401) (live br : Int) (hl : live = 0 ∨ live = 1) (hb : br = 0 ∨ br = 1) (neg : Int) (hn : neg = 0 ∨ neg = 1) (q B y z : Int) (hy : y = 0 ∨ y = 1) (hz : z = if y = neg then 0 else 1) {d : Nat} (hd : d + 1 ≤ D) (hS : gTri f_Model_positiveOf d 0 0 [(2, 177), (0, live)] sh (evM g (b + p) br) (gR (some (0, y)) sh (evM g (b + q) B))) : gWP f_Model_plainOf D 0 0 24 [(2, 177), (0, live), (0, neg)] [] sh (evM g (b + p) br) (gR (some (0, z)) sh (evM g (b + q) B)) := by
  have hfe := fun x y => hf.ev x y
  have h1 := E.1
  have hrg := E.rg p hp.1
  show gWP f_Model_plainOf _ _ _ 24 [(2, 177), (0, live), (0, neg)] [] sh (evM g (b + p) br) _
  refine gw_aload_n (gc k_Model_plainOf_0 13 rfl) rfl rfl ?_
  refine gw_iload_n (gc k_Model_plainOf_0 14 rfl) rfl ?_
  refine gw_cV1 (gc k_Model_plainOf_0 15 rfl) y_Model_positiveOf ln_Model_315 hS rfl rfl (gAt hx rfl rfl) rfl (gble (by omega)) ?_
  refine gw_iload_n (gc k_Model_plainOf_0 16 rfl) rfl ?_
  refine gw_icmp_eq (tgt := 37) (gc k_Model_plainOf_0 17 rfl) rfl (by omega) (fun c30 => ?_) (fun c30 => ?_)
  · refine gw_iconst (gc k_Model_plainOf_0 20 rfl) ?_
    refine gw_zreturn (gc k_Model_plainOf_0 21 rfl) rfl (by omega) ?_
    subst hz
    exact ⟨by first | rw [if_pos (by omega)] | rw [if_neg (by omega)], rfl, rfl⟩
  · refine gw_iconst (gc k_Model_plainOf_0 18 rfl) ?_
    refine gw_goto (tgt := 38) (gc k_Model_plainOf_0 19 rfl) rfl ?_
    refine gw_zreturn (gc k_Model_plainOf_0 21 rfl) rfl (by omega) ?_
    subst hz
    exact ⟨by first | rw [if_pos (by omega)] | rw [if_neg (by omega)], rfl, rfl⟩
set_option maxHeartbeats 2000000 in
theorem ev_both_step {sh : gS} {g : gM} (hx : gFix sh) (hf : gFin g) {T V : Int → Int} {b : Int} {o : Bool} {w : Int → Int} (E : EvC T V b o w g) {D : Nat} (hD : 3 ≤ D) (p : Int) (hp : 0 ≤ p ∧ p ≤ 401) (live br : Int) (hl : live = 0 ∨ live = 1) (hb : br = 0 ∨ br = 1) (hT : T p = 6) (v : Int) (hv : v = 0 ∨ v = 1) (x3 : gV) (q B B2 y z l2 : Int) (hy : y = 0 ∨ y = 1) (hl2 : (l2 = 0 ∧ (live = 0 ∨ v = 0)) ∨ (l2 = 1 ∧ live = 1 ∧ v = 1)) (hz : (z = 1 ∧ v = 1 ∧ y = 1) ∨ (z = 0 ∧ (v = 0 ∨ y = 0))) {d : Nat} (hd : d + 1 ≤ D) (hS : gTri f_Model_plainOf d 0 0 [(2, 177), (0, l2)] sh (evM g (b + (p + 1)) B) (gR (some (0, y)) sh (evM g (b + q) B2))) {Q : gQ} (k : gWP f_Model_bothOf D 0 0 6 [(2, 177), (0, live), (0, z), (0, y)] [] sh (evM g (b + q) B2) Q) : gWP f_Model_bothOf D 0 0 6 [(2, 177), (0, live), (0, v), x3] [] sh (evM g (b + p) B) Q := by
  have hfe := fun x y => hf.ev x y
  have h1 := E.1
  have hrg := E.rg p hp.1
  show gWP f_Model_bothOf _ _ _ 6 [(2, 177), (0, live), (0, v), x3] [] sh (evM g (b + p) B) _
  skip
  refine gw_aload_n (gc k_Model_bothOf_0 4 rfl) rfl rfl ?_
  refine gw_bipush (gc k_Model_bothOf_0 5 rfl) (by decide) ?_
  refine gw_cV1 (gc k_Model_bothOf_0 6 rfl) y_Model_passes0 ln_Model_285 (c_passY hx hf E p _ _ (by omega) (by omega) (by omega)) rfl rfl (gAt hx rfl rfl) rfl (gble (by omega)) ?_
  refine gw_if_eq (tgt := 50) (gc k_Model_bothOf_0 7 rfl) rfl (by omega) (fun c12 => ?_) (fun c12 => ?_)
  · exact absurd c12 (by decide)
  · refine gw_aload_n (gc k_Model_bothOf_0 8 rfl) rfl rfl ?_
    refine gw_iload_n (gc k_Model_bothOf_0 9 rfl) rfl ?_
    refine gw_if_eq (tgt := 28) (gc k_Model_bothOf_0 10 rfl) rfl (by omega) (fun c17 => ?_) (fun c17 => ?_)
    · obtain rfl : l2 = 0 := by omega
      refine gw_iconst (gc k_Model_bothOf_0 15 rfl) ?_
      refine gw_cV1 (gc k_Model_bothOf_0 16 rfl) y_Model_plainOf ln_Model_312 hS rfl rfl (gAt hx rfl rfl) rfl (gble (by omega)) ?_
      refine gw_istore_3 (gc k_Model_bothOf_0 17 rfl) rfl rfl ?_
      refine gw_iload_n (gc k_Model_bothOf_0 18 rfl) rfl ?_
      refine gw_if_eq (tgt := 45) (gc k_Model_bothOf_0 19 rfl) rfl (by omega) (fun c34 => ?_) (fun c34 => ?_)
      · obtain rfl : z = 0 := by omega
        refine gw_iconst (gc k_Model_bothOf_0 24 rfl) ?_
        refine gw_istore_2 (gc k_Model_bothOf_0 25 rfl) rfl rfl ?_
        refine gw_goto (tgt := 6) (gc k_Model_bothOf_0 26 rfl) rfl ?_
        exact k
      · refine gw_iload_n (gc k_Model_bothOf_0 20 rfl) rfl ?_
        refine gw_if_eq (tgt := 45) (gc k_Model_bothOf_0 21 rfl) rfl (by omega) (fun c38 => ?_) (fun c38 => ?_)
        · obtain rfl : z = 0 := by omega
          refine gw_iconst (gc k_Model_bothOf_0 24 rfl) ?_
          refine gw_istore_2 (gc k_Model_bothOf_0 25 rfl) rfl rfl ?_
          refine gw_goto (tgt := 6) (gc k_Model_bothOf_0 26 rfl) rfl ?_
          exact k
        · obtain rfl : z = 1 := by omega
          refine gw_iconst (gc k_Model_bothOf_0 22 rfl) ?_
          refine gw_goto (tgt := 46) (gc k_Model_bothOf_0 23 rfl) rfl ?_
          refine gw_istore_2 (gc k_Model_bothOf_0 25 rfl) rfl rfl ?_
          refine gw_goto (tgt := 6) (gc k_Model_bothOf_0 26 rfl) rfl ?_
          exact k
    · refine gw_iload_n (gc k_Model_bothOf_0 11 rfl) rfl ?_
      refine gw_if_eq (tgt := 28) (gc k_Model_bothOf_0 12 rfl) rfl (by omega) (fun c21 => ?_) (fun c21 => ?_)
      · obtain rfl : l2 = 0 := by omega
        refine gw_iconst (gc k_Model_bothOf_0 15 rfl) ?_
        refine gw_cV1 (gc k_Model_bothOf_0 16 rfl) y_Model_plainOf ln_Model_312 hS rfl rfl (gAt hx rfl rfl) rfl (gble (by omega)) ?_
        refine gw_istore_3 (gc k_Model_bothOf_0 17 rfl) rfl rfl ?_
        refine gw_iload_n (gc k_Model_bothOf_0 18 rfl) rfl ?_
        refine gw_if_eq (tgt := 45) (gc k_Model_bothOf_0 19 rfl) rfl (by omega) (fun c34 => ?_) (fun c34 => ?_)
        · obtain rfl : z = 0 := by omega
          refine gw_iconst (gc k_Model_bothOf_0 24 rfl) ?_
          refine gw_istore_2 (gc k_Model_bothOf_0 25 rfl) rfl rfl ?_
          refine gw_goto (tgt := 6) (gc k_Model_bothOf_0 26 rfl) rfl ?_
          exact k
        · refine gw_iload_n (gc k_Model_bothOf_0 20 rfl) rfl ?_
          refine gw_if_eq (tgt := 45) (gc k_Model_bothOf_0 21 rfl) rfl (by omega) (fun c38 => ?_) (fun c38 => ?_)
          · obtain rfl : z = 0 := by omega
            refine gw_iconst (gc k_Model_bothOf_0 24 rfl) ?_
            refine gw_istore_2 (gc k_Model_bothOf_0 25 rfl) rfl rfl ?_
            refine gw_goto (tgt := 6) (gc k_Model_bothOf_0 26 rfl) rfl ?_
            exact k
          · obtain rfl : z = 1 := by omega
            refine gw_iconst (gc k_Model_bothOf_0 22 rfl) ?_
            refine gw_goto (tgt := 46) (gc k_Model_bothOf_0 23 rfl) rfl ?_
            refine gw_istore_2 (gc k_Model_bothOf_0 25 rfl) rfl rfl ?_
            refine gw_goto (tgt := 6) (gc k_Model_bothOf_0 26 rfl) rfl ?_
            exact k
      · obtain rfl : l2 = 1 := by omega
        refine gw_iconst (gc k_Model_bothOf_0 13 rfl) ?_
        refine gw_goto (tgt := 29) (gc k_Model_bothOf_0 14 rfl) rfl ?_
        refine gw_cV1 (gc k_Model_bothOf_0 16 rfl) y_Model_plainOf ln_Model_312 hS rfl rfl (gAt hx rfl rfl) rfl (gble (by omega)) ?_
        refine gw_istore_3 (gc k_Model_bothOf_0 17 rfl) rfl rfl ?_
        refine gw_iload_n (gc k_Model_bothOf_0 18 rfl) rfl ?_
        refine gw_if_eq (tgt := 45) (gc k_Model_bothOf_0 19 rfl) rfl (by omega) (fun c34 => ?_) (fun c34 => ?_)
        · obtain rfl : z = 0 := by omega
          refine gw_iconst (gc k_Model_bothOf_0 24 rfl) ?_
          refine gw_istore_2 (gc k_Model_bothOf_0 25 rfl) rfl rfl ?_
          refine gw_goto (tgt := 6) (gc k_Model_bothOf_0 26 rfl) rfl ?_
          exact k
        · refine gw_iload_n (gc k_Model_bothOf_0 20 rfl) rfl ?_
          refine gw_if_eq (tgt := 45) (gc k_Model_bothOf_0 21 rfl) rfl (by omega) (fun c38 => ?_) (fun c38 => ?_)
          · obtain rfl : z = 0 := by omega
            refine gw_iconst (gc k_Model_bothOf_0 24 rfl) ?_
            refine gw_istore_2 (gc k_Model_bothOf_0 25 rfl) rfl rfl ?_
            refine gw_goto (tgt := 6) (gc k_Model_bothOf_0 26 rfl) rfl ?_
            exact k
          · obtain rfl : z = 1 := by omega
            refine gw_iconst (gc k_Model_bothOf_0 22 rfl) ?_
            refine gw_goto (tgt := 46) (gc k_Model_bothOf_0 23 rfl) rfl ?_
            refine gw_istore_2 (gc k_Model_bothOf_0 25 rfl) rfl rfl ?_
            refine gw_goto (tgt := 6) (gc k_Model_bothOf_0 26 rfl) rfl ?_
            exact k
set_option maxHeartbeats 2000000 in
theorem ev_both_exit {sh : gS} {g : gM} (hx : gFix sh) (hf : gFin g) {T V : Int → Int} {b : Int} {o : Bool} {w : Int → Int} (E : EvC T V b o w g) {D : Nat} (hD : 3 ≤ D) (p : Int) (hp : 0 ≤ p ∧ p ≤ 401) (live br : Int) (hl : live = 0 ∨ live = 1) (hb : br = 0 ∨ br = 1) (hT : ¬ T p = 6) (v : Int) (hv : v = 0 ∨ v = 1) (x3 : gV) (B : Int) : gWP f_Model_bothOf D 0 0 6 [(2, 177), (0, live), (0, v), x3] [] sh (evM g (b + p) B) (gR (some (0, v)) sh (evM g (b + p) B)) := by
  have hfe := fun x y => hf.ev x y
  have h1 := E.1
  have hrg := E.rg p hp.1
  show gWP f_Model_bothOf _ _ _ 6 [(2, 177), (0, live), (0, v), x3] [] sh (evM g (b + p) B) _
  refine gw_aload_n (gc k_Model_bothOf_0 4 rfl) rfl rfl ?_
  refine gw_bipush (gc k_Model_bothOf_0 5 rfl) (by decide) ?_
  refine gw_cV1 (gc k_Model_bothOf_0 6 rfl) y_Model_passes0 ln_Model_285 (c_passN hx hf E p _ _ (by omega) (by omega) (by omega)) rfl rfl (gAt hx rfl rfl) rfl (gble (by omega)) ?_
  refine gw_if_eq (tgt := 50) (gc k_Model_bothOf_0 7 rfl) rfl (by omega) (fun c12 => ?_) (fun c12 => ?_)
  · refine gw_iload_n (gc k_Model_bothOf_0 27 rfl) rfl ?_
    refine gw_zreturn (gc k_Model_bothOf_0 28 rfl) rfl (by omega) ?_
    exact ⟨rfl, rfl, rfl⟩
  · exact absurd rfl c12
set_option maxHeartbeats 2000000 in
theorem ev_test_step {sh : gS} {g : gM} (hx : gFix sh) (hf : gFin g) {T V : Int → Int} {b : Int} {o : Bool} {w : Int → Int} (E : EvC T V b o w g) {D : Nat} (hD : 3 ≤ D) (p : Int) (hp : 0 ≤ p ∧ p ≤ 401) (live br : Int) (hl : live = 0 ∨ live = 1) (hb : br = 0 ∨ br = 1) (hT : T p = 5) (v : Int) (hv : v = 0 ∨ v = 1) (x3 : gV) (q B B2 y z l2 : Int) (hy : y = 0 ∨ y = 1) (hl2 : (l2 = 0 ∧ (live = 0 ∨ v = 1)) ∨ (l2 = 1 ∧ live = 1 ∧ v = 0)) (hz : (z = 1 ∧ (v = 1 ∨ y = 1)) ∨ (z = 0 ∧ v = 0 ∧ y = 0)) {d : Nat} (hd : d + 1 ≤ D) (hS : gTri f_Model_bothOf d 0 0 [(2, 177), (0, l2)] sh (evM g (b + (p + 1)) B) (gR (some (0, y)) sh (evM g (b + q) B2))) {Q : gQ} (k : gWP f_Model_testOf D 0 0 6 [(2, 177), (0, live), (0, z), (0, y)] [] sh (evM g (b + q) B2) Q) : gWP f_Model_testOf D 0 0 6 [(2, 177), (0, live), (0, v), x3] [] sh (evM g (b + p) B) Q := by
  have hfe := fun x y => hf.ev x y
  have h1 := E.1
  have hrg := E.rg p hp.1
  show gWP f_Model_testOf _ _ _ 6 [(2, 177), (0, live), (0, v), x3] [] sh (evM g (b + p) B) _
  skip
  refine gw_aload_n (gc k_Model_testOf_0 4 rfl) rfl rfl ?_
  refine gw_iconst (gc k_Model_testOf_0 5 rfl) ?_
  refine gw_cV1 (gc k_Model_testOf_0 6 rfl) y_Model_passes0 ln_Model_285 (c_passY hx hf E p _ _ (by omega) (by omega) (by omega)) rfl rfl (gAt hx rfl rfl) rfl (gble (by omega)) ?_
  refine gw_if_eq (tgt := 49) (gc k_Model_testOf_0 7 rfl) rfl (by omega) (fun c11 => ?_) (fun c11 => ?_)
  · exact absurd c11 (by decide)
  · refine gw_aload_n (gc k_Model_testOf_0 8 rfl) rfl rfl ?_
    refine gw_iload_n (gc k_Model_testOf_0 9 rfl) rfl ?_
    refine gw_if_eq (tgt := 27) (gc k_Model_testOf_0 10 rfl) rfl (by omega) (fun c16 => ?_) (fun c16 => ?_)
    · obtain rfl : l2 = 0 := by omega
      refine gw_iconst (gc k_Model_testOf_0 15 rfl) ?_
      refine gw_cV1 (gc k_Model_testOf_0 16 rfl) y_Model_bothOf ln_Model_309 hS rfl rfl (gAt hx rfl rfl) rfl (gble (by omega)) ?_
      refine gw_istore_3 (gc k_Model_testOf_0 17 rfl) rfl rfl ?_
      refine gw_iload_n (gc k_Model_testOf_0 18 rfl) rfl ?_
      refine gw_if_ne (tgt := 40) (gc k_Model_testOf_0 19 rfl) rfl (by omega) (fun c33 => ?_) (fun c33 => ?_)
      · obtain rfl : z = 1 := by omega
        refine gw_iconst (gc k_Model_testOf_0 22 rfl) ?_
        refine gw_goto (tgt := 45) (gc k_Model_testOf_0 23 rfl) rfl ?_
        refine gw_istore_2 (gc k_Model_testOf_0 25 rfl) rfl rfl ?_
        refine gw_goto (tgt := 6) (gc k_Model_testOf_0 26 rfl) rfl ?_
        exact k
      · refine gw_iload_n (gc k_Model_testOf_0 20 rfl) rfl ?_
        refine gw_if_eq (tgt := 44) (gc k_Model_testOf_0 21 rfl) rfl (by omega) (fun c37 => ?_) (fun c37 => ?_)
        · obtain rfl : z = 0 := by omega
          refine gw_iconst (gc k_Model_testOf_0 24 rfl) ?_
          refine gw_istore_2 (gc k_Model_testOf_0 25 rfl) rfl rfl ?_
          refine gw_goto (tgt := 6) (gc k_Model_testOf_0 26 rfl) rfl ?_
          exact k
        · obtain rfl : z = 1 := by omega
          refine gw_iconst (gc k_Model_testOf_0 22 rfl) ?_
          refine gw_goto (tgt := 45) (gc k_Model_testOf_0 23 rfl) rfl ?_
          refine gw_istore_2 (gc k_Model_testOf_0 25 rfl) rfl rfl ?_
          refine gw_goto (tgt := 6) (gc k_Model_testOf_0 26 rfl) rfl ?_
          exact k
    · refine gw_iload_n (gc k_Model_testOf_0 11 rfl) rfl ?_
      refine gw_if_ne (tgt := 27) (gc k_Model_testOf_0 12 rfl) rfl (by omega) (fun c20 => ?_) (fun c20 => ?_)
      · obtain rfl : l2 = 0 := by omega
        refine gw_iconst (gc k_Model_testOf_0 15 rfl) ?_
        refine gw_cV1 (gc k_Model_testOf_0 16 rfl) y_Model_bothOf ln_Model_309 hS rfl rfl (gAt hx rfl rfl) rfl (gble (by omega)) ?_
        refine gw_istore_3 (gc k_Model_testOf_0 17 rfl) rfl rfl ?_
        refine gw_iload_n (gc k_Model_testOf_0 18 rfl) rfl ?_
        refine gw_if_ne (tgt := 40) (gc k_Model_testOf_0 19 rfl) rfl (by omega) (fun c33 => ?_) (fun c33 => ?_)
        · obtain rfl : z = 1 := by omega
          refine gw_iconst (gc k_Model_testOf_0 22 rfl) ?_
          refine gw_goto (tgt := 45) (gc k_Model_testOf_0 23 rfl) rfl ?_
          refine gw_istore_2 (gc k_Model_testOf_0 25 rfl) rfl rfl ?_
          refine gw_goto (tgt := 6) (gc k_Model_testOf_0 26 rfl) rfl ?_
          exact k
        · refine gw_iload_n (gc k_Model_testOf_0 20 rfl) rfl ?_
          refine gw_if_eq (tgt := 44) (gc k_Model_testOf_0 21 rfl) rfl (by omega) (fun c37 => ?_) (fun c37 => ?_)
          · obtain rfl : z = 0 := by omega
            refine gw_iconst (gc k_Model_testOf_0 24 rfl) ?_
            refine gw_istore_2 (gc k_Model_testOf_0 25 rfl) rfl rfl ?_
            refine gw_goto (tgt := 6) (gc k_Model_testOf_0 26 rfl) rfl ?_
            exact k
          · obtain rfl : z = 1 := by omega
            refine gw_iconst (gc k_Model_testOf_0 22 rfl) ?_
            refine gw_goto (tgt := 45) (gc k_Model_testOf_0 23 rfl) rfl ?_
            refine gw_istore_2 (gc k_Model_testOf_0 25 rfl) rfl rfl ?_
            refine gw_goto (tgt := 6) (gc k_Model_testOf_0 26 rfl) rfl ?_
            exact k
      · obtain rfl : l2 = 1 := by omega
        refine gw_iconst (gc k_Model_testOf_0 13 rfl) ?_
        refine gw_goto (tgt := 28) (gc k_Model_testOf_0 14 rfl) rfl ?_
        refine gw_cV1 (gc k_Model_testOf_0 16 rfl) y_Model_bothOf ln_Model_309 hS rfl rfl (gAt hx rfl rfl) rfl (gble (by omega)) ?_
        refine gw_istore_3 (gc k_Model_testOf_0 17 rfl) rfl rfl ?_
        refine gw_iload_n (gc k_Model_testOf_0 18 rfl) rfl ?_
        refine gw_if_ne (tgt := 40) (gc k_Model_testOf_0 19 rfl) rfl (by omega) (fun c33 => ?_) (fun c33 => ?_)
        · obtain rfl : z = 1 := by omega
          refine gw_iconst (gc k_Model_testOf_0 22 rfl) ?_
          refine gw_goto (tgt := 45) (gc k_Model_testOf_0 23 rfl) rfl ?_
          refine gw_istore_2 (gc k_Model_testOf_0 25 rfl) rfl rfl ?_
          refine gw_goto (tgt := 6) (gc k_Model_testOf_0 26 rfl) rfl ?_
          exact k
        · refine gw_iload_n (gc k_Model_testOf_0 20 rfl) rfl ?_
          refine gw_if_eq (tgt := 44) (gc k_Model_testOf_0 21 rfl) rfl (by omega) (fun c37 => ?_) (fun c37 => ?_)
          · obtain rfl : z = 0 := by omega
            refine gw_iconst (gc k_Model_testOf_0 24 rfl) ?_
            refine gw_istore_2 (gc k_Model_testOf_0 25 rfl) rfl rfl ?_
            refine gw_goto (tgt := 6) (gc k_Model_testOf_0 26 rfl) rfl ?_
            exact k
          · obtain rfl : z = 1 := by omega
            refine gw_iconst (gc k_Model_testOf_0 22 rfl) ?_
            refine gw_goto (tgt := 45) (gc k_Model_testOf_0 23 rfl) rfl ?_
            refine gw_istore_2 (gc k_Model_testOf_0 25 rfl) rfl rfl ?_
            refine gw_goto (tgt := 6) (gc k_Model_testOf_0 26 rfl) rfl ?_
            exact k
set_option maxHeartbeats 2000000 in
theorem ev_test_exit {sh : gS} {g : gM} (hx : gFix sh) (hf : gFin g) {T V : Int → Int} {b : Int} {o : Bool} {w : Int → Int} (E : EvC T V b o w g) {D : Nat} (hD : 3 ≤ D) (p : Int) (hp : 0 ≤ p ∧ p ≤ 401) (live br : Int) (hl : live = 0 ∨ live = 1) (hb : br = 0 ∨ br = 1) (hT : ¬ T p = 5) (v : Int) (hv : v = 0 ∨ v = 1) (x3 : gV) (B : Int) : gWP f_Model_testOf D 0 0 6 [(2, 177), (0, live), (0, v), x3] [] sh (evM g (b + p) B) (gR (some (0, v)) sh (evM g (b + p) B)) := by
  have hfe := fun x y => hf.ev x y
  have h1 := E.1
  have hrg := E.rg p hp.1
  show gWP f_Model_testOf _ _ _ 6 [(2, 177), (0, live), (0, v), x3] [] sh (evM g (b + p) B) _
  refine gw_aload_n (gc k_Model_testOf_0 4 rfl) rfl rfl ?_
  refine gw_iconst (gc k_Model_testOf_0 5 rfl) ?_
  refine gw_cV1 (gc k_Model_testOf_0 6 rfl) y_Model_passes0 ln_Model_285 (c_passN hx hf E p _ _ (by omega) (by omega) (by omega)) rfl rfl (gAt hx rfl rfl) rfl (gble (by omega)) ?_
  refine gw_if_eq (tgt := 49) (gc k_Model_testOf_0 7 rfl) rfl (by omega) (fun c11 => ?_) (fun c11 => ?_)
  · refine gw_iload_n (gc k_Model_testOf_0 27 rfl) rfl ?_
    refine gw_zreturn (gc k_Model_testOf_0 28 rfl) rfl (by omega) ?_
    exact ⟨rfl, rfl, rfl⟩
  · exact absurd rfl c11
