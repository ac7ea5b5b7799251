/-! ===== the reference's reading of laid tokens ===== -/
def EvC (T V : Int → Int) (b : Int) (o : Bool) (w : Int → Int) (g : gM) : Prop :=
  (0 ≤ b ∧ b ≤ 2400 ∧ b ≤ g 177 23 ∧ g 177 23 ≤ b + 400) ∧ (∀ p, T p = if 0 ≤ p ∧ b + p < g 177 23 then g 179 (52 + (b + p)) else 0) ∧ (∀ p, 0 ≤ p → b + p < g 177 23 → V p = g 179 (2852 + (b + p))) ∧
  g 177 25 = (if o = true then 1 else 0) ∧ rowOK (g 179) ∧ (∀ i, -1000000000 ≤ w i ∧ w i ≤ 1000000000) ∧ (o = false → ∀ c, 8 ≤ c → c ≤ 17 → g 189 (c - 8) = w (lwI c)) ∧
  (o = true → w 0 = g 179 24 ∧ w 1 = g 177 27 ∧ w 2 = g 177 28 ∧ w 3 = g 177 29 ∧ w 4 = g 177 30 ∧ ∀ i, 0 ≤ i → i < 12 → w (5 + i) = (if i ≤ g 179 41 - 1 then g 179 i else -1) ∧ w (17 + i) = (if i ≤ g 179 41 - 1 then g 179 (12 + i) else -1))
def evM (g : gM) (go br : Int) : gM := gup (gup g 177 22 go) 177 24 br
theorem evM_22 (g : gM) (x y : Int) : evM g x y 177 22 = x := by unfold evM; rw [gup_k _ _ _ _ (by decide), gup_s]
theorem evM_24 (g : gM) (x y : Int) : evM g x y 177 24 = y := gup_s _ _ _ _
theorem evM_k (g : gM) (x y : Int) {k : Int} (h1 : k ≠ 22) (h2 : k ≠ 24) : evM g x y 177 k = g 177 k := by unfold evM; rw [gup_k _ _ _ _ h2, gup_k _ _ _ _ h1]
theorem evM_fn (g : gM) (x y : Int) {a : Int} (h : a ≠ 177) : evM g x y a = g a := by unfold evM; rw [gup_fn _ _ _ _ h, gup_fn _ _ _ _ h]
theorem evM_go (g : gM) (x y z : Int) : gup (evM g x y) 177 22 z = evM g z y := by
  funext a k
  unfold evM gup
  by_cases h : a = 177 <;> by_cases h1 : k = 22 <;> by_cases h2 : k = 24 <;> simp [h, h1, h2]
theorem evM_br (g : gM) (x y z : Int) : gup (evM g x y) 177 24 z = evM g x z := gup_gup _ _ _ _ _
theorem evM_inc (g : gM) (b p y : Int) : gup (evM g (b + p) y) 177 22 (evM g (b + p) y 177 22 + 1) = evM g (b + (p + 1)) y := by rw [evM_22, evM_go, Int.add_assoc]
theorem evM_id {g : gM} {x y : Int} (h1 : g 177 22 = x) (h2 : g 177 24 = y) : evM g x y = g := by
  funext a k
  unfold evM gup
  by_cases h : a = 177
  · subst h
    by_cases q1 : k = 24
    · subst q1; simp [h2]
    · by_cases q2 : k = 22
      · subst q2; simp [h1]
      · simp [q1, q2]
  · simp [h]
theorem gFin.ev {g : gM} (h : gFin g) (x y : Int) : gFin (evM g x y) := (h.up rfl).up rfl
def evV (live br : Int) (v : Option Int) : Int := if live = 1 ∧ br = 0 then v.getD 0 else 0
def evB (live br : Int) (v : Option Int) : Int := if live = 1 ∧ br = 0 ∧ v = none then 1 else br
def bd9 (v : Int) : Prop := -1000000000 ≤ v ∧ v ≤ 1000000000
/-- the method F reads what f says -/
def EvL (sh : gS) (g : gM) (b : Int) (w : Int → Int) (t : Nat) (F : gF) (d : Nat) (f : Int → Int → PR) : Prop := ∀ (p n p2 n2 : Int) (c : PK) (s : PS), f p n = .inr (p2, n2, c, s) → (0 ≤ p ∧ p ≤ 401) → (∀ v, s w = some v → bd9 v) ∧ (t = 0 → ∀ v, s w = some v → v = 0 ∨ v = 1) ∧ ∀ live br : Int, (live = 0 ∨ live = 1) → (br = 0 ∨ br = 1) → gTri F d 0 0 [(2, 177), (0, live)] sh (evM g (b + p) br) (gR (some (t, evV live br (s w))) sh (evM g (b + p2) (evB live br (s w))))
theorem gble {a b : Nat} (h : a ≤ b) : Nat.ble a b = true := Nat.ble_eq.mpr h
theorem EvC.at {T V : Int → Int} {b : Int} {o : Bool} {w : Int → Int} {g : gM} (E : EvC T V b o w g) (p : Int) (h : 0 ≤ p) : T p = if b + p < g 177 23 then g 179 (52 + (b + p)) else 0 := by
  rw [E.2.1 p]
  by_cases q : b + p < g 177 23
  · rw [if_pos q, if_pos ⟨h, q⟩]
  · rw [if_neg q, if_neg (by omega)]
theorem EvC.lt {T V : Int → Int} {b : Int} {o : Bool} {w : Int → Int} {g : gM} (E : EvC T V b o w g) (p : Int) (h : 0 ≤ p) (hT : T p ≠ 0) : b + p < g 177 23 := by
  have := E.at p h
  by_cases q : b + p < g 177 23
  · exact q
  · rw [if_neg q] at this; exact absurd this hT
theorem EvC.rg {T V : Int → Int} {b : Int} {o : Bool} {w : Int → Int} {g : gM} (E : EvC T V b o w g) (p : Int) (h : 0 ≤ p) : 0 ≤ T p ∧ T p ≤ 355 := by
  rw [E.at p h]
  have h1 := E.1
  split
  · exact ro_code E.2.2.2.2.1 _ (by omega)
  · omega
theorem EvC.ok {T V : Int → Int} {b : Int} {o : Bool} {w : Int → Int} {g : gM} (E : EvC T V b o w g) : pOK T (g 177 23 - b) := fun p hT => by
  by_cases h : 0 ≤ p
  · have := E.lt p h hT; omega
  · rw [E.2.1 p, if_neg (by omega)] at hT; exact absurd rfl hT
theorem EvC.val {T V : Int → Int} {b : Int} {o : Bool} {w : Int → Int} {g : gM} (E : EvC T V b o w g) (p : Int) (h : 0 ≤ p) (hT : T p ≠ 0) : V p = g 179 (2852 + (b + p)) ∧ 0 ≤ V p ∧ V p ≤ 20000000 := by
  have h1 := E.lt p h hT
  have h2 := E.2.2.1 p h h1
  have h3 := E.1
  have h4 := ro_value E.2.2.2.2.1 (2852 + (b + p)) (by omega)
  rw [h2]
  exact ⟨rfl, h4⟩
set_option maxHeartbeats 1000000 in
theorem c_Model_sign {sh : gS} {g : gM} (c : Int) : gTri f_Model_sign 0 0 0 [(0, c)] sh g (gR (some (0, 100 + c)) sh g) := by
  refine gTri.of (by decide +kernel) rfl ?_
  show gWP f_Model_sign _ _ _ 0 [(0, c)] [] sh g _
  refine gw_bipush (gc k_Model_sign_0 0 rfl) (by decide) ?_
  refine gw_iload_n (gc k_Model_sign_0 1 rfl) rfl ?_
  refine gw_iadd (gc k_Model_sign_0 2 rfl) ?_
  refine gw_ireturn (gc k_Model_sign_0 3 rfl) rfl ?_
  exact ⟨rfl, rfl, rfl⟩
set_option maxHeartbeats 1000000 in
theorem c_Model_codeAt {sh : gS} {g : gM} (hx : gFix sh) (hf : gFin g) (k : Int) (hk : 0 ≤ k ∧ k ≤ 2900) (he : 0 ≤ g 177 23 ∧ g 177 23 ≤ 2800) : gTri f_Model_codeAt 0 0 0 [(2, 177), (0, k)] sh g (gR (some (0, if k < g 177 23 then g 179 (52 + k) else 0)) sh g) := by
  refine gTri.of (by decide +kernel) rfl ?_
  show gWP f_Model_codeAt _ _ _ 0 [(2, 177), (0, k)] [] sh g _
  refine gw_iload_n (gc k_Model_codeAt_0 0 rfl) rfl ?_
  refine gw_aload_n (gc k_Model_codeAt_0 1 rfl) rfl rfl ?_
  refine gw_getf 23 rfl (gc k_Model_codeAt_0 2 rfl) fl_Model_258 (gAt hx rfl rfl) ?_
  refine gw_icmp_ge (tgt := 20) (gc k_Model_codeAt_0 3 rfl) rfl (by omega) (fun c5 => ?_) (fun c5 => ?_)
  · refine gw_iconst (gc k_Model_codeAt_0 11 rfl) ?_
    refine gw_ireturn (gc k_Model_codeAt_0 12 rfl) rfl ?_
    first | exact ⟨gsi (by rw [if_pos (by omega)]), rfl, rfl⟩ | exact ⟨gsi (by rw [if_neg (by omega)]), rfl, rfl⟩
  · refine gw_aload_n (gc k_Model_codeAt_0 4 rfl) rfl rfl ?_
    refine gw_getref (gc k_Model_codeAt_0 5 rfl) fl_Model_28 (gAt hx rfl rfl) (gRf hf rfl rfl) ?_
    refine gw_bipush (gc k_Model_codeAt_0 6 rfl) (by decide) ?_
    refine gw_iload_n (gc k_Model_codeAt_0 7 rfl) rfl ?_
    refine gw_iadd (gc k_Model_codeAt_0 8 rfl) ?_
    refine gw_iald (gc k_Model_codeAt_0 9 rfl) (gAt hx rfl rfl) (by omega) ?_
    refine gw_goto (tgt := 21) (gc k_Model_codeAt_0 10 rfl) rfl ?_
    refine gw_ireturn (gc k_Model_codeAt_0 12 rfl) rfl ?_
    first | exact ⟨gsi (by rw [if_pos (by omega)]), rfl, rfl⟩ | exact ⟨gsi (by rw [if_neg (by omega)]), rfl, rfl⟩
theorem c_codeAt {sh : gS} {g : gM} (hx : gFix sh) (hf : gFin g) {T V : Int → Int} {b : Int} {o : Bool} {w : Int → Int} (E : EvC T V b o w g) (p x y : Int) (hp : 0 ≤ p ∧ p ≤ 450) : gTri f_Model_codeAt 0 0 0 [(2, 177), (0, b + p)] sh (evM g x y) (gR (some (0, T p)) sh (evM g x y)) := by
  have h1 := E.1
  have h := c_Model_codeAt hx (hf.ev x y) (b + p) (by omega) (by rw [evM_k _ _ _ (by decide) (by decide)]; omega)
  rw [evM_k _ _ _ (by decide) (by decide), evM_fn _ _ _ (by decide), ← E.at p hp.1] at h
  exact h
set_option maxHeartbeats 1000000 in
theorem c_Model_passes0 {sh : gS} {g : gM} (hx : gFix sh) (hf : gFin g) {T V : Int → Int} {b : Int} {o : Bool} {w : Int → Int} (E : EvC T V b o w g) (p c y : Int) (hp : 0 ≤ p ∧ p ≤ 450) (hc : -2147483648 ≤ c ∧ c ≤ 2147483647) : gTri f_Model_passes0 1 0 0 [(2, 177), (0, c)] sh (evM g (b + p) y) (gR (some (0, bi (T p = c))) sh (evM g (b + if T p = c then p + 1 else p) y)) := by
  refine gTri.of (by decide +kernel) rfl ?_
  show gWP f_Model_passes0 _ _ _ 0 [(2, 177), (0, c), (9, 0)] [] sh (evM g (b + p) y) _
  have hfe := fun x y => hf.ev x y
  have hr := E.rg p hp.1
  refine gw_aload_n (gc k_Model_passes0_0 0 rfl) rfl rfl ?_
  refine gw_aload_n (gc k_Model_passes0_0 1 rfl) rfl rfl ?_
  refine gw_getf 22 rfl (gc k_Model_passes0_0 2 rfl) fl_Model_261 (gAt hx rfl rfl) ?_
  rw [evM_22]
  refine gw_cV1 (gc k_Model_passes0_0 3 rfl) y_Model_codeAt ln_Model_264 (c_codeAt hx hf E p _ _ hp) rfl rfl (gAt hx rfl rfl) rfl rfl ?_
  refine gw_iload_n (gc k_Model_passes0_0 4 rfl) rfl ?_
  refine gw_join2 17 (fun v => v = bi (T p = c)) (fun v9 hv9 => ?_) (fun kj9 => ?_)
  · subst hv9
    refine gw_istore_2 (gc k_Model_passes0_0 9 rfl) rfl rfl ?_
    refine gw_iload_n (gc k_Model_passes0_0 10 rfl) rfl ?_
    refine gw_beq (tgt := 32) (gc k_Model_passes0_0 11 rfl) rfl (fun c19 => ?_) (fun c19 => ?_)
    · refine gw_iload_n (gc k_Model_passes0_0 18 rfl) rfl ?_
      refine gw_zreturn (gc k_Model_passes0_0 19 rfl) rfl (bi_01 _) ?_
      first | exact ⟨rfl, rfl, by rw [evM_inc, if_pos (by assumption)]⟩ | exact ⟨rfl, rfl, by rw [if_neg (by assumption)]⟩
    · refine gw_aload_n (gc k_Model_passes0_0 12 rfl) rfl rfl ?_
      refine gw_dup (gc k_Model_passes0_0 13 rfl) rfl ?_
      refine gw_getf 22 rfl (gc k_Model_passes0_0 14 rfl) fl_Model_261 (gAt hx rfl rfl) ?_
      refine gw_iconst (gc k_Model_passes0_0 15 rfl) ?_
      refine gw_iadd (gc k_Model_passes0_0 16 rfl) ?_
      refine gw_putIK 22 rfl (gc k_Model_passes0_0 17 rfl) fl_Model_261 (gAt hx rfl rfl) (hfe _ _) rfl (fun _ => ?_)
      refine gw_iload_n (gc k_Model_passes0_0 18 rfl) rfl ?_
      refine gw_zreturn (gc k_Model_passes0_0 19 rfl) rfl (bi_01 _) ?_
      first | exact ⟨rfl, rfl, by rw [evM_inc, if_pos (by assumption)]⟩ | exact ⟨rfl, rfl, by rw [if_neg (by assumption)]⟩
  · refine gw_icmp_ne (tgt := 16) (gc k_Model_passes0_0 5 rfl) rfl (by omega) (fun c9 => ?_) (fun c9 => ?_)
    · refine gw_iconst (gc k_Model_passes0_0 8 rfl) ?_
      exact kj9 _ (by first | exact (bi_1 (by assumption)).symm | exact (bi_0 (by assumption)).symm)
    · refine gw_iconst (gc k_Model_passes0_0 6 rfl) ?_
      refine gw_goto (tgt := 17) (gc k_Model_passes0_0 7 rfl) rfl ?_
      exact kj9 _ (by first | exact (bi_1 (by assumption)).symm | exact (bi_0 (by assumption)).symm)
theorem c_passY {sh : gS} {g : gM} (hx : gFix sh) (hf : gFin g) {T V : Int → Int} {b : Int} {o : Bool} {w : Int → Int} (E : EvC T V b o w g) (p c y : Int) (hp : 0 ≤ p ∧ p ≤ 450) (hc : -2147483648 ≤ c ∧ c ≤ 2147483647) (h : T p = c) : gTri f_Model_passes0 1 0 0 [(2, 177), (0, c)] sh (evM g (b + p) y) (gR (some (0, 1)) sh (evM g (b + (p + 1)) y)) := by
  have q := c_Model_passes0 hx hf E p c y hp hc
  rwa [bi_1 h, if_pos h] at q
theorem c_passN {sh : gS} {g : gM} (hx : gFix sh) (hf : gFin g) {T V : Int → Int} {b : Int} {o : Bool} {w : Int → Int} (E : EvC T V b o w g) (p c y : Int) (hp : 0 ≤ p ∧ p ≤ 450) (hc : -2147483648 ≤ c ∧ c ≤ 2147483647) (h : ¬ T p = c) : gTri f_Model_passes0 1 0 0 [(2, 177), (0, c)] sh (evM g (b + p) y) (gR (some (0, 0)) sh (evM g (b + p) y)) := by
  have q := c_Model_passes0 hx hf E p c y hp hc
  rwa [bi_0 h, if_neg h] at q
def bdB (live br v : Int) : Int := if live = 1 ∧ (1000000000 < v ∨ v < -1000000000) then 1 else br
def bdV (live br v : Int) : Int := if bdB live br v = 0 then v else 0
set_option maxHeartbeats 1000000 in
theorem c_Model_bounded {sh : gS} {g : gM} (hx : gFix sh) (hf : gFin g) (x live br v : Int) (hl : live = 0 ∨ live = 1) (hb : br = 0 ∨ br = 1) (hv : -9000000000000000000 ≤ v ∧ v ≤ 9000000000000000000) : gTri f_Model_bounded 0 0 0 [(2, 177), (1, v), (0, live)] sh (evM g x br) (gR (some (1, bdV live br v)) sh (evM g x (bdB live br v))) := by
  refine gTri.of (by decide +kernel) rfl ?_
  show gWP f_Model_bounded _ _ _ 0 [(2, 177), (1, v), (9, 0), (0, live)] [] sh (evM g x br) _
  have hfe := fun x y => hf.ev x y
  refine gw_iload_n (gc k_Model_bounded_0 0 rfl) rfl ?_
  refine gw_if_eq (tgt := 25) (gc k_Model_bounded_0 1 rfl) rfl (by omega) (fun c1 => ?_) (fun c1 => ?_)
  · try rw [evM_br]
    refine gw_aload_n (gc k_Model_bounded_0 13 rfl) rfl rfl ?_
    refine gw_getf 24 rfl (gc k_Model_bounded_0 14 rfl) fl_Model_271 (gAt hx rfl rfl) ?_
    rw [evM_24]
    refine gw_if_eq (tgt := 36) (gc k_Model_bounded_0 15 rfl) rfl (by omega) (fun c29 => ?_) (fun c29 => ?_)
    · refine gw_lload_n (gc k_Model_bounded_0 18 rfl) rfl ?_
      refine gw_lreturn (gc k_Model_bounded_0 19 rfl) rfl ?_
      have hB : bdB live br v = _ := rfl
      unfold bdB at hB
      first
      | (exfalso; omega)
      | (have e : bdB live br v = 1 := by unfold bdB; first | rw [if_pos (by omega)] | (rw [if_neg (by omega)]; omega)
         exact ⟨gsl (by unfold bdV; rw [e, if_neg (by decide)]), rfl, by rw [e]; try (rw [show br = 1 by omega])⟩)
      | (have e : bdB live br v = 0 := by unfold bdB; (rw [if_neg (by omega)]; omega)
         exact ⟨gsl (by unfold bdV; rw [e, if_pos rfl]), rfl, by rw [e]; try (rw [show br = 0 by omega])⟩)
    · refine gw_lconst0 (gc k_Model_bounded_0 16 rfl) ?_
      refine gw_goto (tgt := 37) (gc k_Model_bounded_0 17 rfl) rfl ?_
      refine gw_lreturn (gc k_Model_bounded_0 19 rfl) rfl ?_
      have hB : bdB live br v = _ := rfl
      unfold bdB at hB
      first
      | (exfalso; omega)
      | (have e : bdB live br v = 1 := by unfold bdB; first | rw [if_pos (by omega)] | (rw [if_neg (by omega)]; omega)
         exact ⟨gsl (by unfold bdV; rw [e, if_neg (by decide)]), rfl, by rw [e]; try (rw [show br = 1 by omega])⟩)
      | (have e : bdB live br v = 0 := by unfold bdB; (rw [if_neg (by omega)]; omega)
         exact ⟨gsl (by unfold bdV; rw [e, if_pos rfl]), rfl, by rw [e]; try (rw [show br = 0 by omega])⟩)
  · refine gw_lload_n (gc k_Model_bounded_0 2 rfl) rfl ?_
    refine gw_ldc2 (gc k_Model_bounded_0 3 rfl) cn_Model_267 ?_
    refine gw_lc_gt (tgt := 20) (gc k_Model_bounded_0 4 rfl) (gc k_Model_bounded_0 5 rfl) rfl (by omega) (fun c9 => ?_) (fun c9 => ?_)
    · refine gw_aload_n (gc k_Model_bounded_0 10 rfl) rfl rfl ?_
      refine gw_iconst (gc k_Model_bounded_0 11 rfl) ?_
      refine gw_putZK 24 rfl (gc k_Model_bounded_0 12 rfl) fl_Model_271 (gAt hx rfl rfl) (by omega) (hfe _ _) rfl (fun _ => ?_)
      try rw [evM_br]
      refine gw_aload_n (gc k_Model_bounded_0 13 rfl) rfl rfl ?_
      refine gw_getf 24 rfl (gc k_Model_bounded_0 14 rfl) fl_Model_271 (gAt hx rfl rfl) ?_
      rw [evM_24]
      refine gw_if_eq (tgt := 36) (gc k_Model_bounded_0 15 rfl) rfl (by omega) (fun c29 => ?_) (fun c29 => ?_)
      · refine gw_lload_n (gc k_Model_bounded_0 18 rfl) rfl ?_
        refine gw_lreturn (gc k_Model_bounded_0 19 rfl) rfl ?_
        have hB : bdB live br v = _ := rfl
        unfold bdB at hB
        first
        | (exfalso; omega)
        | (have e : bdB live br v = 1 := by unfold bdB; first | rw [if_pos (by omega)] | (rw [if_neg (by omega)]; omega)
           exact ⟨gsl (by unfold bdV; rw [e, if_neg (by decide)]), rfl, by rw [e]; try (rw [show br = 1 by omega])⟩)
        | (have e : bdB live br v = 0 := by unfold bdB; (rw [if_neg (by omega)]; omega)
           exact ⟨gsl (by unfold bdV; rw [e, if_pos rfl]), rfl, by rw [e]; try (rw [show br = 0 by omega])⟩)
      · refine gw_lconst0 (gc k_Model_bounded_0 16 rfl) ?_
        refine gw_goto (tgt := 37) (gc k_Model_bounded_0 17 rfl) rfl ?_
        refine gw_lreturn (gc k_Model_bounded_0 19 rfl) rfl ?_
        have hB : bdB live br v = _ := rfl
        unfold bdB at hB
        first
        | (exfalso; omega)
        | (have e : bdB live br v = 1 := by unfold bdB; first | rw [if_pos (by omega)] | (rw [if_neg (by omega)]; omega)
           exact ⟨gsl (by unfold bdV; rw [e, if_neg (by decide)]), rfl, by rw [e]; try (rw [show br = 1 by omega])⟩)
        | (have e : bdB live br v = 0 := by unfold bdB; (rw [if_neg (by omega)]; omega)
           exact ⟨gsl (by unfold bdV; rw [e, if_pos rfl]), rfl, by rw [e]; try (rw [show br = 0 by omega])⟩)
    · refine gw_lload_n (gc k_Model_bounded_0 6 rfl) rfl ?_
      refine gw_ldc2 (gc k_Model_bounded_0 7 rfl) cn_Model_269 ?_
      refine gw_lc_ge (tgt := 25) (gc k_Model_bounded_0 8 rfl) (gc k_Model_bounded_0 9 rfl) rfl (by omega) (fun c17 => ?_) (fun c17 => ?_)
      · try rw [evM_br]
        refine gw_aload_n (gc k_Model_bounded_0 13 rfl) rfl rfl ?_
        refine gw_getf 24 rfl (gc k_Model_bounded_0 14 rfl) fl_Model_271 (gAt hx rfl rfl) ?_
        rw [evM_24]
        refine gw_if_eq (tgt := 36) (gc k_Model_bounded_0 15 rfl) rfl (by omega) (fun c29 => ?_) (fun c29 => ?_)
        · refine gw_lload_n (gc k_Model_bounded_0 18 rfl) rfl ?_
          refine gw_lreturn (gc k_Model_bounded_0 19 rfl) rfl ?_
          have hB : bdB live br v = _ := rfl
          unfold bdB at hB
          first
          | (exfalso; omega)
          | (have e : bdB live br v = 1 := by unfold bdB; first | rw [if_pos (by omega)] | (rw [if_neg (by omega)]; omega)
             exact ⟨gsl (by unfold bdV; rw [e, if_neg (by decide)]), rfl, by rw [e]; try (rw [show br = 1 by omega])⟩)
          | (have e : bdB live br v = 0 := by unfold bdB; (rw [if_neg (by omega)]; omega)
             exact ⟨gsl (by unfold bdV; rw [e, if_pos rfl]), rfl, by rw [e]; try (rw [show br = 0 by omega])⟩)
        · refine gw_lconst0 (gc k_Model_bounded_0 16 rfl) ?_
          refine gw_goto (tgt := 37) (gc k_Model_bounded_0 17 rfl) rfl ?_
          refine gw_lreturn (gc k_Model_bounded_0 19 rfl) rfl ?_
          have hB : bdB live br v = _ := rfl
          unfold bdB at hB
          first
          | (exfalso; omega)
          | (have e : bdB live br v = 1 := by unfold bdB; first | rw [if_pos (by omega)] | (rw [if_neg (by omega)]; omega)
             exact ⟨gsl (by unfold bdV; rw [e, if_neg (by decide)]), rfl, by rw [e]; try (rw [show br = 1 by omega])⟩)
          | (have e : bdB live br v = 0 := by unfold bdB; (rw [if_neg (by omega)]; omega)
             exact ⟨gsl (by unfold bdV; rw [e, if_pos rfl]), rfl, by rw [e]; try (rw [show br = 0 by omega])⟩)
      · refine gw_aload_n (gc k_Model_bounded_0 10 rfl) rfl rfl ?_
        refine gw_iconst (gc k_Model_bounded_0 11 rfl) ?_
        refine gw_putZK 24 rfl (gc k_Model_bounded_0 12 rfl) fl_Model_271 (gAt hx rfl rfl) (by omega) (hfe _ _) rfl (fun _ => ?_)
        try rw [evM_br]
        refine gw_aload_n (gc k_Model_bounded_0 13 rfl) rfl rfl ?_
        refine gw_getf 24 rfl (gc k_Model_bounded_0 14 rfl) fl_Model_271 (gAt hx rfl rfl) ?_
        rw [evM_24]
        refine gw_if_eq (tgt := 36) (gc k_Model_bounded_0 15 rfl) rfl (by omega) (fun c29 => ?_) (fun c29 => ?_)
        · refine gw_lload_n (gc k_Model_bounded_0 18 rfl) rfl ?_
          refine gw_lreturn (gc k_Model_bounded_0 19 rfl) rfl ?_
          have hB : bdB live br v = _ := rfl
          unfold bdB at hB
          first
          | (exfalso; omega)
          | (have e : bdB live br v = 1 := by unfold bdB; first | rw [if_pos (by omega)] | (rw [if_neg (by omega)]; omega)
             exact ⟨gsl (by unfold bdV; rw [e, if_neg (by decide)]), rfl, by rw [e]; try (rw [show br = 1 by omega])⟩)
          | (have e : bdB live br v = 0 := by unfold bdB; (rw [if_neg (by omega)]; omega)
             exact ⟨gsl (by unfold bdV; rw [e, if_pos rfl]), rfl, by rw [e]; try (rw [show br = 0 by omega])⟩)
        · refine gw_lconst0 (gc k_Model_bounded_0 16 rfl) ?_
          refine gw_goto (tgt := 37) (gc k_Model_bounded_0 17 rfl) rfl ?_
          refine gw_lreturn (gc k_Model_bounded_0 19 rfl) rfl ?_
          have hB : bdB live br v = _ := rfl
          unfold bdB at hB
          first
          | (exfalso; omega)
          | (have e : bdB live br v = 1 := by unfold bdB; first | rw [if_pos (by omega)] | (rw [if_neg (by omega)]; omega)
             exact ⟨gsl (by unfold bdV; rw [e, if_neg (by decide)]), rfl, by rw [e]; try (rw [show br = 1 by omega])⟩)
          | (have e : bdB live br v = 0 := by unfold bdB; (rw [if_neg (by omega)]; omega)
             exact ⟨gsl (by unfold bdV; rw [e, if_pos rfl]), rfl, by rw [e]; try (rw [show br = 0 by omega])⟩)
