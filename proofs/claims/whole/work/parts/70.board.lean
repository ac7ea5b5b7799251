/-! ===== Math ===== -/
section GM
variable {F : gF} {d mc ms pc npc : Nat} {ls st : List gV} {sh : gS} {g : gM} {Q : gQ}
theorem gcat_sum (D : gD) (st : List gV) : ((st.map (gcv D)).map fun v => v.category).sum = (st.map gca).sum := by
  rw [List.map_map]
  exact congrArg List.sum (List.map_congr_left fun v _ => gcv_cat D v)
theorem gw_mmax {idx : Nat} {a b : Int} (hi : gI F pc (.invokestatic idx) 3 npc) (hy : gYs f_Math_max 2) (hlk : Cond.methodLink F.1.cls idx f_Math_max.1 ∈ lw_good) (hr : (-2147483648 ≤ a ∧ a ≤ 2147483647) ∧ -2147483648 ≤ b ∧ b ≤ 2147483647) (hcat : Nat.ble (st.map gca).sum 8 = true) (hd1 : Nat.ble 1 d = true) (kk : gWP F d mc ms npc ls ((0, if a < b then b else a) :: st) sh g Q) : gWP F d mc ms pc ls ((0, b) :: (0, a) :: st) sh g Q := by
  intro D p l e R s m args below meth c H locs cells slots lsC Qw C hR hS hl h1 h2 K
  obtain ⟨hd, rfl⟩ := hi
  have hts := C.2.2.2.2.2.1
  have hcs := gcat_sum D st
  have hb1 := Nat.le_of_ble_eq_true hcat
  have hb2 := Nat.le_of_ble_eq_true hd1
  have hl1 := C.2.2.2.2.2.2.2.2.2.1
  have hl2 := C.2.2.2.2.2.2.2.2.1
  refine va_mmax C.1 C.2.1 (C.2.2.2.1.trans hl.1.symm) C.2.2.2.2.1 (hts _ hlk) (hts _ hy.2) (hts _ hy.1.2.1) (hts _ hy.1.1) (by omega) (by rw [hcs]; omega) (by omega) (by omega) hd ?_
  have k' := kk D p l e R s m args below meth c H locs cells slots lsC Qw C hR hS hl h1 h2 K
  rw [List.map_cons, show gcv D (0, if a < b then b else a) = .int (if Int32.ofInt a < Int32.ofInt b then Int32.ofInt b else Int32.ofInt a) by
    by_cases z : a < b
    · rw [if_pos z, if_pos ((gi_lt hr).mpr z)]; rfl
    · rw [if_neg z, if_neg (fun q => z ((gi_lt hr).mp q))]; rfl] at k'
  exact k'
theorem gw_mmin {idx : Nat} {a b : Int} (hi : gI F pc (.invokestatic idx) 3 npc) (hy : gYs f_Math_min 2) (hlk : Cond.methodLink F.1.cls idx f_Math_min.1 ∈ lw_good) (hr : (-2147483648 ≤ a ∧ a ≤ 2147483647) ∧ -2147483648 ≤ b ∧ b ≤ 2147483647) (hcat : Nat.ble (st.map gca).sum 8 = true) (hd1 : Nat.ble 1 d = true) (kk : gWP F d mc ms npc ls ((0, if b < a then b else a) :: st) sh g Q) : gWP F d mc ms pc ls ((0, b) :: (0, a) :: st) sh g Q := by
  intro D p l e R s m args below meth c H locs cells slots lsC Qw C hR hS hl h1 h2 K
  obtain ⟨hd, rfl⟩ := hi
  have hts := C.2.2.2.2.2.1
  have hcs := gcat_sum D st
  have hb1 := Nat.le_of_ble_eq_true hcat
  have hb2 := Nat.le_of_ble_eq_true hd1
  have hl1 := C.2.2.2.2.2.2.2.2.2.1
  have hl2 := C.2.2.2.2.2.2.2.2.1
  refine va_mmin C.1 C.2.1 (C.2.2.2.1.trans hl.1.symm) C.2.2.2.2.1 (hts _ hlk) (hts _ hy.2) (hts _ hy.1.2.1) (hts _ hy.1.1) (by omega) (by rw [hcs]; omega) (by omega) (by omega) hd ?_
  have k' := kk D p l e R s m args below meth c H locs cells slots lsC Qw C hR hS hl h1 h2 K
  rw [List.map_cons, show gcv D (0, if b < a then b else a) = .int (if Int32.ofInt b < Int32.ofInt a then Int32.ofInt b else Int32.ofInt a) by
    by_cases z : b < a
    · rw [if_pos z, if_pos ((gi_lt ⟨hr.2, hr.1⟩).mpr z)]; rfl
    · rw [if_neg z, if_neg (fun q => z ((gi_lt ⟨hr.2, hr.1⟩).mp q))]; rfl] at k'
  exact k'
theorem gw_mabs {idx : Nat} {a : Int} (hi : gI F pc (.invokestatic idx) 3 npc) (hy : gYs f_Math_abs 1) (hlk : Cond.methodLink F.1.cls idx f_Math_abs.1 ∈ lw_good) (hr : -2147483648 ≤ a ∧ a ≤ 2147483647) (hcat : Nat.ble (st.map gca).sum 8 = true) (hd1 : Nat.ble 1 d = true) (kk : gWP F d mc ms npc ls ((0, if a < 0 then -a else a) :: st) sh g Q) : gWP F d mc ms pc ls ((0, a) :: st) sh g Q := by
  intro D p l e R s m args below meth c H locs cells slots lsC Qw C hR hS hl h1 h2 K
  obtain ⟨hd, rfl⟩ := hi
  have hts := C.2.2.2.2.2.1
  have hcs := gcat_sum D st
  have hb1 := Nat.le_of_ble_eq_true hcat
  have hb2 := Nat.le_of_ble_eq_true hd1
  have hl1 := C.2.2.2.2.2.2.2.2.2.1
  have hl2 := C.2.2.2.2.2.2.2.2.1
  refine va_mabs C.1 C.2.1 (C.2.2.2.1.trans hl.1.symm) C.2.2.2.2.1 (hts _ hlk) (hts _ hy.2) (hts _ hy.1.2.1) (hts _ hy.1.1) (by omega) (by rw [hcs]; omega) (by omega) (by omega) hd ?_
  have k' := kk D p l e R s m args below meth c H locs cells slots lsC Qw C hR hS hl h1 h2 K
  have e0 : (0 : Int32) = Int32.ofInt 0 := rfl
  rw [List.map_cons, show gcv D (0, if a < 0 then -a else a) = .int (if (0 : Int32) ≤ Int32.ofInt a then Int32.ofInt a else 0 - Int32.ofInt a) by
    by_cases z : a < 0
    · rw [if_pos z, if_neg (fun q => by rw [e0, gi_le ⟨by omega, hr⟩] at q; omega), gcv_i, Int32.zero_sub, Int32.ofInt_neg]
    · rw [if_neg z, if_pos (by rw [e0, gi_le ⟨by omega, hr⟩]; omega)]; rfl] at k'
  exact k'
end GM
/-! ===== the class: boards ===== -/
def isBd (o : Int) : Prop := o = 1 ∨ o = 19 ∨ o = 134 ∨ o = 142 ∨ o = 160 ∨ o = 167
theorem isBd.bd {o : Int} (h : isBd o) : 1 ≤ o ∧ o ≤ 167 := by unfold isBd at h; omega
theorem bs {sh : gS} (hx : gFix sh) {o : Int} (h : isBd o) : gsz sh o 1 10 ∧ gsz sh (o + 1) 13 12 ∧ gsz sh (o + 2) 13 12 ∧ gsz sh (o + 3) 13 5 ∧ gsz sh (o + 4) 13 6 ∧ gsz sh (o + 5) 13 6 ∧ gsz sh (o + 6) 17 6 := by
  rcases h with rfl | rfl | rfl | rfl | rfl | rfl <;> exact ⟨gAt hx rfl rfl, gAt hx rfl rfl, gAt hx rfl rfl, gAt hx rfl rfl, gAt hx rfl rfl, gAt hx rfl rfl, gAt hx rfl rfl⟩
theorem br {g : gM} (hf : gFin g) {o : Int} (h : isBd o) : g o 1 = o + 1 ∧ g o 2 = o + 2 ∧ g o 3 = o + 3 ∧ g o 5 = o + 4 ∧ g o 6 = o + 5 ∧ g o 8 = o + 6 := by
  rcases h with rfl | rfl | rfl | rfl | rfl | rfl <;> exact ⟨gRf hf rfl rfl, gRf hf rfl rfl, gRf hf rfl rfl, gRf hf rfl rfl, gRf hf rfl rfl, gRf hf rfl rfl⟩
theorem bn {o : Int} (h : isBd o) {a : Int} {k : Nat} (ha : (a = o ∧ (k = 0 ∨ k = 4 ∨ k = 7 ∨ k = 9)) ∨ (o + 1 ≤ a ∧ a ≤ o + 6)) : gref a.toNat k = none := by
  rcases ha with ⟨z, z2⟩ | z
  · subst z
    rcases h with rfl | rfl | rfl | rfl | rfl | rfl <;> rcases z2 with rfl | rfl | rfl | rfl <;> rfl
  · rcases (show a = o + 1 ∨ a = o + 2 ∨ a = o + 3 ∨ a = o + 4 ∨ a = o + 5 ∨ a = o + 6 by omega) with rfl | rfl | rfl | rfl | rfl | rfl <;> rcases h with rfl | rfl | rfl | rfl | rfl | rfl <;> rfl
/-- the board's text references -/
def bdT (sh : gS) (g : gM) (o : Int) : Prop := ∀ i, 0 ≤ i → i < 6 → -1 ≤ g (o + 6) i ∧ (g (o + 6) i < 0 ∨ gsz sh (g (o + 6) i) 10 8)
/-- a board holds what a row tells (but its laws) -/
def bdR (r : Int → Int) (g : gM) (o : Int) : Prop := g o 0 = r 41 ∧ g o 4 = r 42 ∧ g o 7 = r 43 ∧ g o 9 = r 44 ∧ (∀ i, 0 ≤ i → i < r 41 → g (o + 1) i = r (12 + i) ∧ g (o + 2) i = r i) ∧ (g (o + 3) 0 = r 24 ∧ g (o + 3) 1 = r 37 ∧ g (o + 3) 2 = r 38 ∧ g (o + 3) 3 = r 39 ∧ g (o + 3) 4 = r 40) ∧ (∀ k, 0 ≤ k → k < r 42 → g (o + 4) k = r (25 + 2 * k) ∧ g (o + 5) k = r (25 + 2 * k + 1))
theorem bdR.of {r : Int → Int} {g g2 : gM} {o : Int} (h : bdR r g o) (he : ∀ a k, o ≤ a → a ≤ o + 5 → g2 a k = g a k) : bdR r g2 o := by
  obtain ⟨h1, h2, h3, h4, h5, h6, h7⟩ := h
  refine ⟨by rw [he _ _ (by omega) (by omega)]; exact h1, by rw [he _ _ (by omega) (by omega)]; exact h2, by rw [he _ _ (by omega) (by omega)]; exact h3, by rw [he _ _ (by omega) (by omega)]; exact h4, fun i a b => ?_, ?_, fun k a b => ?_⟩
  · rw [he _ _ (by omega) (by omega), he _ _ (by omega) (by omega)]; exact h5 i a b
  · rw [he _ _ (by omega) (by omega), he _ _ (by omega) (by omega), he _ _ (by omega) (by omega), he _ _ (by omega) (by omega), he _ _ (by omega) (by omega)]; exact h6
  · rw [he _ _ (by omega) (by omega), he _ _ (by omega) (by omega)]; exact h7 k a b
def bdF (g : gM) (o : Int) : Int := if 0 ≤ g o 9 ∧ g o 9 < g o 7 then g (o + 6) (g o 9) else -1
def bdC (g : gM) (o p : Int) : gM := gup (gup (gup (gup g o 0 (g p 0)) o 4 (g p 4)) o 7 (g p 7)) o 9 (g p 9)
set_option maxHeartbeats 1000000 in
theorem c_Desk_isPitch {sh : gS} {g : gM} (v : Int) (h : (-2147483648 ≤ v ∧ v ≤ 2147483647)) : gTri f_Desk_isPitch 0 0 0 [(0, v)] sh g (gR (some (0, bi (0 ≤ v ∧ v ≤ 24))) sh g) := by
  refine gTri.of (by decide +kernel) rfl ?_
  show gWP f_Desk_isPitch _ _ _ 0 [(0, v)] [] sh g _
  refine gw_iload_n (gc k_Desk_isPitch_0 0 rfl) rfl ?_
  refine gw_if_lt (tgt := 14) (gc k_Desk_isPitch_0 1 rfl) rfl (by omega) (fun c1 => ?_) (fun c1 => ?_)
  · refine gw_iconst (gc k_Desk_isPitch_0 7 rfl) ?_
    refine gw_zreturn (gc k_Desk_isPitch_0 8 rfl) rfl (by omega) ?_
    exact ⟨by first | rw [bi_1 (by omega)] | rw [bi_0 (by omega)], rfl, rfl⟩
  · refine gw_iload_n (gc k_Desk_isPitch_0 2 rfl) rfl ?_
    refine gw_bipush (gc k_Desk_isPitch_0 3 rfl) (by decide) ?_
    refine gw_icmp_ge (tgt := 14) (gc k_Desk_isPitch_0 4 rfl) rfl (by omega) (fun c7 => ?_) (fun c7 => ?_)
    · refine gw_iconst (gc k_Desk_isPitch_0 7 rfl) ?_
      refine gw_zreturn (gc k_Desk_isPitch_0 8 rfl) rfl (by omega) ?_
      exact ⟨by first | rw [bi_1 (by omega)] | rw [bi_0 (by omega)], rfl, rfl⟩
    · refine gw_iconst (gc k_Desk_isPitch_0 5 rfl) ?_
      refine gw_goto (tgt := 15) (gc k_Desk_isPitch_0 6 rfl) rfl ?_
      refine gw_zreturn (gc k_Desk_isPitch_0 8 rfl) rfl (by omega) ?_
      exact ⟨by first | rw [bi_1 (by omega)] | rw [bi_0 (by omega)], rfl, rfl⟩
set_option maxHeartbeats 1000000 in
theorem c_Board_has {sh : gS} {g : gM} (hx : gFix sh) (hf : gFin g) {o : Int} (hb : isBd o) (n : Int) (h : (-2147483648 ≤ n ∧ n ≤ 2147483647)) (hm : 0 ≤ g o 0 ∧ g o 0 ≤ 12) : gTri f_Board_has 0 0 0 [(2, o), (0, n)] sh g (gR (some (0, bi (0 ≤ n ∧ n < g o 0))) sh g) := by
  refine gTri.of (by decide +kernel) rfl ?_
  show gWP f_Board_has _ _ _ 0 [(2, o), (0, n)] [] sh g _
  refine gw_iload_n (gc k_Board_has_0 0 rfl) rfl ?_
  refine gw_if_lt (tgt := 16) (gc k_Board_has_0 1 rfl) rfl (by omega) (fun c1 => ?_) (fun c1 => ?_)
  · refine gw_iconst (gc k_Board_has_0 8 rfl) ?_
    refine gw_zreturn (gc k_Board_has_0 9 rfl) rfl (by omega) ?_
    exact ⟨by first | rw [bi_1 (by omega)] | rw [bi_0 (by omega)], rfl, rfl⟩
  · refine gw_iload_n (gc k_Board_has_0 2 rfl) rfl ?_
    refine gw_aload_n (gc k_Board_has_0 3 rfl) rfl rfl ?_
    refine gw_getf 0 rfl (gc k_Board_has_0 4 rfl) fl_Board_37 (by first | exact gAt hx rfl rfl | exact (bs hx hb).1 | exact (bs hx hb).2.1 | exact (bs hx hb).2.2.1 | exact (bs hx hb).2.2.2.1 | exact (bs hx hb).2.2.2.2.1 | exact (bs hx hb).2.2.2.2.2.1 | exact (bs hx hb).2.2.2.2.2.2) ?_
    refine gw_icmp_ge (tgt := 16) (gc k_Board_has_0 5 rfl) rfl (by omega) (fun c9 => ?_) (fun c9 => ?_)
    · refine gw_iconst (gc k_Board_has_0 8 rfl) ?_
      refine gw_zreturn (gc k_Board_has_0 9 rfl) rfl (by omega) ?_
      exact ⟨by first | rw [bi_1 (by omega)] | rw [bi_0 (by omega)], rfl, rfl⟩
    · refine gw_iconst (gc k_Board_has_0 6 rfl) ?_
      refine gw_goto (tgt := 17) (gc k_Board_has_0 7 rfl) rfl ?_
      refine gw_zreturn (gc k_Board_has_0 9 rfl) rfl (by omega) ?_
      exact ⟨by first | rw [bi_1 (by omega)] | rw [bi_0 (by omega)], rfl, rfl⟩
set_option maxHeartbeats 1000000 in
theorem c_Board_hasLaw {sh : gS} {g : gM} (hx : gFix sh) (hf : gFin g) {o : Int} (hb : isBd o) (n : Int) (h : (-2147483648 ≤ n ∧ n ≤ 2147483647)) (hm : 0 ≤ g o 7 ∧ g o 7 ≤ 6) : gTri f_Board_hasLaw 0 0 0 [(2, o), (0, n)] sh g (gR (some (0, bi (0 ≤ n ∧ n < g o 7))) sh g) := by
  refine gTri.of (by decide +kernel) rfl ?_
  show gWP f_Board_hasLaw _ _ _ 0 [(2, o), (0, n)] [] sh g _
  refine gw_iload_n (gc k_Board_hasLaw_0 0 rfl) rfl ?_
  refine gw_if_lt (tgt := 16) (gc k_Board_hasLaw_0 1 rfl) rfl (by omega) (fun c1 => ?_) (fun c1 => ?_)
  · refine gw_iconst (gc k_Board_hasLaw_0 8 rfl) ?_
    refine gw_zreturn (gc k_Board_hasLaw_0 9 rfl) rfl (by omega) ?_
    exact ⟨by first | rw [bi_1 (by omega)] | rw [bi_0 (by omega)], rfl, rfl⟩
  · refine gw_iload_n (gc k_Board_hasLaw_0 2 rfl) rfl ?_
    refine gw_aload_n (gc k_Board_hasLaw_0 3 rfl) rfl rfl ?_
    refine gw_getf 7 rfl (gc k_Board_hasLaw_0 4 rfl) fl_Board_43 (by first | exact gAt hx rfl rfl | exact (bs hx hb).1 | exact (bs hx hb).2.1 | exact (bs hx hb).2.2.1 | exact (bs hx hb).2.2.2.1 | exact (bs hx hb).2.2.2.2.1 | exact (bs hx hb).2.2.2.2.2.1 | exact (bs hx hb).2.2.2.2.2.2) ?_
    refine gw_icmp_ge (tgt := 16) (gc k_Board_hasLaw_0 5 rfl) rfl (by omega) (fun c9 => ?_) (fun c9 => ?_)
    · refine gw_iconst (gc k_Board_hasLaw_0 8 rfl) ?_
      refine gw_zreturn (gc k_Board_hasLaw_0 9 rfl) rfl (by omega) ?_
      exact ⟨by first | rw [bi_1 (by omega)] | rw [bi_0 (by omega)], rfl, rfl⟩
    · refine gw_iconst (gc k_Board_hasLaw_0 6 rfl) ?_
      refine gw_goto (tgt := 17) (gc k_Board_hasLaw_0 7 rfl) rfl ?_
      refine gw_zreturn (gc k_Board_hasLaw_0 9 rfl) rfl (by omega) ?_
      exact ⟨by first | rw [bi_1 (by omega)] | rw [bi_0 (by omega)], rfl, rfl⟩
set_option maxHeartbeats 1000000 in
theorem c_Board_lawInForce {sh : gS} {g : gM} (hx : gFix sh) (hf : gFin g) {o : Int} (hb : isBd o) (hm : 0 ≤ g o 7 ∧ g o 7 ≤ 6) (hn : -1 ≤ g o 9 ∧ g o 9 ≤ 6) : gTri f_Board_lawInForce 1 0 0 [(2, o)] sh g (gR (some (2, bdF g o)) sh g) := by
  refine gTri.of (by decide +kernel) rfl ?_
  show gWP f_Board_lawInForce _ _ _ 0 [(2, o)] [] sh g _
  refine gw_aload_n (gc k_Board_lawInForce_0 0 rfl) rfl rfl ?_
  refine gw_aload_n (gc k_Board_lawInForce_0 1 rfl) rfl rfl ?_
  refine gw_getf 9 rfl (gc k_Board_lawInForce_0 2 rfl) fl_Board_33 (by first | exact gAt hx rfl rfl | exact (bs hx hb).1 | exact (bs hx hb).2.1 | exact (bs hx hb).2.2.1 | exact (bs hx hb).2.2.2.1 | exact (bs hx hb).2.2.2.2.1 | exact (bs hx hb).2.2.2.2.2.1 | exact (bs hx hb).2.2.2.2.2.2) ?_
  refine gw_cV1 (gc k_Board_lawInForce_0 3 rfl) y_Board_hasLaw ln_Board_52 (c_Board_hasLaw hx hf hb _ (by omega) hm) rfl rfl (by first | exact gAt hx rfl rfl | exact (bs hx hb).1 | exact (bs hx hb).2.1 | exact (bs hx hb).2.2.1 | exact (bs hx hb).2.2.2.1 | exact (bs hx hb).2.2.2.2.1 | exact (bs hx hb).2.2.2.2.2.1 | exact (bs hx hb).2.2.2.2.2.2) rfl rfl ?_
  refine gw_beq (tgt := 23) (gc k_Board_lawInForce_0 4 rfl) rfl (fun c8 => ?_) (fun c8 => ?_)
  · refine gw_null (gc k_Board_lawInForce_0 11 rfl) ?_
    refine gw_areturn (gc k_Board_lawInForce_0 12 rfl) rfl (Or.inl ⟨_, rfl⟩) ?_
    exact ⟨by unfold bdF; first | rw [if_pos (by omega)] | rw [if_neg (by omega)], rfl, rfl⟩
  · refine gw_aload_n (gc k_Board_lawInForce_0 5 rfl) rfl rfl ?_
    refine gw_getref (gc k_Board_lawInForce_0 6 rfl) fl_Board_29 (by first | exact gAt hx rfl rfl | exact (bs hx hb).1 | exact (bs hx hb).2.1 | exact (bs hx hb).2.2.1 | exact (bs hx hb).2.2.2.1 | exact (bs hx hb).2.2.2.2.1 | exact (bs hx hb).2.2.2.2.2.1 | exact (bs hx hb).2.2.2.2.2.2) (by first | exact gRf hf rfl rfl | exact (br hf hb).1 | exact (br hf hb).2.1 | exact (br hf hb).2.2.1 | exact (br hf hb).2.2.2.1 | exact (br hf hb).2.2.2.2.1 | exact (br hf hb).2.2.2.2.2) ?_
    refine gw_aload_n (gc k_Board_lawInForce_0 7 rfl) rfl rfl ?_
    refine gw_getf 9 rfl (gc k_Board_lawInForce_0 8 rfl) fl_Board_33 (by first | exact gAt hx rfl rfl | exact (bs hx hb).1 | exact (bs hx hb).2.1 | exact (bs hx hb).2.2.1 | exact (bs hx hb).2.2.2.1 | exact (bs hx hb).2.2.2.2.1 | exact (bs hx hb).2.2.2.2.2.1 | exact (bs hx hb).2.2.2.2.2.2) ?_
    refine gw_aald_Text (gc k_Board_lawInForce_0 9 rfl) (by first | exact gAt hx rfl rfl | exact (bs hx hb).1 | exact (bs hx hb).2.1 | exact (bs hx hb).2.2.1 | exact (bs hx hb).2.2.2.1 | exact (bs hx hb).2.2.2.2.1 | exact (bs hx hb).2.2.2.2.2.1 | exact (bs hx hb).2.2.2.2.2.2) (by omega) ?_
    refine gw_goto (tgt := 24) (gc k_Board_lawInForce_0 10 rfl) rfl ?_
    refine gw_areturn (gc k_Board_lawInForce_0 12 rfl) rfl (Or.inl ⟨_, rfl⟩) ?_
    exact ⟨by unfold bdF; first | rw [if_pos (by omega)] | rw [if_neg (by omega)], rfl, rfl⟩
set_option maxHeartbeats 1000000 in
theorem c_Board_apart {sh : gS} {g : gM} (hx : gFix sh) (hf : gFin g) {o : Int} (hb : isBd o) (n : Int) (hn : 0 ≤ n ∧ n < 12) (h1 : 0 ≤ g (o + 1) n ∧ g (o + 1) n ≤ 24) (h2 : 0 ≤ g (o + 2) n ∧ g (o + 2) n ≤ 24) : gTri f_Board_apart 1 0 0 [(2, o), (0, n)] sh g (gR (some (0, (if g (o + 2) n - g (o + 1) n < 0 then -(g (o + 2) n - g (o + 1) n) else g (o + 2) n - g (o + 1) n) % 12)) sh g) := by
  refine gTri.of (by decide +kernel) rfl ?_
  show gWP f_Board_apart _ _ _ 0 [(2, o), (0, n)] [] sh g _
  refine gw_aload_n (gc k_Board_apart_0 0 rfl) rfl rfl ?_
  refine gw_getref (gc k_Board_apart_0 1 rfl) fl_Board_15 (by first | exact gAt hx rfl rfl | exact (bs hx hb).1 | exact (bs hx hb).2.1 | exact (bs hx hb).2.2.1 | exact (bs hx hb).2.2.2.1 | exact (bs hx hb).2.2.2.2.1 | exact (bs hx hb).2.2.2.2.2.1 | exact (bs hx hb).2.2.2.2.2.2) (by first | exact gRf hf rfl rfl | exact (br hf hb).1 | exact (br hf hb).2.1 | exact (br hf hb).2.2.1 | exact (br hf hb).2.2.2.1 | exact (br hf hb).2.2.2.2.1 | exact (br hf hb).2.2.2.2.2) ?_
  refine gw_iload_n (gc k_Board_apart_0 2 rfl) rfl ?_
  refine gw_iald (gc k_Board_apart_0 3 rfl) (by first | exact gAt hx rfl rfl | exact (bs hx hb).1 | exact (bs hx hb).2.1 | exact (bs hx hb).2.2.1 | exact (bs hx hb).2.2.2.1 | exact (bs hx hb).2.2.2.2.1 | exact (bs hx hb).2.2.2.2.2.1 | exact (bs hx hb).2.2.2.2.2.2) (by omega) ?_
  refine gw_aload_n (gc k_Board_apart_0 4 rfl) rfl rfl ?_
  refine gw_getref (gc k_Board_apart_0 5 rfl) fl_Board_9 (by first | exact gAt hx rfl rfl | exact (bs hx hb).1 | exact (bs hx hb).2.1 | exact (bs hx hb).2.2.1 | exact (bs hx hb).2.2.2.1 | exact (bs hx hb).2.2.2.2.1 | exact (bs hx hb).2.2.2.2.2.1 | exact (bs hx hb).2.2.2.2.2.2) (by first | exact gRf hf rfl rfl | exact (br hf hb).1 | exact (br hf hb).2.1 | exact (br hf hb).2.2.1 | exact (br hf hb).2.2.2.1 | exact (br hf hb).2.2.2.2.1 | exact (br hf hb).2.2.2.2.2) ?_
  refine gw_iload_n (gc k_Board_apart_0 6 rfl) rfl ?_
  refine gw_iald (gc k_Board_apart_0 7 rfl) (by first | exact gAt hx rfl rfl | exact (bs hx hb).1 | exact (bs hx hb).2.1 | exact (bs hx hb).2.2.1 | exact (bs hx hb).2.2.2.1 | exact (bs hx hb).2.2.2.2.1 | exact (bs hx hb).2.2.2.2.2.1 | exact (bs hx hb).2.2.2.2.2.2) (by omega) ?_
  refine gw_isub (gc k_Board_apart_0 8 rfl) ?_
  refine gw_mabs (gc k_Board_apart_0 9 rfl) y_Math_abs ln_Board_59 (by omega) rfl rfl ?_
  refine gw_bipush (gc k_Board_apart_0 10 rfl) (by decide) ?_
  refine gw_iremN (gc k_Board_apart_0 11 rfl) (by split <;> omega) ?_
  refine gw_ireturn (gc k_Board_apart_0 12 rfl) rfl ?_
  exact ⟨rfl, rfl, rfl⟩
set_option maxHeartbeats 1000000 in
theorem c_Board_add {sh : gS} {g : gM} (hx : gFix sh) (hf : gFin g) {o : Int} (hb : isBd o) (u h : Int) (hu : (-2147483648 ≤ u ∧ u ≤ 2147483647)) (hh : (-2147483648 ≤ h ∧ h ≤ 2147483647)) (hm : 0 ≤ g o 0 ∧ g o 0 ≤ 12) : gTri f_Board_add 1 0 0 [(2, o), (0, u), (0, h)] sh g (fun x s2 g2 => s2 = sh ∧ ((¬ ((0 ≤ u ∧ u ≤ 24) ∧ (0 ≤ h ∧ h ≤ 24) ∧ g o 0 < 12) ∧ x = some (0, 0) ∧ g2 = g) ∨ (((0 ≤ u ∧ u ≤ 24) ∧ (0 ≤ h ∧ h ≤ 24) ∧ g o 0 < 12) ∧ x = some (0, 1) ∧ g2 = (gup (gup (gup g (o + 1) (g o 0) u) (o + 2) (g o 0) h) o 0 (g o 0 + 1))))) := by
  refine gTri.of (by decide +kernel) rfl ?_
  show gWP f_Board_add _ _ _ 0 [(2, o), (0, u), (0, h)] [] sh g _
  refine gw_iload_n (gc k_Board_add_0 0 rfl) rfl ?_
  refine gw_cSN1 (gc k_Board_add_0 1 rfl) y_Desk_isPitch ln_Board_56 (c_Desk_isPitch u hu) rfl rfl rfl rfl ?_
  refine gw_beq (tgt := 23) (gc k_Board_add_0 2 rfl) rfl (fun c4 => ?_) (fun c4 => ?_)
  · refine gw_iconst (gc k_Board_add_0 10 rfl) ?_
    refine gw_zreturn (gc k_Board_add_0 11 rfl) rfl (by omega) ?_
    exact ⟨rfl, Or.inl ⟨by omega, rfl, rfl⟩⟩
  · refine gw_iload_n (gc k_Board_add_0 3 rfl) rfl ?_
    refine gw_cSN1 (gc k_Board_add_0 4 rfl) y_Desk_isPitch ln_Board_56 (c_Desk_isPitch h hh) rfl rfl rfl rfl ?_
    refine gw_beq (tgt := 23) (gc k_Board_add_0 5 rfl) rfl (fun c11 => ?_) (fun c11 => ?_)
    · refine gw_iconst (gc k_Board_add_0 10 rfl) ?_
      refine gw_zreturn (gc k_Board_add_0 11 rfl) rfl (by omega) ?_
      exact ⟨rfl, Or.inl ⟨by omega, rfl, rfl⟩⟩
    · refine gw_aload_n (gc k_Board_add_0 6 rfl) rfl rfl ?_
      refine gw_getf 0 rfl (gc k_Board_add_0 7 rfl) fl_Board_37 (by first | exact gAt hx rfl rfl | exact (bs hx hb).1 | exact (bs hx hb).2.1 | exact (bs hx hb).2.2.1 | exact (bs hx hb).2.2.2.1 | exact (bs hx hb).2.2.2.2.1 | exact (bs hx hb).2.2.2.2.2.1 | exact (bs hx hb).2.2.2.2.2.2) ?_
      refine gw_bipush (gc k_Board_add_0 8 rfl) (by decide) ?_
      refine gw_icmp_lt (tgt := 25) (gc k_Board_add_0 9 rfl) rfl (by omega) (fun c20 => ?_) (fun c20 => ?_)
      · refine gw_aload_n (gc k_Board_add_0 12 rfl) rfl rfl ?_
        refine gw_getref (gc k_Board_add_0 13 rfl) fl_Board_9 (by first | exact gAt hx rfl rfl | exact (bs hx hb).1 | exact (bs hx hb).2.1 | exact (bs hx hb).2.2.1 | exact (bs hx hb).2.2.2.1 | exact (bs hx hb).2.2.2.2.1 | exact (bs hx hb).2.2.2.2.2.1 | exact (bs hx hb).2.2.2.2.2.2) (by first | exact gRf hf rfl rfl | exact (br hf hb).1 | exact (br hf hb).2.1 | exact (br hf hb).2.2.1 | exact (br hf hb).2.2.2.1 | exact (br hf hb).2.2.2.2.1 | exact (br hf hb).2.2.2.2.2) ?_
        refine gw_aload_n (gc k_Board_add_0 14 rfl) rfl rfl ?_
        refine gw_getf 0 rfl (gc k_Board_add_0 15 rfl) fl_Board_37 (by first | exact gAt hx rfl rfl | exact (bs hx hb).1 | exact (bs hx hb).2.1 | exact (bs hx hb).2.2.1 | exact (bs hx hb).2.2.2.1 | exact (bs hx hb).2.2.2.2.1 | exact (bs hx hb).2.2.2.2.2.1 | exact (bs hx hb).2.2.2.2.2.2) ?_
        refine gw_iload_n (gc k_Board_add_0 16 rfl) rfl ?_
        refine gw_iastF (gc k_Board_add_0 17 rfl) (by first | exact gAt hx rfl rfl | exact (bs hx hb).1 | exact (bs hx hb).2.1 | exact (bs hx hb).2.2.1 | exact (bs hx hb).2.2.2.1 | exact (bs hx hb).2.2.2.2.1 | exact (bs hx hb).2.2.2.2.2.1 | exact (bs hx hb).2.2.2.2.2.2) (by omega) hf (by first | rfl | exact bn hb (Or.inl ⟨rfl, by decide⟩) | exact bn hb (Or.inr (by omega))) (fun hf => ?_)
        refine gw_aload_n (gc k_Board_add_0 18 rfl) rfl rfl ?_
        refine gw_getref (gc k_Board_add_0 19 rfl) fl_Board_15 (by first | exact gAt hx rfl rfl | exact (bs hx hb).1 | exact (bs hx hb).2.1 | exact (bs hx hb).2.2.1 | exact (bs hx hb).2.2.2.1 | exact (bs hx hb).2.2.2.2.1 | exact (bs hx hb).2.2.2.2.2.1 | exact (bs hx hb).2.2.2.2.2.2) (by first | exact gRf hf rfl rfl | exact (br hf hb).1 | exact (br hf hb).2.1 | exact (br hf hb).2.2.1 | exact (br hf hb).2.2.2.1 | exact (br hf hb).2.2.2.2.1 | exact (br hf hb).2.2.2.2.2) ?_
        refine gw_aload_n (gc k_Board_add_0 20 rfl) rfl rfl ?_
        refine gw_getf 0 rfl (gc k_Board_add_0 21 rfl) fl_Board_37 (by first | exact gAt hx rfl rfl | exact (bs hx hb).1 | exact (bs hx hb).2.1 | exact (bs hx hb).2.2.1 | exact (bs hx hb).2.2.2.1 | exact (bs hx hb).2.2.2.2.1 | exact (bs hx hb).2.2.2.2.2.1 | exact (bs hx hb).2.2.2.2.2.2) ?_
        rw [gup_a _ _ _ _ _ (by omega)]
        refine gw_iload_n (gc k_Board_add_0 22 rfl) rfl ?_
        refine gw_iastF (gc k_Board_add_0 23 rfl) (by first | exact gAt hx rfl rfl | exact (bs hx hb).1 | exact (bs hx hb).2.1 | exact (bs hx hb).2.2.1 | exact (bs hx hb).2.2.2.1 | exact (bs hx hb).2.2.2.2.1 | exact (bs hx hb).2.2.2.2.2.1 | exact (bs hx hb).2.2.2.2.2.2) (by omega) hf (by first | rfl | exact bn hb (Or.inl ⟨rfl, by decide⟩) | exact bn hb (Or.inr (by omega))) (fun hf => ?_)
        refine gw_aload_n (gc k_Board_add_0 24 rfl) rfl rfl ?_
        refine gw_dup (gc k_Board_add_0 25 rfl) rfl ?_
        refine gw_getf 0 rfl (gc k_Board_add_0 26 rfl) fl_Board_37 (by first | exact gAt hx rfl rfl | exact (bs hx hb).1 | exact (bs hx hb).2.1 | exact (bs hx hb).2.2.1 | exact (bs hx hb).2.2.2.1 | exact (bs hx hb).2.2.2.2.1 | exact (bs hx hb).2.2.2.2.2.1 | exact (bs hx hb).2.2.2.2.2.2) ?_
        rw [gup_a _ _ _ _ _ (by omega), gup_a _ _ _ _ _ (by omega)]
        refine gw_iconst (gc k_Board_add_0 27 rfl) ?_
        refine gw_iadd (gc k_Board_add_0 28 rfl) ?_
        refine gw_putIK 0 rfl (gc k_Board_add_0 29 rfl) fl_Board_37 (by first | exact gAt hx rfl rfl | exact (bs hx hb).1 | exact (bs hx hb).2.1 | exact (bs hx hb).2.2.1 | exact (bs hx hb).2.2.2.1 | exact (bs hx hb).2.2.2.2.1 | exact (bs hx hb).2.2.2.2.2.1 | exact (bs hx hb).2.2.2.2.2.2) hf (by first | rfl | exact bn hb (Or.inl ⟨rfl, by decide⟩) | exact bn hb (Or.inr (by omega))) (fun hf => ?_)
        refine gw_iconst (gc k_Board_add_0 30 rfl) ?_
        refine gw_zreturn (gc k_Board_add_0 31 rfl) rfl (by omega) ?_
        exact ⟨rfl, Or.inr ⟨by omega, rfl, rfl⟩⟩
      · refine gw_iconst (gc k_Board_add_0 10 rfl) ?_
        refine gw_zreturn (gc k_Board_add_0 11 rfl) rfl (by omega) ?_
        exact ⟨rfl, Or.inl ⟨by omega, rfl, rfl⟩⟩
set_option maxHeartbeats 1000000 in
theorem c_Board_exchangeAll {sh : gS} {g : gM} (hx : gFix sh) (hf : gFin g) {o : Int} (hb : isBd o) (hm : 0 ≤ g o 0 ∧ g o 0 ≤ 12) : gTri f_Board_exchangeAll 0 0 0 [(2, o)] sh g (gR none sh (gfr (gfr g (o + 1) (fun y => if 0 ≤ y ∧ y < g o 0 then g (o + 2) y else g (o + 1) y)) (o + 2) (fun y => if 0 ≤ y ∧ y < g o 0 then g (o + 1) y else g (o + 2) y))) := by
  have hbb := hb.bd
  refine gTri.of (by decide +kernel) rfl ?_
  show gWP f_Board_exchangeAll _ _ _ 0 [(2, o), (9, 0), (9, 0)] [] sh g _
  have he0 : (gfr (gfr g (o + 1) (fun y => if 0 ≤ y ∧ y < 0 then g (o + 2) y else g (o + 1) y)) (o + 2) (fun y => if 0 ≤ y ∧ y < 0 then g (o + 1) y else g (o + 2) y)) = g := by
    rw [gfr_id _ _ _ (fun y => by rw [if_neg (by omega), gfr_a _ _ _ _ (by omega)]), gfr_id _ _ _ (fun y => by rw [if_neg (by omega)])]
  refine gw_iconst (gc k_Board_exchangeAll_0 0 rfl) ?_
  refine gw_istore_1 (gc k_Board_exchangeAll_0 1 rfl) rfl rfl ?_
  refine gwloop (σ := Int × gV) (fun zs => 0 ≤ (zs.1) ∧ (zs.1) ≤ g o 0) (fun zs => (g o 0 - (zs.1)).toNat) (fun zs => [(2, o), (0, (zs.1)), (zs.2)]) (fun zs => (gfr (gfr g (o + 1) (fun y => if 0 ≤ y ∧ y < (zs.1) then g (o + 2) y else g (o + 1) y)) (o + 2) (fun y => if 0 ≤ y ∧ y < (zs.1) then g (o + 1) y else g (o + 2) y))) (0, (9, 0)) (show 0 ≤ (0 : Int) ∧ (0 : Int) ≤ g o 0 from (by omega)) rfl he0 (fun zs hI ih => ?_)
  obtain ⟨i, x2⟩ := zs
  replace hI : 0 ≤ i ∧ i ≤ g o 0 := hI
  have hi := hI
  show gWP _ _ _ _ _ [(2, o), (0, i), x2] [] _ ((gfr (gfr g (o + 1) (fun y => if 0 ≤ y ∧ y < i then g (o + 2) y else g (o + 1) y)) (o + 2) (fun y => if 0 ≤ y ∧ y < i then g (o + 1) y else g (o + 2) y))) _
  have hf : gFin (gfr (gfr g (o + 1) (fun y => if 0 ≤ y ∧ y < i then g (o + 2) y else g (o + 1) y)) (o + 2) (fun y => if 0 ≤ y ∧ y < i then g (o + 1) y else g (o + 2) y)) := (hf.fr (fun _ => bn hb (by omega))).fr (fun _ => bn hb (by omega))
  have e0 : (gfr (gfr g (o + 1) (fun y => if 0 ≤ y ∧ y < i then g (o + 2) y else g (o + 1) y)) (o + 2) (fun y => if 0 ≤ y ∧ y < i then g (o + 1) y else g (o + 2) y)) o 0 = g o 0 := by rw [gfr_a _ _ _ _ (by omega), gfr_a _ _ _ _ (by omega)]
  have e1 : (gfr (gfr g (o + 1) (fun y => if 0 ≤ y ∧ y < i then g (o + 2) y else g (o + 1) y)) (o + 2) (fun y => if 0 ≤ y ∧ y < i then g (o + 1) y else g (o + 2) y)) (o + 1) i = g (o + 1) i := by rw [gfr_a _ _ _ _ (by omega), gfr_s, if_neg (by omega)]
  have e2 : (gfr (gfr g (o + 1) (fun y => if 0 ≤ y ∧ y < i then g (o + 2) y else g (o + 1) y)) (o + 2) (fun y => if 0 ≤ y ∧ y < i then g (o + 1) y else g (o + 2) y)) (o + 2) i = g (o + 2) i := by rw [gfr_s, if_neg (by omega)]
  refine gw_iload_n (gc k_Board_exchangeAll_0 2 rfl) rfl ?_
  refine gw_aload_n (gc k_Board_exchangeAll_0 3 rfl) rfl rfl ?_
  refine gw_getf 0 rfl (gc k_Board_exchangeAll_0 4 rfl) fl_Board_37 (by first | exact gAt hx rfl rfl | exact (bs hx hb).1 | exact (bs hx hb).2.1 | exact (bs hx hb).2.2.1 | exact (bs hx hb).2.2.2.1 | exact (bs hx hb).2.2.2.2.1 | exact (bs hx hb).2.2.2.2.2.1 | exact (bs hx hb).2.2.2.2.2.2) ?_
  rw [e0]
  refine gw_icmp_ge (tgt := 42) (gc k_Board_exchangeAll_0 5 rfl) rfl (by omega) (fun c7 => ?_) (fun c7 => ?_)
  · refine gw_return (gc k_Board_exchangeAll_0 26 rfl) rfl ?_
    obtain rfl : i = g o 0 := by omega
    exact ⟨rfl, rfl, rfl⟩
  · refine gw_aload_n (gc k_Board_exchangeAll_0 6 rfl) rfl rfl ?_
    refine gw_getref (gc k_Board_exchangeAll_0 7 rfl) fl_Board_9 (by first | exact gAt hx rfl rfl | exact (bs hx hb).1 | exact (bs hx hb).2.1 | exact (bs hx hb).2.2.1 | exact (bs hx hb).2.2.2.1 | exact (bs hx hb).2.2.2.2.1 | exact (bs hx hb).2.2.2.2.2.1 | exact (bs hx hb).2.2.2.2.2.2) (by first | exact gRf hf rfl rfl | exact (br hf hb).1 | exact (br hf hb).2.1 | exact (br hf hb).2.2.1 | exact (br hf hb).2.2.2.1 | exact (br hf hb).2.2.2.2.1 | exact (br hf hb).2.2.2.2.2) ?_
    refine gw_iload_n (gc k_Board_exchangeAll_0 8 rfl) rfl ?_
    refine gw_iald (gc k_Board_exchangeAll_0 9 rfl) (by first | exact gAt hx rfl rfl | exact (bs hx hb).1 | exact (bs hx hb).2.1 | exact (bs hx hb).2.2.1 | exact (bs hx hb).2.2.2.1 | exact (bs hx hb).2.2.2.2.1 | exact (bs hx hb).2.2.2.2.2.1 | exact (bs hx hb).2.2.2.2.2.2) (by omega) ?_
    rw [e1]
    refine gw_istore_2 (gc k_Board_exchangeAll_0 10 rfl) rfl rfl ?_
    refine gw_aload_n (gc k_Board_exchangeAll_0 11 rfl) rfl rfl ?_
    refine gw_getref (gc k_Board_exchangeAll_0 12 rfl) fl_Board_9 (by first | exact gAt hx rfl rfl | exact (bs hx hb).1 | exact (bs hx hb).2.1 | exact (bs hx hb).2.2.1 | exact (bs hx hb).2.2.2.1 | exact (bs hx hb).2.2.2.2.1 | exact (bs hx hb).2.2.2.2.2.1 | exact (bs hx hb).2.2.2.2.2.2) (by first | exact gRf hf rfl rfl | exact (br hf hb).1 | exact (br hf hb).2.1 | exact (br hf hb).2.2.1 | exact (br hf hb).2.2.2.1 | exact (br hf hb).2.2.2.2.1 | exact (br hf hb).2.2.2.2.2) ?_
    refine gw_iload_n (gc k_Board_exchangeAll_0 13 rfl) rfl ?_
    refine gw_aload_n (gc k_Board_exchangeAll_0 14 rfl) rfl rfl ?_
    refine gw_getref (gc k_Board_exchangeAll_0 15 rfl) fl_Board_15 (by first | exact gAt hx rfl rfl | exact (bs hx hb).1 | exact (bs hx hb).2.1 | exact (bs hx hb).2.2.1 | exact (bs hx hb).2.2.2.1 | exact (bs hx hb).2.2.2.2.1 | exact (bs hx hb).2.2.2.2.2.1 | exact (bs hx hb).2.2.2.2.2.2) (by first | exact gRf hf rfl rfl | exact (br hf hb).1 | exact (br hf hb).2.1 | exact (br hf hb).2.2.1 | exact (br hf hb).2.2.2.1 | exact (br hf hb).2.2.2.2.1 | exact (br hf hb).2.2.2.2.2) ?_
    refine gw_iload_n (gc k_Board_exchangeAll_0 16 rfl) rfl ?_
    refine gw_iald (gc k_Board_exchangeAll_0 17 rfl) (by first | exact gAt hx rfl rfl | exact (bs hx hb).1 | exact (bs hx hb).2.1 | exact (bs hx hb).2.2.1 | exact (bs hx hb).2.2.2.1 | exact (bs hx hb).2.2.2.2.1 | exact (bs hx hb).2.2.2.2.2.1 | exact (bs hx hb).2.2.2.2.2.2) (by omega) ?_
    rw [e2]
    refine gw_iastF (gc k_Board_exchangeAll_0 18 rfl) (by first | exact gAt hx rfl rfl | exact (bs hx hb).1 | exact (bs hx hb).2.1 | exact (bs hx hb).2.2.1 | exact (bs hx hb).2.2.2.1 | exact (bs hx hb).2.2.2.2.1 | exact (bs hx hb).2.2.2.2.2.1 | exact (bs hx hb).2.2.2.2.2.2) (by omega) hf (by first | rfl | exact bn hb (Or.inl ⟨rfl, by decide⟩) | exact bn hb (Or.inr (by omega))) (fun hf => ?_)
    refine gw_aload_n (gc k_Board_exchangeAll_0 19 rfl) rfl rfl ?_
    refine gw_getref (gc k_Board_exchangeAll_0 20 rfl) fl_Board_15 (by first | exact gAt hx rfl rfl | exact (bs hx hb).1 | exact (bs hx hb).2.1 | exact (bs hx hb).2.2.1 | exact (bs hx hb).2.2.2.1 | exact (bs hx hb).2.2.2.2.1 | exact (bs hx hb).2.2.2.2.2.1 | exact (bs hx hb).2.2.2.2.2.2) (by first | exact gRf hf rfl rfl | exact (br hf hb).1 | exact (br hf hb).2.1 | exact (br hf hb).2.2.1 | exact (br hf hb).2.2.2.1 | exact (br hf hb).2.2.2.2.1 | exact (br hf hb).2.2.2.2.2) ?_
    refine gw_iload_n (gc k_Board_exchangeAll_0 21 rfl) rfl ?_
    refine gw_iload_n (gc k_Board_exchangeAll_0 22 rfl) rfl ?_
    refine gw_iastF (gc k_Board_exchangeAll_0 23 rfl) (by first | exact gAt hx rfl rfl | exact (bs hx hb).1 | exact (bs hx hb).2.1 | exact (bs hx hb).2.2.1 | exact (bs hx hb).2.2.2.1 | exact (bs hx hb).2.2.2.2.1 | exact (bs hx hb).2.2.2.2.2.1 | exact (bs hx hb).2.2.2.2.2.2) (by omega) hf (by first | rfl | exact bn hb (Or.inl ⟨rfl, by decide⟩) | exact bn hb (Or.inr (by omega))) (fun hf => ?_)
    refine gw_iinc_1 (gc k_Board_exchangeAll_0 24 rfl) rfl rfl ?_
    refine gw_goto (tgt := 2) (gc k_Board_exchangeAll_0 25 rfl) rfl ?_
    refine gWP.eqm ?_ (ih (i + 1, (0, g (o + 1) i)) (show 0 ≤ (i + 1) ∧ (i + 1) ≤ g o 0 from (by omega)) (show (g o 0 - (i + 1)).toNat < (g o 0 - i).toNat from by omega))
    funext a k
    unfold gup gfr
    by_cases z : a = o + 2
    · subst z
      have q : ¬ o + 2 = o + 1 := by omega
      by_cases z2 : k = i
      · subst z2; simp [q]; omega
      · by_cases z3 : 0 ≤ k ∧ k < i
        · simp [q, z2, z3, show k < i + 1 by omega]
        · simp [q, z2, z3, show ¬ (0 ≤ k ∧ k < i + 1) by omega]
    · by_cases z1 : a = o + 1
      · subst z1
        by_cases z2 : k = i
        · subst z2; simp; omega
        · by_cases z3 : 0 ≤ k ∧ k < i
          · simp [z2, z3, show k < i + 1 by omega]
          · simp [z2, z3, show ¬ (0 ≤ k ∧ k < i + 1) by omega]
      · simp [z, z1]
