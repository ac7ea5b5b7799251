/-! ===== a text is kept: the copy ===== -/
theorem glk_hi : ∀ (l : List (Nat × List (Option Int))) (a k : Nat), (∀ x ∈ l, x.1 ≤ 200) → 201 ≤ a → glk l a k = none
  | [], _, _, _, _ => rfl
  | x :: t, a, k, h, ha => by
    have h1 := h x (List.mem_cons_self ..)
    unfold glk
    rw [if_neg (by omega)]
    exact glk_hi t a k (fun y hy => h y (List.mem_cons_of_mem _ hy)) ha
theorem grefs_le : ∀ x ∈ grefs, x.1 ≤ 200 := by decide +kernel
theorem gref_hi {a : Nat} (h : 201 ≤ a) (k : Nat) : gref a k = none := glk_hi grefs a k grefs_le h
theorem gref_le {a k : Nat} (h : gref a k ≠ none) : a ≤ 200 := by
  by_cases z : a ≤ 200
  · exact z
  · exact absurd (gref_hi (by omega) k) h
theorem gFix.len {sh : gS} (h : gFix sh) : 201 ≤ (sh.length : Int) := by
  have := (gAt (a := 200) (q := 13) (n := 25) h rfl rfl).lt
  omega
theorem gw_putAK {F : gF} {d mc ms pc npc : Nat} {ls st : List gV} {sh : gS} {g : gM} {Q : gQ} {idx q k N : Nat} {fin : Bool} {a x : Int} {ty : FieldType} (kI : Int) (hk : (k : Int) = kI) (hi : gI F pc (.putfield idx) 3 npc) (hf : gFL F.1.cls idx q k N 2 ty fin) (hs : gsz sh a q N) (hfin : fin = false ∨ (F.1.name = "<init>" ∧ (gcl.getD q ("", (fun _ => ("", "", "", false)), 0)).1 = F.1.cls)) (hty : (∃ n, ty = .object n) ∨ ∃ t, ty = .array t) (kk : gWP F d mc ms npc ls st sh (gup g a kI x) Q) : gWP F d mc ms pc ls ((2, x) :: (2, a) :: st) sh g Q := by
  subst hk
  exact gw_putA hi hf hs hfin hty kk
/-- the first j arrays of the copy o stand at S -/
def tkP (g : gM) (o S : Int) (ln : Int → Int) (j : Int) (M : gM) : Prop := (∀ a, a ≠ o → (a < S ∨ S + j ≤ a) → M a = g a) ∧ (M o 0 = g 152 0 ∧ M o 1 = g 152 1 ∧ M o 2 = g 152 2) ∧ (∀ i, 0 ≤ i → i < j → M o (3 + i) = S + i) ∧ ∀ i, 0 ≤ i → i < j → ∀ y, 0 ≤ y → y < ln i → M (S + i) y = g (153 + i) y
theorem tkP.zero (g : gM) {o S : Int} (ln : Int → Int) : tkP g o S ln 0 (gup (gup (gup g o 0 (g 152 0)) o 1 (g 152 1)) o 2 (g 152 2)) := by
  refine ⟨fun a h _ => funext fun k => ?_, ⟨?_, ?_, ?_⟩, fun i a b => by omega, fun i a b => by omega⟩
  · rw [gup_a _ _ _ _ _ h, gup_a _ _ _ _ _ h, gup_a _ _ _ _ _ h]
  · rw [gup_k _ _ _ _ (by decide), gup_k _ _ _ _ (by decide), gup_s]
  · rw [gup_k _ _ _ _ (by decide), gup_s]
  · exact gup_s _ _ _ _
theorem tkP.step {g M : gM} {o S : Int} {ln : Int → Int} {j : Int} (h : tkP g o S ln j M) (ho : 201 ≤ o ∧ o < S) (hj : 0 ≤ j ∧ j < 5) {f : Int → Int} (hf : ∀ y, 0 ≤ y → y < ln j → f y = M (153 + j) y) : tkP g o S ln (j + 1) (gup (gfr M (S + j) f) o (3 + j) (S + j)) := by
  obtain ⟨h1, ⟨h2, h3, h4⟩, h5, h6⟩ := h
  have e0 : ∀ a, a ≠ o → a ≠ S + j → gup (gfr M (S + j) f) o (3 + j) (S + j) a = M a := fun a z z2 => funext fun k => by rw [gup_a _ _ _ _ _ z, gfr_a _ _ _ _ z2]
  have e1 : ∀ k, k ≠ 3 + j → gup (gfr M (S + j) f) o (3 + j) (S + j) o k = M o k := fun k z => by rw [gup_k _ _ _ _ z, gfr_a _ _ _ _ (by omega)]
  refine ⟨fun a z z2 => (e0 a z (by omega)).trans (h1 a z (by omega)), ⟨(e1 _ (by omega)).trans h2, (e1 _ (by omega)).trans h3, (e1 _ (by omega)).trans h4⟩, fun i a b => ?_, fun i a b y y0 y1 => ?_⟩
  · by_cases z : i = j
    · subst z; exact gup_s _ _ _ _
    · rw [e1 _ (by omega)]; exact h5 i a (by omega)
  · by_cases z : i = j
    · subst z
      rw [gup_a _ _ _ _ _ (by omega), gfr_s, hf y y0 y1, h1 _ (by omega) (by omega)]
    · rw [e0 _ (by omega) (by omega)]; exact h6 i a (by omega) y y0 y1
theorem tkP.fin {g M : gM} {o S : Int} {ln : Int → Int} {j : Int} (h : tkP g o S ln j M) (ho : 201 ≤ o ∧ o < S) (hf : gFin g) : gFin M := hf.of fun a k z => by
  have := gref_le z
  rw [h.1 _ (by omega) (by omega)]
def lnT (k L : Int) (i : Int) : Int := if i ≤ 1 then k else if i = 2 then k * 3 + 1 else L
set_option maxHeartbeats 4000000 in
theorem c_Text_init2 {sh : gS} {g : gM} (hx : gFix sh) (hf : gFin g) {o S : Int} (hS : S = (sh.length : Int)) (ho : gsz sh o 10 8) (hoS : 201 ≤ o ∧ o < S) {k L : Nat} (h0 : g 152 0 = (k : Int)) (h1 : g 152 1 = (L : Int)) (hk : k ≤ 12) (hL : L ≤ 400) (hb : g 152 2 = 0 ∨ g 152 2 = 1) : gTri f_Text_init2 4 5 (5 * k + 1 + 2 * L) [(2, o), (2, 152)] sh g (fun x s2 g2 => x = none ∧ s2 = ((((sh ++ [(13, k)]) ++ [(13, k)]) ++ [(13, 3 * k + 1)]) ++ [(13, L)]) ++ [(13, L)] ∧ tkP g o S (lnT k L) 5 g2) := by
  have hfg := hf
  have hro : ∀ k : Nat, gref o.toNat k = none := fun k => gref_hi (by omega) k
  refine gTri.of (by decide +kernel) rfl ?_
  show gWP f_Text_init2 _ _ _ 0 [(2, o), (2, 152)] [] sh g _
  refine gw_aload_n (gc k_Text_init2_0 0 rfl) rfl rfl ?_
  refine gw_objInit (gc k_Text_init2_0 1 rfl) ln_Text_3 wd_oins wd_ocode ho.1 rfl rfl ?_
  refine gw_aload_n (gc k_Text_init2_0 2 rfl) rfl rfl ?_
  refine gw_aload_n (gc k_Text_init2_0 3 rfl) rfl rfl ?_
  refine gw_getf 0 rfl (gc k_Text_init2_0 4 rfl) fl_Text_27 (gAt hx rfl rfl) ?_
  refine gw_putIK 0 rfl (gc k_Text_init2_0 5 rfl) fl_Text_27 ho hf (hro 0) (fun hf => ?_)
  refine gw_aload_n (gc k_Text_init2_0 6 rfl) rfl rfl ?_
  refine gw_aload_n (gc k_Text_init2_0 7 rfl) rfl rfl ?_
  refine gw_getf 1 rfl (gc k_Text_init2_0 8 rfl) fl_Text_31 (gAt hx rfl rfl) ?_
  refine gw_putIK 1 rfl (gc k_Text_init2_0 9 rfl) fl_Text_31 ho hf (hro 1) (fun hf => ?_)
  refine gw_aload_n (gc k_Text_init2_0 10 rfl) rfl rfl ?_
  refine gw_aload_n (gc k_Text_init2_0 11 rfl) rfl rfl ?_
  refine gw_getf 2 rfl (gc k_Text_init2_0 12 rfl) fl_Text_34 (gAt hx rfl rfl) ?_
  refine gw_putZK 2 rfl (gc k_Text_init2_0 13 rfl) fl_Text_34 ho (by rw [gup_a _ _ _ _ _ (by omega), gup_a _ _ _ _ _ (by omega)]; exact hb) hf (hro 2) (fun hf => ?_)
  rw [show gup g o 0 (g 152 0) 152 1 = g 152 1 from gup_a _ _ _ _ _ (by omega), show gup (gup g o 0 (g 152 0)) o 1 (g 152 1) 152 2 = g 152 2 by rw [gup_a _ _ _ _ _ (by omega), gup_a _ _ _ _ _ (by omega)]]
  have hT0 := tkP.zero g (o := o) (S := S) (lnT k L)
  obtain ⟨M0, hM0⟩ : ∃ M, M = gup (gup (gup g o 0 (g 152 0)) o 1 (g 152 1)) o 2 (g 152 2) := ⟨_, rfl⟩
  rw [← hM0] at hT0 ⊢
  have hf := hT0.fin hoS hfg
  refine gw_aload_n (gc k_Text_init2_0 14 rfl) rfl rfl ?_
  refine gw_aload_n (gc k_Text_init2_0 15 rfl) rfl rfl ?_
  refine gw_getref (gc k_Text_init2_0 16 rfl) fl_Text_9 (gAt hx rfl rfl) (gRf hf rfl rfl) ?_
  refine gw_aload_n (gc k_Text_init2_0 17 rfl) rfl rfl ?_
  refine gw_getf 0 rfl (gc k_Text_init2_0 18 rfl) fl_Text_27 ho ?_
  rw [show M0 o 0 = (k : Int) from (hT0.2.1.1).trans h0]
  refine gw_callS (gc k_Text_init2_0 19 rfl) y_Arr_copyOf ln_Text_38 (c_Arr_copyOf (a := 153) (N := 12) (n := k) (gAt hx rfl rfl) (by omega) (by omega)) rfl rfl rfl (gble (by omega)) ⟨by omega, by omega⟩ (fun r37 sh2 g37 hq37 => ?_)
  obtain ⟨rfl, rfl, f0, rfl, hf0⟩ := hq37
  rw [show (((sh : gS).length : Nat) : Int) = S + 0 by rw [hS]; exact (Int.add_zero _).symm]
  have ho := ho.app [(13, k)]
  have hx := hx.app (t := [(13, k)])
  refine gw_putAK 3 rfl (gc k_Text_init2_0 20 rfl) fl_Text_9 ho (Or.inr ⟨rfl, rfl⟩) (Or.inr ⟨_, rfl⟩) ?_
  have hT1 : tkP g o S (lnT k L) 1 (gup (gfr M0 (S + 0) f0) o (3 + 0) (S + 0)) := hT0.step (j := 0) hoS (by omega) (f := f0) (fun y y0 y1 => hf0 y y0 (by have q : lnT k L 0 = (k : Int) := rfl; omega))
  obtain ⟨M1, hM1⟩ : ∃ M, M = gup (gfr M0 (S + 0) f0) o (3 + 0) (S + 0) := ⟨_, rfl⟩
  rw [← hM1] at hT1
  have hf := hT1.fin hoS hfg
  show gWP _ _ _ _ _ _ _ _ (gup (gfr M0 (S + 0) f0) o (3 + 0) (S + 0)) _
  rw [← hM1]
  refine gw_aload_n (gc k_Text_init2_0 21 rfl) rfl rfl ?_
  refine gw_aload_n (gc k_Text_init2_0 22 rfl) rfl rfl ?_
  refine gw_getref (gc k_Text_init2_0 23 rfl) fl_Text_15 (gAt hx rfl rfl) (gRf hf rfl rfl) ?_
  refine gw_aload_n (gc k_Text_init2_0 24 rfl) rfl rfl ?_
  refine gw_getf 0 rfl (gc k_Text_init2_0 25 rfl) fl_Text_27 ho ?_
  rw [show M1 o 0 = (k : Int) from (hT1.2.1.1).trans h0]
  refine gw_callS (gc k_Text_init2_0 26 rfl) y_Arr_copyOf ln_Text_38 (c_Arr_copyOf (a := 154) (N := 12) (n := k) (gAt hx rfl rfl) (by omega) (by omega)) rfl rfl rfl (gble (by omega)) ⟨by omega, by omega⟩ (fun r52 sh2 g52 hq52 => ?_)
  obtain ⟨rfl, rfl, f1, rfl, hf1⟩ := hq52
  rw [show ((((sh ++ [(13, k)]) : gS).length : Nat) : Int) = S + 1 by simp only [List.length_append, List.length_singleton]; omega]
  have ho := ho.app [(13, k)]
  have hx := hx.app (t := [(13, k)])
  refine gw_putAK 4 rfl (gc k_Text_init2_0 27 rfl) fl_Text_15 ho (Or.inr ⟨rfl, rfl⟩) (Or.inr ⟨_, rfl⟩) ?_
  have hT2 : tkP g o S (lnT k L) 2 (gup (gfr M1 (S + 1) f1) o (3 + 1) (S + 1)) := hT1.step (j := 1) hoS (by omega) (f := f1) (fun y y0 y1 => hf1 y y0 (by have q : lnT k L 1 = (k : Int) := rfl; omega))
  obtain ⟨M2, hM2⟩ : ∃ M, M = gup (gfr M1 (S + 1) f1) o (3 + 1) (S + 1) := ⟨_, rfl⟩
  rw [← hM2] at hT2
  have hf := hT2.fin hoS hfg
  show gWP _ _ _ _ _ _ _ _ (gup (gfr M1 (S + 1) f1) o (3 + 1) (S + 1)) _
  rw [← hM2]
  refine gw_aload_n (gc k_Text_init2_0 28 rfl) rfl rfl ?_
  refine gw_aload_n (gc k_Text_init2_0 29 rfl) rfl rfl ?_
  refine gw_getref (gc k_Text_init2_0 30 rfl) fl_Text_18 (gAt hx rfl rfl) (gRf hf rfl rfl) ?_
  refine gw_aload_n (gc k_Text_init2_0 31 rfl) rfl rfl ?_
  refine gw_getf 0 rfl (gc k_Text_init2_0 32 rfl) fl_Text_27 ho ?_
  rw [show M2 o 0 = (k : Int) from (hT2.2.1.1).trans h0]
  refine gw_iconst (gc k_Text_init2_0 33 rfl) ?_
  refine gw_imul (gc k_Text_init2_0 34 rfl) ?_
  refine gw_iconst (gc k_Text_init2_0 35 rfl) ?_
  refine gw_iadd (gc k_Text_init2_0 36 rfl) ?_
  rw [show (k : Int) * 3 + 1 = ((3 * k + 1 : Nat) : Int) by omega]
  refine gw_callS (gc k_Text_init2_0 37 rfl) y_Arr_copyOf ln_Text_38 (c_Arr_copyOf (a := 155) (N := 37) (n := (3 * k + 1)) (gAt hx rfl rfl) (by omega) (by omega)) rfl rfl rfl (gble (by omega)) ⟨by omega, by omega⟩ (fun r71 sh2 g71 hq71 => ?_)
  obtain ⟨rfl, rfl, f2, rfl, hf2⟩ := hq71
  rw [show (((((sh ++ [(13, k)]) ++ [(13, k)]) : gS).length : Nat) : Int) = S + 2 by simp only [List.length_append, List.length_singleton]; omega]
  have ho := ho.app [(13, (3 * k + 1))]
  have hx := hx.app (t := [(13, (3 * k + 1))])
  refine gw_putAK 5 rfl (gc k_Text_init2_0 38 rfl) fl_Text_18 ho (Or.inr ⟨rfl, rfl⟩) (Or.inr ⟨_, rfl⟩) ?_
  have hT3 : tkP g o S (lnT k L) 3 (gup (gfr M2 (S + 2) f2) o (3 + 2) (S + 2)) := hT2.step (j := 2) hoS (by omega) (f := f2) (fun y y0 y1 => hf2 y y0 (by have q : lnT k L 2 = (k : Int) * 3 + 1 := rfl; omega))
  obtain ⟨M3, hM3⟩ : ∃ M, M = gup (gfr M2 (S + 2) f2) o (3 + 2) (S + 2) := ⟨_, rfl⟩
  rw [← hM3] at hT3
  have hf := hT3.fin hoS hfg
  show gWP _ _ _ _ _ _ _ _ (gup (gfr M2 (S + 2) f2) o (3 + 2) (S + 2)) _
  rw [← hM3]
  refine gw_aload_n (gc k_Text_init2_0 39 rfl) rfl rfl ?_
  refine gw_aload_n (gc k_Text_init2_1 0 rfl) rfl rfl ?_
  refine gw_getref (gc k_Text_init2_1 1 rfl) fl_Text_21 (gAt hx rfl rfl) (gRf hf rfl rfl) ?_
  refine gw_aload_n (gc k_Text_init2_1 2 rfl) rfl rfl ?_
  refine gw_getf 1 rfl (gc k_Text_init2_1 3 rfl) fl_Text_31 ho ?_
  rw [show M3 o 1 = (L : Int) from (hT3.2.1.2.1).trans h1]
  refine gw_callS (gc k_Text_init2_1 4 rfl) y_Arr_copyOf ln_Text_38 (c_Arr_copyOf (a := 156) (N := 400) (n := L) (gAt hx rfl rfl) (by omega) (by omega)) rfl rfl rfl (gble (by omega)) ⟨by omega, by omega⟩ (fun r86 sh2 g86 hq86 => ?_)
  obtain ⟨rfl, rfl, f3, rfl, hf3⟩ := hq86
  rw [show ((((((sh ++ [(13, k)]) ++ [(13, k)]) ++ [(13, (3 * k + 1))]) : gS).length : Nat) : Int) = S + 3 by simp only [List.length_append, List.length_singleton]; omega]
  have ho := ho.app [(13, L)]
  have hx := hx.app (t := [(13, L)])
  refine gw_putAK 6 rfl (gc k_Text_init2_1 5 rfl) fl_Text_21 ho (Or.inr ⟨rfl, rfl⟩) (Or.inr ⟨_, rfl⟩) ?_
  have hT4 : tkP g o S (lnT k L) 4 (gup (gfr M3 (S + 3) f3) o (3 + 3) (S + 3)) := hT3.step (j := 3) hoS (by omega) (f := f3) (fun y y0 y1 => hf3 y y0 (by have q : lnT k L 3 = (L : Int) := rfl; omega))
  obtain ⟨M4, hM4⟩ : ∃ M, M = gup (gfr M3 (S + 3) f3) o (3 + 3) (S + 3) := ⟨_, rfl⟩
  rw [← hM4] at hT4
  have hf := hT4.fin hoS hfg
  show gWP _ _ _ _ _ _ _ _ (gup (gfr M3 (S + 3) f3) o (3 + 3) (S + 3)) _
  rw [← hM4]
  refine gw_aload_n (gc k_Text_init2_1 6 rfl) rfl rfl ?_
  refine gw_aload_n (gc k_Text_init2_1 7 rfl) rfl rfl ?_
  refine gw_getref (gc k_Text_init2_1 8 rfl) fl_Text_24 (gAt hx rfl rfl) (gRf hf rfl rfl) ?_
  refine gw_aload_n (gc k_Text_init2_1 9 rfl) rfl rfl ?_
  refine gw_getf 1 rfl (gc k_Text_init2_1 10 rfl) fl_Text_31 ho ?_
  rw [show M4 o 1 = (L : Int) from (hT4.2.1.2.1).trans h1]
  refine gw_callS (gc k_Text_init2_1 11 rfl) y_Arr_copyOf ln_Text_38 (c_Arr_copyOf (a := 157) (N := 400) (n := L) (gAt hx rfl rfl) (by omega) (by omega)) rfl rfl rfl (gble (by omega)) ⟨by omega, by omega⟩ (fun r101 sh2 g101 hq101 => ?_)
  obtain ⟨rfl, rfl, f4, rfl, hf4⟩ := hq101
  rw [show (((((((sh ++ [(13, k)]) ++ [(13, k)]) ++ [(13, (3 * k + 1))]) ++ [(13, L)]) : gS).length : Nat) : Int) = S + 4 by simp only [List.length_append, List.length_singleton]; omega]
  have ho := ho.app [(13, L)]
  have hx := hx.app (t := [(13, L)])
  refine gw_putAK 7 rfl (gc k_Text_init2_1 12 rfl) fl_Text_24 ho (Or.inr ⟨rfl, rfl⟩) (Or.inr ⟨_, rfl⟩) ?_
  have hT5 : tkP g o S (lnT k L) 5 (gup (gfr M4 (S + 4) f4) o (3 + 4) (S + 4)) := hT4.step (j := 4) hoS (by omega) (f := f4) (fun y y0 y1 => hf4 y y0 (by have q : lnT k L 4 = (L : Int) := rfl; omega))
  obtain ⟨M5, hM5⟩ : ∃ M, M = gup (gfr M4 (S + 4) f4) o (3 + 4) (S + 4) := ⟨_, rfl⟩
  rw [← hM5] at hT5
  have hf := hT5.fin hoS hfg
  show gWP _ _ _ _ _ _ _ _ (gup (gfr M4 (S + 4) f4) o (3 + 4) (S + 4)) _
  rw [← hM5]
  refine gw_return (gc k_Text_init2_1 13 rfl) rfl ?_
  exact ⟨rfl, rfl, hT5⟩
