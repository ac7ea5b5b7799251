/-! ===== the class reads: signs, words, steps ===== -/
def rcP (B : Int → Int) (len p : Int) (g : gM) : Prop := rcK B len (tP B len p.toNat) g
theorem tT_at (B : Int → Int) (len p : Int) (hp : 0 ≤ p) : tT B len p = if tP B len p.toNat < len then tC B len (tP B len p.toNat) else 0 := by
  unfold tT
  by_cases z : tP B len p.toNat < len
  · rw [if_pos ⟨hp, z⟩, if_pos z]
  · rw [if_neg (fun q => z q.2), if_neg z]
theorem tW_at (B : Int → Int) (len p : Int) (hp : 0 ≤ p) (h : tP B len p.toNat < len) : tW B len p = tV B len (tP B len p.toNat) := if_pos ⟨hp, h⟩
theorem kd_of (B : Int → Int) (len p : Int) (hp : 0 ≤ p) (hB : ∀ j, 0 ≤ j → j < 400 → 0 ≤ B j ∧ B j ≤ 255) (hl : 0 ≤ len ∧ len ≤ 400) : (tKd B len (tP B len p.toNat) = 0 ∧ tT B len p = 0 ∧ ¬ tP B len p.toNat < len) ∨ (tKd B len (tP B len p.toNat) = 1 ∧ tP B len p.toNat < len ∧ tT B len p = wordC B (tP B len p.toNat) (tE B len (tP B len p.toNat)) ∧ tT B len p ≤ 28) ∨ (tKd B len (tP B len p.toNat) = 2 ∧ tP B len p.toNat < len ∧ tT B len p = 50) ∨ (tKd B len (tP B len p.toNat) = 3 ∧ tP B len p.toNat < len ∧ tT B len p = 100 + B (tP B len p.toNat) ∧ 100 ≤ tT B len p) := by
  have hb := tP_bd B hl.1 p.toNat
  rw [tT_at B len p hp]
  unfold tKd tC
  by_cases z : tP B len p.toNat < len
  · rw [if_pos z, if_pos z]
    by_cases z1 : isL B (tP B len p.toNat) = 1
    · have := wordC_bd B (tP B len p.toNat) (tE B len (tP B len p.toNat))
      rw [if_pos z1, if_pos z1]; exact Or.inr (Or.inl ⟨rfl, z, rfl, this.2⟩)
    · rw [if_neg z1, if_neg z1]
      by_cases z2 : isD B (tP B len p.toNat) = 1
      · rw [if_pos z2, if_pos z2]; exact Or.inr (Or.inr (Or.inl ⟨rfl, z, rfl⟩))
      · have := hB (tP B len p.toNat) hb.1 (by omega)
        rw [if_neg z2, if_neg z2]; exact Or.inr (Or.inr (Or.inr ⟨rfl, z, rfl, by omega⟩))
  · rw [if_neg z, if_neg z]; exact Or.inl ⟨rfl, rfl, z⟩
theorem rcB.of {B : Int → Int} {len : Int} {g g2 : gM} (h : rcB B len g) (h2 : g2 151 2 = g 151 2) (h3 : g2 158 = g 158) : rcB B len g2 := ⟨h.1, h2.trans h.2.1, by rw [h3]; exact h.2.2.1, h.2.2.2⟩
theorem rcB.f {B : Int → Int} {len : Int} {g g2 : gM} (h : rcB B len g) (hs : rcF g g2) : rcB B len g2 := h.of (hs _ _ (by omega)) (funext fun k => hs _ _ (by omega))
theorem wtab0 : ∀ k : Fin 27, gSl[k.val]? = some (gSl.getD k.val 0) ∧ wdL[wcd.getD k.val 0 - 1]? = some (wdL.getD (wcd.getD k.val 0 - 1) []) ∧ (wdL.getD (wcd.getD k.val 0 - 1) []).length = gSl.getD k.val 0 ∧ (1 ≤ wcd.getD k.val 0 ∧ wcd.getD k.val 0 ≤ 27) ∧ gSl.getD k.val 0 ≤ 10 ∧ ∀ i, i < gSl.getD k.val 0 → ((gSb.getD k.val []).getD i 0).toInt = (wdL.getD (wcd.getD k.val 0 - 1) []).getD i 0 ∧ 97 ≤ (wdL.getD (wcd.getD k.val 0 - 1) []).getD i 0 ∧ (wdL.getD (wcd.getD k.val 0 - 1) []).getD i 0 ≤ 122 := by decide +kernel
theorem wtab (k : Nat) (hk : k < 27) : ∃ (x : List Int) (n w : Nat), gSl[k]? = some n ∧ wdL[w]? = some x ∧ x.length = n ∧ ((wcd.getD k 0 : Nat) : Int) = 1 + (w : Int) ∧ w ≤ 26 ∧ n ≤ 10 ∧ ∀ i, i < n → ((gSb.getD k []).getD i 0).toInt = x.getD i 0 ∧ 97 ≤ x.getD i 0 ∧ x.getD i 0 ≤ 122 := by
  have h := wtab0 ⟨k, hk⟩
  exact ⟨_, _, _, h.1, h.2.1, h.2.2.1, by have := h.2.2.2.1; dsimp only at this ⊢; omega, by have := h.2.2.2.1; dsimp only at this ⊢; omega, h.2.2.2.2.1, h.2.2.2.2.2⟩
def wc (k : Nat) : Int := ((wcd.getD k 0 : Nat) : Int)
def stM (g : gM) (op arg : Int) : gM := gup (gup (gup g 156 (g 152 1) op) 157 (g 152 1) arg) 152 1 (g 152 1 + 1)
theorem gFin.stp {g : gM} (h : gFin g) (op arg : Int) : gFin (stM g op arg) := ((h.up rfl).up rfl).up rfl
def loW (T : Int) : Int := if T = 17 then 0 else if T = 18 then 1 else if T = 19 then 2 else if T = 20 then 3 else if T = 21 then 4 else if T = 15 then 5 else if T = 16 then 17 else -1
set_option maxHeartbeats 1000000 in
theorem c_Reader_isSign {sh : gS} {g : gM} (hx : gFix sh) (hf : gFin g) {B : Int → Int} {len : Int} (hB : rcB B len g) (p : Int) (hp : 0 ≤ p) (hP : rcP B len p g) (c : Int) (hc : 1 ≤ c ∧ c ≤ 127) : gTri f_Reader_isSign 0 0 0 [(2, 151), (0, c)] sh g (gR (some (0, bi (tT B len p = 100 + c))) sh g) := by
  have hkd := kd_of B len p hp hB.2.2.2 hB.1
  have hlb := hB.1
  have hpb := tP_bd B hlb.1 p.toNat
  obtain ⟨h5, h6, h4, hv2, hv3, hvb⟩ := hP
  refine gTri.of (by decide +kernel) rfl ?_
  show gWP f_Reader_isSign _ _ _ 0 [(2, 151), (0, c)] [] sh g _
  refine gw_aload_n (gc k_Reader_isSign_0 0 rfl) rfl rfl ?_
  refine gw_getf 4 rfl (gc k_Reader_isSign_0 1 rfl) fl_Reader_75 (gAt hx rfl rfl) ?_
  refine gw_iconst (gc k_Reader_isSign_0 2 rfl) ?_
  refine gw_icmp_ne (tgt := 20) (gc k_Reader_isSign_0 3 rfl) rfl (by omega) (fun c5 => ?_) (fun c5 => ?_)
  · refine gw_iconst (gc k_Reader_isSign_0 10 rfl) ?_
    refine gw_zreturn (gc k_Reader_isSign_0 11 rfl) rfl (by omega) ?_
    exact ⟨by first | rw [bi_1 (by omega)] | rw [bi_0 (by omega)], rfl, rfl⟩
  · have hv3 := hv3 (by omega)
    refine gw_aload_n (gc k_Reader_isSign_0 4 rfl) rfl rfl ?_
    refine gw_getf 7 rfl (gc k_Reader_isSign_0 5 rfl) fl_Reader_82 (gAt hx rfl rfl) ?_
    refine gw_iload_n (gc k_Reader_isSign_0 6 rfl) rfl ?_
    refine gw_icmp_ne (tgt := 20) (gc k_Reader_isSign_0 7 rfl) rfl (by omega) (fun c13 => ?_) (fun c13 => ?_)
    · refine gw_iconst (gc k_Reader_isSign_0 10 rfl) ?_
      refine gw_zreturn (gc k_Reader_isSign_0 11 rfl) rfl (by omega) ?_
      exact ⟨by first | rw [bi_1 (by omega)] | rw [bi_0 (by omega)], rfl, rfl⟩
    · refine gw_iconst (gc k_Reader_isSign_0 8 rfl) ?_
      refine gw_goto (tgt := 21) (gc k_Reader_isSign_0 9 rfl) rfl ?_
      refine gw_zreturn (gc k_Reader_isSign_0 11 rfl) rfl (by omega) ?_
      exact ⟨by first | rw [bi_1 (by omega)] | rw [bi_0 (by omega)], rfl, rfl⟩
theorem c_advP {sh : gS} {g : gM} (hx : gFix sh) (hf : gFin g) {B : Int → Int} {len : Int} (hB : rcB B len g) (p : Int) (hp : 0 ≤ p) (hP : rcP B len p g) : gTri f_Reader_advance 1 0 0 [(2, 151)] sh g (fun x s2 g2 => x = none ∧ s2 = sh ∧ rcF g g2 ∧ rcP B len (p + 1) g2) := by
  have hlb := hB.1
  have hpb := tP_bd B hlb.1 p.toNat
  have hte : 0 ≤ tE B len (tP B len p.toNat) ∧ tE B len (tP B len p.toNat) ≤ len := by
    by_cases z : tP B len p.toNat < len
    · have := tE_bd B len _ z; omega
    · have e : tE B len (tP B len p.toNat) = tP B len p.toNat := if_neg z
      omega
  have q := c_Reader_advance hx hf hB (tE B len (tP B len p.toNat)) hte hP.2.1
  have e : rcP B len (p + 1) = rcK B len (run (isB B) len (tE B len (tP B len p.toNat))) := by
    unfold rcP
    rw [show (p + 1).toNat = p.toNat + 1 by omega]
    rfl
  rw [e]
  exact q
set_option maxHeartbeats 4000000 in
theorem c_Reader_isWord {sh : gS} {g : gM} (hx : gFix sh) (hf : gFin g) {B : Int → Int} {len : Int} (hB : rcB B len g) (p : Int) (hp : 0 ≤ p) (hP : rcP B len p g) (k : Nat) (hk : k < 27) : gTri f_Reader_isWord 7 0 0 [(2, 151), (3, (k : Int))] sh g (gR (some (0, bi (tT B len p = wc k))) sh g) := by
  have hkd := kd_of B len p hp hB.2.2.2 hB.1
  have hlb := hB.1
  have hpb := tP_bd B hlb.1 p.toNat
  obtain ⟨h5, h6, h4, hv2, hv3, hvb⟩ := hP
  obtain ⟨x, n, w, hsl, hwd, hxl, hwc, hw26, hn10, hch⟩ := wtab k hk
  have hwk : wc k = 1 + (w : Int) := hwc
  have hwi := word_iff (B := B) (k := tP B len p.toNat) (e := tE B len (tP B len p.toNat)) hwd
  have hte := tE_bd B len (tP B len p.toNat)
  refine gTri.of (by decide +kernel) rfl ?_
  show gWP f_Reader_isWord _ _ _ 0 [(2, 151), (3, (k : Int)), (9, 0)] [] sh g _
  refine gw_aload_n (gc k_Reader_isWord_0 0 rfl) rfl rfl ?_
  refine gw_getf 4 rfl (gc k_Reader_isWord_0 1 rfl) fl_Reader_75 (gAt hx rfl rfl) ?_
  refine gw_iconst (gc k_Reader_isWord_0 2 rfl) ?_
  rw [h4]
  refine gw_icmp_ne (tgt := 24) (gc k_Reader_isWord_0 3 rfl) rfl (by omega) (fun c5 => ?_) (fun c5 => ?_)
  · refine gw_iconst (gc k_Reader_isWord_0 12 rfl) ?_
    refine gw_zreturn (gc k_Reader_isWord_0 13 rfl) rfl (by omega) ?_
    have hno : ¬ tT B len p = wc k := fun z => by
      rcases hkd with ⟨q1, q2, q3⟩ | ⟨q1, q2, q3, q4⟩ | ⟨q1, q2, q3⟩ | ⟨q1, q2, q3, q4⟩
      · omega
      · have h9 := wEq_1 (hwi.mp (by omega))
        omega
      · omega
      · omega
    exact ⟨by rw [bi_0 hno], rfl, rfl⟩
  · refine gw_aload_n (gc k_Reader_isWord_0 4 rfl) rfl rfl ?_
    refine gw_getf 6 rfl (gc k_Reader_isWord_0 5 rfl) fl_Reader_40 (gAt hx rfl rfl) ?_
    rw [h6]
    have hte := hte (by omega)
    refine gw_aload_n (gc k_Reader_isWord_0 6 rfl) rfl rfl ?_
    refine gw_getf 5 rfl (gc k_Reader_isWord_0 7 rfl) fl_Reader_72 (gAt hx rfl rfl) ?_
    rw [h5]
    refine gw_isub (gc k_Reader_isWord_0 8 rfl) ?_
    refine gw_aload_n (gc k_Reader_isWord_0 9 rfl) rfl rfl ?_
    refine gw_cVS (gc k_Reader_isWord_0 10 rfl) y_Str_length rfl (by omega) ln_Reader_97 (c_Str_length k n hk hsl (by omega)) rfl rfl rfl rfl ?_
    refine gw_icmp_eq (tgt := 26) (gc k_Reader_isWord_0 11 rfl) rfl (by omega) (fun c21 => ?_) (fun c21 => ?_)
    · refine gw_iconst (gc k_Reader_isWord_0 14 rfl) ?_
      refine gw_istore_2 (gc k_Reader_isWord_0 15 rfl) rfl rfl ?_
      refine gwloop (σ := Nat) (fun zs => zs ≤ n ∧ wmF B (tP B len p.toNat) x zs = 1) (fun zs => n - zs) (fun zs => [(2, 151), (3, (k : Int)), (0, (zs : Int))]) (fun zs => g) (0) (show (0 : Nat) ≤ n ∧ wmF B (tP B len p.toNat) x (0 : Nat) = 1 from ⟨by omega, rfl⟩) rfl rfl (fun zs hI ih => ?_)
      obtain ⟨i, hzz⟩ : ∃ x, x = zs := ⟨_, rfl⟩
      subst hzz
      replace hI : i ≤ n ∧ wmF B (tP B len p.toNat) x i = 1 := hI
      obtain ⟨hi, hw⟩ := hI
      show gWP _ _ _ _ _ [(2, 151), (3, (k : Int)), (0, (i : Int))] [] _ (g) _
      
      refine gw_iload_n (gc k_Reader_isWord_0 16 rfl) rfl ?_
      refine gw_aload_n (gc k_Reader_isWord_0 17 rfl) rfl rfl ?_
      refine gw_cVS (gc k_Reader_isWord_0 18 rfl) y_Str_length rfl (by omega) ln_Reader_97 (c_Str_length k n hk hsl (by omega)) rfl rfl rfl rfl ?_
      refine gw_icmp_ge (tgt := 63) (gc k_Reader_isWord_0 19 rfl) rfl (by omega) (fun c33 => ?_) (fun c33 => ?_)
      · refine gw_iconst (gc k_Reader_isWord_0 35 rfl) ?_
        refine gw_zreturn (gc k_Reader_isWord_0 36 rfl) rfl (by omega) ?_
        obtain rfl : i = n := by omega
        have hye : tT B len p = wc k := by
          rcases hkd with ⟨q1, q2, q3⟩ | ⟨q1, q2, q3, q4⟩ | ⟨q1, q2, q3⟩ | ⟨q1, q2, q3, q4⟩
          · omega
          · have h9 : wEq B (tP B len p.toNat) (tE B len (tP B len p.toNat)) x = 1 := by
              unfold wEq
              rw [if_pos (by omega), hxl]; exact hw
            have := hwi.mpr h9
            omega
          · omega
          · omega
        exact ⟨by rw [bi_1 hye], rfl, rfl⟩
      · refine gw_aload_n (gc k_Reader_isWord_0 20 rfl) rfl rfl ?_
        refine gw_getref (gc k_Reader_isWord_0 21 rfl) fl_Reader_18 (gAt hx rfl rfl) (gRf hf rfl rfl) ?_
        refine gw_aload_n (gc k_Reader_isWord_0 22 rfl) rfl rfl ?_
        refine gw_getf 5 rfl (gc k_Reader_isWord_0 23 rfl) fl_Reader_72 (gAt hx rfl rfl) ?_
        rw [h5]
        refine gw_iload_n (gc k_Reader_isWord_0 24 rfl) rfl ?_
        refine gw_iadd (gc k_Reader_isWord_0 25 rfl) ?_
        refine gw_iald (gc k_Reader_isWord_0 26 rfl) (gAt hx rfl rfl) (by omega) ?_
        rw [hB.2.2.1 _ (by omega) (by omega)]
        have hbb := hB.2.2.2 (tP B len p.toNat + (i : Int)) (by omega) (by omega)
        refine gw_aload_n (gc k_Reader_isWord_0 27 rfl) rfl rfl ?_
        refine gw_iload_n (gc k_Reader_isWord_0 28 rfl) rfl ?_
        refine gw_cVS (gc k_Reader_isWord_0 29 rfl) y_Str_charAt rfl (by omega) ln_Reader_102 (c_Str_charAt k n hk hsl (by omega) i (by omega) _ rfl (by rw [Int.toNat_natCast]; have := hch i (by omega); omega)) rfl rfl rfl rfl ?_
        rw [Int.toNat_natCast, (hch i (by omega)).1]
        have hch2 := hch i (by omega)
        refine gw_icmp_eq (tgt := 57) (gc k_Reader_isWord_0 30 rfl) rfl (by omega) (fun c52 => ?_) (fun c52 => ?_)
        · refine gw_iinc_2 (gc k_Reader_isWord_0 33 rfl) rfl rfl ?_
          refine gw_goto (tgt := 28) (gc k_Reader_isWord_0 34 rfl) rfl ?_
          have hw2 : wmF B (tP B len p.toNat) x (i + 1) = 1 := if_pos ⟨hw, by omega⟩
          exact ih (i + 1) (show (i + 1) ≤ n ∧ wmF B (tP B len p.toNat) x (i + 1) = 1 from ⟨by omega, hw2⟩) (show n - (i + 1) < n - i from by omega)
        · refine gw_iconst (gc k_Reader_isWord_0 31 rfl) ?_
          refine gw_zreturn (gc k_Reader_isWord_0 32 rfl) rfl (by omega) ?_
          have hno : ¬ tT B len p = wc k := fun z => by
            rcases hkd with ⟨q1, q2, q3⟩ | ⟨q1, q2, q3, q4⟩ | ⟨q1, q2, q3⟩ | ⟨q1, q2, q3, q4⟩
            · omega
            · have h9 := (wEq_1 (hwi.mp (by omega))).2 i (by omega)
              omega
            · omega
            · omega
          exact ⟨by rw [bi_0 hno], rfl, rfl⟩
    · refine gw_iconst (gc k_Reader_isWord_0 12 rfl) ?_
      refine gw_zreturn (gc k_Reader_isWord_0 13 rfl) rfl (by omega) ?_
      have hno : ¬ tT B len p = wc k := fun z => by
        rcases hkd with ⟨q1, q2, q3⟩ | ⟨q1, q2, q3, q4⟩ | ⟨q1, q2, q3⟩ | ⟨q1, q2, q3, q4⟩
        · omega
        · have h9 := wEq_1 (hwi.mp (by omega))
          omega
        · omega
        · omega
      exact ⟨by rw [bi_0 hno], rfl, rfl⟩
set_option maxHeartbeats 1000000 in
theorem c_Reader_takeWord {sh : gS} {g : gM} (hx : gFix sh) (hf : gFin g) {B : Int → Int} {len : Int} (hB : rcB B len g) (p : Int) (hp : 0 ≤ p) (hP : rcP B len p g) (k : Nat) (hk : k < 27) : gTri f_Reader_takeWord 8 0 0 [(2, 151), (3, (k : Int))] sh g (fun x s2 g2 => x = some (0, bi (tT B len p = wc k)) ∧ s2 = sh ∧ rcF g g2 ∧ rcP B len (if tT B len p = wc k then p + 1 else p) g2) := by
  refine gTri.of (by decide +kernel) rfl ?_
  show gWP f_Reader_takeWord _ _ _ 0 [(2, 151), (3, (k : Int)), (9, 0)] [] sh g _
  refine gw_aload_n (gc k_Reader_takeWord_0 0 rfl) rfl rfl ?_
  refine gw_aload_n (gc k_Reader_takeWord_0 1 rfl) rfl rfl ?_
  refine gw_cV1 (gc k_Reader_takeWord_0 2 rfl) y_Reader_isWord ln_Reader_106 (c_Reader_isWord hx hf hB p hp hP k hk) rfl rfl (gAt hx rfl rfl) rfl rfl ?_
  refine gw_istore_2 (gc k_Reader_takeWord_0 3 rfl) rfl rfl ?_
  refine gw_iload_n (gc k_Reader_takeWord_0 4 rfl) rfl ?_
  refine gw_beq (tgt := 14) (gc k_Reader_takeWord_0 5 rfl) rfl (fun c7 => ?_) (fun c7 => ?_)
  · refine gw_iload_n (gc k_Reader_takeWord_0 8 rfl) rfl ?_
    refine gw_zreturn (gc k_Reader_takeWord_0 9 rfl) rfl (bi_01 _) ?_
    exact ⟨rfl, rfl, rcF.rf g, by rw [if_neg c7]; exact hP⟩
  · refine gw_aload_n (gc k_Reader_takeWord_0 6 rfl) rfl rfl ?_
    refine gw_xV1 (gc k_Reader_takeWord_0 7 rfl) y_Reader_advance ln_Reader_56 (c_advP hx hf hB p hp hP) rfl rfl (gAt hx rfl rfl) rfl rfl (fun r11 sh2 g11 hq11 => ?_)
    obtain ⟨rfl, rfl, hq1, hq2⟩ := hq11
    refine gw_iload_n (gc k_Reader_takeWord_0 8 rfl) rfl ?_
    refine gw_zreturn (gc k_Reader_takeWord_0 9 rfl) rfl (bi_01 _) ?_
    exact ⟨rfl, rfl, hq1, by rw [if_pos c7]; exact hq2⟩
set_option maxHeartbeats 1000000 in
theorem c_Reader_takeSign {sh : gS} {g : gM} (hx : gFix sh) (hf : gFin g) {B : Int → Int} {len : Int} (hB : rcB B len g) (p : Int) (hp : 0 ≤ p) (hP : rcP B len p g) (c : Int) (hc : 1 ≤ c ∧ c ≤ 127) : gTri f_Reader_takeSign 2 0 0 [(2, 151), (0, c)] sh g (fun x s2 g2 => x = some (0, bi (tT B len p = 100 + c)) ∧ s2 = sh ∧ rcF g g2 ∧ rcP B len (if tT B len p = 100 + c then p + 1 else p) g2) := by
  refine gTri.of (by decide +kernel) rfl ?_
  show gWP f_Reader_takeSign _ _ _ 0 [(2, 151), (0, c), (9, 0)] [] sh g _
  refine gw_aload_n (gc k_Reader_takeSign_0 0 rfl) rfl rfl ?_
  refine gw_iload_n (gc k_Reader_takeSign_0 1 rfl) rfl ?_
  refine gw_cV1 (gc k_Reader_takeSign_0 2 rfl) y_Reader_isSign ln_Reader_110 (c_Reader_isSign hx hf hB p hp hP c hc) rfl rfl (gAt hx rfl rfl) rfl rfl ?_
  refine gw_istore_2 (gc k_Reader_takeSign_0 3 rfl) rfl rfl ?_
  refine gw_iload_n (gc k_Reader_takeSign_0 4 rfl) rfl ?_
  refine gw_beq (tgt := 14) (gc k_Reader_takeSign_0 5 rfl) rfl (fun c7 => ?_) (fun c7 => ?_)
  · refine gw_iload_n (gc k_Reader_takeSign_0 8 rfl) rfl ?_
    refine gw_zreturn (gc k_Reader_takeSign_0 9 rfl) rfl (bi_01 _) ?_
    exact ⟨rfl, rfl, rcF.rf g, by rw [if_neg c7]; exact hP⟩
  · refine gw_aload_n (gc k_Reader_takeSign_0 6 rfl) rfl rfl ?_
    refine gw_xV1 (gc k_Reader_takeSign_0 7 rfl) y_Reader_advance ln_Reader_56 (c_advP hx hf hB p hp hP) rfl rfl (gAt hx rfl rfl) rfl rfl (fun r11 sh2 g11 hq11 => ?_)
    obtain ⟨rfl, rfl, hq1, hq2⟩ := hq11
    refine gw_iload_n (gc k_Reader_takeSign_0 8 rfl) rfl ?_
    refine gw_zreturn (gc k_Reader_takeSign_0 9 rfl) rfl (bi_01 _) ?_
    exact ⟨rfl, rfl, hq1, by rw [if_pos c7]; exact hq2⟩
set_option maxHeartbeats 4000000 in
theorem c_Reader_lawWord {sh : gS} {g : gM} (hx : gFix sh) (hf : gFin g) {B : Int → Int} {len : Int} (hB : rcB B len g) (p : Int) (hp : 0 ≤ p) (hP : rcP B len p g) : gTri f_Reader_lawWord 8 0 0 [(2, 151)] sh g (gR (some (0, if 8 ≤ tT B len p ∧ tT B len p ≤ 17 then lwI (tT B len p) else -1)) sh g) := by
  refine gTri.of (by decide +kernel) rfl ?_
  show gWP f_Reader_lawWord _ _ _ 0 [(2, 151)] [] sh g _
  refine gw_aload_n (gc k_Reader_lawWord_0 0 rfl) rfl rfl ?_
  refine gw_ldcS (k := 3) (gc k_Reader_lawWord_0 1 rfl) rfl rfl ?_
  refine gw_cV1 (gc k_Reader_lawWord_0 2 rfl) y_Reader_isWord ln_Reader_106 (c_Reader_isWord hx hf hB p hp hP 3 (by decide)) rfl rfl (gAt hx rfl rfl) rfl rfl ?_
  rw [show wc 3 = 8 from rfl]
  refine gw_beq (tgt := 11) (gc k_Reader_lawWord_0 3 rfl) rfl (fun c6 => ?_) (fun c6 => ?_)
  · refine gw_aload_n (gc k_Reader_lawWord_0 6 rfl) rfl rfl ?_
    refine gw_ldcS (k := 4) (gc k_Reader_lawWord_0 7 rfl) rfl rfl ?_
    refine gw_cV1 (gc k_Reader_lawWord_0 8 rfl) y_Reader_isWord ln_Reader_106 (c_Reader_isWord hx hf hB p hp hP 4 (by decide)) rfl rfl (gAt hx rfl rfl) rfl rfl ?_
    rw [show wc 4 = 15 from rfl]
    refine gw_beq (tgt := 22) (gc k_Reader_lawWord_0 9 rfl) rfl (fun c17 => ?_) (fun c17 => ?_)
    · refine gw_aload_n (gc k_Reader_lawWord_0 12 rfl) rfl rfl ?_
      refine gw_ldcS (k := 5) (gc k_Reader_lawWord_0 13 rfl) rfl rfl ?_
      refine gw_cV1 (gc k_Reader_lawWord_0 14 rfl) y_Reader_isWord ln_Reader_106 (c_Reader_isWord hx hf hB p hp hP 5 (by decide)) rfl rfl (gAt hx rfl rfl) rfl rfl ?_
      rw [show wc 5 = 16 from rfl]
      refine gw_beq (tgt := 33) (gc k_Reader_lawWord_0 15 rfl) rfl (fun c28 => ?_) (fun c28 => ?_)
      · refine gw_aload_n (gc k_Reader_lawWord_0 18 rfl) rfl rfl ?_
        refine gw_ldcS (k := 6) (gc k_Reader_lawWord_0 19 rfl) rfl rfl ?_
        refine gw_cV1 (gc k_Reader_lawWord_0 20 rfl) y_Reader_isWord ln_Reader_106 (c_Reader_isWord hx hf hB p hp hP 6 (by decide)) rfl rfl (gAt hx rfl rfl) rfl rfl ?_
        rw [show wc 6 = 9 from rfl]
        refine gw_beq (tgt := 44) (gc k_Reader_lawWord_0 21 rfl) rfl (fun c39 => ?_) (fun c39 => ?_)
        · refine gw_aload_n (gc k_Reader_lawWord_0 24 rfl) rfl rfl ?_
          refine gw_ldcS (k := 7) (gc k_Reader_lawWord_0 25 rfl) rfl rfl ?_
          refine gw_cV1 (gc k_Reader_lawWord_0 26 rfl) y_Reader_isWord ln_Reader_106 (c_Reader_isWord hx hf hB p hp hP 7 (by decide)) rfl rfl (gAt hx rfl rfl) rfl rfl ?_
          rw [show wc 7 = 10 from rfl]
          refine gw_beq (tgt := 55) (gc k_Reader_lawWord_0 27 rfl) rfl (fun c50 => ?_) (fun c50 => ?_)
          · refine gw_aload_n (gc k_Reader_lawWord_0 30 rfl) rfl rfl ?_
            refine gw_ldcS (k := 8) (gc k_Reader_lawWord_0 31 rfl) rfl rfl ?_
            refine gw_cV1 (gc k_Reader_lawWord_0 32 rfl) y_Reader_isWord ln_Reader_106 (c_Reader_isWord hx hf hB p hp hP 8 (by decide)) rfl rfl (gAt hx rfl rfl) rfl rfl ?_
            rw [show wc 8 = 11 from rfl]
            refine gw_beq (tgt := 66) (gc k_Reader_lawWord_0 33 rfl) rfl (fun c61 => ?_) (fun c61 => ?_)
            · refine gw_aload_n (gc k_Reader_lawWord_0 36 rfl) rfl rfl ?_
              refine gw_ldcS (k := 9) (gc k_Reader_lawWord_0 37 rfl) rfl rfl ?_
              refine gw_cV1 (gc k_Reader_lawWord_0 38 rfl) y_Reader_isWord ln_Reader_106 (c_Reader_isWord hx hf hB p hp hP 9 (by decide)) rfl rfl (gAt hx rfl rfl) rfl rfl ?_
              rw [show wc 9 = 12 from rfl]
              refine gw_beq (tgt := 78) (gc k_Reader_lawWord_0 39 rfl) rfl (fun c72 => ?_) (fun c72 => ?_)
              · refine gw_aload_n (gc k_Reader_lawWord_1 2 rfl) rfl rfl ?_
                refine gw_ldcS (k := 10) (gc k_Reader_lawWord_1 3 rfl) rfl rfl ?_
                refine gw_cV1 (gc k_Reader_lawWord_1 4 rfl) y_Reader_isWord ln_Reader_106 (c_Reader_isWord hx hf hB p hp hP 10 (by decide)) rfl rfl (gAt hx rfl rfl) rfl rfl ?_
                rw [show wc 10 = 13 from rfl]
                refine gw_beq (tgt := 90) (gc k_Reader_lawWord_1 5 rfl) rfl (fun c84 => ?_) (fun c84 => ?_)
                · refine gw_aload_n (gc k_Reader_lawWord_1 8 rfl) rfl rfl ?_
                  refine gw_ldcS (k := 11) (gc k_Reader_lawWord_1 9 rfl) rfl rfl ?_
                  refine gw_cV1 (gc k_Reader_lawWord_1 10 rfl) y_Reader_isWord ln_Reader_106 (c_Reader_isWord hx hf hB p hp hP 11 (by decide)) rfl rfl (gAt hx rfl rfl) rfl rfl ?_
                  rw [show wc 11 = 17 from rfl]
                  refine gw_beq (tgt := 102) (gc k_Reader_lawWord_1 11 rfl) rfl (fun c96 => ?_) (fun c96 => ?_)
                  · refine gw_aload_n (gc k_Reader_lawWord_1 14 rfl) rfl rfl ?_
                    refine gw_ldcS (k := 12) (gc k_Reader_lawWord_1 15 rfl) rfl rfl ?_
                    refine gw_cV1 (gc k_Reader_lawWord_1 16 rfl) y_Reader_isWord ln_Reader_106 (c_Reader_isWord hx hf hB p hp hP 12 (by decide)) rfl rfl (gAt hx rfl rfl) rfl rfl ?_
                    rw [show wc 12 = 14 from rfl]
                    refine gw_beq (tgt := 116) (gc k_Reader_lawWord_1 17 rfl) rfl (fun c108 => ?_) (fun c108 => ?_)
                    · refine gw_iconst (gc k_Reader_lawWord_1 20 rfl) ?_
                      refine gw_ireturn (gc k_Reader_lawWord_1 21 rfl) rfl ?_
                      exact ⟨gsi ((if_neg (by omega)).symm), rfl, rfl⟩
                    · refine gw_bipush (gc k_Reader_lawWord_1 18 rfl) (by decide) ?_
                      refine gw_goto (tgt := 117) (gc k_Reader_lawWord_1 19 rfl) rfl ?_
                      refine gw_ireturn (gc k_Reader_lawWord_1 21 rfl) rfl ?_
                      exact ⟨by rw [c108]; rfl, rfl, rfl⟩
                  · refine gw_bipush (gc k_Reader_lawWord_1 12 rfl) (by decide) ?_
                    refine gw_ireturn (gc k_Reader_lawWord_1 13 rfl) rfl ?_
                    exact ⟨by rw [c96]; rfl, rfl, rfl⟩
                · refine gw_bipush (gc k_Reader_lawWord_1 6 rfl) (by decide) ?_
                  refine gw_ireturn (gc k_Reader_lawWord_1 7 rfl) rfl ?_
                  exact ⟨by rw [c84]; rfl, rfl, rfl⟩
              · refine gw_bipush (gc k_Reader_lawWord_1 0 rfl) (by decide) ?_
                refine gw_ireturn (gc k_Reader_lawWord_1 1 rfl) rfl ?_
                exact ⟨by rw [c72]; rfl, rfl, rfl⟩
            · refine gw_iconst (gc k_Reader_lawWord_0 34 rfl) ?_
              refine gw_ireturn (gc k_Reader_lawWord_0 35 rfl) rfl ?_
              exact ⟨by rw [c61]; rfl, rfl, rfl⟩
          · refine gw_iconst (gc k_Reader_lawWord_0 28 rfl) ?_
            refine gw_ireturn (gc k_Reader_lawWord_0 29 rfl) rfl ?_
            exact ⟨by rw [c50]; rfl, rfl, rfl⟩
        · refine gw_iconst (gc k_Reader_lawWord_0 22 rfl) ?_
          refine gw_ireturn (gc k_Reader_lawWord_0 23 rfl) rfl ?_
          exact ⟨by rw [c39]; rfl, rfl, rfl⟩
      · refine gw_iconst (gc k_Reader_lawWord_0 16 rfl) ?_
        refine gw_ireturn (gc k_Reader_lawWord_0 17 rfl) rfl ?_
        exact ⟨by rw [c28]; rfl, rfl, rfl⟩
    · refine gw_iconst (gc k_Reader_lawWord_0 10 rfl) ?_
      refine gw_ireturn (gc k_Reader_lawWord_0 11 rfl) rfl ?_
      exact ⟨by rw [c17]; rfl, rfl, rfl⟩
  · refine gw_iconst (gc k_Reader_lawWord_0 4 rfl) ?_
    refine gw_ireturn (gc k_Reader_lawWord_0 5 rfl) rfl ?_
    exact ⟨by rw [c6]; rfl, rfl, rfl⟩
set_option maxHeartbeats 4000000 in
theorem c_Reader_orderWord {sh : gS} {g : gM} (hx : gFix sh) (hf : gFin g) {B : Int → Int} {len : Int} (hB : rcB B len g) (p : Int) (hp : 0 ≤ p) (hP : rcP B len p g) : gTri f_Reader_orderWord 8 0 0 [(2, 151)] sh g (gR (some (0, loW (tT B len p))) sh g) := by
  refine gTri.of (by decide +kernel) rfl ?_
  show gWP f_Reader_orderWord _ _ _ 0 [(2, 151)] [] sh g _
  refine gw_aload_n (gc k_Reader_orderWord_0 0 rfl) rfl rfl ?_
  refine gw_ldcS (k := 11) (gc k_Reader_orderWord_0 1 rfl) rfl rfl ?_
  refine gw_cV1 (gc k_Reader_orderWord_0 2 rfl) y_Reader_isWord ln_Reader_106 (c_Reader_isWord hx hf hB p hp hP 11 (by decide)) rfl rfl (gAt hx rfl rfl) rfl rfl ?_
  rw [show wc 11 = 17 from rfl]
  refine gw_beq (tgt := 11) (gc k_Reader_orderWord_0 3 rfl) rfl (fun c6 => ?_) (fun c6 => ?_)
  · refine gw_aload_n (gc k_Reader_orderWord_0 6 rfl) rfl rfl ?_
    refine gw_ldcS (k := 13) (gc k_Reader_orderWord_0 7 rfl) rfl rfl ?_
    refine gw_cV1 (gc k_Reader_orderWord_0 8 rfl) y_Reader_isWord ln_Reader_106 (c_Reader_isWord hx hf hB p hp hP 13 (by decide)) rfl rfl (gAt hx rfl rfl) rfl rfl ?_
    rw [show wc 13 = 18 from rfl]
    refine gw_beq (tgt := 22) (gc k_Reader_orderWord_0 9 rfl) rfl (fun c17 => ?_) (fun c17 => ?_)
    · refine gw_aload_n (gc k_Reader_orderWord_0 12 rfl) rfl rfl ?_
      refine gw_ldcS (k := 14) (gc k_Reader_orderWord_0 13 rfl) rfl rfl ?_
      refine gw_cV1 (gc k_Reader_orderWord_0 14 rfl) y_Reader_isWord ln_Reader_106 (c_Reader_isWord hx hf hB p hp hP 14 (by decide)) rfl rfl (gAt hx rfl rfl) rfl rfl ?_
      rw [show wc 14 = 19 from rfl]
      refine gw_beq (tgt := 33) (gc k_Reader_orderWord_0 15 rfl) rfl (fun c28 => ?_) (fun c28 => ?_)
      · refine gw_aload_n (gc k_Reader_orderWord_0 18 rfl) rfl rfl ?_
        refine gw_ldcS (k := 15) (gc k_Reader_orderWord_0 19 rfl) rfl rfl ?_
        refine gw_cV1 (gc k_Reader_orderWord_0 20 rfl) y_Reader_isWord ln_Reader_106 (c_Reader_isWord hx hf hB p hp hP 15 (by decide)) rfl rfl (gAt hx rfl rfl) rfl rfl ?_
        rw [show wc 15 = 20 from rfl]
        refine gw_beq (tgt := 44) (gc k_Reader_orderWord_0 21 rfl) rfl (fun c39 => ?_) (fun c39 => ?_)
        · refine gw_aload_n (gc k_Reader_orderWord_0 24 rfl) rfl rfl ?_
          refine gw_ldcS (k := 16) (gc k_Reader_orderWord_0 25 rfl) rfl rfl ?_
          refine gw_cV1 (gc k_Reader_orderWord_0 26 rfl) y_Reader_isWord ln_Reader_106 (c_Reader_isWord hx hf hB p hp hP 16 (by decide)) rfl rfl (gAt hx rfl rfl) rfl rfl ?_
          rw [show wc 16 = 21 from rfl]
          refine gw_beq (tgt := 55) (gc k_Reader_orderWord_0 27 rfl) rfl (fun c50 => ?_) (fun c50 => ?_)
          · refine gw_aload_n (gc k_Reader_orderWord_0 30 rfl) rfl rfl ?_
            refine gw_ldcS (k := 4) (gc k_Reader_orderWord_0 31 rfl) rfl rfl ?_
            refine gw_cV1 (gc k_Reader_orderWord_0 32 rfl) y_Reader_isWord ln_Reader_106 (c_Reader_isWord hx hf hB p hp hP 4 (by decide)) rfl rfl (gAt hx rfl rfl) rfl rfl ?_
            rw [show wc 4 = 15 from rfl]
            refine gw_beq (tgt := 66) (gc k_Reader_orderWord_0 33 rfl) rfl (fun c61 => ?_) (fun c61 => ?_)
            · refine gw_aload_n (gc k_Reader_orderWord_0 36 rfl) rfl rfl ?_
              refine gw_ldcS (k := 5) (gc k_Reader_orderWord_0 37 rfl) rfl rfl ?_
              refine gw_cV1 (gc k_Reader_orderWord_0 38 rfl) y_Reader_isWord ln_Reader_106 (c_Reader_isWord hx hf hB p hp hP 5 (by decide)) rfl rfl (gAt hx rfl rfl) rfl rfl ?_
              rw [show wc 5 = 16 from rfl]
              refine gw_beq (tgt := 80) (gc k_Reader_orderWord_0 39 rfl) rfl (fun c72 => ?_) (fun c72 => ?_)
              · refine gw_iconst (gc k_Reader_orderWord_1 2 rfl) ?_
                refine gw_ireturn (gc k_Reader_orderWord_1 3 rfl) rfl ?_
                exact ⟨gsi (by unfold loW; rw [if_neg (by omega), if_neg (by omega), if_neg (by omega), if_neg (by omega), if_neg (by omega), if_neg (by omega), if_neg (by omega)]), rfl, rfl⟩
              · refine gw_bipush (gc k_Reader_orderWord_1 0 rfl) (by decide) ?_
                refine gw_goto (tgt := 81) (gc k_Reader_orderWord_1 1 rfl) rfl ?_
                refine gw_ireturn (gc k_Reader_orderWord_1 3 rfl) rfl ?_
                exact ⟨by rw [c72]; rfl, rfl, rfl⟩
            · refine gw_iconst (gc k_Reader_orderWord_0 34 rfl) ?_
              refine gw_ireturn (gc k_Reader_orderWord_0 35 rfl) rfl ?_
              exact ⟨by rw [c61]; rfl, rfl, rfl⟩
          · refine gw_iconst (gc k_Reader_orderWord_0 28 rfl) ?_
            refine gw_ireturn (gc k_Reader_orderWord_0 29 rfl) rfl ?_
            exact ⟨by rw [c50]; rfl, rfl, rfl⟩
        · refine gw_iconst (gc k_Reader_orderWord_0 22 rfl) ?_
          refine gw_ireturn (gc k_Reader_orderWord_0 23 rfl) rfl ?_
          exact ⟨by rw [c39]; rfl, rfl, rfl⟩
      · refine gw_iconst (gc k_Reader_orderWord_0 16 rfl) ?_
        refine gw_ireturn (gc k_Reader_orderWord_0 17 rfl) rfl ?_
        exact ⟨by rw [c28]; rfl, rfl, rfl⟩
    · refine gw_iconst (gc k_Reader_orderWord_0 10 rfl) ?_
      refine gw_ireturn (gc k_Reader_orderWord_0 11 rfl) rfl ?_
      exact ⟨by rw [c17]; rfl, rfl, rfl⟩
  · refine gw_iconst (gc k_Reader_orderWord_0 4 rfl) ?_
    refine gw_ireturn (gc k_Reader_orderWord_0 5 rfl) rfl ?_
    exact ⟨by rw [c6]; rfl, rfl, rfl⟩
set_option maxHeartbeats 1000000 in
theorem c_Reader_step {sh : gS} {g : gM} (hx : gFix sh) (hf : gFin g) (op a : Int) (hl : 0 ≤ g 152 1 ∧ g 152 1 ≤ 399) : gTri f_Reader_step 1 0 0 [(2, 151), (0, op), (0, a)] sh g (gR (some (0, g 152 1)) sh (stM g op a)) := by
  refine gTri.of (by decide +kernel) rfl ?_
  show gWP f_Reader_step _ _ _ 0 [(2, 151), (0, op), (0, a), (9, 0)] [] sh g _
  refine gw_aload_n (gc k_Reader_step_0 0 rfl) rfl rfl ?_
  refine gw_getref (gc k_Reader_step_0 1 rfl) fl_Reader_12 (gAt hx rfl rfl) (gRf hf rfl rfl) ?_
  refine gw_getf 1 rfl (gc k_Reader_step_0 2 rfl) fl_Reader_49 (gAt hx rfl rfl) ?_
  refine gw_sipush (gc k_Reader_step_0 3 rfl) (by decide) ?_
  refine gw_mmin (gc k_Reader_step_0 4 rfl) y_Math_min ln_Reader_91 (by omega) rfl rfl ?_
  rw [if_neg (by omega)]
  refine gw_istore_3 (gc k_Reader_step_0 5 rfl) rfl rfl ?_
  refine gw_aload_n (gc k_Reader_step_0 6 rfl) rfl rfl ?_
  refine gw_getref (gc k_Reader_step_0 7 rfl) fl_Reader_12 (gAt hx rfl rfl) (gRf hf rfl rfl) ?_
  refine gw_getref (gc k_Reader_step_0 8 rfl) fl_Reader_209 (gAt hx rfl rfl) (gRf hf rfl rfl) ?_
  refine gw_iload_n (gc k_Reader_step_0 9 rfl) rfl ?_
  refine gw_iload_n (gc k_Reader_step_0 10 rfl) rfl ?_
  refine gw_iastF (gc k_Reader_step_0 11 rfl) (gAt hx rfl rfl) (by omega) hf rfl (fun hf => ?_)
  refine gw_aload_n (gc k_Reader_step_0 12 rfl) rfl rfl ?_
  refine gw_getref (gc k_Reader_step_0 13 rfl) fl_Reader_12 (gAt hx rfl rfl) (gRf hf rfl rfl) ?_
  refine gw_getref (gc k_Reader_step_0 14 rfl) fl_Reader_159 (gAt hx rfl rfl) (gRf hf rfl rfl) ?_
  refine gw_iload_n (gc k_Reader_step_0 15 rfl) rfl ?_
  refine gw_iload_n (gc k_Reader_step_0 16 rfl) rfl ?_
  refine gw_iastF (gc k_Reader_step_0 17 rfl) (gAt hx rfl rfl) (by omega) hf rfl (fun hf => ?_)
  refine gw_aload_n (gc k_Reader_step_0 18 rfl) rfl rfl ?_
  refine gw_getref (gc k_Reader_step_0 19 rfl) fl_Reader_12 (gAt hx rfl rfl) (gRf hf rfl rfl) ?_
  refine gw_iload_n (gc k_Reader_step_0 20 rfl) rfl ?_
  refine gw_iconst (gc k_Reader_step_0 21 rfl) ?_
  refine gw_iadd (gc k_Reader_step_0 22 rfl) ?_
  refine gw_putIK 1 rfl (gc k_Reader_step_0 23 rfl) fl_Reader_49 (gAt hx rfl rfl) hf rfl (fun hf => ?_)
  refine gw_iload_n (gc k_Reader_step_0 24 rfl) rfl ?_
  refine gw_ireturn (gc k_Reader_step_0 25 rfl) rfl ?_
  exact ⟨rfl, rfl, rfl⟩
set_option maxHeartbeats 1000000 in
theorem c_Reader_endPiece {sh : gS} {g : gM} (hx : gFix sh) (hf : gFin g) (c k : Int) (hc : 0 ≤ c ∧ c < 12) (hk : 0 ≤ k ∧ k ≤ 2) : gTri f_Reader_endPiece 0 0 0 [(2, 151), (0, c), (0, k)] sh g (gR none sh (gup g 155 (c * 3 + k + 1) (g 152 1))) := by
  refine gTri.of (by decide +kernel) rfl ?_
  show gWP f_Reader_endPiece _ _ _ 0 [(2, 151), (0, c), (0, k)] [] sh g _
  refine gw_aload_n (gc k_Reader_endPiece_0 0 rfl) rfl rfl ?_
  refine gw_getref (gc k_Reader_endPiece_0 1 rfl) fl_Reader_12 (gAt hx rfl rfl) (gRf hf rfl rfl) ?_
  refine gw_getref (gc k_Reader_endPiece_0 2 rfl) fl_Reader_53 (gAt hx rfl rfl) (gRf hf rfl rfl) ?_
  refine gw_iload_n (gc k_Reader_endPiece_0 3 rfl) rfl ?_
  refine gw_iconst (gc k_Reader_endPiece_0 4 rfl) ?_
  refine gw_imul (gc k_Reader_endPiece_0 5 rfl) ?_
  refine gw_iload_n (gc k_Reader_endPiece_0 6 rfl) rfl ?_
  refine gw_iadd (gc k_Reader_endPiece_0 7 rfl) ?_
  refine gw_iconst (gc k_Reader_endPiece_0 8 rfl) ?_
  refine gw_iadd (gc k_Reader_endPiece_0 9 rfl) ?_
  refine gw_aload_n (gc k_Reader_endPiece_0 10 rfl) rfl rfl ?_
  refine gw_getref (gc k_Reader_endPiece_0 11 rfl) fl_Reader_12 (gAt hx rfl rfl) (gRf hf rfl rfl) ?_
  refine gw_getf 1 rfl (gc k_Reader_endPiece_0 12 rfl) fl_Reader_49 (gAt hx rfl rfl) ?_
  refine gw_iastF (gc k_Reader_endPiece_0 13 rfl) (gAt hx rfl rfl) (by omega) hf rfl (fun hf => ?_)
  refine gw_return (gc k_Reader_endPiece_0 14 rfl) rfl ?_
  exact ⟨rfl, rfl, rfl⟩
