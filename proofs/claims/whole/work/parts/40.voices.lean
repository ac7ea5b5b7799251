/-! ===== what each note may cost, earn and be: by the pitch ahead and its own ===== -/
def vW (r : Int → Int) (n h p : Int) : Int → Int := askW (askM r n p (0 < n) h)
def vLeap (n h p : Int) : Int := if 0 < n then p - h else 0
def vBar (r : Int → Int) (n h p : Int) : Int := bi (tlR r (vW r n h p) 3 1 0 = 1)
def vPay (r : Int → Int) (n h p : Int) : Int := tlR r (vW r n h p) 1 999 (if vLeap n h p < 0 then -vLeap n h p else vLeap n h p)
def vPrice (r : Int → Int) (n h p : Int) : Int := if vBar r n h p = 1 then 0 else vPay r n h p
def vGain (r : Int → Int) (n h p : Int) : Int := if vBar r n h p = 1 then 0 else tlR r (vW r n h p) 2 99 1
def ntM (g : gM) (n here ahead : Int) : gM := gfr g 189 (fun y => if 0 ≤ y ∧ y < 10 then askM (g 179) n here (0 < n) ahead y else g 189 y)
theorem ntM_fn (g : gM) (n p h : Int) {a : Int} (ha : a ≠ 189) : ntM g n p h a = g a := gfr_fn _ _ _ ha
def ntOK (M : gM) (r : Int → Int) (n h p : Int) : Prop := M 179 = r ∧ ∀ j, 0 ≤ j → j < 10 → M 189 j = askM r n p (0 < n) h j
theorem ntM_ok (g : gM) (n h p : Int) : ntOK (ntM g n p h) (g 179) n h p := by
  refine ⟨ntM_fn g n p h (by decide), fun j h1 h2 => ?_⟩
  unfold ntM
  rw [gfr_s]
  exact if_pos ⟨h1, h2⟩
theorem ntOK.sc {M M2 : gM} {r : Int → Int} {n h p : Int} (hN : ntOK M r n h p) (hs : gSc M M2) : ntOK M2 r n h p := by
  refine ⟨(hs.fn (by decide)).trans hN.1, fun j h1 h2 => ?_⟩
  rw [hs.fn (by decide)]
  exact hN.2 j h1 h2
theorem ntOK.up {M : gM} {r : Int → Int} {n h p : Int} (hN : ntOK M r n h p) {a k v : Int} (h1 : (179 : Int) ≠ a) (h2 : (189 : Int) ≠ a) : ntOK (gup M a k v) r n h p := by
  refine ⟨(gup_fn _ _ _ _ h1).trans hN.1, fun j h3 h4 => ?_⟩
  rw [gup_fn _ _ _ _ h2]
  exact hN.2 j h3 h4
theorem askM_bd2 {r : Int → Int} (ho : rowOK r) (n h p : Int) (hn : 0 ≤ n ∧ n < 12) (hh : 0 ≤ h ∧ h ≤ 24) (hp : 0 ≤ p ∧ p ≤ 24) (j : Int) (h1 : 0 ≤ j) (h2 : j < 10) : -1000 ≤ askM r n p (0 < n) h j ∧ askM r n p (0 < n) h j ≤ 1000 := by
  have a2 := ro_pitch ho (12 + n) (by omega)
  have a3 := ro_day ho
  have a4 := ro_mood ho
  have a5 := bi_01 (n = r 41 - 1)
  unfold askM
  by_cases hp : 0 < n
  · have a7 := ro_pitch ho (12 + n - 1) (by omega)
    simp only [if_pos hp]
    repeat' split
    all_goals omega
  · simp only [if_neg hp]
    repeat' split
    all_goals omega
theorem c_note {sh : gS} {g : gM} (hx : gFix sh) (hf : gFin g) (n p h t : Int) (ht : (t = 1 ∧ 0 < n) ∨ (t = 0 ∧ ¬ 0 < n)) (hn : 0 ≤ n ∧ n < 12) (hm : 0 ≤ g 179 41 ∧ g 179 41 ≤ 12) : gTri f_Model_takesNote 1 0 0 [(2, 177), (0, n), (0, p), (0, t), (0, h)] sh g (gR none sh (ntM g n p h)) := by
  have q := c_Model_takesNote hx hf n p h (0 < n) hn (fun z => z) hm
  rcases ht with ⟨rfl, h2⟩ | ⟨rfl, h2⟩
  · rw [bi_1 h2] at q; exact q
  · rw [bi_0 h2] at q; exact q
theorem nt_W {M : gM} {r : Int → Int} {n h p : Int} (hN : ntOK M r n h p) : askW (M 189) = vW r n h p := askW_in hN.2
theorem c_payG {sh : gS} {M : gM} (hx : gFix sh) (hf : gFin M) {r : Int → Int} (ho : rowOK r) (hl : lawsOK r) {n h p : Int} (hn : 0 ≤ n ∧ n < 12) (hh : 0 ≤ h ∧ h ≤ 24) (hp : 0 ≤ p ∧ p ≤ 24) (hN : ntOK M r n h p) : gTri f_Model_costsNow 43 0 0 [(2, 177)] sh M (fun x s2 g2 => x = some (0, vPay r n h p) ∧ s2 = sh ∧ gSc M g2) := by
  have q := c_Model_costsNow hx hf (by rw [hN.1]; exact ho) (fun j a c => by rw [hN.2 j a c]; exact askM_bd2 ho n h p hn hh hp j a c) (by rw [hN.1]; exact hl)
  rw [hN.1, nt_W hN, show M 189 3 = vLeap n h p from hN.2 3 (by decide) (by decide)] at q
  exact q
theorem c_gainG {sh : gS} {M : gM} (hx : gFix sh) (hf : gFin M) {r : Int → Int} (ho : rowOK r) (hl : lawsOK r) {n h p : Int} (hn : 0 ≤ n ∧ n < 12) (hh : 0 ≤ h ∧ h ≤ 24) (hp : 0 ≤ p ∧ p ≤ 24) (hN : ntOK M r n h p) : gTri f_Model_earnsNow 43 0 0 [(2, 177)] sh M (fun x s2 g2 => x = some (0, tlR r (vW r n h p) 2 99 1) ∧ s2 = sh ∧ gSc M g2) := by
  have q := c_Model_earnsNow hx hf (by rw [hN.1]; exact ho) (fun j a c => by rw [hN.2 j a c]; exact askM_bd2 ho n h p hn hh hp j a c) (by rw [hN.1]; exact hl)
  rw [hN.1, nt_W hN] at q
  exact q
theorem c_barG {sh : gS} {M : gM} (hx : gFix sh) (hf : gFin M) {r : Int → Int} (ho : rowOK r) (hl : lawsOK r) {n h p : Int} (hn : 0 ≤ n ∧ n < 12) (hh : 0 ≤ h ∧ h ≤ 24) (hp : 0 ≤ p ∧ p ≤ 24) (hN : ntOK M r n h p) : gTri f_Model_isBarred 43 0 0 [(2, 177)] sh M (fun x s2 g2 => x = some (0, vBar r n h p) ∧ s2 = sh ∧ gSc M g2) := by
  have q := c_Model_isBarred hx hf (by rw [hN.1]; exact ho) (fun j a c => by rw [hN.2 j a c]; exact askM_bd2 ho n h p hn hh hp j a c) (by rw [hN.1]; exact hl)
  rw [hN.1, nt_W hN] at q
  exact q
theorem vBar_01 (r : Int → Int) (n h p : Int) : vBar r n h p = 0 ∨ vBar r n h p = 1 := bi_01 _
theorem gup_val (g : gM) (a k v a2 k2 : Int) : gup g a k v a2 k2 = if a2 = a ∧ k2 = k then v else g a2 k2 := by
  by_cases h : a2 = a
  · subst h
    by_cases h2 : k2 = k
    · subst h2
      rw [gup_s, if_pos ⟨rfl, rfl⟩]
    · rw [gup_k _ _ _ _ h2, if_neg (fun z => h2 z.2)]
  · rw [gup_fn _ _ _ _ h, if_neg (fun z => h z.1)]
/-- one more place laid -/
def vSet (g : gM) (idx c pr ga : Int) (g3 : gM) : Prop := ∀ a k, ¬ (a = 177 ∧ 22 ≤ k ∧ k ≤ 25) → a ≠ 189 → g3 a k = if a = 193 ∧ k = idx then ga else if a = 192 ∧ k = idx then pr else if a = 194 ∧ k = idx then c else g a k
theorem vSet_bar {g g1 : gM} {n p h idx : Int} (hs : gSc (ntM g n p h) g1) : vSet g idx 0 0 0 (gup (gup (gup g1 194 idx 0) 192 idx 0) 193 idx 0) := by
  intro a k h1 h2
  rw [gup_val, gup_val, gup_val, hs a k h1, ntM_fn _ _ _ _ h2]
theorem vSet_can {g g1 g2 g3 : gM} {n p h idx pr ga : Int} (hs : gSc (ntM g n p h) g1) (hs2 : gSc (gup g1 194 idx 1) g2) (hs3 : gSc (gup g2 192 idx pr) g3) : vSet g idx 1 pr ga (gup g3 193 idx ga) := by
  intro a k h1 h2
  rw [gup_val, hs3 a k h1, gup_val, hs2 a k h1, gup_val, hs a k h1, ntM_fn _ _ _ _ h2]
/-- note n laid up to place j -/
def vUp (g0 : gM) (n j : Int) (g : gM) : Prop :=
  (∀ a k, ¬ (a = 177 ∧ 22 ≤ k ∧ k ≤ 25) → a ≠ 189 → (¬ (a = 192 ∨ a = 193 ∨ a = 194) ∨ k < 625 * n ∨ 625 * n + j ≤ k) → g a k = g0 a k) ∧
  (∀ h p, 0 ≤ h → 0 ≤ p → p ≤ 24 → 25 * h + p < j → g 194 (625 * n + 25 * h + p) = 1 - vBar (g0 179) n h p ∧ g 192 (625 * n + 25 * h + p) = vPrice (g0 179) n h p ∧ g 193 (625 * n + 25 * h + p) = vGain (g0 179) n h p)
theorem vUp.row {g0 g : gM} {n j : Int} (h : vUp g0 n j g) : g 179 = g0 179 := funext fun k => h.1 179 k (fun z => by omega) (by decide) (Or.inl (by decide))
theorem vUp.fin {g0 g : gM} {n j : Int} (h : vUp g0 n j g) (hf : gFin g0) : gFin g := hf.of fun a k z => h.1 _ _ (fun q => z (by
    have : a = 177 := by omega
    subst this
    exact gref_sc (by omega) (by omega))) (fun q => z (by
    have : a = 189 := by omega
    subst this
    exact gref_189 k)) (Or.inl (fun q => z (by
    rcases (show a = 192 ∨ a = 193 ∨ a = 194 by omega) with rfl | rfl | rfl <;> rfl)))
theorem vUp.step {g0 g g3 : gM} {n h p : Int} (hs : vUp g0 n (25 * h + p) g) (hh : 0 ≤ h) (hp : 0 ≤ p ∧ p ≤ 24) (h3 : vSet g (625 * n + 25 * h + p) (1 - vBar (g0 179) n h p) (vPrice (g0 179) n h p) (vGain (g0 179) n h p) g3) : vUp g0 n (25 * h + p + 1) g3 := by
  refine ⟨fun a k h1 h2 h4 => ?_, fun h' p' a1 a2 a3 a4 => ?_⟩
  · rw [h3 a k h1 h2, if_neg (by omega), if_neg (by omega), if_neg (by omega)]
    exact hs.1 a k h1 h2 (by omega)
  · by_cases e : 25 * h' + p' < 25 * h + p
    · have q := hs.2 h' p' a1 a2 a3 e
      refine ⟨?_, ?_, ?_⟩
      · rw [h3 194 _ (fun z => by omega) (by decide), if_neg (by omega), if_neg (by omega), if_neg (by omega)]; exact q.1
      · rw [h3 192 _ (fun z => by omega) (by decide), if_neg (by omega), if_neg (by omega), if_neg (by omega)]; exact q.2.1
      · rw [h3 193 _ (fun z => by omega) (by decide), if_neg (by omega), if_neg (by omega), if_neg (by omega)]; exact q.2.2
    · obtain rfl : h' = h := by omega
      obtain rfl : p' = p := by omega
      refine ⟨?_, ?_, ?_⟩
      · rw [h3 194 _ (fun z => by omega) (by decide), if_neg (by omega), if_neg (by omega), if_pos ⟨rfl, rfl⟩]
      · rw [h3 192 _ (fun z => by omega) (by decide), if_neg (by omega), if_pos ⟨rfl, rfl⟩]
      · rw [h3 193 _ (fun z => by omega) (by decide), if_pos ⟨rfl, rfl⟩]
set_option maxHeartbeats 2000000 in
theorem note_step {sh : gS} {g0 : gM} (hx : gFix sh) (hf0 : gFin g0) (ho : rowOK (g0 179)) (hl : lawsOK (g0 179)) (n h p : Int) (hn : 0 ≤ n ∧ n < 12) (hh : 0 ≤ h ∧ h ≤ 24) (hp : 0 ≤ p ∧ p ≤ 25) {g : gM} (hs : vUp g0 n (25 * h + p) g) (x4 : gV) (hlt : p < 25) {Q : gQ} (K : ∀ (g3 : gM) (y4 : gV), vUp g0 n (25 * h + p + 1) g3 → gWP f_Model_laysNote 44 0 0 18 [(2, 177), (0, n), (0, h), (0, p + 1), y4] [] sh g3 Q) : gWP f_Model_laysNote 44 0 0 18 [(2, 177), (0, n), (0, h), (0, p), x4] [] sh g Q := by
  have hf := hs.fin hf0
  have em := hs.row
  have hm := ro_many ho
  have hbr := vBar_01 (g0 179) n h p
  show gWP f_Model_laysNote _ _ _ 18 [(2, 177), (0, n), (0, h), (0, p), x4] [] sh g _
  skip
  refine gw_iload_n (gc k_Model_laysNote_0 11 rfl) rfl ?_
  refine gw_bipush (gc k_Model_laysNote_0 12 rfl) (by decide) ?_
  refine gw_icmp_ge (tgt := 123) (gc k_Model_laysNote_0 13 rfl) rfl (by omega) (fun c21 => ?_) (fun c21 => ?_)
  · exact absurd c21 (by omega)
  · refine gw_aload_n (gc k_Model_laysNote_0 14 rfl) rfl rfl ?_
    refine gw_iload_n (gc k_Model_laysNote_0 15 rfl) rfl ?_
    refine gw_iload_n (gc k_Model_laysNote_0 16 rfl) rfl ?_
    refine gw_iload_n (gc k_Model_laysNote_0 17 rfl) rfl ?_
    refine gw_if_le (tgt := 35) (gc k_Model_laysNote_0 18 rfl) rfl (by omega) (fun c28 => ?_) (fun c28 => ?_)
    · refine gw_iconst (gc k_Model_laysNote_0 21 rfl) ?_
      refine gw_iload_n (gc k_Model_laysNote_0 22 rfl) rfl ?_
      refine gw_cV0 (gc k_Model_laysNote_0 23 rfl) y_Model_takesNote ln_Model_321 (c_note hx hf n p h 0 (by omega) hn (by rw [em]; exact hm)) rfl rfl (gAt hx rfl rfl) rfl rfl ?_
      have hf := (hf.fr gref_189 : gFin (ntM g n p h))
      have hN := ntM_ok g n h p
      rw [em] at hN
      refine gw_iload_n (gc k_Model_laysNote_0 24 rfl) rfl ?_
      refine gw_iload_n (gc k_Model_laysNote_0 25 rfl) rfl ?_
      refine gw_iload_n (gc k_Model_laysNote_0 26 rfl) rfl ?_
      refine gw_cS1 (gc k_Model_laysNote_0 27 rfl) y_Model_noteAt ln_Model_354 (c_Model_noteAt n h p) rfl rfl rfl rfl ?_
      refine gw_istore_4 (gc k_Model_laysNote_0 28 rfl) rfl rfl ?_
      refine gw_aload_n (gc k_Model_laysNote_0 29 rfl) rfl rfl ?_
      refine gw_getref (gc k_Model_laysNote_0 30 rfl) fl_Model_78 (gAt hx rfl rfl) (gRf hf rfl rfl) ?_
      refine gw_iload (gc k_Model_laysNote_0 31 rfl) rfl ?_
      refine gw_aload_n (gc k_Model_laysNote_0 32 rfl) rfl rfl ?_
      refine gw_xV1 (gc k_Model_laysNote_0 33 rfl) y_Model_isBarred ln_Model_137 (c_barG hx hf ho hl hn hh (by omega) hN) rfl rfl (gAt hx rfl rfl) rfl rfl (fun r55 sh2 g55 hq55 => ?_)
      obtain ⟨rfl, rfl, hq1⟩ := hq55
      have hf := hf.sc hq1
      have hN := hN.sc hq1
      refine gw_if_ne (tgt := 65) (gc k_Model_laysNote_0 34 rfl) rfl (by omega) (fun c58 => ?_) (fun c58 => ?_)
      · refine gw_iconst (gc k_Model_laysNote_0 37 rfl) ?_
        refine gw_zastF (gc k_Model_laysNote_0 38 rfl) (gAt hx rfl rfl) (by omega) (by omega) hf rfl (fun hf => ?_)
        have hN := hN.up (a := 194) (k := 625 * n + 25 * h + p) (v := 0) (by decide) (by decide)
        have hC := gup_s g55 194 (625 * n + 25 * h + p) 0
        refine gw_aload_n (gc k_Model_laysNote_0 39 rfl) rfl rfl ?_
        refine gw_getref (gc k_Model_laysNote_1 0 rfl) fl_Model_72 (gAt hx rfl rfl) (gRf hf rfl rfl) ?_
        refine gw_iload (gc k_Model_laysNote_1 1 rfl) rfl ?_
        refine gw_aload_n (gc k_Model_laysNote_1 2 rfl) rfl rfl ?_
        refine gw_getref (gc k_Model_laysNote_1 3 rfl) fl_Model_78 (gAt hx rfl rfl) (gRf hf rfl rfl) ?_
        refine gw_iload (gc k_Model_laysNote_1 4 rfl) rfl ?_
        refine gw_zald (gc k_Model_laysNote_1 5 rfl) (gAt hx rfl rfl) (by omega) ?_
        rw [gup_s]
        refine gw_if_eq (tgt := 90) (gc k_Model_laysNote_1 6 rfl) rfl (by omega) (fun c80 => ?_) (fun c80 => ?_)
        · refine gw_iconst (gc k_Model_laysNote_1 10 rfl) ?_
          refine gw_iastF (gc k_Model_laysNote_1 11 rfl) (gAt hx rfl rfl) (by omega) hf rfl (fun hf => ?_)
          have hN := hN.up (a := 192) (k := 625 * n + 25 * h + p) (v := 0) (by decide) (by decide)
          refine gw_aload_n (gc k_Model_laysNote_1 12 rfl) rfl rfl ?_
          refine gw_getref (gc k_Model_laysNote_1 13 rfl) fl_Model_75 (gAt hx rfl rfl) (gRf hf rfl rfl) ?_
          refine gw_iload (gc k_Model_laysNote_1 14 rfl) rfl ?_
          refine gw_aload_n (gc k_Model_laysNote_1 15 rfl) rfl rfl ?_
          refine gw_getref (gc k_Model_laysNote_1 16 rfl) fl_Model_78 (gAt hx rfl rfl) (gRf hf rfl rfl) ?_
          refine gw_iload (gc k_Model_laysNote_1 17 rfl) rfl ?_
          refine gw_zald (gc k_Model_laysNote_1 18 rfl) (gAt hx rfl rfl) (by omega) ?_
          rw [gup_fn _ _ _ _ (by decide), hC]
          refine gw_if_eq (tgt := 115) (gc k_Model_laysNote_1 19 rfl) rfl (by omega) (fun c105 => ?_) (fun c105 => ?_)
          · refine gw_iconst (gc k_Model_laysNote_1 23 rfl) ?_
            refine gw_iastF (gc k_Model_laysNote_1 24 rfl) (gAt hx rfl rfl) (by omega) hf rfl (fun hf => ?_)
            refine gw_iinc_3 (gc k_Model_laysNote_1 25 rfl) rfl rfl ?_
            refine gw_goto (tgt := 18) (gc k_Model_laysNote_1 26 rfl) rfl ?_
            refine K _ _ (hs.step hh.1 (by omega) ?_)
            rw [show 1 - vBar (g0 179) n h p = 0 by omega, show vPrice (g0 179) n h p = 0 from if_pos (by omega), show vGain (g0 179) n h p = 0 from if_pos (by omega)]
            exact vSet_bar hq1
          · exact absurd rfl c105
        · exact absurd rfl c80
      · refine gw_iconst (gc k_Model_laysNote_0 35 rfl) ?_
        refine gw_goto (tgt := 66) (gc k_Model_laysNote_0 36 rfl) rfl ?_
        refine gw_zastF (gc k_Model_laysNote_0 38 rfl) (gAt hx rfl rfl) (by omega) (by omega) hf rfl (fun hf => ?_)
        have hN := hN.up (a := 194) (k := 625 * n + 25 * h + p) (v := 1) (by decide) (by decide)
        have hC := gup_s g55 194 (625 * n + 25 * h + p) 1
        refine gw_aload_n (gc k_Model_laysNote_0 39 rfl) rfl rfl ?_
        refine gw_getref (gc k_Model_laysNote_1 0 rfl) fl_Model_72 (gAt hx rfl rfl) (gRf hf rfl rfl) ?_
        refine gw_iload (gc k_Model_laysNote_1 1 rfl) rfl ?_
        refine gw_aload_n (gc k_Model_laysNote_1 2 rfl) rfl rfl ?_
        refine gw_getref (gc k_Model_laysNote_1 3 rfl) fl_Model_78 (gAt hx rfl rfl) (gRf hf rfl rfl) ?_
        refine gw_iload (gc k_Model_laysNote_1 4 rfl) rfl ?_
        refine gw_zald (gc k_Model_laysNote_1 5 rfl) (gAt hx rfl rfl) (by omega) ?_
        rw [gup_s]
        refine gw_if_eq (tgt := 90) (gc k_Model_laysNote_1 6 rfl) rfl (by omega) (fun c80 => ?_) (fun c80 => ?_)
        · exact absurd c80 (by decide)
        · refine gw_aload_n (gc k_Model_laysNote_1 7 rfl) rfl rfl ?_
          refine gw_xV1 (gc k_Model_laysNote_1 8 rfl) y_Model_costsNow ln_Model_131 (c_payG hx hf ho hl hn hh (by omega) hN) rfl rfl (gAt hx rfl rfl) rfl rfl (fun r84 sh2 g84 hq84 => ?_)
          obtain ⟨rfl, rfl, hq2⟩ := hq84
          have hf := hf.sc hq2
          have hN := hN.sc hq2
          have hC := (congrFun (hq2.fn (by decide : (194 : Int) ≠ 177)) _).trans hC
          refine gw_goto (tgt := 91) (gc k_Model_laysNote_1 9 rfl) rfl ?_
          refine gw_iastF (gc k_Model_laysNote_1 11 rfl) (gAt hx rfl rfl) (by omega) hf rfl (fun hf => ?_)
          have hN := hN.up (a := 192) (k := 625 * n + 25 * h + p) (v := vPay (g0 179) n h p) (by decide) (by decide)
          refine gw_aload_n (gc k_Model_laysNote_1 12 rfl) rfl rfl ?_
          refine gw_getref (gc k_Model_laysNote_1 13 rfl) fl_Model_75 (gAt hx rfl rfl) (gRf hf rfl rfl) ?_
          refine gw_iload (gc k_Model_laysNote_1 14 rfl) rfl ?_
          refine gw_aload_n (gc k_Model_laysNote_1 15 rfl) rfl rfl ?_
          refine gw_getref (gc k_Model_laysNote_1 16 rfl) fl_Model_78 (gAt hx rfl rfl) (gRf hf rfl rfl) ?_
          refine gw_iload (gc k_Model_laysNote_1 17 rfl) rfl ?_
          refine gw_zald (gc k_Model_laysNote_1 18 rfl) (gAt hx rfl rfl) (by omega) ?_
          rw [gup_fn _ _ _ _ (by decide), hC]
          refine gw_if_eq (tgt := 115) (gc k_Model_laysNote_1 19 rfl) rfl (by omega) (fun c105 => ?_) (fun c105 => ?_)
          · exact absurd c105 (by decide)
          · refine gw_aload_n (gc k_Model_laysNote_1 20 rfl) rfl rfl ?_
            refine gw_xV1 (gc k_Model_laysNote_1 21 rfl) y_Model_earnsNow ln_Model_134 (c_gainG hx hf ho hl hn hh (by omega) hN) rfl rfl (gAt hx rfl rfl) rfl rfl (fun r109 sh2 g109 hq109 => ?_)
            obtain ⟨rfl, rfl, hq3⟩ := hq109
            have hf := hf.sc hq3
            refine gw_goto (tgt := 116) (gc k_Model_laysNote_1 22 rfl) rfl ?_
            refine gw_iastF (gc k_Model_laysNote_1 24 rfl) (gAt hx rfl rfl) (by omega) hf rfl (fun hf => ?_)
            refine gw_iinc_3 (gc k_Model_laysNote_1 25 rfl) rfl rfl ?_
            refine gw_goto (tgt := 18) (gc k_Model_laysNote_1 26 rfl) rfl ?_
            refine K _ _ (hs.step hh.1 (by omega) ?_)
            rw [show 1 - vBar (g0 179) n h p = 1 by omega, show vPrice (g0 179) n h p = vPay (g0 179) n h p from if_neg (by omega), show vGain (g0 179) n h p = tlR (g0 179) (vW (g0 179) n h p) 2 99 1 from if_neg (by omega)]
            exact vSet_can hq1 hq2 hq3
    · refine gw_iconst (gc k_Model_laysNote_0 19 rfl) ?_
      refine gw_goto (tgt := 36) (gc k_Model_laysNote_0 20 rfl) rfl ?_
      refine gw_iload_n (gc k_Model_laysNote_0 22 rfl) rfl ?_
      refine gw_cV0 (gc k_Model_laysNote_0 23 rfl) y_Model_takesNote ln_Model_321 (c_note hx hf n p h 1 (by omega) hn (by rw [em]; exact hm)) rfl rfl (gAt hx rfl rfl) rfl rfl ?_
      have hf := (hf.fr gref_189 : gFin (ntM g n p h))
      have hN := ntM_ok g n h p
      rw [em] at hN
      refine gw_iload_n (gc k_Model_laysNote_0 24 rfl) rfl ?_
      refine gw_iload_n (gc k_Model_laysNote_0 25 rfl) rfl ?_
      refine gw_iload_n (gc k_Model_laysNote_0 26 rfl) rfl ?_
      refine gw_cS1 (gc k_Model_laysNote_0 27 rfl) y_Model_noteAt ln_Model_354 (c_Model_noteAt n h p) rfl rfl rfl rfl ?_
      refine gw_istore_4 (gc k_Model_laysNote_0 28 rfl) rfl rfl ?_
      refine gw_aload_n (gc k_Model_laysNote_0 29 rfl) rfl rfl ?_
      refine gw_getref (gc k_Model_laysNote_0 30 rfl) fl_Model_78 (gAt hx rfl rfl) (gRf hf rfl rfl) ?_
      refine gw_iload (gc k_Model_laysNote_0 31 rfl) rfl ?_
      refine gw_aload_n (gc k_Model_laysNote_0 32 rfl) rfl rfl ?_
      refine gw_xV1 (gc k_Model_laysNote_0 33 rfl) y_Model_isBarred ln_Model_137 (c_barG hx hf ho hl hn hh (by omega) hN) rfl rfl (gAt hx rfl rfl) rfl rfl (fun r55 sh2 g55 hq55 => ?_)
      obtain ⟨rfl, rfl, hq1⟩ := hq55
      have hf := hf.sc hq1
      have hN := hN.sc hq1
      refine gw_if_ne (tgt := 65) (gc k_Model_laysNote_0 34 rfl) rfl (by omega) (fun c58 => ?_) (fun c58 => ?_)
      · refine gw_iconst (gc k_Model_laysNote_0 37 rfl) ?_
        refine gw_zastF (gc k_Model_laysNote_0 38 rfl) (gAt hx rfl rfl) (by omega) (by omega) hf rfl (fun hf => ?_)
        have hN := hN.up (a := 194) (k := 625 * n + 25 * h + p) (v := 0) (by decide) (by decide)
        have hC := gup_s g55 194 (625 * n + 25 * h + p) 0
        refine gw_aload_n (gc k_Model_laysNote_0 39 rfl) rfl rfl ?_
        refine gw_getref (gc k_Model_laysNote_1 0 rfl) fl_Model_72 (gAt hx rfl rfl) (gRf hf rfl rfl) ?_
        refine gw_iload (gc k_Model_laysNote_1 1 rfl) rfl ?_
        refine gw_aload_n (gc k_Model_laysNote_1 2 rfl) rfl rfl ?_
        refine gw_getref (gc k_Model_laysNote_1 3 rfl) fl_Model_78 (gAt hx rfl rfl) (gRf hf rfl rfl) ?_
        refine gw_iload (gc k_Model_laysNote_1 4 rfl) rfl ?_
        refine gw_zald (gc k_Model_laysNote_1 5 rfl) (gAt hx rfl rfl) (by omega) ?_
        rw [gup_s]
        refine gw_if_eq (tgt := 90) (gc k_Model_laysNote_1 6 rfl) rfl (by omega) (fun c80 => ?_) (fun c80 => ?_)
        · refine gw_iconst (gc k_Model_laysNote_1 10 rfl) ?_
          refine gw_iastF (gc k_Model_laysNote_1 11 rfl) (gAt hx rfl rfl) (by omega) hf rfl (fun hf => ?_)
          have hN := hN.up (a := 192) (k := 625 * n + 25 * h + p) (v := 0) (by decide) (by decide)
          refine gw_aload_n (gc k_Model_laysNote_1 12 rfl) rfl rfl ?_
          refine gw_getref (gc k_Model_laysNote_1 13 rfl) fl_Model_75 (gAt hx rfl rfl) (gRf hf rfl rfl) ?_
          refine gw_iload (gc k_Model_laysNote_1 14 rfl) rfl ?_
          refine gw_aload_n (gc k_Model_laysNote_1 15 rfl) rfl rfl ?_
          refine gw_getref (gc k_Model_laysNote_1 16 rfl) fl_Model_78 (gAt hx rfl rfl) (gRf hf rfl rfl) ?_
          refine gw_iload (gc k_Model_laysNote_1 17 rfl) rfl ?_
          refine gw_zald (gc k_Model_laysNote_1 18 rfl) (gAt hx rfl rfl) (by omega) ?_
          rw [gup_fn _ _ _ _ (by decide), hC]
          refine gw_if_eq (tgt := 115) (gc k_Model_laysNote_1 19 rfl) rfl (by omega) (fun c105 => ?_) (fun c105 => ?_)
          · refine gw_iconst (gc k_Model_laysNote_1 23 rfl) ?_
            refine gw_iastF (gc k_Model_laysNote_1 24 rfl) (gAt hx rfl rfl) (by omega) hf rfl (fun hf => ?_)
            refine gw_iinc_3 (gc k_Model_laysNote_1 25 rfl) rfl rfl ?_
            refine gw_goto (tgt := 18) (gc k_Model_laysNote_1 26 rfl) rfl ?_
            refine K _ _ (hs.step hh.1 (by omega) ?_)
            rw [show 1 - vBar (g0 179) n h p = 0 by omega, show vPrice (g0 179) n h p = 0 from if_pos (by omega), show vGain (g0 179) n h p = 0 from if_pos (by omega)]
            exact vSet_bar hq1
          · exact absurd rfl c105
        · exact absurd rfl c80
      · refine gw_iconst (gc k_Model_laysNote_0 35 rfl) ?_
        refine gw_goto (tgt := 66) (gc k_Model_laysNote_0 36 rfl) rfl ?_
        refine gw_zastF (gc k_Model_laysNote_0 38 rfl) (gAt hx rfl rfl) (by omega) (by omega) hf rfl (fun hf => ?_)
        have hN := hN.up (a := 194) (k := 625 * n + 25 * h + p) (v := 1) (by decide) (by decide)
        have hC := gup_s g55 194 (625 * n + 25 * h + p) 1
        refine gw_aload_n (gc k_Model_laysNote_0 39 rfl) rfl rfl ?_
        refine gw_getref (gc k_Model_laysNote_1 0 rfl) fl_Model_72 (gAt hx rfl rfl) (gRf hf rfl rfl) ?_
        refine gw_iload (gc k_Model_laysNote_1 1 rfl) rfl ?_
        refine gw_aload_n (gc k_Model_laysNote_1 2 rfl) rfl rfl ?_
        refine gw_getref (gc k_Model_laysNote_1 3 rfl) fl_Model_78 (gAt hx rfl rfl) (gRf hf rfl rfl) ?_
        refine gw_iload (gc k_Model_laysNote_1 4 rfl) rfl ?_
        refine gw_zald (gc k_Model_laysNote_1 5 rfl) (gAt hx rfl rfl) (by omega) ?_
        rw [gup_s]
        refine gw_if_eq (tgt := 90) (gc k_Model_laysNote_1 6 rfl) rfl (by omega) (fun c80 => ?_) (fun c80 => ?_)
        · exact absurd c80 (by decide)
        · refine gw_aload_n (gc k_Model_laysNote_1 7 rfl) rfl rfl ?_
          refine gw_xV1 (gc k_Model_laysNote_1 8 rfl) y_Model_costsNow ln_Model_131 (c_payG hx hf ho hl hn hh (by omega) hN) rfl rfl (gAt hx rfl rfl) rfl rfl (fun r84 sh2 g84 hq84 => ?_)
          obtain ⟨rfl, rfl, hq2⟩ := hq84
          have hf := hf.sc hq2
          have hN := hN.sc hq2
          have hC := (congrFun (hq2.fn (by decide : (194 : Int) ≠ 177)) _).trans hC
          refine gw_goto (tgt := 91) (gc k_Model_laysNote_1 9 rfl) rfl ?_
          refine gw_iastF (gc k_Model_laysNote_1 11 rfl) (gAt hx rfl rfl) (by omega) hf rfl (fun hf => ?_)
          have hN := hN.up (a := 192) (k := 625 * n + 25 * h + p) (v := vPay (g0 179) n h p) (by decide) (by decide)
          refine gw_aload_n (gc k_Model_laysNote_1 12 rfl) rfl rfl ?_
          refine gw_getref (gc k_Model_laysNote_1 13 rfl) fl_Model_75 (gAt hx rfl rfl) (gRf hf rfl rfl) ?_
          refine gw_iload (gc k_Model_laysNote_1 14 rfl) rfl ?_
          refine gw_aload_n (gc k_Model_laysNote_1 15 rfl) rfl rfl ?_
          refine gw_getref (gc k_Model_laysNote_1 16 rfl) fl_Model_78 (gAt hx rfl rfl) (gRf hf rfl rfl) ?_
          refine gw_iload (gc k_Model_laysNote_1 17 rfl) rfl ?_
          refine gw_zald (gc k_Model_laysNote_1 18 rfl) (gAt hx rfl rfl) (by omega) ?_
          rw [gup_fn _ _ _ _ (by decide), hC]
          refine gw_if_eq (tgt := 115) (gc k_Model_laysNote_1 19 rfl) rfl (by omega) (fun c105 => ?_) (fun c105 => ?_)
          · exact absurd c105 (by decide)
          · refine gw_aload_n (gc k_Model_laysNote_1 20 rfl) rfl rfl ?_
            refine gw_xV1 (gc k_Model_laysNote_1 21 rfl) y_Model_earnsNow ln_Model_134 (c_gainG hx hf ho hl hn hh (by omega) hN) rfl rfl (gAt hx rfl rfl) rfl rfl (fun r109 sh2 g109 hq109 => ?_)
            obtain ⟨rfl, rfl, hq3⟩ := hq109
            have hf := hf.sc hq3
            refine gw_goto (tgt := 116) (gc k_Model_laysNote_1 22 rfl) rfl ?_
            refine gw_iastF (gc k_Model_laysNote_1 24 rfl) (gAt hx rfl rfl) (by omega) hf rfl (fun hf => ?_)
            refine gw_iinc_3 (gc k_Model_laysNote_1 25 rfl) rfl rfl ?_
            refine gw_goto (tgt := 18) (gc k_Model_laysNote_1 26 rfl) rfl ?_
            refine K _ _ (hs.step hh.1 (by omega) ?_)
            rw [show 1 - vBar (g0 179) n h p = 1 by omega, show vPrice (g0 179) n h p = vPay (g0 179) n h p from if_neg (by omega), show vGain (g0 179) n h p = tlR (g0 179) (vW (g0 179) n h p) 2 99 1 from if_neg (by omega)]
            exact vSet_can hq1 hq2 hq3
set_option maxHeartbeats 2000000 in
theorem note_exit {sh : gS} {g0 : gM} (hx : gFix sh) (hf0 : gFin g0) (ho : rowOK (g0 179)) (hl : lawsOK (g0 179)) (n h p : Int) (hn : 0 ≤ n ∧ n < 12) (hh : 0 ≤ h ∧ h ≤ 24) (hp : 0 ≤ p ∧ p ≤ 25) {g : gM} (hs : vUp g0 n (25 * h + p) g) (x4 : gV) (hlt : p = 25) {Q : gQ} (K : gWP f_Model_laysNote 44 0 0 2 [(2, 177), (0, n), (0, h + 1), (0, p), x4] [] sh g Q) : gWP f_Model_laysNote 44 0 0 18 [(2, 177), (0, n), (0, h), (0, p), x4] [] sh g Q := by
  have hf := hs.fin hf0
  have em := hs.row
  have hm := ro_many ho
  have hbr := vBar_01 (g0 179) n h p
  show gWP f_Model_laysNote _ _ _ 18 [(2, 177), (0, n), (0, h), (0, p), x4] [] sh g _
  refine gw_iload_n (gc k_Model_laysNote_0 11 rfl) rfl ?_
  refine gw_bipush (gc k_Model_laysNote_0 12 rfl) (by decide) ?_
  refine gw_icmp_ge (tgt := 123) (gc k_Model_laysNote_0 13 rfl) rfl (by omega) (fun c21 => ?_) (fun c21 => ?_)
  · refine gw_iinc_2 (gc k_Model_laysNote_1 27 rfl) rfl rfl ?_
    refine gw_goto (tgt := 2) (gc k_Model_laysNote_1 28 rfl) rfl ?_
    exact K
  · exact absurd hlt (by omega)
set_option maxHeartbeats 2000000 in
theorem ahead_step {sh : gS} {g0 : gM} (hx : gFix sh) (hf0 : gFin g0) (ho : rowOK (g0 179)) (n h : Int) (hn : 0 ≤ n ∧ n < 12) (hh : 0 ≤ h ∧ h ≤ 25) {g : gM} (hs : vUp g0 n (25 * h) g) (x3 x4 : gV) (hlt : h < if n = 0 then 1 else 25) {Q : gQ} (K : gWP f_Model_laysNote 44 0 0 18 [(2, 177), (0, n), (0, h), (0, 0), x4] [] sh g Q) : gWP f_Model_laysNote 44 0 0 2 [(2, 177), (0, n), (0, h), x3, x4] [] sh g Q := by
  have hf := hs.fin hf0
  show gWP f_Model_laysNote _ _ _ 2 [(2, 177), (0, n), (0, h), x3, x4] [] sh g _
  refine gw_iload_n (gc k_Model_laysNote_0 2 rfl) rfl ?_
  refine gw_iload_n (gc k_Model_laysNote_0 3 rfl) rfl ?_
  refine gw_if_ne (tgt := 11) (gc k_Model_laysNote_0 4 rfl) rfl (by omega) (fun c4 => ?_) (fun c4 => ?_)
  · refine gw_bipush (gc k_Model_laysNote_0 7 rfl) (by decide) ?_
    rw [if_neg (by omega)] at hlt
    refine gw_icmp_ge (tgt := 129) (gc k_Model_laysNote_0 8 rfl) rfl (by omega) (fun c13 => ?_) (fun c13 => ?_)
    · exact absurd c13 (by omega)
    · refine gw_iconst (gc k_Model_laysNote_0 9 rfl) ?_
      refine gw_istore_3 (gc k_Model_laysNote_0 10 rfl) rfl rfl ?_
      exact K
  · refine gw_iconst (gc k_Model_laysNote_0 5 rfl) ?_
    refine gw_goto (tgt := 13) (gc k_Model_laysNote_0 6 rfl) rfl ?_
    rw [if_pos (by omega)] at hlt
    refine gw_icmp_ge (tgt := 129) (gc k_Model_laysNote_0 8 rfl) rfl (by omega) (fun c13 => ?_) (fun c13 => ?_)
    · exact absurd c13 (by omega)
    · refine gw_iconst (gc k_Model_laysNote_0 9 rfl) ?_
      refine gw_istore_3 (gc k_Model_laysNote_0 10 rfl) rfl rfl ?_
      exact K
set_option maxHeartbeats 2000000 in
theorem ahead_exit {sh : gS} {g0 : gM} (hx : gFix sh) (hf0 : gFin g0) (ho : rowOK (g0 179)) (n h : Int) (hn : 0 ≤ n ∧ n < 12) (hh : 0 ≤ h ∧ h ≤ 25) {g : gM} (hs : vUp g0 n (25 * h) g) (x3 x4 : gV) (hlt : h = if n = 0 then 1 else 25) : gWP f_Model_laysNote 44 0 0 2 [(2, 177), (0, n), (0, h), x3, x4] [] sh g (gR none sh g) := by
  have hf := hs.fin hf0
  show gWP f_Model_laysNote _ _ _ 2 [(2, 177), (0, n), (0, h), x3, x4] [] sh g _
  refine gw_iload_n (gc k_Model_laysNote_0 2 rfl) rfl ?_
  refine gw_iload_n (gc k_Model_laysNote_0 3 rfl) rfl ?_
  refine gw_if_ne (tgt := 11) (gc k_Model_laysNote_0 4 rfl) rfl (by omega) (fun c4 => ?_) (fun c4 => ?_)
  · refine gw_bipush (gc k_Model_laysNote_0 7 rfl) (by decide) ?_
    rw [if_neg (by omega)] at hlt
    refine gw_icmp_ge (tgt := 129) (gc k_Model_laysNote_0 8 rfl) rfl (by omega) (fun c13 => ?_) (fun c13 => ?_)
    · refine gw_return (gc k_Model_laysNote_1 29 rfl) rfl ?_
      exact ⟨rfl, rfl, rfl⟩
    · exact absurd c13 (by omega)
  · refine gw_iconst (gc k_Model_laysNote_0 5 rfl) ?_
    refine gw_goto (tgt := 13) (gc k_Model_laysNote_0 6 rfl) rfl ?_
    rw [if_pos (by omega)] at hlt
    refine gw_icmp_ge (tgt := 129) (gc k_Model_laysNote_0 8 rfl) rfl (by omega) (fun c13 => ?_) (fun c13 => ?_)
    · refine gw_return (gc k_Model_laysNote_1 29 rfl) rfl ?_
      exact ⟨rfl, rfl, rfl⟩
    · exact absurd c13 (by omega)
theorem note_row {sh : gS} {g0 : gM} (hx : gFix sh) (hf0 : gFin g0) (ho : rowOK (g0 179)) (hl : lawsOK (g0 179)) (n h : Int) (hn : 0 ≤ n ∧ n < 12) (hh : 0 ≤ h ∧ h ≤ 24) {Q : gQ} (K : ∀ (g3 : gM) (y3 y4 : gV), vUp g0 n (25 * (h + 1)) g3 → gWP f_Model_laysNote 44 0 0 2 [(2, 177), (0, n), (0, h + 1), y3, y4] [] sh g3 Q) : ∀ (m : Nat) (p : Int) (g : gM) (x4 : gV), 0 ≤ p → p + m = 25 → vUp g0 n (25 * h + p) g → gWP f_Model_laysNote 44 0 0 18 [(2, 177), (0, n), (0, h), (0, p), x4] [] sh g Q
  | 0, p, g, x4, h0, e, hs => note_exit hx hf0 ho hl n h p hn hh (by omega) hs x4 (by omega) (K g _ _ (by rw [show 25 * (h + 1) = 25 * h + p by omega]; exact hs))
  | m + 1, p, g, x4, h0, e, hs => note_step hx hf0 ho hl n h p hn hh (by omega) hs x4 (by omega) (fun g3 y4 h3 => note_row hx hf0 ho hl n h hn hh K m (p + 1) g3 y4 (by omega) (by omega) (by rw [← Int.add_assoc]; exact h3))
theorem note_all {sh : gS} {g0 : gM} (hx : gFix sh) (hf0 : gFin g0) (ho : rowOK (g0 179)) (hl : lawsOK (g0 179)) (n : Int) (hn : 0 ≤ n ∧ n < 12) : ∀ (m : Nat) (h : Int) (g : gM) (x3 x4 : gV), 0 ≤ h → h + m = (if n = 0 then 1 else 25) → vUp g0 n (25 * h) g → gWP f_Model_laysNote 44 0 0 2 [(2, 177), (0, n), (0, h), x3, x4] [] sh g (fun r s2 g2 => r = none ∧ s2 = sh ∧ vUp g0 n (25 * (if n = 0 then 1 else 25)) g2)
  | 0, h, g, x3, x4, h0, e, hs => by
    have e2 : h = (if n = 0 then 1 else 25) := by omega
    have e3 : h ≤ 25 := by rw [e2]; split <;> omega
    refine gWP.mono (ahead_exit hx hf0 ho n h hn ⟨h0, e3⟩ hs x3 x4 e2) (fun r s2 g2 z => ⟨z.1, z.2.1, ?_⟩)
    rw [z.2.2, ← e2]
    exact hs
  | m + 1, h, g, x3, x4, h0, e, hs => by
    have e2 : h < (if n = 0 then 1 else 25) := by omega
    have e3 : h ≤ 24 := by
      by_cases z : n = 0
      · rw [if_pos z] at e2; omega
      · rw [if_neg z] at e2; omega
    exact ahead_step hx hf0 ho n h hn (by omega) hs x3 x4 e2 (note_row hx hf0 ho hl n h hn (by omega) (fun g3 y3 y4 h3 => note_all hx hf0 ho hl n hn m (h + 1) g3 y3 y4 (by omega) (by omega) h3) 25 0 g x4 (by omega) (by omega) (by rw [Int.add_zero]; exact hs))
theorem vUp.rf (g : gM) (n : Int) : vUp g n (25 * 0) g := ⟨fun _ _ _ _ _ => rfl, fun _ _ a b _ d => by omega⟩
set_option maxHeartbeats 1000000 in
theorem c_Model_laysNote {sh : gS} {g : gM} (hx : gFix sh) (hf : gFin g) (n : Int) (hn : 0 ≤ n ∧ n < 12) (ho : rowOK (g 179)) (hl : lawsOK (g 179)) : gTri f_Model_laysNote 44 0 0 [(2, 177), (0, n)] sh g (fun r s2 g2 => r = none ∧ s2 = sh ∧ vUp g n (25 * (if n = 0 then 1 else 25)) g2) := by
  refine gTri.of (by decide +kernel) rfl ?_
  show gWP f_Model_laysNote _ _ _ 0 [(2, 177), (0, n), (9, 0), (9, 0), (9, 0)] [] sh g _
  refine gw_iconst (gc k_Model_laysNote_0 0 rfl) ?_
  refine gw_istore_2 (gc k_Model_laysNote_0 1 rfl) rfl rfl ?_
  have e : (0 : Int) + ((if n = 0 then 1 else 25 : Nat) : Int) = (if n = 0 then 1 else 25) := by split <;> rfl
  exact note_all hx hf ho hl n hn _ 0 g _ _ (Int.le_refl _) e (vUp.rf g n)
/-- the first notes laid -/
def vAll (g0 : gM) (i : Int) (g : gM) : Prop :=
  (∀ a k, ¬ (a = 177 ∧ 22 ≤ k ∧ k ≤ 25) → a ≠ 189 → ¬ (a = 192 ∨ a = 193 ∨ a = 194) → g a k = g0 a k) ∧
  (∀ n h p, 0 ≤ n → n < i → 0 ≤ h → (h ≤ 24 ∧ (n = 0 → h = 0)) → 0 ≤ p → p ≤ 24 → g 194 (625 * n + 25 * h + p) = 1 - vBar (g0 179) n h p ∧ g 192 (625 * n + 25 * h + p) = vPrice (g0 179) n h p ∧ g 193 (625 * n + 25 * h + p) = vGain (g0 179) n h p)
theorem vAll.row {g0 g : gM} {n : Int} (h : vAll g0 n g) : g 179 = g0 179 := funext fun k => h.1 179 k (fun z => by omega) (by decide) (by decide)
theorem vAll.fin {g0 g : gM} {n : Int} (h : vAll g0 n g) (hf : gFin g0) : gFin g := hf.of fun a k z => h.1 _ _ (fun q => z (by
    have : a = 177 := by omega
    subst this
    exact gref_sc (by omega) (by omega))) (fun q => z (by
    have : a = 189 := by omega
    subst this
    exact gref_189 k)) (fun q => z (by
    rcases (show a = 192 ∨ a = 193 ∨ a = 194 by omega) with rfl | rfl | rfl <;> rfl))
theorem vAll.step {g0 g g3 : gM} {i : Int} (h : vAll g0 i g) (hi : 0 ≤ i) (h3 : vUp g i (25 * (if i = 0 then 1 else 25)) g3) : vAll g0 (i + 1) g3 := by
  refine ⟨fun a k h1 h2 h4 => (h3.1 a k h1 h2 (Or.inl h4)).trans (h.1 a k h1 h2 h4), fun n x p a1 a2 a3 a4 a5 a6 => ?_⟩
  by_cases e : n = i
  · subst e
    have q := h3.2 x p a3 a5 a6 (by
      by_cases z : n = 0
      · rw [if_pos z]; have := a4.2 z; omega
      · rw [if_neg z]; omega)
    rw [h.row] at q
    exact q
  · have q := h.2 n x p a1 (by omega) a3 a4 a5 a6
    have hw : ∀ a, (a = 192 ∨ a = 193 ∨ a = 194) → g3 a (625 * n + 25 * x + p) = g a (625 * n + 25 * x + p) := fun a ha => h3.1 a _ (fun z => by omega) (by omega) (Or.inr (Or.inl (by omega)))
    rw [hw 194 (by omega), hw 192 (by omega), hw 193 (by omega)]
    exact q
theorem vAll.rf (g : gM) : vAll g 0 g := ⟨fun _ _ _ _ _ => rfl, fun _ _ _ a b => by omega⟩
set_option maxHeartbeats 2000000 in
theorem notes_step {sh : gS} {g0 : gM} (hx : gFix sh) (hf0 : gFin g0) (ho : rowOK (g0 179)) (hl : lawsOK (g0 179)) (i : Int) (hi : 0 ≤ i ∧ i ≤ 12) {g : gM} (hs : vAll g0 i g) (hlt : i < g0 179 41) {Q : gQ} (K : ∀ g3, vAll g0 (i + 1) g3 → gWP f_Model_laysNotes 45 0 0 2 [(2, 177), (0, i + 1)] [] sh g3 Q) : gWP f_Model_laysNotes 45 0 0 2 [(2, 177), (0, i)] [] sh g Q := by
  have hf := hs.fin hf0
  have em := hs.row
  have hm := ro_many ho
  show gWP f_Model_laysNotes _ _ _ 2 [(2, 177), (0, i)] [] sh g _
  skip
  refine gw_iload_n (gc k_Model_laysNotes_0 2 rfl) rfl ?_
  refine gw_aload_n (gc k_Model_laysNotes_0 3 rfl) rfl rfl ?_
  refine gw_cV1 (gc k_Model_laysNotes_0 4 rfl) y_Model_noteMany ln_Model_112 (c_Model_noteMany hx hf) rfl rfl (gAt hx rfl rfl) rfl rfl ?_
  rw [em]
  refine gw_icmp_ge (tgt := 21) (gc k_Model_laysNotes_0 5 rfl) rfl (by omega) (fun c7 => ?_) (fun c7 => ?_)
  · exact absurd c7 (by omega)
  · refine gw_aload_n (gc k_Model_laysNotes_0 6 rfl) rfl rfl ?_
    refine gw_iload_n (gc k_Model_laysNotes_0 7 rfl) rfl ?_
    refine gw_xV1 (gc k_Model_laysNotes_0 8 rfl) y_Model_laysNote ln_Model_357 (c_Model_laysNote hx hf i (by omega) (by rw [em]; exact ho) (by rw [em]; exact hl)) rfl rfl (gAt hx rfl rfl) rfl rfl (fun r12 sh2 g12 hq12 => ?_)
    obtain ⟨rfl, rfl, hq⟩ := hq12
    refine gw_iinc_1 (gc k_Model_laysNotes_0 9 rfl) rfl rfl ?_
    refine gw_goto (tgt := 2) (gc k_Model_laysNotes_0 10 rfl) rfl ?_
    exact K _ (hs.step hi.1 hq)
set_option maxHeartbeats 2000000 in
theorem notes_exit {sh : gS} {g0 : gM} (hx : gFix sh) (hf0 : gFin g0) (ho : rowOK (g0 179)) (hl : lawsOK (g0 179)) (i : Int) (hi : 0 ≤ i ∧ i ≤ 12) {g : gM} (hs : vAll g0 i g) (hlt : i = g0 179 41) : gWP f_Model_laysNotes 45 0 0 2 [(2, 177), (0, i)] [] sh g (gR none sh g) := by
  have hf := hs.fin hf0
  have em := hs.row
  have hm := ro_many ho
  show gWP f_Model_laysNotes _ _ _ 2 [(2, 177), (0, i)] [] sh g _
  refine gw_iload_n (gc k_Model_laysNotes_0 2 rfl) rfl ?_
  refine gw_aload_n (gc k_Model_laysNotes_0 3 rfl) rfl rfl ?_
  refine gw_cV1 (gc k_Model_laysNotes_0 4 rfl) y_Model_noteMany ln_Model_112 (c_Model_noteMany hx hf) rfl rfl (gAt hx rfl rfl) rfl rfl ?_
  rw [em]
  refine gw_icmp_ge (tgt := 21) (gc k_Model_laysNotes_0 5 rfl) rfl (by omega) (fun c7 => ?_) (fun c7 => ?_)
  · refine gw_return (gc k_Model_laysNotes_0 11 rfl) rfl ?_
    exact ⟨rfl, rfl, rfl⟩
  · exact absurd c7 (by omega)
theorem notes_loop {sh : gS} {g0 : gM} (hx : gFix sh) (hf0 : gFin g0) (ho : rowOK (g0 179)) (hl : lawsOK (g0 179)) : ∀ (m : Nat) (i : Int) (g : gM), 0 ≤ i → i + m = g0 179 41 → vAll g0 i g → gWP f_Model_laysNotes 45 0 0 2 [(2, 177), (0, i)] [] sh g (fun r s2 g2 => r = none ∧ s2 = sh ∧ vAll g0 (g0 179 41) g2)
  | 0, i, g, h0, e, hs => by
    have hm := ro_many ho
    have e2 : i = g0 179 41 := by omega
    refine gWP.mono (notes_exit hx hf0 ho hl i (by omega) hs e2) (fun r s2 g2 z => ⟨z.1, z.2.1, ?_⟩)
    rw [z.2.2, ← e2]
    exact hs
  | m + 1, i, g, h0, e, hs => by
    have hm := ro_many ho
    exact notes_step hx hf0 ho hl i (by omega) hs (by omega) (fun g3 h3 => notes_loop hx hf0 ho hl m (i + 1) g3 (by omega) (by omega) h3)
set_option maxHeartbeats 1000000 in
theorem c_Model_laysNotes {sh : gS} {g : gM} (hx : gFix sh) (hf : gFin g) (ho : rowOK (g 179)) (hl : lawsOK (g 179)) : gTri f_Model_laysNotes 45 0 0 [(2, 177)] sh g (fun r s2 g2 => r = none ∧ s2 = sh ∧ vAll g (g 179 41) g2) := by
  refine gTri.of (by decide +kernel) rfl ?_
  show gWP f_Model_laysNotes _ _ _ 0 [(2, 177), (9, 0)] [] sh g _
  refine gw_iconst (gc k_Model_laysNotes_0 0 rfl) ?_
  refine gw_istore_1 (gc k_Model_laysNotes_0 1 rfl) rfl rfl ?_
  have hm := ro_many ho
  exact notes_loop hx hf ho hl (g 179 41).toNat 0 g (Int.le_refl _) (by omega) (vAll.rf g)
