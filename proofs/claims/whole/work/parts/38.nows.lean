theorem tl_bd {w : Int → Int} {h top : Int} (ht : 0 ≤ top ∧ top ≤ 1000) : ∀ (L : List PC) (v : Int), (-1000 ≤ v ∧ v ≤ 1000) → -1000 ≤ tl w h top v L ∧ tl w h top v L ≤ 1000
  | [], v, hv => hv
  | c :: L, v, hv => tl_bd ht L _ (tlC_bd ht hv)
theorem tlR_bd {r w : Int → Int} {h top df : Int} (ht : 0 ≤ top ∧ top ≤ 1000) (hv : -1000 ≤ df ∧ df ≤ 1000) : -1000 ≤ tlR r w h top df ∧ tlR r w h top df ≤ 1000 := by
  unfold tlR
  split
  · exact hv
  · split
    · exact hv
    · exact tl_bd ht _ _ hv
theorem gSc.rf (g : gM) : gSc g g := fun _ _ _ => rfl
theorem gSc.tr {g g2 g3 : gM} (h : gSc g g2) (h2 : gSc g2 g3) : gSc g g3 := fun a k n => (h2 a k n).trans (h a k n)
theorem gSc.fn {g g2 : gM} (h : gSc g g2) {a : Int} (ha : a ≠ 177) : g2 a = g a := funext fun k => h a k (fun z => ha z.1)
theorem gSc.fl {g g2 : gM} (h : gSc g g2) {k : Int} (hk : k < 22 ∨ 25 < k) : g2 177 k = g 177 k := h 177 k (fun z => by omega)
theorem gref_sc {k : Nat} (h1 : 22 ≤ k) (h2 : k ≤ 25) : gref 177 k = none := by
  rcases (show k = 22 ∨ k = 23 ∨ k = 24 ∨ k = 25 by omega) with rfl | rfl | rfl | rfl <;> rfl
theorem gFin.sc {g g2 : gM} (h : gFin g) (hs : gSc g g2) : gFin g2 := h.of fun a k n => hs _ _ fun z => n (by
  have : a = 177 := by omega
  subst this
  exact gref_sc (by omega) (by omega))
/-- memories that differ only where a reading works or asks -/
def gSk (g g2 : gM) : Prop := ∀ a k, ¬ (a = 177 ∧ 22 ≤ k ∧ k ≤ 25) → a ≠ 189 → g2 a k = g a k
theorem gSk.rf (g : gM) : gSk g g := fun _ _ _ _ => rfl
theorem gSk.tr {g g2 g3 : gM} (h : gSk g g2) (h2 : gSk g2 g3) : gSk g g3 := fun a k n m => (h2 a k n m).trans (h a k n m)
theorem gSc.sk {g g2 : gM} (h : gSc g g2) : gSk g g2 := fun a k n _ => h a k n
theorem gSk.fn {g g2 : gM} (h : gSk g g2) {a : Int} (ha : a ≠ 177) (h2 : a ≠ 189) : g2 a = g a := funext fun k => h a k (fun z => ha z.1) h2
theorem gSk.fl {g g2 : gM} (h : gSk g g2) {k : Int} (hk : k < 22 ∨ 25 < k) : g2 177 k = g 177 k := h 177 k (fun z => by omega) (by decide)
theorem gref_189 (k : Nat) : gref 189 k = none := rfl
theorem gFin.sk {g g2 : gM} (h : gFin g) (hs : gSk g g2) : gFin g2 := h.of fun a k n => hs _ _ (fun z => n (by
  have : a = 177 := by omega
  subst this
  exact gref_sc (by omega) (by omega))) (fun z => n (by
  have : a = 189 := by omega
  subst this
  exact gref_189 k))
def nowM (g : gM) (n : Int) : gM := gfr g 189 (fun y => if 0 ≤ y ∧ y < 10 then askM (g 179) n (g 179 n) (0 < n) (if 0 < n then g 179 (n - 1) else 0) y else g 189 y)
def nowW (r : Int → Int) (n : Int) : Int → Int := askW (askM r n (r n) (0 < n) (if 0 < n then r (n - 1) else 0))
theorem c_takesNow {sh : gS} {g : gM} (hx : gFix sh) (hf : gFin g) (n : Int) (hn : 0 ≤ n ∧ n < 12) (ho : rowOK (g 179)) : gTri f_Model_takesNow 2 0 0 [(2, 177), (0, n)] sh g (gR none sh (nowM g n)) := c_Model_takesNow hx hf n hn ho
theorem nowM_fin {g : gM} (h : gFin g) (n : Int) : gFin (nowM g n) := h.fr gref_189
theorem nowM_fn (g : gM) (n : Int) {a : Int} (h : a ≠ 189) : nowM g n a = g a := gfr_fn _ _ _ h
theorem nowM_sk (g : gM) (n : Int) : gSk g (nowM g n) := fun a k _ h => congrFun (nowM_fn g n h) k
theorem askW_in {a c : Int → Int} (h : ∀ j, 0 ≤ j → j < 10 → a j = c j) : askW a = askW c := by
  funext i
  unfold askW
  refine h _ ?_ ?_ <;> repeat' split
  all_goals decide
theorem nowM_at (g : gM) (n j : Int) (h1 : 0 ≤ j) (h2 : j < 10) : nowM g n 189 j = askM (g 179) n (g 179 n) (0 < n) (if 0 < n then g 179 (n - 1) else 0) j := by
  unfold nowM
  rw [gfr_s]
  exact if_pos ⟨h1, h2⟩
theorem nowM_W (g : gM) (n : Int) : askW (nowM g n 189) = nowW (g 179) n := askW_in (nowM_at g n)
theorem askM_bd {r : Int → Int} (ho : rowOK r) (n : Int) (hn : 0 ≤ n ∧ n < 12) (j : Int) (h1 : 0 ≤ j) (h2 : j < 10) : -1000 ≤ askM r n (r n) (0 < n) (if 0 < n then r (n - 1) else 0) j ∧ askM r n (r n) (0 < n) (if 0 < n then r (n - 1) else 0) j ≤ 1000 := by
  have a1 := ro_pitch ho n (by omega)
  have a2 := ro_pitch ho (12 + n) (by omega)
  have a3 := ro_day ho
  have a4 := ro_mood ho
  have a5 := bi_01 (n = r 41 - 1)
  unfold askM
  by_cases hp : 0 < n
  · have a6 := ro_pitch ho (n - 1) (by omega)
    have a7 := ro_pitch ho (12 + n - 1) (by omega)
    simp only [if_pos hp]
    repeat' split
    all_goals omega
  · simp only [if_neg hp]
    repeat' split
    all_goals omega
theorem nowM_bd {g : gM} (ho : rowOK (g 179)) (n : Int) (hn : 0 ≤ n ∧ n < 12) (j : Int) (h1 : 0 ≤ j) (h2 : j < 10) : -1000 ≤ nowM g n 189 j ∧ nowM g n 189 j ≤ 1000 := by
  rw [nowM_at g n j h1 h2]
  exact askM_bd ho n hn j h1 h2
def leapN (r : Int → Int) (n : Int) : Int := if 0 < n then r n - r (n - 1) else 0
theorem nowM_3 (g : gM) (n : Int) : nowM g n 189 3 = leapN (g 179) n := by
  rw [nowM_at g n 3 (by decide) (by decide)]
  unfold leapN
  show (if 0 < n then g 179 n - (if 0 < n then g 179 (n - 1) else 0) else 0) = _
  by_cases h : 0 < n
  · simp only [if_pos h]
  · simp only [if_neg h]
def costN (r : Int → Int) (n : Int) : Int := tlR r (nowW r n) 1 999 (if leapN r n < 0 then -leapN r n else leapN r n)
def earnN (r : Int → Int) (n : Int) : Int := tlR r (nowW r n) 2 99 1
def barN (r : Int → Int) (n : Int) : Int := bi (tlR r (nowW r n) 3 1 0 = 1)
set_option maxHeartbeats 1000000 in
theorem c_Model_costsNow {sh : gS} {g : gM} (hx : gFix sh) (hf : gFin g) (ho : rowOK (g 179)) (hask : ∀ j, 0 ≤ j → j < 10 → -1000 ≤ g 189 j ∧ g 189 j ≤ 1000) (hl : lawsOK (g 179)) : gTri f_Model_costsNow 43 0 0 [(2, 177)] sh g (fun r s2 g2 => r = some (0, tlR (g 179) (askW (g 189)) 1 999 (if g 189 3 < 0 then -g 189 3 else g 189 3)) ∧ s2 = sh ∧ gSc g g2) := by
  have h3 := hask 3 (by decide) (by decide)
  refine gTri.of (by decide +kernel) rfl ?_
  show gWP f_Model_costsNow _ _ _ 0 [(2, 177)] [] sh g _
  refine gw_aload_n (gc k_Model_costsNow_0 0 rfl) rfl rfl ?_
  refine gw_iconst (gc k_Model_costsNow_0 1 rfl) ?_
  refine gw_sipush (gc k_Model_costsNow_0 2 rfl) (by decide) ?_
  refine gw_aload_n (gc k_Model_costsNow_0 3 rfl) rfl rfl ?_
  refine gw_getref (gc k_Model_costsNow_0 4 rfl) fl_Model_63 (gAt hx rfl rfl) (gRf hf rfl rfl) ?_
  refine gw_iconst (gc k_Model_costsNow_0 5 rfl) ?_
  refine gw_iald (gc k_Model_costsNow_0 6 rfl) (gAt hx rfl rfl) (by omega) ?_
  refine gw_cS1 (gc k_Model_costsNow_0 7 rfl) y_Model_bare ln_Model_325 (c_Model_bare _ (by omega)) rfl rfl rfl rfl ?_
  refine gw_xV1 (gc k_Model_costsNow_0 8 rfl) y_Model_tells ln_Model_328 (c_Model_tells hx hf _ _ _ (by omega) (by omega) (by first | omega | (split <;> omega)) ho (fun j a c => by have := hask j a c; omega) hl) rfl rfl (gAt hx rfl rfl) rfl rfl (fun r14 sh2 g14 hq14 => ?_)
  obtain ⟨rfl, rfl, hq⟩ := hq14
  refine gw_ireturn (gc k_Model_costsNow_0 9 rfl) rfl ?_
  exact ⟨rfl, rfl, hq⟩
set_option maxHeartbeats 1000000 in
theorem c_Model_earnsNow {sh : gS} {g : gM} (hx : gFix sh) (hf : gFin g) (ho : rowOK (g 179)) (hask : ∀ j, 0 ≤ j → j < 10 → -1000 ≤ g 189 j ∧ g 189 j ≤ 1000) (hl : lawsOK (g 179)) : gTri f_Model_earnsNow 43 0 0 [(2, 177)] sh g (fun r s2 g2 => r = some (0, tlR (g 179) (askW (g 189)) 2 99 1) ∧ s2 = sh ∧ gSc g g2) := by
  refine gTri.of (by decide +kernel) rfl ?_
  show gWP f_Model_earnsNow _ _ _ 0 [(2, 177)] [] sh g _
  refine gw_aload_n (gc k_Model_earnsNow_0 0 rfl) rfl rfl ?_
  refine gw_iconst (gc k_Model_earnsNow_0 1 rfl) ?_
  refine gw_bipush (gc k_Model_earnsNow_0 2 rfl) (by decide) ?_
  refine gw_iconst (gc k_Model_earnsNow_0 3 rfl) ?_
  refine gw_xV1 (gc k_Model_earnsNow_0 4 rfl) y_Model_tells ln_Model_328 (c_Model_tells hx hf _ _ _ (by omega) (by omega) (by first | omega | (split <;> omega)) ho (fun j a c => by have := hask j a c; omega) hl) rfl rfl (gAt hx rfl rfl) rfl rfl (fun r5 sh2 g5 hq5 => ?_)
  obtain ⟨rfl, rfl, hq⟩ := hq5
  refine gw_ireturn (gc k_Model_earnsNow_0 5 rfl) rfl ?_
  exact ⟨rfl, rfl, hq⟩
set_option maxHeartbeats 1000000 in
theorem c_Model_isBarred {sh : gS} {g : gM} (hx : gFix sh) (hf : gFin g) (ho : rowOK (g 179)) (hask : ∀ j, 0 ≤ j → j < 10 → -1000 ≤ g 189 j ∧ g 189 j ≤ 1000) (hl : lawsOK (g 179)) : gTri f_Model_isBarred 43 0 0 [(2, 177)] sh g (fun r s2 g2 => r = some (0, bi (tlR (g 179) (askW (g 189)) 3 1 0 = 1)) ∧ s2 = sh ∧ gSc g g2) := by
  have hb := tlR_bd (r := g 179) (w := askW (g 189)) (h := 3) (top := 1) (df := 0) (by omega) (by omega)
  refine gTri.of (by decide +kernel) rfl ?_
  show gWP f_Model_isBarred _ _ _ 0 [(2, 177)] [] sh g _
  refine gw_aload_n (gc k_Model_isBarred_0 0 rfl) rfl rfl ?_
  refine gw_iconst (gc k_Model_isBarred_0 1 rfl) ?_
  refine gw_iconst (gc k_Model_isBarred_0 2 rfl) ?_
  refine gw_iconst (gc k_Model_isBarred_0 3 rfl) ?_
  refine gw_xV1 (gc k_Model_isBarred_0 4 rfl) y_Model_tells ln_Model_328 (c_Model_tells hx hf _ _ _ (by omega) (by omega) (by first | omega | (split <;> omega)) ho (fun j a c => by have := hask j a c; omega) hl) rfl rfl (gAt hx rfl rfl) rfl rfl (fun r4 sh2 g4 hq4 => ?_)
  obtain ⟨rfl, rfl, hq⟩ := hq4
  refine gw_iconst (gc k_Model_isBarred_0 5 rfl) ?_
  refine gw_icmp_ne (tgt := 15) (gc k_Model_isBarred_0 6 rfl) rfl (by omega) (fun c8 => ?_) (fun c8 => ?_)
  · refine gw_iconst (gc k_Model_isBarred_0 9 rfl) ?_
    refine gw_zreturn (gc k_Model_isBarred_0 10 rfl) rfl (by omega) ?_
    exact ⟨by first | rw [bi_1 (by assumption)] | rw [bi_0 (by assumption)], rfl, hq⟩
  · refine gw_iconst (gc k_Model_isBarred_0 7 rfl) ?_
    refine gw_goto (tgt := 16) (gc k_Model_isBarred_0 8 rfl) rfl ?_
    refine gw_zreturn (gc k_Model_isBarred_0 10 rfl) rfl (by omega) ?_
    exact ⟨by first | rw [bi_1 (by assumption)] | rw [bi_0 (by assumption)], rfl, hq⟩

theorem c_cost {sh : gS} {g : gM} (hx : gFix sh) (hf : gFin g) (n : Int) (hn : 0 ≤ n ∧ n < 12) (ho : rowOK (g 179)) (hl : lawsOK (g 179)) : gTri f_Model_costsNow 43 0 0 [(2, 177)] sh (nowM g n) (fun r s2 g2 => r = some (0, costN (g 179) n) ∧ s2 = sh ∧ gSc (nowM g n) g2) := by
  have q := c_Model_costsNow hx (nowM_fin hf n) (by rw [nowM_fn g n (by decide)]; exact ho) (nowM_bd ho n hn) (by rw [nowM_fn g n (by decide)]; exact hl)
  rw [nowM_fn g n (by decide), nowM_W, nowM_3] at q
  exact q
theorem c_earn {sh : gS} {g : gM} (hx : gFix sh) (hf : gFin g) (n : Int) (hn : 0 ≤ n ∧ n < 12) (ho : rowOK (g 179)) (hl : lawsOK (g 179)) : gTri f_Model_earnsNow 43 0 0 [(2, 177)] sh (nowM g n) (fun r s2 g2 => r = some (0, earnN (g 179) n) ∧ s2 = sh ∧ gSc (nowM g n) g2) := by
  have q := c_Model_earnsNow hx (nowM_fin hf n) (by rw [nowM_fn g n (by decide)]; exact ho) (nowM_bd ho n hn) (by rw [nowM_fn g n (by decide)]; exact hl)
  rw [nowM_fn g n (by decide), nowM_W] at q
  exact q
theorem c_bar {sh : gS} {g : gM} (hx : gFix sh) (hf : gFin g) (n : Int) (hn : 0 ≤ n ∧ n < 12) (ho : rowOK (g 179)) (hl : lawsOK (g 179)) : gTri f_Model_isBarred 43 0 0 [(2, 177)] sh (nowM g n) (fun r s2 g2 => r = some (0, barN (g 179) n) ∧ s2 = sh ∧ gSc (nowM g n) g2) := by
  have q := c_Model_isBarred hx (nowM_fin hf n) (by rw [nowM_fn g n (by decide)]; exact ho) (nowM_bd ho n hn) (by rw [nowM_fn g n (by decide)]; exact hl)
  rw [nowM_fn g n (by decide), nowM_W] at q
  exact q
theorem costN_bd {r : Int → Int} (ho : rowOK r) (n : Int) (hn : 0 ≤ n ∧ n < 12) : -1000 ≤ costN r n ∧ costN r n ≤ 1000 := by
  have h := ro_pitch ho n (by omega)
  refine tlR_bd (by omega) ?_
  unfold leapN
  split
  · next hp =>
    have h2 := ro_pitch ho (n - 1) (by omega)
    split <;> omega
  · decide
theorem earnN_bd (r : Int → Int) (n : Int) : -1000 ≤ earnN r n ∧ earnN r n ≤ 1000 := tlR_bd (by omega) (by omega)
theorem barN_bd (r : Int → Int) (n : Int) : 0 ≤ barN r n ∧ barN r n ≤ 1 := by
  have := bi_01 (tlR r (nowW r n) 3 1 0 = 1)
  unfold barN
  omega
def ofR (r : Int → Int) (n k : Int) : Int := if 0 ≤ n ∧ n ≤ r 41 - 1 then (if k = 0 then r (12 + n) else if k = 1 then r n else if k = 2 then costN r n else if k = 3 then earnN r n else if k = 4 then barN r n else -1) else -1
/-- a sum over the first notes -/
def smN (f : Int → Int) : Nat → Int
  | 0 => 0
  | n + 1 => smN f n + f n
theorem smN_bd {f : Int → Int} {b : Int} (hb : ∀ i : Int, 0 ≤ i → i < 12 → -b ≤ f i ∧ f i ≤ b) : ∀ n : Nat, n ≤ 12 → -(n * b) ≤ smN f n ∧ smN f n ≤ n * b
  | 0, _ => by simp [smN]
  | n + 1, h => by
    have h1 := smN_bd hb n (by omega)
    have h2 := hb n (by omega) (by omega)
    have e : ((n + 1 : Nat) : Int) * b = n * b + b := by rw [Int.natCast_add, Int.add_mul]; simp
    unfold smN
    rw [e]
    omega
def allV (r : Int → Int) (k n : Int) : Int := if k = 0 then costN r n else if k = 1 then earnN r n else barN r n
theorem allV_bd {r : Int → Int} (ho : rowOK r) (k n : Int) (hn : 0 ≤ n ∧ n < 12) : -1000 ≤ allV r k n ∧ allV r k n ≤ 1000 := by
  unfold allV
  split
  · exact costN_bd ho n hn
  split
  · exact earnN_bd r n
  · have := barN_bd r n; omega
/-- what all notes cost, earn or how many are barred -/
def allN (r : Int → Int) (k : Int) : Int := smN (allV r k) (r 41).toNat
set_option maxHeartbeats 1000000 in
theorem c_Model_of {sh : gS} {g : gM} (hx : gFix sh) (hf : gFin g) (n k : Int) (hb : (-2147483648 ≤ n ∧ n ≤ 2147483647) ∧ (-2147483648 ≤ k ∧ k ≤ 2147483647)) (ho : rowOK (g 179)) (hl : lawsOK (g 179)) : gTri f_Model_of 44 0 0 [(2, 177), (0, n), (0, k)] sh g (fun r s2 g2 => r = some (0, ofR (g 179) n k) ∧ s2 = sh ∧ gSk g g2) := by
  have hm := ro_many ho
  have e179 := fun n => nowM_fn g n (a := 179) (by decide)
  have hbn := barN_bd (g 179) n
  refine gTri.of (by decide +kernel) rfl ?_
  show gWP f_Model_of _ _ _ 0 [(2, 177), (0, n), (0, k)] [] sh g _
  refine gw_aload_n (gc k_Model_of_0 0 rfl) rfl rfl ?_
  refine gw_iload_n (gc k_Model_of_0 1 rfl) rfl ?_
  refine gw_cV1 (gc k_Model_of_0 2 rfl) y_Model_isNote ln_Model_124 (c_Model_isNote hx hf n (by omega) (by omega)) rfl rfl (gAt hx rfl rfl) rfl rfl ?_
  refine gw_bne (tgt := 10) (gc k_Model_of_0 3 rfl) rfl (fun c5 => ?_) (fun c5 => ?_)
  · refine gw_aload_n (gc k_Model_of_0 6 rfl) rfl rfl ?_
    refine gw_iload_n (gc k_Model_of_0 7 rfl) rfl ?_
    refine gw_cV0 (gc k_Model_of_0 8 rfl) y_Model_takesNow ln_Model_127 (c_takesNow hx hf n (by omega) ho) rfl rfl (gAt hx rfl rfl) rfl rfl ?_
    refine gw_iload_n (gc k_Model_of_0 9 rfl) rfl ?_
    rcases (show k = 0 ∨ k = 1 ∨ k = 2 ∨ k = 3 ∨ k = 4 ∨ (k < 0 ∨ 4 < k) by omega) with hs16 | hs16 | hs16 | hs16 | hs16 | hs16
    · refine gw_tableIn (tgt := 52) (gc k_Model_of_0 10 rfl) (by omega) (by omega) (by rw [hs16]; rfl) rfl ?_
      refine gw_aload_n (gc k_Model_of_0 11 rfl) rfl rfl ?_
      refine gw_getref (gc k_Model_of_0 12 rfl) fl_Model_28 (gAt hx rfl rfl) (gRf (nowM_fin hf n) rfl rfl) ?_
      refine gw_bipush (gc k_Model_of_0 13 rfl) (by decide) ?_
      refine gw_iload_n (gc k_Model_of_0 14 rfl) rfl ?_
      refine gw_iadd (gc k_Model_of_0 15 rfl) ?_
      refine gw_iald (gc k_Model_of_0 16 rfl) (gAt hx rfl rfl) (by omega) ?_
      rw [e179]
      refine gw_ireturn (gc k_Model_of_0 17 rfl) rfl ?_
      refine ⟨?_, rfl, ?_⟩
      · unfold ofR
        rw [if_pos (by omega)]
        first | (subst hs16; rfl) | (subst hs16; show some ((0 : Nat), _) = some (0, barN (g 179) n); first | rw [c85] | rw [show barN (g 179) n = 1 by omega]) | (rw [if_neg (by omega), if_neg (by omega), if_neg (by omega), if_neg (by omega), if_neg (by omega)])
      · first | exact (nowM_sk g n).tr hq.sk | exact nowM_sk g n
    · refine gw_tableIn (tgt := 62) (gc k_Model_of_0 10 rfl) (by omega) (by omega) (by rw [hs16]; rfl) rfl ?_
      refine gw_aload_n (gc k_Model_of_0 18 rfl) rfl rfl ?_
      refine gw_getref (gc k_Model_of_0 19 rfl) fl_Model_28 (gAt hx rfl rfl) (gRf (nowM_fin hf n) rfl rfl) ?_
      refine gw_iconst (gc k_Model_of_0 20 rfl) ?_
      refine gw_iload_n (gc k_Model_of_0 21 rfl) rfl ?_
      refine gw_iadd (gc k_Model_of_0 22 rfl) ?_
      refine gw_iald (gc k_Model_of_0 23 rfl) (gAt hx rfl rfl) (by omega) ?_
      rw [e179, Int.zero_add]
      refine gw_ireturn (gc k_Model_of_0 24 rfl) rfl ?_
      refine ⟨?_, rfl, ?_⟩
      · unfold ofR
        rw [if_pos (by omega)]
        first | (subst hs16; rfl) | (subst hs16; show some ((0 : Nat), _) = some (0, barN (g 179) n); first | rw [c85] | rw [show barN (g 179) n = 1 by omega]) | (rw [if_neg (by omega), if_neg (by omega), if_neg (by omega), if_neg (by omega), if_neg (by omega)])
      · first | exact (nowM_sk g n).tr hq.sk | exact nowM_sk g n
    · refine gw_tableIn (tgt := 71) (gc k_Model_of_0 10 rfl) (by omega) (by omega) (by rw [hs16]; rfl) rfl ?_
      refine gw_aload_n (gc k_Model_of_0 25 rfl) rfl rfl ?_
      refine gw_xV1 (gc k_Model_of_0 26 rfl) y_Model_costsNow ln_Model_131 (c_cost hx hf n (by omega) ho hl) rfl rfl (gAt hx rfl rfl) rfl rfl (fun r72 sh2 g72 hq72 => ?_)
      obtain ⟨rfl, rfl, hq⟩ := hq72
      refine gw_ireturn (gc k_Model_of_0 27 rfl) rfl ?_
      refine ⟨?_, rfl, ?_⟩
      · unfold ofR
        rw [if_pos (by omega)]
        first | (subst hs16; rfl) | (subst hs16; show some ((0 : Nat), _) = some (0, barN (g 179) n); first | rw [c85] | rw [show barN (g 179) n = 1 by omega]) | (rw [if_neg (by omega), if_neg (by omega), if_neg (by omega), if_neg (by omega), if_neg (by omega)])
      · first | exact (nowM_sk g n).tr hq.sk | exact nowM_sk g n
    · refine gw_tableIn (tgt := 76) (gc k_Model_of_0 10 rfl) (by omega) (by omega) (by rw [hs16]; rfl) rfl ?_
      refine gw_aload_n (gc k_Model_of_0 28 rfl) rfl rfl ?_
      refine gw_xV1 (gc k_Model_of_0 29 rfl) y_Model_earnsNow ln_Model_134 (c_earn hx hf n (by omega) ho hl) rfl rfl (gAt hx rfl rfl) rfl rfl (fun r77 sh2 g77 hq77 => ?_)
      obtain ⟨rfl, rfl, hq⟩ := hq77
      refine gw_ireturn (gc k_Model_of_0 30 rfl) rfl ?_
      refine ⟨?_, rfl, ?_⟩
      · unfold ofR
        rw [if_pos (by omega)]
        first | (subst hs16; rfl) | (subst hs16; show some ((0 : Nat), _) = some (0, barN (g 179) n); first | rw [c85] | rw [show barN (g 179) n = 1 by omega]) | (rw [if_neg (by omega), if_neg (by omega), if_neg (by omega), if_neg (by omega), if_neg (by omega)])
      · first | exact (nowM_sk g n).tr hq.sk | exact nowM_sk g n
    · refine gw_tableIn (tgt := 81) (gc k_Model_of_0 10 rfl) (by omega) (by omega) (by rw [hs16]; rfl) rfl ?_
      refine gw_aload_n (gc k_Model_of_0 31 rfl) rfl rfl ?_
      refine gw_xV1 (gc k_Model_of_0 32 rfl) y_Model_isBarred ln_Model_137 (c_bar hx hf n (by omega) ho hl) rfl rfl (gAt hx rfl rfl) rfl rfl (fun r82 sh2 g82 hq82 => ?_)
      obtain ⟨rfl, rfl, hq⟩ := hq82
      refine gw_if_eq (tgt := 92) (gc k_Model_of_0 33 rfl) rfl (by omega) (fun c85 => ?_) (fun c85 => ?_)
      · refine gw_iconst (gc k_Model_of_0 36 rfl) ?_
        refine gw_ireturn (gc k_Model_of_0 37 rfl) rfl ?_
        refine ⟨?_, rfl, ?_⟩
        · unfold ofR
          rw [if_pos (by omega)]
          first | (subst hs16; rfl) | (subst hs16; show some ((0 : Nat), _) = some (0, barN (g 179) n); first | rw [c85] | rw [show barN (g 179) n = 1 by omega]) | (rw [if_neg (by omega), if_neg (by omega), if_neg (by omega), if_neg (by omega), if_neg (by omega)])
        · first | exact (nowM_sk g n).tr hq.sk | exact nowM_sk g n
      · refine gw_iconst (gc k_Model_of_0 34 rfl) ?_
        refine gw_goto (tgt := 93) (gc k_Model_of_0 35 rfl) rfl ?_
        refine gw_ireturn (gc k_Model_of_0 37 rfl) rfl ?_
        refine ⟨?_, rfl, ?_⟩
        · unfold ofR
          rw [if_pos (by omega)]
          first | (subst hs16; rfl) | (subst hs16; show some ((0 : Nat), _) = some (0, barN (g 179) n); first | rw [c85] | rw [show barN (g 179) n = 1 by omega]) | (rw [if_neg (by omega), if_neg (by omega), if_neg (by omega), if_neg (by omega), if_neg (by omega)])
        · first | exact (nowM_sk g n).tr hq.sk | exact nowM_sk g n
    · refine gw_tableOut (tgt := 94) (gc k_Model_of_0 10 rfl) (by omega) (by omega) rfl ?_
      refine gw_iconst (gc k_Model_of_0 38 rfl) ?_
      refine gw_ireturn (gc k_Model_of_0 39 rfl) rfl ?_
      refine ⟨?_, rfl, ?_⟩
      · unfold ofR
        rw [if_pos (by omega)]
        first | (subst hs16; rfl) | (subst hs16; show some ((0 : Nat), _) = some (0, barN (g 179) n); first | rw [c85] | rw [show barN (g 179) n = 1 by omega]) | (rw [if_neg (by omega), if_neg (by omega), if_neg (by omega), if_neg (by omega), if_neg (by omega)])
      · first | exact (nowM_sk g n).tr hq.sk | exact nowM_sk g n
  · refine gw_iconst (gc k_Model_of_0 4 rfl) ?_
    refine gw_ireturn (gc k_Model_of_0 5 rfl) rfl ?_
    exact ⟨by unfold ofR; rw [if_neg (by omega)], rfl, gSk.rf g⟩
set_option maxHeartbeats 2000000 in
theorem all_step {sh : gS} {g : gM} (hx : gFix sh) (hf : gFin g) (k : Int) (hk : 0 ≤ k ∧ k ≤ 2) (ho : rowOK (g 179)) (hl : lawsOK (g 179)) {g2 : gM} (hs : gSk g g2) (acc i : Int) (hi : 0 ≤ i ∧ i ≤ 12) (hacc : -20000 ≤ acc ∧ acc ≤ 20000) (hlt : i < g 179 41) {Q : gQ} (K : ∀ g3, gSk g g3 → gWP f_Model_allOf 44 0 0 4 [(2, 177), (0, k), (0, acc + allV (g 179) k i), (0, i + 1)] [] sh g3 Q) : gWP f_Model_allOf 44 0 0 4 [(2, 177), (0, k), (0, acc), (0, i)] [] sh g2 Q := by
  have hm := ro_many ho
  have e2 : g2 179 = g 179 := hs.fn (by decide) (by decide)
  have hf2 := hf.sk hs
  have ho2 : rowOK (g2 179) := by rw [e2]; exact ho
  have hl2 : lawsOK (g2 179) := by rw [e2]; exact hl
  have hbn := barN_bd (g2 179) i
  show gWP f_Model_allOf _ _ _ 4 [(2, 177), (0, k), (0, acc), (0, i)] [] sh g2 _
  skip
  refine gw_iload_n (gc k_Model_allOf_0 4 rfl) rfl ?_
  refine gw_aload_n (gc k_Model_allOf_0 5 rfl) rfl rfl ?_
  refine gw_cV1 (gc k_Model_allOf_0 6 rfl) y_Model_noteMany ln_Model_112 (c_Model_noteMany hx hf2) rfl rfl (gAt hx rfl rfl) rfl rfl ?_
  rw [e2]
  refine gw_icmp_ge (tgt := 61) (gc k_Model_allOf_0 7 rfl) rfl (by omega) (fun c9 => ?_) (fun c9 => ?_)
  · exact absurd c9 (by omega)
  · refine gw_aload_n (gc k_Model_allOf_0 8 rfl) rfl rfl ?_
    refine gw_iload_n (gc k_Model_allOf_0 9 rfl) rfl ?_
    refine gw_cV0 (gc k_Model_allOf_0 10 rfl) y_Model_takesNow ln_Model_127 (c_takesNow hx hf2 i (by omega) ho2) rfl rfl (gAt hx rfl rfl) rfl rfl ?_
    refine gw_iload_n (gc k_Model_allOf_0 11 rfl) rfl ?_
    refine gw_iload_n (gc k_Model_allOf_0 12 rfl) rfl ?_
    refine gw_if_ne (tgt := 29) (gc k_Model_allOf_0 13 rfl) rfl (by omega) (fun c19 => ?_) (fun c19 => ?_)
    · refine gw_iload_n (gc k_Model_allOf_0 17 rfl) rfl ?_
      refine gw_iconst (gc k_Model_allOf_0 18 rfl) ?_
      refine gw_icmp_ne (tgt := 41) (gc k_Model_allOf_0 19 rfl) rfl (by omega) (fun c31 => ?_) (fun c31 => ?_)
      · refine gw_aload_n (gc k_Model_allOf_0 23 rfl) rfl rfl ?_
        refine gw_xV1 (gc k_Model_allOf_0 24 rfl) y_Model_isBarred ln_Model_137 (c_bar hx hf2 i (by omega) ho2 hl2) rfl rfl (gAt hx rfl rfl) rfl rfl (fun r42 sh2 g42 hq42 => ?_)
        obtain ⟨rfl, rfl, hq⟩ := hq42
        have hs3 := (hs.tr (nowM_sk g2 i)).tr hq.sk
        have K2 := K _ hs3
        rw [← e2, show allV (g2 179) k i = barN (g2 179) i from (if_neg (by omega)).trans (if_neg (by omega))] at K2
        refine gw_if_eq (tgt := 52) (gc k_Model_allOf_0 25 rfl) rfl (by omega) (fun c45 => ?_) (fun c45 => ?_)
        · rw [c45] at K2
          refine gw_iconst (gc k_Model_allOf_0 28 rfl) ?_
          refine gw_iadd (gc k_Model_allOf_0 29 rfl) ?_
          refine gw_istore_2 (gc k_Model_allOf_0 30 rfl) rfl rfl ?_
          refine gw_iinc_3 (gc k_Model_allOf_0 31 rfl) rfl rfl ?_
          refine gw_goto (tgt := 4) (gc k_Model_allOf_0 32 rfl) rfl ?_
          exact K2
        · rw [show barN (g2 179) i = 1 by omega] at K2
          refine gw_iconst (gc k_Model_allOf_0 26 rfl) ?_
          refine gw_goto (tgt := 53) (gc k_Model_allOf_0 27 rfl) rfl ?_
          refine gw_iadd (gc k_Model_allOf_0 29 rfl) ?_
          refine gw_istore_2 (gc k_Model_allOf_0 30 rfl) rfl rfl ?_
          refine gw_iinc_3 (gc k_Model_allOf_0 31 rfl) rfl rfl ?_
          refine gw_goto (tgt := 4) (gc k_Model_allOf_0 32 rfl) rfl ?_
          exact K2
      · refine gw_aload_n (gc k_Model_allOf_0 20 rfl) rfl rfl ?_
        refine gw_xV1 (gc k_Model_allOf_0 21 rfl) y_Model_earnsNow ln_Model_134 (c_earn hx hf2 i (by omega) ho2 hl2) rfl rfl (gAt hx rfl rfl) rfl rfl (fun r35 sh2 g35 hq35 => ?_)
        obtain ⟨rfl, rfl, hq⟩ := hq35
        have hs3 := (hs.tr (nowM_sk g2 i)).tr hq.sk
        have K2 := K _ hs3
        rw [← e2, show allV (g2 179) k i = earnN (g2 179) i from (if_neg (by omega)).trans (if_pos (by omega))] at K2
        refine gw_goto (tgt := 53) (gc k_Model_allOf_0 22 rfl) rfl ?_
        refine gw_iadd (gc k_Model_allOf_0 29 rfl) ?_
        refine gw_istore_2 (gc k_Model_allOf_0 30 rfl) rfl rfl ?_
        refine gw_iinc_3 (gc k_Model_allOf_0 31 rfl) rfl rfl ?_
        refine gw_goto (tgt := 4) (gc k_Model_allOf_0 32 rfl) rfl ?_
        exact K2
    · refine gw_aload_n (gc k_Model_allOf_0 14 rfl) rfl rfl ?_
      refine gw_xV1 (gc k_Model_allOf_0 15 rfl) y_Model_costsNow ln_Model_131 (c_cost hx hf2 i (by omega) ho2 hl2) rfl rfl (gAt hx rfl rfl) rfl rfl (fun r23 sh2 g23 hq23 => ?_)
      obtain ⟨rfl, rfl, hq⟩ := hq23
      have hs3 := (hs.tr (nowM_sk g2 i)).tr hq.sk
      have K2 := K _ hs3
      rw [← e2, show allV (g2 179) k i = costN (g2 179) i from if_pos (by omega)] at K2
      refine gw_goto (tgt := 53) (gc k_Model_allOf_0 16 rfl) rfl ?_
      refine gw_iadd (gc k_Model_allOf_0 29 rfl) ?_
      refine gw_istore_2 (gc k_Model_allOf_0 30 rfl) rfl rfl ?_
      refine gw_iinc_3 (gc k_Model_allOf_0 31 rfl) rfl rfl ?_
      refine gw_goto (tgt := 4) (gc k_Model_allOf_0 32 rfl) rfl ?_
      exact K2
set_option maxHeartbeats 2000000 in
theorem all_exit {sh : gS} {g : gM} (hx : gFix sh) (hf : gFin g) (k : Int) (hk : 0 ≤ k ∧ k ≤ 2) (ho : rowOK (g 179)) (hl : lawsOK (g 179)) {g2 : gM} (hs : gSk g g2) (acc i : Int) (hi : 0 ≤ i ∧ i ≤ 12) (hacc : -20000 ≤ acc ∧ acc ≤ 20000) (hlt : ¬ i < g 179 41) : gWP f_Model_allOf 44 0 0 4 [(2, 177), (0, k), (0, acc), (0, i)] [] sh g2 (gR (some (0, acc)) sh g2) := by
  have hm := ro_many ho
  have e2 : g2 179 = g 179 := hs.fn (by decide) (by decide)
  have hf2 := hf.sk hs
  have ho2 : rowOK (g2 179) := by rw [e2]; exact ho
  have hl2 : lawsOK (g2 179) := by rw [e2]; exact hl
  have hbn := barN_bd (g2 179) i
  show gWP f_Model_allOf _ _ _ 4 [(2, 177), (0, k), (0, acc), (0, i)] [] sh g2 _
  refine gw_iload_n (gc k_Model_allOf_0 4 rfl) rfl ?_
  refine gw_aload_n (gc k_Model_allOf_0 5 rfl) rfl rfl ?_
  refine gw_cV1 (gc k_Model_allOf_0 6 rfl) y_Model_noteMany ln_Model_112 (c_Model_noteMany hx hf2) rfl rfl (gAt hx rfl rfl) rfl rfl ?_
  rw [e2]
  refine gw_icmp_ge (tgt := 61) (gc k_Model_allOf_0 7 rfl) rfl (by omega) (fun c9 => ?_) (fun c9 => ?_)
  · refine gw_iload_n (gc k_Model_allOf_0 33 rfl) rfl ?_
    refine gw_ireturn (gc k_Model_allOf_0 34 rfl) rfl ?_
    exact ⟨rfl, rfl, rfl⟩
  · exact absurd c9 (by omega)
theorem all_loop {sh : gS} {g : gM} (hx : gFix sh) (hf : gFin g) (k : Int) (hk : 0 ≤ k ∧ k ≤ 2) (ho : rowOK (g 179)) (hl : lawsOK (g 179)) : ∀ (m i : Nat) (g2 : gM), gSk g g2 → i + m = (g 179 41).toNat → gWP f_Model_allOf 44 0 0 4 [(2, 177), (0, k), (0, smN (allV (g 179) k) i), (0, (i : Int))] [] sh g2 (fun r s2 g2 => r = some (0, allN (g 179) k) ∧ s2 = sh ∧ gSk g g2)
  | 0, i, g2, hs, e => by
    have hm := ro_many ho
    have hb := smN_bd (fun j a c => allV_bd ho k j ⟨a, c⟩) i (by omega)
    have ei : i = (g 179 41).toNat := by omega
    refine gWP.mono (all_exit hx hf k hk ho hl hs _ i (by omega) (by omega) (by omega)) (fun r s2 g3 z => ⟨z.1.trans ?_, z.2.1, ?_⟩)
    · rw [ei]; rfl
    · rw [z.2.2]; exact hs
  | m + 1, i, g2, hs, e => by
    have hm := ro_many ho
    have hb := smN_bd (fun j a c => allV_bd ho k j ⟨a, c⟩) i (by omega)
    exact all_step hx hf k hk ho hl hs _ i (by omega) (by omega) (by omega) (fun g3 h3 => all_loop hx hf k hk ho hl m (i + 1) g3 h3 (by omega))
theorem allN_bd {r : Int → Int} (ho : rowOK r) (k : Int) : -12000 ≤ allN r k ∧ allN r k ≤ 12000 := by
  have hm := ro_many ho
  have := smN_bd (fun j a c => allV_bd ho k j ⟨a, c⟩) (r 41).toNat (by omega)
  unfold allN
  omega
set_option maxHeartbeats 1000000 in
theorem c_Model_allOf {sh : gS} {g : gM} (hx : gFix sh) (hf : gFin g) (k : Int) (hk : 0 ≤ k ∧ k ≤ 2) (ho : rowOK (g 179)) (hl : lawsOK (g 179)) : gTri f_Model_allOf 44 0 0 [(2, 177), (0, k)] sh g (fun r s2 g2 => r = some (0, allN (g 179) k) ∧ s2 = sh ∧ gSk g g2) := by
  refine gTri.of (by decide +kernel) rfl ?_
  show gWP f_Model_allOf _ _ _ 0 [(2, 177), (0, k), (9, 0), (9, 0)] [] sh g _
  refine gw_iconst (gc k_Model_allOf_0 0 rfl) ?_
  refine gw_istore_2 (gc k_Model_allOf_0 1 rfl) rfl rfl ?_
  refine gw_iconst (gc k_Model_allOf_0 2 rfl) ?_
  refine gw_istore_3 (gc k_Model_allOf_0 3 rfl) rfl rfl ?_
  exact all_loop hx hf k hk ho hl (g 179 41).toNat 0 g (gSk.rf g) (by omega)
set_option maxHeartbeats 1000000 in
theorem c_Model_all {sh : gS} {g : gM} (hx : gFix sh) (hf : gFin g) (k : Int) (hb : -2147483648 ≤ k ∧ k ≤ 2147483647) (ho : rowOK (g 179)) (hl : lawsOK (g 179)) : gTri f_Model_all 45 0 0 [(2, 177), (0, k)] sh g (fun r s2 g2 => r = some (0, (if 0 ≤ k ∧ k ≤ 2 then allN (g 179) k else -1)) ∧ s2 = sh ∧ gSk g g2) := by
  refine gTri.of (by decide +kernel) rfl ?_
  show gWP f_Model_all _ _ _ 0 [(2, 177), (0, k)] [] sh g _
  refine gw_iload_n (gc k_Model_all_0 0 rfl) rfl ?_
  refine gw_iconst (gc k_Model_all_0 1 rfl) ?_
  refine gw_iconst (gc k_Model_all_0 2 rfl) ?_
  refine gw_cS1 (gc k_Model_all_0 3 rfl) y_Model_lies ln_Model_18 (c_Model_lies _ _ _ (by omega)) rfl rfl rfl rfl ?_
  refine gw_beq (tgt := 17) (gc k_Model_all_0 4 rfl) rfl (fun c6 => ?_) (fun c6 => ?_)
  · refine gw_iconst (gc k_Model_all_0 9 rfl) ?_
    refine gw_ireturn (gc k_Model_all_0 10 rfl) rfl ?_
    first | exact ⟨by rw [if_pos (by omega)], rfl, hq⟩ | exact ⟨by rw [if_neg (by omega)], rfl, gSk.rf g⟩
  · refine gw_aload_n (gc k_Model_all_0 5 rfl) rfl rfl ?_
    refine gw_iload_n (gc k_Model_all_0 6 rfl) rfl ?_
    refine gw_xV1 (gc k_Model_all_0 7 rfl) y_Model_allOf ln_Model_332 (c_Model_allOf hx hf k (by omega) ho hl) rfl rfl (gAt hx rfl rfl) rfl rfl (fun r11 sh2 g11 hq11 => ?_)
    obtain ⟨rfl, rfl, hq⟩ := hq11
    refine gw_goto (tgt := 18) (gc k_Model_all_0 8 rfl) rfl ?_
    refine gw_ireturn (gc k_Model_all_0 10 rfl) rfl ?_
    first | exact ⟨by rw [if_pos (by omega)], rfl, hq⟩ | exact ⟨by rw [if_neg (by omega)], rfl, gSk.rf g⟩
