/-! ===== the reference: facts ===== -/
/-- memories alike but where questions work -/
def gQu (g g2 : gM) : Prop := ∀ a k, ¬ (a = 177 ∧ 22 ≤ k ∧ k ≤ 25) → ¬ (a = 189 ∨ (192 ≤ a ∧ a ≤ 198)) → g2 a k = g a k
theorem gQu.rf (g : gM) : gQu g g := fun _ _ _ _ => rfl
theorem gQu.tr {g g2 g3 : gM} (h : gQu g g2) (h2 : gQu g2 g3) : gQu g g3 := fun a k n m => (h2 a k n m).trans (h a k n m)
theorem gVo.qu {g g2 : gM} (h : gVo g g2) : gQu g g2 := fun a k n m => h a k n (fun z => m (by omega))
theorem gSk.qu {g g2 : gM} (h : gSk g g2) : gQu g g2 := h.vo.qu
theorem gQu.fn {g g2 : gM} (h : gQu g g2) {a : Int} (ha : a ≠ 177) (h2 : ¬ (a = 189 ∨ (192 ≤ a ∧ a ≤ 198))) : g2 a = g a := funext fun k => h a k (fun z => ha z.1) h2
theorem gref_qu {a k : Nat} (h : a = 189 ∨ (192 ≤ a ∧ a ≤ 198)) : gref a k = none := by
  rcases (show a = 189 ∨ a = 192 ∨ a = 193 ∨ a = 194 ∨ a = 195 ∨ a = 196 ∨ a = 197 ∨ a = 198 by omega) with rfl | rfl | rfl | rfl | rfl | rfl | rfl | rfl <;> rfl
theorem gFin.qu {g g2 : gM} (h : gFin g) (hs : gQu g g2) : gFin g2 := h.of fun a k n => hs _ _ (fun z => n (by
  obtain ⟨rfl⟩ : a = 177 := by omega
  exact gref_sc (by omega) (by omega))) (fun z => n (gref_qu (by omega)))
theorem ask_3 (r : Int → Int) (n : Int) : askM r n (r n) (0 < n) (if 0 < n then r (n - 1) else 0) 3 = leapN r n := (nowM_at (fun _ => r) n 3 (by decide) (by decide)).symm.trans (nowM_3 (fun _ => r) n)
def nowOK (M : gM) (r : Int → Int) (n : Int) : Prop := M 179 = r ∧ ∀ j, 0 ≤ j → j < 10 → M 189 j = askM r n (r n) (0 < n) (if 0 < n then r (n - 1) else 0) j
theorem nowOK.of (g : gM) (n : Int) : nowOK (nowM g n) (g 179) n := ⟨nowM_fn g n (by decide), nowM_at g n⟩
theorem nowOK.sc {M M2 : gM} {r : Int → Int} {n : Int} (h : nowOK M r n) (hs : ∀ a, a = 179 ∨ a = 189 → M2 a = M a) : nowOK M2 r n := ⟨(hs 179 (Or.inl rfl)).trans h.1, fun j h1 h2 => by rw [hs 189 (Or.inr rfl)]; exact h.2 j h1 h2⟩
theorem c_costX {sh : gS} {M : gM} (hx : gFix sh) (hf : gFin M) {r : Int → Int} (ho : rowOK r) (hl : lawsOK r) {n : Int} (hn : 0 ≤ n ∧ n < 12) (hN : nowOK M r n) : gTri f_Model_costsNow 43 0 0 [(2, 177)] sh M (fun x s2 g2 => x = some (0, costN r n) ∧ s2 = sh ∧ gSc M g2) := by
  have q := c_Model_costsNow hx hf (by rw [hN.1]; exact ho) (fun j h1 h2 => by rw [hN.2 j h1 h2]; exact askM_bd ho n hn j h1 h2) (by rw [hN.1]; exact hl)
  rw [hN.1, askW_in hN.2, hN.2 3 (by decide) (by decide), ask_3] at q
  exact q
theorem c_earnX {sh : gS} {M : gM} (hx : gFix sh) (hf : gFin M) {r : Int → Int} (ho : rowOK r) (hl : lawsOK r) {n : Int} (hn : 0 ≤ n ∧ n < 12) (hN : nowOK M r n) : gTri f_Model_earnsNow 43 0 0 [(2, 177)] sh M (fun x s2 g2 => x = some (0, earnN r n) ∧ s2 = sh ∧ gSc M g2) := by
  have q := c_Model_earnsNow hx hf (by rw [hN.1]; exact ho) (fun j h1 h2 => by rw [hN.2 j h1 h2]; exact askM_bd ho n hn j h1 h2) (by rw [hN.1]; exact hl)
  rw [hN.1, askW_in hN.2] at q
  exact q
def factN (r : Int → Int) (n f : Int) : Int := if f = 0 then r n - r (12 + n) else if f = 1 then leapN r n else if f = 2 then costN r n else earnN r n
theorem factN_0 (r : Int → Int) (n : Int) : factN r n 0 = r n - r (12 + n) := rfl
theorem factN_1 (r : Int → Int) (n : Int) : factN r n 1 = leapN r n := rfl
theorem factN_2 (r : Int → Int) (n : Int) : factN r n 2 = costN r n := rfl
theorem factN_3 (r : Int → Int) (n : Int) : factN r n 3 = earnN r n := rfl
theorem factN_bd {r : Int → Int} (ho : rowOK r) (n f : Int) (hn : 0 ≤ n ∧ n < 12) : -1000 ≤ factN r n f ∧ factN r n f ≤ 1000 := by
  have h1 := ro_pitch ho n (by omega)
  have h2 := ro_pitch ho (12 + n) (by omega)
  have h3 := costN_bd ho n hn
  have h4 := earnN_bd r n
  unfold factN
  split
  · omega
  · split
    · unfold leapN
      split
      · have := ro_pitch ho (n - 1) (by omega)
        omega
      · omega
    · split <;> omega
/-- facts laid -/
def fcOK (r : Int → Int) (i : Int) (g : gM) : Prop := ∀ n f, 0 ≤ n → n < i → 0 ≤ f → f ≤ 3 → g 197 (4 * n + f) = factN r n f
def fcUp (g0 : gM) (i : Int) (g : gM) : Prop := gQu g0 g ∧ fcOK (g0 179) i g
theorem fc_step {g0 g1 ga gb : gM} {n : Int} (h : fcUp g0 n g1) (h1 : gSc (gup (gup (nowM g1 n) 197 (4 * n) (factN (g0 179) n 0)) 197 (4 * n + 1) (factN (g0 179) n 1)) ga) (h2 : gSc (gup ga 197 (4 * n + 2) (factN (g0 179) n 2)) gb) : fcUp g0 (n + 1) (gup gb 197 (4 * n + 3) (factN (g0 179) n 3)) := by
  have e2 : gb 197 = gup ga 197 (4 * n + 2) (factN (g0 179) n 2) 197 := h2.fn (by decide)
  have e1 : ga 197 = gup (gup (nowM g1 n) 197 (4 * n) (factN (g0 179) n 0)) 197 (4 * n + 1) (factN (g0 179) n 1) 197 := h1.fn (by decide)
  have e0 : nowM g1 n 197 = g1 197 := nowM_fn g1 n (by decide)
  refine ⟨fun a k x y => ?_, fun m f a1 a2 a3 a4 => ?_⟩
  · have ha : a ≠ 197 := fun z => y (by omega)
    rw [gup_a _ _ _ _ _ ha, h2 a k x, gup_a _ _ _ _ _ ha, h1 a k x, gup_a _ _ _ _ _ ha, gup_a _ _ _ _ _ ha, nowM_sk g1 n a k x (fun z => y (by omega))]
    exact h.1 a k x y
  · by_cases z3 : 4 * m + f = 4 * n + 3
    · obtain rfl : f = 3 := by omega
      obtain rfl : m = n := by omega
      rw [gup_s]
    · rw [gup_k _ _ _ _ z3, e2]
      by_cases z2 : 4 * m + f = 4 * n + 2
      · obtain rfl : f = 2 := by omega
        obtain rfl : m = n := by omega
        rw [gup_s]
      · rw [gup_k _ _ _ _ z2, e1]
        by_cases z1 : 4 * m + f = 4 * n + 1
        · obtain rfl : f = 1 := by omega
          obtain rfl : m = n := by omega
          rw [gup_s]
        · rw [gup_k _ _ _ _ z1]
          by_cases z0 : 4 * m + f = 4 * n
          · obtain rfl : f = 0 := by omega
            obtain rfl : m = n := by omega
            rw [Int.add_zero, gup_s]
          · rw [gup_k _ _ _ _ z0, e0]
            exact h.2 m f a1 (by omega) a3 a4
theorem fcUp.row {g0 g : gM} {i : Int} (h : fcUp g0 i g) : g 179 = g0 179 := h.1.fn (by decide) (by omega)
/-- whether a note is so at all that was heard -/
def soF (r : Int → Int) (n : Int) : Nat → Int
  | 0 => 1
  | m + 1 => if soF r n m = 1 ∧ factN r n (r (25 + 2 * m)) = r (25 + 2 * m + 1) then 1 else 0
theorem soF_01 (r : Int → Int) (n : Int) (m : Nat) : soF r n m = 0 ∨ soF r n m = 1 := by
  cases m with
  | zero => exact Or.inr rfl
  | succ m => unfold soF; split <;> simp
def soR (r : Int → Int) (n : Int) : Int := soF r n (r 42).toNat
def cbR (r : Int → Int) : Int := seF (soR r) (r 41).toNat
theorem cbR_bd {r : Int → Int} (ho : rowOK r) : 0 ≤ cbR r ∧ cbR r < 4096 := by
  have hm := ro_many ho
  have h := seF_bd (soR r) (r 41).toNat (by omega)
  have p2 : 2 ^ (r 41).toNat ≤ 2 ^ 12 := Nat.pow_le_pow_right (by decide) (by omega)
  have p3 : (2 ^ 12 : Nat) = 4096 := rfl
  unfold cbR
  omega
/-- how many of a set are like one -/
def mlC (r : Int → Int) (s f a : Int) : Nat → Int
  | 0 => 0
  | m + 1 => mlC r s f a m + (if bitI s m = 1 ∧ factN r a f = factN r m f then 1 else 0)
def mlM (r : Int → Int) (s f : Int) : Nat → Int
  | 0 => 0
  | m + 1 => if bitI s m = 1 then (if mlC r s f m (r 41).toNat < mlM r s f m then mlM r s f m else mlC r s f m (r 41).toNat) else mlM r s f m
theorem mlC_bd (r : Int → Int) (s f a : Int) : ∀ m : Nat, 0 ≤ mlC r s f a m ∧ mlC r s f a m ≤ m
  | 0 => ⟨Int.le_refl _, Int.le_refl _⟩
  | m + 1 => by
    have := mlC_bd r s f a m
    unfold mlC
    split <;> omega
theorem mlM_bd {r : Int → Int} (ho : rowOK r) (s f : Int) : ∀ m : Nat, 0 ≤ mlM r s f m ∧ mlM r s f m ≤ 12
  | 0 => ⟨Int.le_refl _, by show (0 : Int) ≤ 12; decide⟩
  | m + 1 => by
    have := mlM_bd ho s f m
    have := mlC_bd r s f m (r 41).toNat
    have := ro_many ho
    unfold mlM
    repeat' split
    all_goals omega
def mlR (r : Int → Int) (s f : Int) : Int := mlM r s f (r 41).toNat
def liF (f : Int → Int) : Nat → Int × Int
  | 0 => (-1, 100000000)
  | m + 1 => if (liF f m).2 ≤ f m then liF f m else ((m : Int), f m)
theorem liF_0 {f : Int → Int} {m : Nat} (h : (liF f m).2 ≤ f m) : liF f (m + 1) = liF f m := if_pos h
theorem liF_1 {f : Int → Int} {m : Nat} (h : ¬ (liF f m).2 ≤ f m) : liF f (m + 1) = ((m : Int), f m) := if_neg h
theorem liF_bd {f : Int → Int} (hf : ∀ p, 0 ≤ f p ∧ f p ≤ 12) : ∀ m : Nat, (-1 ≤ (liF f m).1 ∧ (liF f m).1 < m) ∧ (0 ≤ (liF f m).2 ∧ (liF f m).2 ≤ 100000000) ∧ (0 < m → 0 ≤ (liF f m).1 ∧ (liF f m).2 ≤ 12)
  | 0 => by unfold liF; exact ⟨⟨by decide, by decide⟩, ⟨by decide, by decide⟩, fun h => absurd h (by decide)⟩
  | m + 1 => by
    have := liF_bd hf m
    have := hf m
    have h0 : m = 0 → (liF f m).2 = 100000000 := fun z => by subst z; rfl
    unfold liF
    split
    · omega
    · dsimp only; omega
def liR (r : Int → Int) (k : Int) : Int := if (0 ≤ k ∧ k ≤ 1) ∧ ¬ cbR r = 0 then (if k = 0 then (liF (mlR r (cbR r)) 4).1 else (liF (mlR r (cbR r)) 4).2) else -1
set_option maxHeartbeats 1000000 in
theorem c_Model_ones {sh : gS} {g : gM} (s : Int) : gTri f_Model_ones 0 0 0 [(0, s)] sh g (gR (some (0, onF s 12)) sh g) := by
  refine gTri.of (by decide +kernel) rfl ?_
  show gWP f_Model_ones _ _ _ 0 [(0, s), (9, 0), (9, 0)] [] sh g _
  refine gw_iconst (gc k_Model_ones_0 0 rfl) ?_
  refine gw_istore_1 (gc k_Model_ones_0 1 rfl) rfl rfl ?_
  refine gw_iconst (gc k_Model_ones_0 2 rfl) ?_
  refine gw_istore_2 (gc k_Model_ones_0 3 rfl) rfl rfl ?_
  refine gwloop (σ := Nat) (fun zs => zs ≤ 12) (fun zs => 12 - zs) (fun zs => [(0, s), (0, onF s zs), (0, (zs : Int))]) (fun zs => g) (0) (show (0 : Nat) ≤ 12 from by omega) rfl rfl (fun zs hI ih => ?_)
  obtain ⟨m, hzz⟩ : ∃ x, x = zs := ⟨_, rfl⟩
  subst hzz
  replace hI : m ≤ 12 := hI
  have hm := hI
  show gWP _ _ _ _ _ [(0, s), (0, onF s m), (0, (m : Int))] [] _ (g) _
  have hob := onF_bd s m
  refine gw_iload_n (gc k_Model_ones_0 4 rfl) rfl ?_
  refine gw_bipush (gc k_Model_ones_0 5 rfl) (by decide) ?_
  refine gw_icmp_ge (tgt := 24) (gc k_Model_ones_0 6 rfl) rfl (by omega) (fun c7 => ?_) (fun c7 => ?_)
  · refine gw_iload_n (gc k_Model_ones_0 17 rfl) rfl ?_
    refine gw_ireturn (gc k_Model_ones_0 18 rfl) rfl ?_
    obtain rfl : m = 12 := by omega
    exact ⟨rfl, rfl, rfl⟩
  · refine gw_iload_n (gc k_Model_ones_0 7 rfl) rfl ?_
    refine gw_iload_n (gc k_Model_ones_0 8 rfl) rfl ?_
    refine gw_iload_n (gc k_Model_ones_0 9 rfl) rfl ?_
    refine gw_ishr (gc k_Model_ones_0 10 rfl) ?_
    refine gw_iconst (gc k_Model_ones_0 11 rfl) ?_
    refine gw_iand (gc k_Model_ones_0 12 rfl) ?_
    refine gw_iadd (gc k_Model_ones_0 13 rfl) ?_
    refine gw_istore_1 (gc k_Model_ones_0 14 rfl) rfl rfl ?_
    refine gw_iinc_2 (gc k_Model_ones_0 15 rfl) rfl rfl ?_
    refine gw_goto (tgt := 4) (gc k_Model_ones_0 16 rfl) rfl ?_
    exact ih (m + 1) (show (m + 1) ≤ 12 from (by omega)) (show 12 - (m + 1) < 12 - m from by omega)
set_option maxHeartbeats 1000000 in
theorem c_Model_laysFacts {sh : gS} {g : gM} (hx : gFix sh) (hf : gFin g) (ho : rowOK (g 179)) (hl : lawsOK (g 179)) : gTri f_Model_laysFacts 44 0 0 [(2, 177)] sh g (fun x s2 g2 => x = none ∧ s2 = sh ∧ fcUp g (g 179 41) g2) := by
  have hm := ro_many ho
  have hf0 := hf
  refine gTri.of (by decide +kernel) rfl ?_
  show gWP f_Model_laysFacts _ _ _ 0 [(2, 177), (9, 0)] [] sh g _
  refine gw_iconst (gc k_Model_laysFacts_0 0 rfl) ?_
  refine gw_istore_1 (gc k_Model_laysFacts_0 1 rfl) rfl rfl ?_
  refine gwloop (σ := Nat × gM) (fun zs => ((zs.1) : Int) ≤ g 179 41 ∧ fcUp g (zs.1) (zs.2)) (fun zs => (g 179 41).toNat - (zs.1)) (fun zs => [(2, 177), (0, ((zs.1) : Int))]) (fun zs => (zs.2)) (0, g) (show ((0 : Nat) : Int) ≤ g 179 41 ∧ fcUp g (0 : Nat) g from ⟨by omega, gQu.rf g, fun n f a1 a2 => by omega⟩) rfl rfl (fun zs hI ih => ?_)
  obtain ⟨m, g1⟩ := zs
  replace hI : (m : Int) ≤ g 179 41 ∧ fcUp g m g1 := hI
  obtain ⟨hm1, hU⟩ := hI
  show gWP _ _ _ _ _ [(2, 177), (0, (m : Int))] [] _ (g1) _
  have hf := hf0.qu hU.1
  have e1 : g1 179 = g 179 := hU.row
  refine gw_iload_n (gc k_Model_laysFacts_0 2 rfl) rfl ?_
  refine gw_aload_n (gc k_Model_laysFacts_0 3 rfl) rfl rfl ?_
  refine gw_cV1 (gc k_Model_laysFacts_0 4 rfl) y_Model_noteMany ln_Model_112 (c_Model_noteMany hx hf) rfl rfl (gAt hx rfl rfl) rfl rfl ?_
  rw [e1]
  refine gw_icmp_ge (tgt := 77) (gc k_Model_laysFacts_0 5 rfl) rfl (by omega) (fun c7 => ?_) (fun c7 => ?_)
  · refine gw_return (gc k_Model_laysFacts_1 11 rfl) rfl ?_
    have em : (m : Int) = g 179 41 := by omega
    rw [em] at hU
    exact ⟨rfl, rfl, hU⟩
  · refine gw_aload_n (gc k_Model_laysFacts_0 6 rfl) rfl rfl ?_
    refine gw_iload_n (gc k_Model_laysFacts_0 7 rfl) rfl ?_
    refine gw_cV0 (gc k_Model_laysFacts_0 8 rfl) y_Model_takesNow ln_Model_127 (c_takesNow hx hf m (by omega) (by rw [e1]; exact ho)) rfl rfl (gAt hx rfl rfl) rfl rfl ?_
    have hf := nowM_fin hf m
    have hN : nowOK (nowM g1 m) (g 179) m := e1 ▸ nowOK.of g1 m
    refine gw_aload_n (gc k_Model_laysFacts_0 9 rfl) rfl rfl ?_
    refine gw_getref (gc k_Model_laysFacts_0 10 rfl) fl_Model_88 (gAt hx rfl rfl) (gRf hf rfl rfl) ?_
    refine gw_iconst (gc k_Model_laysFacts_0 11 rfl) ?_
    refine gw_iload_n (gc k_Model_laysFacts_0 12 rfl) rfl ?_
    refine gw_imul (gc k_Model_laysFacts_0 13 rfl) ?_
    refine gw_aload_n (gc k_Model_laysFacts_0 14 rfl) rfl rfl ?_
    refine gw_iload_n (gc k_Model_laysFacts_0 15 rfl) rfl ?_
    refine gw_cV1 (gc k_Model_laysFacts_0 16 rfl) y_Model_apartOf ln_Model_141 (c_Model_apartOf hx hf m (by omega)) rfl rfl (gAt hx rfl rfl) rfl rfl ?_
    rw [show nowM g1 m 179 m - nowM g1 m 179 (12 + m) = factN (g 179) m 0 by rw [hN.1]; rfl]
    refine gw_iastF (gc k_Model_laysFacts_0 17 rfl) (gAt hx rfl rfl) (by omega) hf rfl (fun hf => ?_)
    have hN := hN.sc (M2 := gup (nowM g1 m) 197 (4 * (m : Int)) (factN (g 179) m 0)) (fun a ha => gup_fn _ _ _ _ (by omega))
    refine gw_aload_n (gc k_Model_laysFacts_0 18 rfl) rfl rfl ?_
    refine gw_getref (gc k_Model_laysFacts_0 19 rfl) fl_Model_88 (gAt hx rfl rfl) (gRf hf rfl rfl) ?_
    refine gw_iconst (gc k_Model_laysFacts_0 20 rfl) ?_
    refine gw_iload_n (gc k_Model_laysFacts_0 21 rfl) rfl ?_
    refine gw_imul (gc k_Model_laysFacts_0 22 rfl) ?_
    refine gw_iconst (gc k_Model_laysFacts_0 23 rfl) ?_
    refine gw_iadd (gc k_Model_laysFacts_0 24 rfl) ?_
    refine gw_aload_n (gc k_Model_laysFacts_0 25 rfl) rfl rfl ?_
    refine gw_iload_n (gc k_Model_laysFacts_0 26 rfl) rfl ?_
    refine gw_cV1 (gc k_Model_laysFacts_0 27 rfl) y_Model_leapOf ln_Model_144 (c_Model_leapOf hx hf m (by omega)) rfl rfl (gAt hx rfl rfl) rfl rfl ?_
    rw [show (if (m : Int) = 0 then 0 else gup (nowM g1 m) 197 (4 * (m : Int)) (factN (g 179) m 0) 179 m - gup (nowM g1 m) 197 (4 * (m : Int)) (factN (g 179) m 0) 179 (m - 1)) = factN (g 179) m 1 by
      rw [hN.1, factN_1]; unfold leapN; split <;> split <;> first | rfl | omega]
    refine gw_iastF (gc k_Model_laysFacts_0 28 rfl) (gAt hx rfl rfl) (by omega) hf rfl (fun hf => ?_)
    have hN := hN.sc (M2 := gup (gup (nowM g1 m) 197 (4 * (m : Int)) (factN (g 179) m 0)) 197 (4 * (m : Int) + 1) (factN (g 179) m 1)) (fun a ha => gup_fn _ _ _ _ (by omega))
    refine gw_aload_n (gc k_Model_laysFacts_0 29 rfl) rfl rfl ?_
    refine gw_getref (gc k_Model_laysFacts_0 30 rfl) fl_Model_88 (gAt hx rfl rfl) (gRf hf rfl rfl) ?_
    refine gw_iconst (gc k_Model_laysFacts_0 31 rfl) ?_
    refine gw_iload_n (gc k_Model_laysFacts_0 32 rfl) rfl ?_
    refine gw_imul (gc k_Model_laysFacts_0 33 rfl) ?_
    refine gw_iconst (gc k_Model_laysFacts_0 34 rfl) ?_
    refine gw_iadd (gc k_Model_laysFacts_0 35 rfl) ?_
    refine gw_aload_n (gc k_Model_laysFacts_0 36 rfl) rfl rfl ?_
    refine gw_xV1 (gc k_Model_laysFacts_0 37 rfl) y_Model_costsNow ln_Model_131 (c_costX hx hf ho hl (n := m) (by omega) hN) rfl rfl (gAt hx rfl rfl) rfl rfl (fun r53 sh2 g53 hq53 => ?_)
    obtain ⟨rfl, rfl, hq53⟩ := hq53
    have hf := hf.sc hq53
    have hN := hN.sc (M2 := g53) (fun a ha => hq53.fn (by omega))
    show gWP _ _ _ _ 56 _ ((0, factN (g 179) m 2) :: _) _ _ _
    refine gw_iastF (gc k_Model_laysFacts_0 38 rfl) (gAt hx rfl rfl) (by omega) hf rfl (fun hf => ?_)
    have hN := hN.sc (M2 := gup g53 197 (4 * (m : Int) + 2) (factN (g 179) m 2)) (fun a ha => gup_fn _ _ _ _ (by omega))
    refine gw_aload_n (gc k_Model_laysFacts_0 39 rfl) rfl rfl ?_
    refine gw_getref (gc k_Model_laysFacts_1 0 rfl) fl_Model_88 (gAt hx rfl rfl) (gRf hf rfl rfl) ?_
    refine gw_iconst (gc k_Model_laysFacts_1 1 rfl) ?_
    refine gw_iload_n (gc k_Model_laysFacts_1 2 rfl) rfl ?_
    refine gw_imul (gc k_Model_laysFacts_1 3 rfl) ?_
    refine gw_iconst (gc k_Model_laysFacts_1 4 rfl) ?_
    refine gw_iadd (gc k_Model_laysFacts_1 5 rfl) ?_
    refine gw_aload_n (gc k_Model_laysFacts_1 6 rfl) rfl rfl ?_
    refine gw_xV1 (gc k_Model_laysFacts_1 7 rfl) y_Model_earnsNow ln_Model_134 (c_earnX hx hf ho hl (n := m) (by omega) hN) rfl rfl (gAt hx rfl rfl) rfl rfl (fun r67 sh2 g67 hq67 => ?_)
    obtain ⟨rfl, rfl, hq67⟩ := hq67
    have hf := hf.sc hq67
    show gWP _ _ _ _ 70 _ ((0, factN (g 179) m 3) :: _) _ _ _
    refine gw_iastF (gc k_Model_laysFacts_1 8 rfl) (gAt hx rfl rfl) (by omega) hf rfl (fun hf => ?_)
    refine gw_iinc_1 (gc k_Model_laysFacts_1 9 rfl) rfl rfl ?_
    refine gw_goto (tgt := 2) (gc k_Model_laysFacts_1 10 rfl) rfl ?_
    have hU2 : fcUp g ((m + 1 : Nat) : Int) (gup g67 197 (4 * (m : Int) + 3) (factN (g 179) m 3)) := fc_step hU hq53 hq67
    exact ih (m + 1, gup g67 197 (4 * (m : Int) + 3) (factN (g 179) m 3)) (show ((m + 1) : Int) ≤ g 179 41 ∧ fcUp g (m + 1) (gup g67 197 (4 * (m : Int) + 3) (factN (g 179) m 3)) from ⟨by omega, hU2⟩) (show (g 179 41).toNat - (m + 1) < (g 179 41).toNat - m from by omega)
set_option maxHeartbeats 1000000 in
theorem c_Model_isSo {sh : gS} {g : gM} (hx : gFix sh) (hf : gFin g) {r : Int → Int} (er : g 179 = r) (ho : rowOK r) (n : Int) (hn : 0 ≤ n ∧ n < r 41) (hF : fcOK r (r 41) g) : gTri f_Model_isSo 0 0 0 [(2, 177), (0, n)] sh g (gR (some (0, soR r n)) sh g) := by
  have hm := ro_many ho
  have hh := ro_heardN ho
  refine gTri.of (by decide +kernel) rfl ?_
  show gWP f_Model_isSo _ _ _ 0 [(2, 177), (0, n), (9, 0), (9, 0)] [] sh g _
  refine gw_iconst (gc k_Model_isSo_0 0 rfl) ?_
  refine gw_istore_2 (gc k_Model_isSo_0 1 rfl) rfl rfl ?_
  refine gw_iconst (gc k_Model_isSo_0 2 rfl) ?_
  refine gw_istore_3 (gc k_Model_isSo_0 3 rfl) rfl rfl ?_
  refine gwloop (σ := Nat) (fun zs => (zs : Int) ≤ r 42) (fun zs => (r 42).toNat - zs) (fun zs => [(2, 177), (0, n), (0, soF r n zs), (0, (zs : Int))]) (fun zs => g) (0) (show ((0 : Nat) : Int) ≤ r 42 from (by omega)) rfl rfl (fun zs hI ih => ?_)
  obtain ⟨m, hzz⟩ : ∃ x, x = zs := ⟨_, rfl⟩
  subst hzz
  replace hI : (m : Int) ≤ r 42 := hI
  have hm1 := hI
  show gWP _ _ _ _ _ [(2, 177), (0, n), (0, soF r n m), (0, (m : Int))] [] _ (g) _
  have h01 := soF_01 r n m
  refine gw_iload_n (gc k_Model_isSo_0 4 rfl) rfl ?_
  refine gw_aload_n (gc k_Model_isSo_0 5 rfl) rfl rfl ?_
  refine gw_getref (gc k_Model_isSo_0 6 rfl) fl_Model_28 (gAt hx rfl rfl) (gRf hf rfl rfl) ?_
  refine gw_bipush (gc k_Model_isSo_0 7 rfl) (by decide) ?_
  refine gw_iald (gc k_Model_isSo_0 8 rfl) (gAt hx rfl rfl) (by omega) ?_
  rw [er]
  refine gw_icmp_ge (tgt := 67) (gc k_Model_isSo_0 9 rfl) rfl (by omega) (fun c12 => ?_) (fun c12 => ?_)
  · refine gw_iload_n (gc k_Model_isSo_1 4 rfl) rfl ?_
    refine gw_zreturn (gc k_Model_isSo_1 5 rfl) rfl h01 ?_
    have em : m = (r 42).toNat := by omega
    subst em
    exact ⟨rfl, rfl, rfl⟩
  · refine gw_iload_n (gc k_Model_isSo_0 10 rfl) rfl ?_
    refine gw_if_eq (tgt := 59) (gc k_Model_isSo_0 11 rfl) rfl (by omega) (fun c16 => ?_) (fun c16 => ?_)
    · refine gw_iconst (gc k_Model_isSo_1 0 rfl) ?_
      refine gw_istore_2 (gc k_Model_isSo_1 1 rfl) rfl rfl ?_
      refine gw_iinc_3 (gc k_Model_isSo_1 2 rfl) rfl rfl ?_
      refine gw_goto (tgt := 4) (gc k_Model_isSo_1 3 rfl) rfl ?_
      exact gWP.eqs (by show [(2, 177), (0, n), (0, soF r n (m + 1)), (0, ((m + 1) : Int))] = _; rw [show soF r n (m + 1) = 0 from if_neg (fun z => by omega)] <;> rfl) rfl (ih (m + 1) (show ((m + 1) : Int) ≤ r 42 from (by omega)) (show (r 42).toNat - (m + 1) < (r 42).toNat - m from by omega))
    · have hp := ro_heard ho m (by omega)
      have hfa := hF n (r (25 + 2 * (m : Int))) hn.1 hn.2 hp.1.1 hp.1.2
      have hfb := factN_bd ho n (r (25 + 2 * (m : Int))) (by omega)
      refine gw_aload_n (gc k_Model_isSo_0 12 rfl) rfl rfl ?_
      refine gw_getref (gc k_Model_isSo_0 13 rfl) fl_Model_88 (gAt hx rfl rfl) (gRf hf rfl rfl) ?_
      refine gw_iconst (gc k_Model_isSo_0 14 rfl) ?_
      refine gw_iload_n (gc k_Model_isSo_0 15 rfl) rfl ?_
      refine gw_imul (gc k_Model_isSo_0 16 rfl) ?_
      refine gw_aload_n (gc k_Model_isSo_0 17 rfl) rfl rfl ?_
      refine gw_getref (gc k_Model_isSo_0 18 rfl) fl_Model_28 (gAt hx rfl rfl) (gRf hf rfl rfl) ?_
      refine gw_bipush (gc k_Model_isSo_0 19 rfl) (by decide) ?_
      refine gw_iconst (gc k_Model_isSo_0 20 rfl) ?_
      refine gw_iload_n (gc k_Model_isSo_0 21 rfl) rfl ?_
      refine gw_imul (gc k_Model_isSo_0 22 rfl) ?_
      refine gw_iadd (gc k_Model_isSo_0 23 rfl) ?_
      refine gw_iald (gc k_Model_isSo_0 24 rfl) (gAt hx rfl rfl) (by omega) ?_
      rw [er]
      refine gw_iadd (gc k_Model_isSo_0 25 rfl) ?_
      refine gw_iald (gc k_Model_isSo_0 26 rfl) (gAt hx rfl rfl) (by omega) ?_
      rw [hfa]
      refine gw_aload_n (gc k_Model_isSo_0 27 rfl) rfl rfl ?_
      refine gw_getref (gc k_Model_isSo_0 28 rfl) fl_Model_28 (gAt hx rfl rfl) (gRf hf rfl rfl) ?_
      refine gw_bipush (gc k_Model_isSo_0 29 rfl) (by decide) ?_
      refine gw_iconst (gc k_Model_isSo_0 30 rfl) ?_
      refine gw_iload_n (gc k_Model_isSo_0 31 rfl) rfl ?_
      refine gw_imul (gc k_Model_isSo_0 32 rfl) ?_
      refine gw_iadd (gc k_Model_isSo_0 33 rfl) ?_
      refine gw_iconst (gc k_Model_isSo_0 34 rfl) ?_
      refine gw_iadd (gc k_Model_isSo_0 35 rfl) ?_
      refine gw_iald (gc k_Model_isSo_0 36 rfl) (gAt hx rfl rfl) (by omega) ?_
      rw [er]
      refine gw_icmp_ne (tgt := 59) (gc k_Model_isSo_0 37 rfl) rfl (by omega) (fun c52 => ?_) (fun c52 => ?_)
      · refine gw_iconst (gc k_Model_isSo_1 0 rfl) ?_
        refine gw_istore_2 (gc k_Model_isSo_1 1 rfl) rfl rfl ?_
        refine gw_iinc_3 (gc k_Model_isSo_1 2 rfl) rfl rfl ?_
        refine gw_goto (tgt := 4) (gc k_Model_isSo_1 3 rfl) rfl ?_
        exact gWP.eqs (by show [(2, 177), (0, n), (0, soF r n (m + 1)), (0, ((m + 1) : Int))] = _; rw [show soF r n (m + 1) = 0 from if_neg (fun z => c52 z.2)] <;> rfl) rfl (ih (m + 1) (show ((m + 1) : Int) ≤ r 42 from (by omega)) (show (r 42).toNat - (m + 1) < (r 42).toNat - m from by omega))
      · refine gw_iconst (gc k_Model_isSo_0 38 rfl) ?_
        refine gw_goto (tgt := 60) (gc k_Model_isSo_0 39 rfl) rfl ?_
        refine gw_istore_2 (gc k_Model_isSo_1 1 rfl) rfl rfl ?_
        refine gw_iinc_3 (gc k_Model_isSo_1 2 rfl) rfl rfl ?_
        refine gw_goto (tgt := 4) (gc k_Model_isSo_1 3 rfl) rfl ?_
        exact gWP.eqs (by show [(2, 177), (0, n), (0, soF r n (m + 1)), (0, ((m + 1) : Int))] = _; rw [show soF r n (m + 1) = 1 from if_pos ⟨by omega, c52⟩] <;> rfl) rfl (ih (m + 1) (show ((m + 1) : Int) ≤ r 42 from (by omega)) (show (r 42).toNat - (m + 1) < (r 42).toNat - m from by omega))
set_option maxHeartbeats 1000000 in
theorem c_Model_canBe {sh : gS} {g : gM} (hx : gFix sh) (hf : gFin g) (ho : rowOK (g 179)) (hl : lawsOK (g 179)) : gTri f_Model_canBe 45 0 0 [(2, 177)] sh g (fun x s2 g2 => x = some (0, cbR (g 179)) ∧ s2 = sh ∧ gQu g g2 ∧ fcOK (g 179) (g 179 41) g2) := by
  have hm := ro_many ho
  have hf0 := hf
  refine gTri.of (by decide +kernel) rfl ?_
  show gWP f_Model_canBe _ _ _ 0 [(2, 177), (9, 0), (9, 0)] [] sh g _
  refine gw_aload_n (gc k_Model_canBe_0 0 rfl) rfl rfl ?_
  refine gw_xV1 (gc k_Model_canBe_0 1 rfl) y_Model_laysFacts ln_Model_419 (c_Model_laysFacts hx hf ho hl) rfl rfl (gAt hx rfl rfl) rfl rfl (fun r1 sh2 g1 hq1 => ?_)
  obtain ⟨rfl, rfl, hU⟩ := hq1
  have hf := hf0.qu hU.1
  have e1 : g1 179 = g 179 := hU.row
  refine gw_iconst (gc k_Model_canBe_0 2 rfl) ?_
  refine gw_istore_1 (gc k_Model_canBe_0 3 rfl) rfl rfl ?_
  refine gw_iconst (gc k_Model_canBe_0 4 rfl) ?_
  refine gw_istore_2 (gc k_Model_canBe_0 5 rfl) rfl rfl ?_
  refine gwloop (σ := Nat) (fun zs => (zs : Int) ≤ g 179 41) (fun zs => (g 179 41).toNat - zs) (fun zs => [(2, 177), (0, seF (soR (g 179)) zs), (0, (zs : Int))]) (fun zs => g1) (0) (show ((0 : Nat) : Int) ≤ g 179 41 from (by omega)) rfl rfl (fun zs hI ih => ?_)
  obtain ⟨m, hzz⟩ : ∃ x, x = zs := ⟨_, rfl⟩
  subst hzz
  replace hI : (m : Int) ≤ g 179 41 := hI
  have hm1 := hI
  show gWP _ _ _ _ _ [(2, 177), (0, seF (soR (g 179)) m), (0, (m : Int))] [] _ (g1) _
  
  refine gw_iload_n (gc k_Model_canBe_0 6 rfl) rfl ?_
  refine gw_aload_n (gc k_Model_canBe_0 7 rfl) rfl rfl ?_
  refine gw_cV1 (gc k_Model_canBe_0 8 rfl) y_Model_noteMany ln_Model_112 (c_Model_noteMany hx hf) rfl rfl (gAt hx rfl rfl) rfl rfl ?_
  rw [e1]
  refine gw_icmp_ge (tgt := 40) (gc k_Model_canBe_0 9 rfl) rfl (by omega) (fun c13 => ?_) (fun c13 => ?_)
  · refine gw_iload_n (gc k_Model_canBe_0 24 rfl) rfl ?_
    refine gw_ireturn (gc k_Model_canBe_0 25 rfl) rfl ?_
    have em : m = (g 179 41).toNat := by omega
    subst em
    exact ⟨rfl, rfl, hU.1, hU.2⟩
  · refine gw_iload_n (gc k_Model_canBe_0 10 rfl) rfl ?_
    refine gw_aload_n (gc k_Model_canBe_0 11 rfl) rfl rfl ?_
    refine gw_iload_n (gc k_Model_canBe_0 12 rfl) rfl ?_
    refine gw_cV1 (gc k_Model_canBe_0 13 rfl) y_Model_isSo ln_Model_422 (c_Model_isSo hx hf e1 ho m (by omega) hU.2) rfl rfl (gAt hx rfl rfl) rfl rfl ?_
    have h01 := soF_01 (g 179) m (g 179 42).toNat
    have h02 : soR (g 179) m = soF (g 179) m (g 179 42).toNat := rfl
    refine gw_if_eq (tgt := 31) (gc k_Model_canBe_0 14 rfl) rfl (by omega) (fun c22 => ?_) (fun c22 => ?_)
    · refine gw_iconst (gc k_Model_canBe_0 19 rfl) ?_
      refine gw_ior (gc k_Model_canBe_0 20 rfl) ?_
      refine gw_istore_1 (gc k_Model_canBe_0 21 rfl) rfl rfl ?_
      refine gw_iinc_2 (gc k_Model_canBe_0 22 rfl) rfl rfl ?_
      refine gw_goto (tgt := 8) (gc k_Model_canBe_0 23 rfl) rfl ?_
      refine gWP.eqs ?_ rfl (ih (m + 1) (show ((m + 1) : Int) ≤ g 179 41 from (by omega)) (show (g 179 41).toNat - (m + 1) < (g 179 41).toNat - m from by omega))
      show [(2, 177), (0, seF (soR (g 179)) (m + 1)), (0, ((m + 1) : Int))] = _
      rw [show seF (soR (g 179)) (m + 1) = gor (seF (soR (g 179)) m) (if soR (g 179) m = 1 then gshl 1 m else 0) from rfl, if_neg (by omega)] <;> rfl
    · refine gw_iconst (gc k_Model_canBe_0 15 rfl) ?_
      refine gw_iload_n (gc k_Model_canBe_0 16 rfl) rfl ?_
      refine gw_ishl (gc k_Model_canBe_0 17 rfl) ?_
      refine gw_goto (tgt := 32) (gc k_Model_canBe_0 18 rfl) rfl ?_
      refine gw_ior (gc k_Model_canBe_0 20 rfl) ?_
      refine gw_istore_1 (gc k_Model_canBe_0 21 rfl) rfl rfl ?_
      refine gw_iinc_2 (gc k_Model_canBe_0 22 rfl) rfl rfl ?_
      refine gw_goto (tgt := 8) (gc k_Model_canBe_0 23 rfl) rfl ?_
      refine gWP.eqs ?_ rfl (ih (m + 1) (show ((m + 1) : Int) ≤ g 179 41 from (by omega)) (show (g 179 41).toNat - (m + 1) < (g 179 41).toNat - m from by omega))
      show [(2, 177), (0, seF (soR (g 179)) (m + 1)), (0, ((m + 1) : Int))] = _
      rw [show seF (soR (g 179)) (m + 1) = gor (seF (soR (g 179)) m) (if soR (g 179) m = 1 then gshl 1 m else 0) from rfl, if_pos (by omega)] <;> rfl
set_option maxHeartbeats 1000000 in
theorem c_Model_mostAlike {sh : gS} {g : gM} (hx : gFix sh) (hf : gFin g) (s f : Int) (hfb : 0 ≤ f ∧ f ≤ 3) (ho : rowOK (g 179)) (hF : fcOK (g 179) (g 179 41) g) : gTri f_Model_mostAlike 1 0 0 [(2, 177), (0, s), (0, f)] sh g (gR (some (0, mlR (g 179) s f)) sh g) := by
  have hm := ro_many ho
  refine gTri.of (by decide +kernel) rfl ?_
  show gWP f_Model_mostAlike _ _ _ 0 [(2, 177), (0, s), (0, f), (9, 0), (9, 0), (9, 0), (9, 0)] [] sh g _
  refine gw_iconst (gc k_Model_mostAlike_0 0 rfl) ?_
  refine gw_istore_3 (gc k_Model_mostAlike_0 1 rfl) rfl rfl ?_
  refine gw_iconst (gc k_Model_mostAlike_0 2 rfl) ?_
  refine gw_istore_4 (gc k_Model_mostAlike_0 3 rfl) rfl rfl ?_
  refine gwloop (σ := Nat × gV × gV) (fun zs => ((zs.1) : Int) ≤ g 179 41) (fun zs => (g 179 41).toNat - (zs.1)) (fun zs => [(2, 177), (0, s), (0, f), (0, mlM (g 179) s f (zs.1)), (0, ((zs.1) : Int)), (zs.2.1), (zs.2.2)]) (fun zs => g) (0, (9, 0), (9, 0)) (show ((0 : Nat) : Int) ≤ g 179 41 from (by omega)) rfl rfl (fun zs hI ih => ?_)
  obtain ⟨m, x5, x6⟩ := zs
  replace hI : (m : Int) ≤ g 179 41 := hI
  have hm1 := hI
  show gWP _ _ _ _ _ [(2, 177), (0, s), (0, f), (0, mlM (g 179) s f m), (0, (m : Int)), x5, x6] [] _ (g) _
  have hMb := mlM_bd ho s f m
  have hCb := mlC_bd (g 179) s f m (g 179 41).toNat
  refine gw_iload (gc k_Model_mostAlike_0 4 rfl) rfl ?_
  refine gw_aload_n (gc k_Model_mostAlike_0 5 rfl) rfl rfl ?_
  refine gw_cV1 (gc k_Model_mostAlike_0 6 rfl) y_Model_noteMany ln_Model_112 (c_Model_noteMany hx hf) rfl rfl (gAt hx rfl rfl) rfl rfl ?_
  refine gw_icmp_ge (tgt := 105) (gc k_Model_mostAlike_0 7 rfl) rfl (by omega) (fun c11 => ?_) (fun c11 => ?_)
  · refine gw_iload_n (gc k_Model_mostAlike_1 17 rfl) rfl ?_
    refine gw_ireturn (gc k_Model_mostAlike_1 18 rfl) rfl ?_
    have em : m = (g 179 41).toNat := by omega
    subst em
    exact ⟨rfl, rfl, rfl⟩
  · refine gw_iconst (gc k_Model_mostAlike_0 8 rfl) ?_
    refine gw_istore_5 (gc k_Model_mostAlike_0 9 rfl) rfl rfl ?_
    refine gw_iconst (gc k_Model_mostAlike_0 10 rfl) ?_
    refine gw_istore_6 (gc k_Model_mostAlike_0 11 rfl) rfl rfl ?_
    refine gwloop (σ := Nat) (fun zs => (zs : Int) ≤ g 179 41) (fun zs => (g 179 41).toNat - zs) (fun zs => [(2, 177), (0, s), (0, f), (0, mlM (g 179) s f m), (0, (m : Int)), (0, mlC (g 179) s f m zs), (0, (zs : Int))]) (fun zs => g) (0) (show ((0 : Nat) : Int) ≤ g 179 41 from (by omega)) rfl rfl (fun zs hI ih2 => ?_)
    obtain ⟨j, hzz⟩ : ∃ x, x = zs := ⟨_, rfl⟩
    subst hzz
    replace hI : (j : Int) ≤ g 179 41 := hI
    have hj1 := hI
    show gWP _ _ _ _ _ [(2, 177), (0, s), (0, f), (0, mlM (g 179) s f m), (0, (m : Int)), (0, mlC (g 179) s f m j), (0, (j : Int))] [] _ (g) _
    
    refine gw_iload (gc k_Model_mostAlike_0 12 rfl) rfl ?_
    refine gw_aload_n (gc k_Model_mostAlike_0 13 rfl) rfl rfl ?_
    refine gw_cV1 (gc k_Model_mostAlike_0 14 rfl) y_Model_noteMany ln_Model_112 (c_Model_noteMany hx hf) rfl rfl (gAt hx rfl rfl) rfl rfl ?_
    refine gw_icmp_ge (tgt := 79) (gc k_Model_mostAlike_0 15 rfl) rfl (by omega) (fun c26 => ?_) (fun c26 => ?_)
    · obtain rfl : j = (g 179 41).toNat := by omega
      refine gw_iload_n (gc k_Model_mostAlike_1 5 rfl) rfl ?_
      refine gw_iload (gc k_Model_mostAlike_1 6 rfl) rfl ?_
      refine gw_cS1 (gc k_Model_mostAlike_1 7 rfl) y_Model_isIn ln_Model_425 (c_Model_isIn s m) rfl rfl rfl rfl ?_
      refine gw_beq (tgt := 97) (gc k_Model_mostAlike_1 8 rfl) rfl (fun c85 => ?_) (fun c85 => ?_)
      · refine gw_iload_n (gc k_Model_mostAlike_1 13 rfl) rfl ?_
        refine gw_istore_3 (gc k_Model_mostAlike_1 14 rfl) rfl rfl ?_
        refine gw_iinc_4 (gc k_Model_mostAlike_1 15 rfl) rfl rfl ?_
        refine gw_goto (tgt := 5) (gc k_Model_mostAlike_1 16 rfl) rfl ?_
        refine gWP.eqs ?_ rfl (ih (m + 1, (0, mlC (g 179) s f m (g 179 41).toNat), (0, ((g 179 41).toNat : Int))) (show ((m + 1) : Int) ≤ g 179 41 from (by omega)) (show (g 179 41).toNat - (m + 1) < (g 179 41).toNat - m from by omega))
        show [(2, 177), (0, s), (0, f), (0, mlM (g 179) s f (m + 1)), (0, ((m + 1) : Int)), (((0, mlC (g 179) s f m (g 179 41).toNat) : gV)), (((0, ((g 179 41).toNat : Int)) : gV))] = _
        rw [show mlM (g 179) s f (m + 1) = (if bitI s m = 1 then (if mlC (g 179) s f m (g 179 41).toNat < mlM (g 179) s f m then mlM (g 179) s f m else mlC (g 179) s f m (g 179 41).toNat) else mlM (g 179) s f m) from rfl, if_neg c85] <;> rfl
      · refine gw_iload_n (gc k_Model_mostAlike_1 9 rfl) rfl ?_
        refine gw_iload (gc k_Model_mostAlike_1 10 rfl) rfl ?_
        refine gw_cS1 (gc k_Model_mostAlike_1 11 rfl) y_Model_greater ln_Model_397 (c_Model_greater _ _ (by omega)) rfl rfl rfl rfl ?_
        refine gw_goto (tgt := 98) (gc k_Model_mostAlike_1 12 rfl) rfl ?_
        refine gw_istore_3 (gc k_Model_mostAlike_1 14 rfl) rfl rfl ?_
        refine gw_iinc_4 (gc k_Model_mostAlike_1 15 rfl) rfl rfl ?_
        refine gw_goto (tgt := 5) (gc k_Model_mostAlike_1 16 rfl) rfl ?_
        refine gWP.eqs ?_ rfl (ih (m + 1, (0, mlC (g 179) s f m (g 179 41).toNat), (0, ((g 179 41).toNat : Int))) (show ((m + 1) : Int) ≤ g 179 41 from (by omega)) (show (g 179 41).toNat - (m + 1) < (g 179 41).toNat - m from by omega))
        show [(2, 177), (0, s), (0, f), (0, mlM (g 179) s f (m + 1)), (0, ((m + 1) : Int)), (((0, mlC (g 179) s f m (g 179 41).toNat) : gV)), (((0, ((g 179 41).toNat : Int)) : gV))] = _
        rw [show mlM (g 179) s f (m + 1) = (if bitI s m = 1 then (if mlC (g 179) s f m (g 179 41).toNat < mlM (g 179) s f m then mlM (g 179) s f m else mlC (g 179) s f m (g 179 41).toNat) else mlM (g 179) s f m) from rfl, if_pos c85] <;> rfl
    · refine gw_iload (gc k_Model_mostAlike_0 16 rfl) rfl ?_
      refine gw_iload_n (gc k_Model_mostAlike_0 17 rfl) rfl ?_
      refine gw_iload (gc k_Model_mostAlike_0 18 rfl) rfl ?_
      refine gw_cS1 (gc k_Model_mostAlike_0 19 rfl) y_Model_isIn ln_Model_425 (c_Model_isIn s j) rfl rfl rfl rfl ?_
      refine gw_beq (tgt := 69) (gc k_Model_mostAlike_0 20 rfl) rfl (fun c37 => ?_) (fun c37 => ?_)
      · refine gw_iconst (gc k_Model_mostAlike_1 0 rfl) ?_
        refine gw_iadd (gc k_Model_mostAlike_1 1 rfl) ?_
        refine gw_istore_5 (gc k_Model_mostAlike_1 2 rfl) rfl rfl ?_
        refine gw_iinc_6 (gc k_Model_mostAlike_1 3 rfl) rfl rfl ?_
        refine gw_goto (tgt := 20) (gc k_Model_mostAlike_1 4 rfl) rfl ?_
        refine gWP.eqs ?_ rfl (ih2 (j + 1) (show ((j + 1) : Int) ≤ g 179 41 from (by omega)) (show (g 179 41).toNat - (j + 1) < (g 179 41).toNat - j from by omega))
        show [(2, 177), (0, s), (0, f), (0, mlM (g 179) s f m), (0, (m : Int)), (0, mlC (g 179) s f m (j + 1)), (0, ((j + 1) : Int))] = _
        rw [show mlC (g 179) s f m (j + 1) = mlC (g 179) s f m j + (if bitI s j = 1 ∧ factN (g 179) m f = factN (g 179) j f then 1 else 0) from rfl, if_neg (fun z => c37 z.1)] <;> rfl
      · have h1 := hF m f (by omega) (by omega) hfb.1 hfb.2
        have h2 := hF j f (by omega) (by omega) hfb.1 hfb.2
        have h3 := factN_bd ho m f (by omega)
        have h4 := factN_bd ho j f (by omega)
        refine gw_aload_n (gc k_Model_mostAlike_0 21 rfl) rfl rfl ?_
        refine gw_getref (gc k_Model_mostAlike_0 22 rfl) fl_Model_88 (gAt hx rfl rfl) (gRf hf rfl rfl) ?_
        refine gw_iconst (gc k_Model_mostAlike_0 23 rfl) ?_
        refine gw_iload (gc k_Model_mostAlike_0 24 rfl) rfl ?_
        refine gw_imul (gc k_Model_mostAlike_0 25 rfl) ?_
        refine gw_iload_n (gc k_Model_mostAlike_0 26 rfl) rfl ?_
        refine gw_iadd (gc k_Model_mostAlike_0 27 rfl) ?_
        refine gw_iald (gc k_Model_mostAlike_0 28 rfl) (gAt hx rfl rfl) (by omega) ?_
        rw [h1]
        refine gw_aload_n (gc k_Model_mostAlike_0 29 rfl) rfl rfl ?_
        refine gw_getref (gc k_Model_mostAlike_0 30 rfl) fl_Model_88 (gAt hx rfl rfl) (gRf hf rfl rfl) ?_
        refine gw_iconst (gc k_Model_mostAlike_0 31 rfl) ?_
        refine gw_iload (gc k_Model_mostAlike_0 32 rfl) rfl ?_
        refine gw_imul (gc k_Model_mostAlike_0 33 rfl) ?_
        refine gw_iload_n (gc k_Model_mostAlike_0 34 rfl) rfl ?_
        refine gw_iadd (gc k_Model_mostAlike_0 35 rfl) ?_
        refine gw_iald (gc k_Model_mostAlike_0 36 rfl) (gAt hx rfl rfl) (by omega) ?_
        rw [h2]
        refine gw_icmp_ne (tgt := 69) (gc k_Model_mostAlike_0 37 rfl) rfl (by omega) (fun c62 => ?_) (fun c62 => ?_)
        · refine gw_iconst (gc k_Model_mostAlike_1 0 rfl) ?_
          refine gw_iadd (gc k_Model_mostAlike_1 1 rfl) ?_
          refine gw_istore_5 (gc k_Model_mostAlike_1 2 rfl) rfl rfl ?_
          refine gw_iinc_6 (gc k_Model_mostAlike_1 3 rfl) rfl rfl ?_
          refine gw_goto (tgt := 20) (gc k_Model_mostAlike_1 4 rfl) rfl ?_
          refine gWP.eqs ?_ rfl (ih2 (j + 1) (show ((j + 1) : Int) ≤ g 179 41 from (by omega)) (show (g 179 41).toNat - (j + 1) < (g 179 41).toNat - j from by omega))
          show [(2, 177), (0, s), (0, f), (0, mlM (g 179) s f m), (0, (m : Int)), (0, mlC (g 179) s f m (j + 1)), (0, ((j + 1) : Int))] = _
          rw [show mlC (g 179) s f m (j + 1) = mlC (g 179) s f m j + (if bitI s j = 1 ∧ factN (g 179) m f = factN (g 179) j f then 1 else 0) from rfl, if_neg (fun z => c62 z.2)] <;> rfl
        · refine gw_iconst (gc k_Model_mostAlike_0 38 rfl) ?_
          refine gw_goto (tgt := 70) (gc k_Model_mostAlike_0 39 rfl) rfl ?_
          refine gw_iadd (gc k_Model_mostAlike_1 1 rfl) ?_
          refine gw_istore_5 (gc k_Model_mostAlike_1 2 rfl) rfl rfl ?_
          refine gw_iinc_6 (gc k_Model_mostAlike_1 3 rfl) rfl rfl ?_
          refine gw_goto (tgt := 20) (gc k_Model_mostAlike_1 4 rfl) rfl ?_
          refine gWP.eqs ?_ rfl (ih2 (j + 1) (show ((j + 1) : Int) ≤ g 179 41 from (by omega)) (show (g 179 41).toNat - (j + 1) < (g 179 41).toNat - j from by omega))
          show [(2, 177), (0, s), (0, f), (0, mlM (g 179) s f m), (0, (m : Int)), (0, mlC (g 179) s f m (j + 1)), (0, ((j + 1) : Int))] = _
          rw [show mlC (g 179) s f m (j + 1) = mlC (g 179) s f m j + (if bitI s j = 1 ∧ factN (g 179) m f = factN (g 179) j f then 1 else 0) from rfl, if_pos ⟨c37, c62⟩] <;> rfl
set_option maxHeartbeats 1000000 in
theorem c_Model_listen {sh : gS} {g : gM} (hx : gFix sh) (hf : gFin g) (k : Int) (hb : -2147483648 ≤ k ∧ k ≤ 2147483647) (ho : rowOK (g 179)) (hl : lawsOK (g 179)) : gTri f_Model_listen 46 0 0 [(2, 177), (0, k)] sh g (fun x s2 g2 => x = some (0, liR (g 179) k) ∧ s2 = sh ∧ gQu g g2) := by
  have hm := ro_many ho
  have hf0 := hf
  have hcb := cbR_bd ho
  have hon := onF_iff hcb
  refine gTri.of (by decide +kernel) rfl ?_
  show gWP f_Model_listen _ _ _ 0 [(2, 177), (0, k), (9, 0), (9, 0), (9, 0), (9, 0), (9, 0)] [] sh g _
  refine gw_iload_n (gc k_Model_listen_0 0 rfl) rfl ?_
  refine gw_iconst (gc k_Model_listen_0 1 rfl) ?_
  refine gw_iconst (gc k_Model_listen_0 2 rfl) ?_
  refine gw_cS1 (gc k_Model_listen_0 3 rfl) y_Model_lies ln_Model_18 (c_Model_lies k 0 1 (by omega)) rfl rfl rfl rfl ?_
  refine gw_bne (tgt := 11) (gc k_Model_listen_0 4 rfl) rfl (fun c6 => ?_) (fun c6 => ?_)
  · refine gw_aload_n (gc k_Model_listen_0 7 rfl) rfl rfl ?_
    refine gw_xV1 (gc k_Model_listen_0 8 rfl) y_Model_canBe ln_Model_428 (c_Model_canBe hx hf ho hl) rfl rfl (gAt hx rfl rfl) rfl rfl (fun r12 sh2 g12 hq12 => ?_)
    obtain ⟨rfl, rfl, hQ, hF⟩ := hq12
    have hf := hf0.qu hQ
    have e1 : g12 179 = g 179 := hQ.fn (by decide) (by omega)
    refine gw_istore_2 (gc k_Model_listen_0 9 rfl) rfl rfl ?_
    refine gw_iconst (gc k_Model_listen_0 10 rfl) ?_
    refine gw_istore_3 (gc k_Model_listen_0 11 rfl) rfl rfl ?_
    refine gw_ldcw (gc k_Model_listen_0 12 rfl) cn_Model_364 ?_
    refine gw_istore_4 (gc k_Model_listen_0 13 rfl) rfl rfl ?_
    refine gw_iconst (gc k_Model_listen_0 14 rfl) ?_
    refine gw_istore_5 (gc k_Model_listen_0 15 rfl) rfl rfl ?_
    refine gwloop (σ := Nat × gV) (fun zs => (zs.1) ≤ 4 ∧ (cbR (g 179) = 0 → (zs.1) = 0)) (fun zs => 4 - (zs.1)) (fun zs => [(2, 177), (0, k), (0, cbR (g 179)), (0, (liF (mlR (g 179) (cbR (g 179))) (zs.1)).1), (0, (liF (mlR (g 179) (cbR (g 179))) (zs.1)).2), (0, ((zs.1) : Int)), (zs.2)]) (fun zs => g12) (0, (9, 0)) (show (0 : Nat) ≤ 4 ∧ (cbR (g 179) = 0 → (0 : Nat) = 0) from (by omega)) rfl rfl (fun zs hI ih => ?_)
    obtain ⟨m, x6⟩ := zs
    replace hI : m ≤ 4 ∧ (cbR (g 179) = 0 → m = 0) := hI
    have hm1 := hI
    show gWP _ _ _ _ _ [(2, 177), (0, k), (0, cbR (g 179)), (0, (liF (mlR (g 179) (cbR (g 179))) m).1), (0, (liF (mlR (g 179) (cbR (g 179))) m).2), (0, (m : Int)), x6] [] _ (g12) _
    have hlb := liF_bd (f := mlR (g 179) (cbR (g 179))) (fun p => mlM_bd ho _ p _) m
    have hob := onF_bd (cbR (g 179)) 12
    have hmb := mlM_bd ho (cbR (g 179)) m (g 179 41).toNat
    have hme : mlR (g 179) (cbR (g 179)) m = mlM (g 179) (cbR (g 179)) m (g 179 41).toNat := rfl
    refine gw_iload (gc k_Model_listen_0 16 rfl) rfl ?_
    refine gw_iconst (gc k_Model_listen_0 17 rfl) ?_
    refine gw_icmp_ge (tgt := 71) (gc k_Model_listen_0 18 rfl) rfl (by omega) (fun c29 => ?_) (fun c29 => ?_)
    · refine gw_iload_n (gc k_Model_listen_0 37 rfl) rfl ?_
      refine gw_iconst (gc k_Model_listen_0 38 rfl) ?_
      refine gw_icmp_eq (tgt := 80) (gc k_Model_listen_0 39 rfl) rfl (by omega) (fun c73 => ?_) (fun c73 => ?_)
      · refine gw_iload_n (gc k_Model_listen_1 2 rfl) rfl ?_
        refine gw_goto (tgt := 86) (gc k_Model_listen_1 3 rfl) rfl ?_
        refine gw_ireturn (gc k_Model_listen_1 5 rfl) rfl ?_
        refine ⟨?_, rfl, hQ⟩
        by_cases hz : cbR (g 179) = 0
        · obtain rfl : m = 0 := hm1.2 hz
          unfold liR
          rw [if_neg (fun z => z.2 hz)]
          first | rfl | exact absurd rfl c73
        · have hz2 := hon.mpr hz
          obtain rfl : m = 4 := by omega
          unfold liR
          rw [if_pos ⟨by omega, hz⟩]
          first | (exfalso; omega) | rw [if_pos (by omega)] | rw [if_neg (by omega)]
      · refine gw_iload_n (gc k_Model_listen_1 0 rfl) rfl ?_
        refine gw_if_ne (tgt := 84) (gc k_Model_listen_1 1 rfl) rfl (by omega) (fun c77 => ?_) (fun c77 => ?_)
        · refine gw_iload (gc k_Model_listen_1 4 rfl) rfl ?_
          refine gw_ireturn (gc k_Model_listen_1 5 rfl) rfl ?_
          refine ⟨?_, rfl, hQ⟩
          by_cases hz : cbR (g 179) = 0
          · obtain rfl : m = 0 := hm1.2 hz
            unfold liR
            rw [if_neg (fun z => z.2 hz)]
            first | rfl | exact absurd rfl c73
          · have hz2 := hon.mpr hz
            obtain rfl : m = 4 := by omega
            unfold liR
            rw [if_pos ⟨by omega, hz⟩]
            first | (exfalso; omega) | rw [if_pos (by omega)] | rw [if_neg (by omega)]
        · refine gw_iload_n (gc k_Model_listen_1 2 rfl) rfl ?_
          refine gw_goto (tgt := 86) (gc k_Model_listen_1 3 rfl) rfl ?_
          refine gw_ireturn (gc k_Model_listen_1 5 rfl) rfl ?_
          refine ⟨?_, rfl, hQ⟩
          by_cases hz : cbR (g 179) = 0
          · obtain rfl : m = 0 := hm1.2 hz
            unfold liR
            rw [if_neg (fun z => z.2 hz)]
            first | rfl | exact absurd rfl c73
          · have hz2 := hon.mpr hz
            obtain rfl : m = 4 := by omega
            unfold liR
            rw [if_pos ⟨by omega, hz⟩]
            first | (exfalso; omega) | rw [if_pos (by omega)] | rw [if_neg (by omega)]
    · refine gw_iload_n (gc k_Model_listen_0 19 rfl) rfl ?_
      refine gw_cS1 (gc k_Model_listen_0 20 rfl) y_Model_ones ln_Model_431 (c_Model_ones _) rfl rfl rfl rfl ?_
      refine gw_if_le (tgt := 71) (gc k_Model_listen_0 21 rfl) rfl (by omega) (fun c36 => ?_) (fun c36 => ?_)
      · refine gw_iload_n (gc k_Model_listen_0 37 rfl) rfl ?_
        refine gw_iconst (gc k_Model_listen_0 38 rfl) ?_
        refine gw_icmp_eq (tgt := 80) (gc k_Model_listen_0 39 rfl) rfl (by omega) (fun c73 => ?_) (fun c73 => ?_)
        · refine gw_iload_n (gc k_Model_listen_1 2 rfl) rfl ?_
          refine gw_goto (tgt := 86) (gc k_Model_listen_1 3 rfl) rfl ?_
          refine gw_ireturn (gc k_Model_listen_1 5 rfl) rfl ?_
          refine ⟨?_, rfl, hQ⟩
          by_cases hz : cbR (g 179) = 0
          · obtain rfl : m = 0 := hm1.2 hz
            unfold liR
            rw [if_neg (fun z => z.2 hz)]
            first | rfl | exact absurd rfl c73
          · have hz2 := hon.mpr hz
            obtain rfl : m = 4 := by omega
            unfold liR
            rw [if_pos ⟨by omega, hz⟩]
            first | (exfalso; omega) | rw [if_pos (by omega)] | rw [if_neg (by omega)]
        · refine gw_iload_n (gc k_Model_listen_1 0 rfl) rfl ?_
          refine gw_if_ne (tgt := 84) (gc k_Model_listen_1 1 rfl) rfl (by omega) (fun c77 => ?_) (fun c77 => ?_)
          · refine gw_iload (gc k_Model_listen_1 4 rfl) rfl ?_
            refine gw_ireturn (gc k_Model_listen_1 5 rfl) rfl ?_
            refine ⟨?_, rfl, hQ⟩
            by_cases hz : cbR (g 179) = 0
            · obtain rfl : m = 0 := hm1.2 hz
              unfold liR
              rw [if_neg (fun z => z.2 hz)]
              first | rfl | exact absurd rfl c73
            · have hz2 := hon.mpr hz
              obtain rfl : m = 4 := by omega
              unfold liR
              rw [if_pos ⟨by omega, hz⟩]
              first | (exfalso; omega) | rw [if_pos (by omega)] | rw [if_neg (by omega)]
          · refine gw_iload_n (gc k_Model_listen_1 2 rfl) rfl ?_
            refine gw_goto (tgt := 86) (gc k_Model_listen_1 3 rfl) rfl ?_
            refine gw_ireturn (gc k_Model_listen_1 5 rfl) rfl ?_
            refine ⟨?_, rfl, hQ⟩
            by_cases hz : cbR (g 179) = 0
            · obtain rfl : m = 0 := hm1.2 hz
              unfold liR
              rw [if_neg (fun z => z.2 hz)]
              first | rfl | exact absurd rfl c73
            · have hz2 := hon.mpr hz
              obtain rfl : m = 4 := by omega
              unfold liR
              rw [if_pos ⟨by omega, hz⟩]
              first | (exfalso; omega) | rw [if_pos (by omega)] | rw [if_neg (by omega)]
      · refine gw_aload_n (gc k_Model_listen_0 22 rfl) rfl rfl ?_
        refine gw_iload_n (gc k_Model_listen_0 23 rfl) rfl ?_
        refine gw_iload (gc k_Model_listen_0 24 rfl) rfl ?_
        refine gw_cV1 (gc k_Model_listen_0 25 rfl) y_Model_mostAlike ln_Model_434 (c_Model_mostAlike hx hf _ m (by omega) (by rw [e1]; exact ho) (by rw [e1]; exact hF)) rfl rfl (gAt hx rfl rfl) rfl rfl ?_
        rw [e1]
        have hne := hon.mp (by omega)
        refine gw_istore_6 (gc k_Model_listen_0 26 rfl) rfl rfl ?_
        refine gw_iload (gc k_Model_listen_0 27 rfl) rfl ?_
        refine gw_iload (gc k_Model_listen_0 28 rfl) rfl ?_
        refine gw_icmp_lt (tgt := 58) (gc k_Model_listen_0 29 rfl) rfl (by omega) (fun c52 => ?_) (fun c52 => ?_)
        · refine gw_iload (gc k_Model_listen_0 31 rfl) rfl ?_
          refine gw_istore_4 (gc k_Model_listen_0 32 rfl) rfl rfl ?_
          refine gw_iload (gc k_Model_listen_0 33 rfl) rfl ?_
          refine gw_istore_3 (gc k_Model_listen_0 34 rfl) rfl rfl ?_
          refine gw_iinc_5 (gc k_Model_listen_0 35 rfl) rfl rfl ?_
          refine gw_goto (tgt := 26) (gc k_Model_listen_0 36 rfl) rfl ?_
          refine gWP.eqs ?_ rfl (ih (m + 1, (0, mlR (g 179) (cbR (g 179)) m)) (show (m + 1) ≤ 4 ∧ (cbR (g 179) = 0 → (m + 1) = 0) from (by omega)) (show 4 - (m + 1) < 4 - m from by omega))
          show [(2, 177), (0, k), (0, cbR (g 179)), (0, (liF (mlR (g 179) (cbR (g 179))) (m + 1)).1), (0, (liF (mlR (g 179) (cbR (g 179))) (m + 1)).2), (0, ((m + 1) : Int)), (((0, mlR (g 179) (cbR (g 179)) m) : gV))] = _
          rw [liF_1 (by omega)] <;> rfl
        · refine gw_goto (tgt := 65) (gc k_Model_listen_0 30 rfl) rfl ?_
          refine gw_iinc_5 (gc k_Model_listen_0 35 rfl) rfl rfl ?_
          refine gw_goto (tgt := 26) (gc k_Model_listen_0 36 rfl) rfl ?_
          refine gWP.eqs ?_ rfl (ih (m + 1, (0, mlR (g 179) (cbR (g 179)) m)) (show (m + 1) ≤ 4 ∧ (cbR (g 179) = 0 → (m + 1) = 0) from (by omega)) (show 4 - (m + 1) < 4 - m from by omega))
          show [(2, 177), (0, k), (0, cbR (g 179)), (0, (liF (mlR (g 179) (cbR (g 179))) (m + 1)).1), (0, (liF (mlR (g 179) (cbR (g 179))) (m + 1)).2), (0, ((m + 1) : Int)), (((0, mlR (g 179) (cbR (g 179)) m) : gV))] = _
          rw [liF_0 (by omega)] <;> rfl
  · refine gw_iconst (gc k_Model_listen_0 5 rfl) ?_
    refine gw_ireturn (gc k_Model_listen_0 6 rfl) rfl ?_
    exact ⟨by unfold liR; rw [if_neg (by omega)], rfl, gQu.rf g⟩
