/-! ===== the reference: weeks ===== -/
def dr (l : Int) : Int := (1103 * l + 12345) % 1000003
theorem dr_bd (l : Int) : 0 ≤ dr l ∧ dr l ≤ 1000002 := by unfold dr; omega
def rHr (r : Int → Int) (n p : Int) : Int → Int := fun y => if y = n then p else r y
/-- rows that differ only in the two voices and the day -/
def sLow (r r2 : Int → Int) : Prop := ∀ y, y < 0 ∨ 25 ≤ y → r2 y = r y
theorem rowOK.low {r r2 : Int → Int} (ho : rowOK r) (h : sLow r r2) (hp : ∀ i, 0 ≤ i → i < 24 → 0 ≤ r2 i ∧ r2 i ≤ 24) (hd : 0 ≤ r2 24 ∧ r2 24 ≤ 999) : rowOK r2 := by
  obtain ⟨h1, h2, h3, h4, h5, h6, h7, h8, h9, h10, h11, h12, h13, h14⟩ := ho
  exact ⟨by rw [h _ (by omega)]; exact h1, hp, hd, by rw [h _ (by omega)]; exact h4, by rw [h _ (by omega)]; exact h5, by rw [h _ (by omega)]; exact h6, by rw [h _ (by omega)]; exact h7, by rw [h _ (by omega)]; exact h8, by rw [h _ (by omega)]; exact h9, by rw [h 44 (by omega), h 43 (by omega)]; exact h10, fun j a b => by rw [h _ (by omega), h _ (by omega)]; exact h11 j a b, fun i a b => by rw [h _ (by omega)]; exact h12 i a b, fun i a b => by rw [h _ (by omega)]; exact h13 i a b, fun i a b => by rw [h _ (by omega)]; exact h14 i a b⟩
theorem lawsOK.low {r r2 : Int → Int} (hl : lawsOK r) (h : sLow r r2) : lawsOK r2 := lawsOK_eq (fun y hy => h y (by omega)) (h _ (by omega)) hl
theorem sLow.tr {r r2 r3 : Int → Int} (h : sLow r r2) (h2 : sLow r2 r3) : sLow r r3 := fun y hy => (h2 y hy).trans (h y hy)
theorem rSh_low (r : Int → Int) {n : Int} (hn : 0 ≤ n ∧ n < 12) (p : Int) : sLow r (rSh r n p) := fun y hy => rSh_k _ _ _ (by omega)
theorem rHr_low (r : Int → Int) {n : Int} (hn : 0 ≤ n ∧ n < 12) (p : Int) : sLow r (rHr r n p) := fun y hy => if_neg (by omega)
theorem exF_low (r : Int → Int) {m : Int} (hm : 0 ≤ m ∧ m ≤ 12) : sLow r (exF r m) := fun y hy => by unfold exF; rw [if_neg (by omega), if_neg (by omega)]
theorem rHr_ok {r : Int → Int} (ho : rowOK r) {n p : Int} (hn : 0 ≤ n ∧ n < 12) (hp : 0 ≤ p ∧ p ≤ 24) : rowOK (rHr r n p) := ho.low (rHr_low r hn p) (fun i a b => by
  unfold rHr
  by_cases z : i = n
  · rw [if_pos z]; exact hp
  · rw [if_neg z]; exact ro_pitch ho i ⟨a, b⟩) (by
  have := ro_day ho
  unfold rHr
  rw [if_neg (by omega)]; exact this)
theorem exF_ok {r : Int → Int} (ho : rowOK r) : rowOK (exF r (r 41)) := by
  have hm := ro_many ho
  refine ho.low (exF_low r hm) (fun i a b => ?_) ?_
  · unfold exF
    by_cases z : 0 ≤ i ∧ i < r 41
    · rw [if_pos z]; exact ro_pitch ho _ (by omega)
    · rw [if_neg z]
      by_cases z2 : 12 ≤ i ∧ i < 12 + r 41
      · rw [if_pos z2]; exact ro_pitch ho _ (by omega)
      · rw [if_neg z2]; exact ro_pitch ho _ ⟨a, b⟩
  · unfold exF
    rw [if_neg (by omega), if_neg (by omega)]; exact ro_day ho
def rDa (r : Int → Int) : Int → Int := fun y => if y = 24 then r 24 + 1 else r y
theorem rDa_low (r : Int → Int) : sLow r (rDa r) := fun y hy => if_neg (by omega)
theorem rDa_ok {r : Int → Int} (ho : rowOK r) (hd : r 24 < 999) : rowOK (rDa r) := ho.low (rDa_low r) (fun i a b => by unfold rDa; rw [if_neg (by omega)]; exact ro_pitch ho i ⟨a, b⟩) (by
  have := ro_day ho
  show 0 ≤ (if (24 : Int) = 24 then r 24 + 1 else _) ∧ (if (24 : Int) = 24 then r 24 + 1 else _) ≤ 999
  rw [if_pos rfl]; omega)
/-- what the draws make of a row -/
def drA (r : Int → Int) (l : Int) : Int → Int := if dr (dr (dr l)) % 4 = 2 then rSh r (dr l % r 41) (dr (dr l) % 25) else if dr (dr (dr l)) % 4 = 3 then exF r (r 41) else rHr r (dr l % r 41) (dr (dr l) % 25)
theorem drA_n {r : Int → Int} (ho : rowOK r) (h0 : 0 < r 41) (l : Int) : 0 ≤ dr l % r 41 ∧ dr l % r 41 < r 41 := ⟨Int.emod_nonneg _ (by omega), Int.emod_lt_of_pos _ h0⟩
theorem drA_low {r : Int → Int} (ho : rowOK r) (h0 : 0 < r 41) (l : Int) : sLow r (drA r l) := by
  have hm := ro_many ho
  have hn := drA_n ho h0 l
  unfold drA
  split
  · exact rSh_low r (by omega) _
  · split
    · exact exF_low r hm
    · exact rHr_low r (by omega) _
theorem drA_ok {r : Int → Int} (ho : rowOK r) (h0 : 0 < r 41) (l : Int) : rowOK (drA r l) := by
  have hm := ro_many ho
  have hn := drA_n ho h0 l
  unfold drA
  split
  · exact rSh_ok ho (by omega) (by omega)
  · split
    · exact exF_ok ho
    · exact rHr_ok ho (by omega) (by omega)
theorem drA_24 {r : Int → Int} (ho : rowOK r) (h0 : 0 < r 41) (l : Int) : drA r l 24 = r 24 := by
  have hm := ro_many ho
  have hn := drA_n ho h0 l
  unfold drA
  split
  · exact rSh_k _ _ _ (by omega)
  · split
    · unfold exF; rw [if_neg (by omega), if_neg (by omega)]
    · unfold rHr; rw [if_neg (by omega)]
def wkF : Nat → (Int → Int) → Int → Int → (Int → Int) × Int
  | 0, r, _, s => (r, s)
  | m + 1, r, l, s => if r 24 < 999 then wkF m (rDa (drA r l)) (dr (dr (dr l))) (s + allN (drA r l) 2) else (r, s)
/-- a memory with another row, the latest draw at l -/
def wkI (g0 : gM) (ρ : Int → Int) (l : Int) (g1 : gM) : Prop := g1 179 = ρ ∧ g1 177 50 = l ∧ ∀ a k, ¬ (a = 177 ∧ ((22 ≤ k ∧ k ≤ 25) ∨ k = 50)) → a ≠ 179 → a ≠ 189 → g1 a k = g0 a k
theorem wkI.fin {g0 g1 : gM} {ρ : Int → Int} {l : Int} (h : wkI g0 ρ l g1) (hf : gFin g0) : gFin g1 := hf.of (fun a k z => h.2.2 _ _ (fun q => z (by
    obtain rfl : a = 177 := by omega
    rcases q.2 with q2 | q2
    · exact gref_sc (by omega) (by omega)
    · obtain rfl : k = 50 := by omega
      rfl)) (fun q => z (by obtain rfl : a = 179 := by omega
                            rfl)) (fun q => z (by obtain rfl : a = 189 := by omega
                                                  rfl)))
theorem wkI.row {g0 g1 : gM} {ρ : Int → Int} {l : Int} (h : wkI g0 ρ l g1) (y v : Int) : wkI g0 (fun x => if x = y then v else ρ x) l (gup g1 179 y v) := by
  refine ⟨?_, (gup_a _ _ _ _ _ (by decide)).trans h.2.1, fun a k h1 h2 h3 => (gup_a _ _ _ _ _ h2).trans (h.2.2 a k h1 h2 h3)⟩
  funext x
  unfold gup
  rw [if_pos rfl, h.1]
theorem wkI.lat {g0 g1 : gM} {ρ : Int → Int} {l : Int} (h : wkI g0 ρ l g1) (v : Int) : wkI g0 ρ v (gup g1 177 50 v) := ⟨(gup_fn _ _ _ _ (by decide)).trans h.1, gup_s _ _ _ _, fun a k h1 h2 h3 => by
  by_cases z : a = 177
  · subst z; rw [gup_k _ _ _ _ (fun z2 => h1 ⟨rfl, Or.inr z2⟩)]; exact h.2.2 _ k h1 h2 h3
  · rw [gup_a _ _ _ _ _ z]; exact h.2.2 a k h1 h2 h3⟩
theorem wkI.ex {g0 g1 : gM} {ρ : Int → Int} {l : Int} (h : wkI g0 ρ l g1) : wkI g0 (exF ρ (ρ 41)) l (exM g1) := by
  unfold exM
  refine ⟨by rw [gfr_fs, h.1], (gfr_a _ _ _ _ (by decide)).trans h.2.1, fun a k h1 h2 h3 => (gfr_a _ _ _ _ h2).trans (h.2.2 a k h1 h2 h3)⟩
theorem wkI.sk {g0 g1 g2 : gM} {ρ : Int → Int} {l : Int} (h : wkI g0 ρ l g1) (hs : gSk g1 g2) : wkI g0 ρ l g2 := ⟨(hs.fn (by decide) (by decide)).trans h.1, (hs.fl (by omega)).trans h.2.1, fun a k h1 h2 h3 => (hs a k (fun z => h1 ⟨z.1, Or.inl z.2⟩) h3).trans (h.2.2 a k h1 h2 h3)⟩
theorem c_draws {sh : gS} {g0 g1 : gM} {ρ : Int → Int} {l : Int} (hx : gFix sh) (hf : gFin g1) (h : wkI g0 ρ l g1) (k : Int) (hk : 1 ≤ k ∧ k ≤ 100) (hl : 0 ≤ l ∧ l ≤ 1000002) : gTri f_Model_draws 0 0 0 [(2, 177), (0, k)] sh g1 (gR (some (0, dr l % k)) sh (gup g1 177 50 (dr l))) := by
  have q := c_Model_draws hx hf k hk (by rw [h.2.1]; exact hl)
  rw [h.2.1] at q
  exact q
theorem allN_bd2 {r : Int → Int} (ho : rowOK r) : 0 ≤ allN r 2 ∧ allN r 2 ≤ 12 := by
  have h1 := allN_pos ho
  have h2 := ro_many ho
  have h3 := (smN_bd (f := fun n => barN r n) (b := 1) (fun i _ _ => by have := barN_bd r i; omega) (r 41).toNat (by omega)).2
  have h4 : allN r 2 = smN (fun n => barN r n) (r 41).toNat := rfl
  omega

def weQ (g : gM) (seed n : Int) (x : Option gV) (g2 : gM) : Prop := (¬ ((0 ≤ seed ∧ seed ≤ 1000000) ∧ 1 ≤ n ∧ n ≤ 60) ∧ x = some (0, -1) ∧ g2 = refM g (-1)) ∨ (((0 ≤ seed ∧ seed ≤ 1000000) ∧ 1 ≤ n ∧ n ≤ 60) ∧ g 179 41 = 0 ∧ x = some (0, -3) ∧ g2 = refM g (-3)) ∨ (((0 ≤ seed ∧ seed ≤ 1000000) ∧ 1 ≤ n ∧ n ≤ 60) ∧ ¬ g 179 41 = 0 ∧ x = some (0, (wkF n.toNat (g 179) seed 0).2) ∧ g2 177 0 = 0 ∧ g2 177 49 = g 179 41 ∧ g2 179 = g 179 ∧ (∀ y, 0 ≤ y → y < 25 → g2 200 y = (wkF n.toNat (g 179) seed 0).1 y) ∧ ∀ a k, ¬ (a = 177 ∧ (k = 0 ∨ (22 ≤ k ∧ k ≤ 25) ∨ k = 49 ∨ k = 50)) → ¬ (a = 179 ∨ a = 182 ∨ a = 189 ∨ a = 200) → g2 a k = g a k)
set_option maxHeartbeats 1000000 in
theorem c_Model_drawnAct {sh : gS} {g : gM} (hx : gFix sh) (hf : gFin g) {g0 : gM} {ρ : Int → Int} {l : Int} (hI : wkI g0 ρ l g) (ho : rowOK ρ) (h0 : 0 < ρ 41) (hl : 0 ≤ l ∧ l ≤ 1000002) : gTri f_Model_drawnAct 2 0 0 [(2, 177)] sh g (fun x s2 g2 => x = none ∧ s2 = sh ∧ wkI g0 (drA ρ l) (dr (dr (dr l))) g2) := by
  have hm := ro_many ho
  have hn := drA_n ho h0 l
  have b1 := dr_bd l
  have b2 := dr_bd (dr l)
  have b3 := dr_bd (dr (dr l))
  refine gTri.of (by decide +kernel) rfl ?_
  show gWP f_Model_drawnAct _ _ _ 0 [(2, 177), (9, 0), (9, 0), (9, 0)] [] sh g _
  refine gw_aload_n (gc k_Model_drawnAct_0 0 rfl) rfl rfl ?_
  refine gw_aload_n (gc k_Model_drawnAct_0 1 rfl) rfl rfl ?_
  refine gw_cV1 (gc k_Model_drawnAct_0 2 rfl) y_Model_noteMany ln_Model_112 (c_Model_noteMany hx hf) rfl rfl (gAt hx rfl rfl) rfl rfl ?_
  rw [hI.1]
  refine gw_cV1 (gc k_Model_drawnAct_0 3 rfl) y_Model_draws ln_Model_489 (c_draws hx hf hI _ (by omega) hl) rfl rfl (gAt hx rfl rfl) rfl rfl ?_
  have hf := hf.up (a := 177) (k := 50) (v := dr l) rfl
  have hI := hI.lat (dr l)
  refine gw_istore_1 (gc k_Model_drawnAct_0 4 rfl) rfl rfl ?_
  refine gw_aload_n (gc k_Model_drawnAct_0 5 rfl) rfl rfl ?_
  refine gw_bipush (gc k_Model_drawnAct_0 6 rfl) (by decide) ?_
  refine gw_cV1 (gc k_Model_drawnAct_0 7 rfl) y_Model_draws ln_Model_489 (c_draws hx hf hI _ (by omega) b1) rfl rfl (gAt hx rfl rfl) rfl rfl ?_
  have hf := hf.up (a := 177) (k := 50) (v := dr (dr l)) rfl
  have hI := hI.lat (dr (dr l))
  refine gw_istore_2 (gc k_Model_drawnAct_0 8 rfl) rfl rfl ?_
  refine gw_aload_n (gc k_Model_drawnAct_0 9 rfl) rfl rfl ?_
  refine gw_iconst (gc k_Model_drawnAct_0 10 rfl) ?_
  refine gw_cV1 (gc k_Model_drawnAct_0 11 rfl) y_Model_draws ln_Model_489 (c_draws hx hf hI _ (by omega) b2) rfl rfl (gAt hx rfl rfl) rfl rfl ?_
  have hf := hf.up (a := 177) (k := 50) (v := dr (dr (dr l))) rfl
  have hI := hI.lat (dr (dr (dr l)))
  refine gw_istore_3 (gc k_Model_drawnAct_0 12 rfl) rfl rfl ?_
  refine gw_iload_n (gc k_Model_drawnAct_0 13 rfl) rfl ?_
  rcases (show (dr (dr (dr l)) % 4) = 2 ∨ (dr (dr (dr l)) % 4) = 3 ∨ ((dr (dr (dr l)) % 4) ≠ 2 ∧ (dr (dr (dr l)) % 4) ≠ 3) by omega) with hs23 | hs23 | hs23
  · refine gw_lookup (off := 25) (tgt := 48) (gc k_Model_drawnAct_0 14 rfl) (by decide) (by omega) (by rw [hs23]; rfl) rfl ?_
    refine gw_aload_n (gc k_Model_drawnAct_0 15 rfl) rfl rfl ?_
    refine gw_getref (gc k_Model_drawnAct_0 16 rfl) fl_Model_28 (gAt hx rfl rfl) (gRf hf rfl rfl) ?_
    refine gw_bipush (gc k_Model_drawnAct_0 17 rfl) (by decide) ?_
    refine gw_iload_n (gc k_Model_drawnAct_0 18 rfl) rfl ?_
    refine gw_iadd (gc k_Model_drawnAct_0 19 rfl) ?_
    refine gw_iload_n (gc k_Model_drawnAct_0 20 rfl) rfl ?_
    refine gw_iastF (gc k_Model_drawnAct_0 21 rfl) (gAt hx rfl rfl) (by omega) hf rfl (fun hf => ?_)
    refine gw_goto (tgt := 77) (gc k_Model_drawnAct_0 22 rfl) rfl ?_
    refine gw_return (gc k_Model_drawnAct_0 33 rfl) rfl ?_
    refine ⟨rfl, rfl, ?_⟩
    unfold drA
    rw [if_pos hs23]
    exact hI.row _ _
  · refine gw_lookup (off := 38) (tgt := 61) (gc k_Model_drawnAct_0 14 rfl) (by decide) (by omega) (by rw [hs23]; rfl) rfl ?_
    refine gw_aload_n (gc k_Model_drawnAct_0 23 rfl) rfl rfl ?_
    refine gw_cV0 (gc k_Model_drawnAct_0 24 rfl) y_Model_exchanges ln_Model_338 (c_Model_exchanges hx hf (by rw [hI.1]; omega)) rfl rfl (gAt hx rfl rfl) rfl rfl ?_
    refine gw_goto (tgt := 77) (gc k_Model_drawnAct_0 25 rfl) rfl ?_
    refine gw_return (gc k_Model_drawnAct_0 33 rfl) rfl ?_
    refine ⟨rfl, rfl, ?_⟩
    unfold drA
    rw [if_neg (by omega), if_pos hs23]
    exact hI.ex
  · refine gw_lookup (off := 45) (tgt := 68) (gc k_Model_drawnAct_0 14 rfl) (by decide) (by omega) (by show (if (2 : Int) = (dr (dr (dr l)) % 4) then _ else (if (3 : Int) = (dr (dr (dr l)) % 4) then _ else _)) = _; rw [if_neg (by omega), if_neg (by omega)]; rfl) rfl ?_
    refine gw_aload_n (gc k_Model_drawnAct_0 26 rfl) rfl rfl ?_
    refine gw_getref (gc k_Model_drawnAct_0 27 rfl) fl_Model_28 (gAt hx rfl rfl) (gRf hf rfl rfl) ?_
    refine gw_iconst (gc k_Model_drawnAct_0 28 rfl) ?_
    refine gw_iload_n (gc k_Model_drawnAct_0 29 rfl) rfl ?_
    refine gw_iadd (gc k_Model_drawnAct_0 30 rfl) ?_
    refine gw_iload_n (gc k_Model_drawnAct_0 31 rfl) rfl ?_
    refine gw_iastF (gc k_Model_drawnAct_0 32 rfl) (gAt hx rfl rfl) (by omega) hf rfl (fun hf => ?_)
    refine gw_return (gc k_Model_drawnAct_0 33 rfl) rfl ?_
    refine ⟨rfl, rfl, ?_⟩
    unfold drA
    rw [if_neg (by omega), if_neg (by omega)]
    have q := hI.row (0 + dr l % ρ 41) (dr (dr l) % 25)
    rw [Int.zero_add] at q ⊢
    exact q
set_option maxHeartbeats 1000000 in
theorem c_Model_weeks {sh : gS} {g : gM} (hx : gFix sh) (hf : gFin g) (seed n : Int) (hb : (-2147483648 ≤ seed ∧ seed ≤ 2147483647) ∧ (-2147483648 ≤ n ∧ n ≤ 2147483647)) (ho : rowOK (g 179)) (hl : lawsOK (g 179)) : gTri f_Model_weeks 45 0 0 [(2, 177), (0, seed), (0, n)] sh g (fun x s2 g2 => s2 = sh ∧ weQ g seed n x g2) := by
  have hm := ro_many ho
  have hf0 := hf
  refine gTri.of (by decide +kernel) rfl ?_
  show gWP f_Model_weeks _ _ _ 0 [(2, 177), (0, seed), (0, n), (9, 0), (9, 0)] [] sh g _
  refine gw_iload_n (gc k_Model_weeks_0 0 rfl) rfl ?_
  refine gw_iconst (gc k_Model_weeks_0 1 rfl) ?_
  refine gw_ldc (gc k_Model_weeks_0 2 rfl) cn_Model_173 ?_
  refine gw_cS1 (gc k_Model_weeks_0 3 rfl) y_Model_lies ln_Model_18 (c_Model_lies seed 0 1000000 (by omega)) rfl rfl rfl rfl ?_
  refine gw_beq (tgt := 20) (gc k_Model_weeks_0 4 rfl) rfl (fun c7 => ?_) (fun c7 => ?_)
  · refine gw_aload_n (gc k_Model_weeks_0 10 rfl) rfl rfl ?_
    refine gw_iconst (gc k_Model_weeks_0 11 rfl) ?_
    refine gw_cV1 (gc k_Model_weeks_0 12 rfl) y_Model_refuses ln_Model_106 (c_refuses hx hf (-1) (by omega)) rfl rfl (gAt hx rfl rfl) rfl rfl ?_
    refine gw_ireturn (gc k_Model_weeks_0 13 rfl) rfl ?_
    exact ⟨rfl, Or.inl ⟨by omega, rfl, rfl⟩⟩
  · refine gw_iload_n (gc k_Model_weeks_0 5 rfl) rfl ?_
    refine gw_iconst (gc k_Model_weeks_0 6 rfl) ?_
    refine gw_bipush (gc k_Model_weeks_0 7 rfl) (by decide) ?_
    refine gw_cS1 (gc k_Model_weeks_0 8 rfl) y_Model_lies ln_Model_18 (c_Model_lies n 1 60 (by omega)) rfl rfl rfl rfl ?_
    refine gw_bne (tgt := 26) (gc k_Model_weeks_0 9 rfl) rfl (fun c17 => ?_) (fun c17 => ?_)
    · refine gw_aload_n (gc k_Model_weeks_0 14 rfl) rfl rfl ?_
      refine gw_cV1 (gc k_Model_weeks_0 15 rfl) y_Model_noteMany ln_Model_112 (c_Model_noteMany hx hf) rfl rfl (gAt hx rfl rfl) rfl rfl ?_
      refine gw_if_ne (tgt := 40) (gc k_Model_weeks_0 16 rfl) rfl (by omega) (fun c30 => ?_) (fun c30 => ?_)
      · refine gw_aload_n (gc k_Model_weeks_0 21 rfl) rfl rfl ?_
        refine gw_iload_n (gc k_Model_weeks_0 22 rfl) rfl ?_
        refine gw_putIK 50 rfl (gc k_Model_weeks_0 23 rfl) fl_Model_482 (gAt hx rfl rfl) hf rfl (fun hf => ?_)
        refine gw_aload_n (gc k_Model_weeks_0 24 rfl) rfl rfl ?_
        refine gw_aload_n (gc k_Model_weeks_0 25 rfl) rfl rfl ?_
        refine gw_cV1 (gc k_Model_weeks_0 26 rfl) y_Model_noteMany ln_Model_112 (c_Model_noteMany hx hf) rfl rfl (gAt hx rfl rfl) rfl rfl ?_
        rw [gup_fn _ _ _ _ (by decide)]
        refine gw_putIK 49 rfl (gc k_Model_weeks_0 27 rfl) fl_Model_103 (gAt hx rfl rfl) hf rfl (fun hf => ?_)
        refine gw_aload_n (gc k_Model_weeks_0 28 rfl) rfl rfl ?_
        refine gw_iconst (gc k_Model_weeks_0 29 rfl) ?_
        refine gw_cV0 (gc k_Model_weeks_0 30 rfl) y_Model_laysAside ln_Model_443 (c_Model_laysAside hx hf 0 (by omega)) rfl rfl (gAt hx rfl rfl) rfl rfl ?_
        rw [gup_fn _ _ _ _ (by decide), gup_fn _ _ _ _ (by decide), gup_fn _ _ _ _ (by decide), gup_fn _ _ _ _ (by decide)]
        have hf1 := hf.fr (a := 182) (f := cpF (g 182) (g 179) (25 * 0) 0 25) (fun _ => rfl)
        refine gw_iconst (gc k_Model_weeks_0 31 rfl) ?_
        refine gw_istore_3 (gc k_Model_weeks_0 32 rfl) rfl rfl ?_
        refine gw_iconst (gc k_Model_weeks_0 33 rfl) ?_
        refine gw_istore_4 (gc k_Model_weeks_0 34 rfl) rfl rfl ?_
        refine gwloop (σ := Nat × (Int → Int) × Int × Int × gM) (fun zs => ((zs.1) : Int) ≤ n ∧ wkI (gfr (gup (gup g 177 50 seed) 177 49 (g 179 41)) 182 (cpF (g 182) (g 179) (25 * 0) 0 25)) (zs.2.1) (zs.2.2.1) (zs.2.2.2.2) ∧ rowOK (zs.2.1) ∧ sLow (g 179) (zs.2.1) ∧ (0 ≤ (zs.2.2.1) ∧ (zs.2.2.1) ≤ 1000002) ∧ (0 ≤ (zs.2.2.2.1) ∧ (zs.2.2.2.1) ≤ 12 * (n - (zs.1))) ∧ wkF (zs.1) (zs.2.1) (zs.2.2.1) (zs.2.2.2.1) = wkF n.toNat (g 179) seed 0) (fun zs => (zs.1)) (fun zs => [(2, 177), (0, seed), (0, n), (0, (zs.2.2.2.1)), (0, n - ((zs.1) : Int))]) (fun zs => (zs.2.2.2.2)) (n.toNat, g 179, seed, 0, (gfr (gup (gup g 177 50 seed) 177 49 (g 179 41)) 182 (cpF (g 182) (g 179) (25 * 0) 0 25))) (show ((n.toNat) : Int) ≤ n ∧ wkI (gfr (gup (gup g 177 50 seed) 177 49 (g 179 41)) 182 (cpF (g 182) (g 179) (25 * 0) 0 25)) (g 179) seed ((gfr (gup (gup g 177 50 seed) 177 49 (g 179 41)) 182 (cpF (g 182) (g 179) (25 * 0) 0 25))) ∧ rowOK (g 179) ∧ sLow (g 179) (g 179) ∧ (0 ≤ seed ∧ seed ≤ 1000002) ∧ (0 ≤ (0 : Int) ∧ (0 : Int) ≤ 12 * (n - (n.toNat))) ∧ wkF (n.toNat) (g 179) seed (0 : Int) = wkF n.toNat (g 179) seed 0 from ⟨by omega, ⟨gfr_fn _ _ _ (by decide), (gfr_a _ _ _ _ (by decide)).trans ((gup_k _ _ _ _ (by decide)).trans (gup_s _ _ _ _)), fun _ _ _ _ _ => rfl⟩, ho, fun _ _ => rfl, by omega, by omega, rfl⟩) (by show [_, _, _, _, _] = [_, _, _, _, _]; rw [show n - ((n.toNat : Nat) : Int) = 0 by omega]) rfl (fun zs hI ih => ?_)
        obtain ⟨m, ρ, l, w, g1⟩ := zs
        replace hI : (m : Int) ≤ n ∧ wkI (gfr (gup (gup g 177 50 seed) 177 49 (g 179 41)) 182 (cpF (g 182) (g 179) (25 * 0) 0 25)) ρ l g1 ∧ rowOK ρ ∧ sLow (g 179) ρ ∧ (0 ≤ l ∧ l ≤ 1000002) ∧ (0 ≤ w ∧ w ≤ 12 * (n - m)) ∧ wkF m ρ l w = wkF n.toNat (g 179) seed 0 := hI
        obtain ⟨hm1, hJ, ho1, hs1, hl1, hw1, hV⟩ := hI
        show gWP _ _ _ _ _ [(2, 177), (0, seed), (0, n), (0, w), (0, n - (m : Int))] [] _ (g1) _
        have hf := hJ.fin hf1
        have e41 : ρ 41 = g 179 41 := hs1 41 (by omega)
        have hlk1 := hl.low hs1
        refine gw_iload (gc k_Model_weeks_0 35 rfl) rfl ?_
        refine gw_iload_n (gc k_Model_weeks_0 36 rfl) rfl ?_
        refine gw_icmp_ge (tgt := 111) (gc k_Model_weeks_0 37 rfl) rfl (by omega) (fun c66 => ?_) (fun c66 => ?_)
        · refine gw_iconst (gc k_Model_weeks_1 22 rfl) ?_
          refine gw_istore_4 (gc k_Model_weeks_1 23 rfl) rfl rfl ?_
          refine cp_start 200 (0) (0) (g1 179) ?_
          refine gloop (σ := Int) (I := fun i => 0 ≤ i ∧ i ≤ 25) (μ := fun i => (25 - i).toNat) (P := fun i => gWP f_Model_weeks _ _ _ 114 [(2, 177), (0, seed), (0, n), (0, w), (0, i)] [] sh (gfr g1 200 (cpF (g1 200) (g1 179) (0) (0) i)) _) (fun i hI ih => ?_) 0 (by omega)
          have hf := hf.fr (a := 200) (f := cpF (g1 200) (g1 179) (0) (0) i) (fun _ => rfl)
          refine gw_iload (gc k_Model_weeks_1 24 rfl) rfl ?_
          refine gw_bipush (gc k_Model_weeks_1 25 rfl) (by decide) ?_
          refine gw_icmp_ge (tgt := 141) (gc k_Model_weeks_1 26 rfl) rfl (by omega) (fun c118 => ?_) (fun c118 => ?_)
          · refine gw_aload_n (gc k_Model_weeks_1 37 rfl) rfl rfl ?_
            refine gw_iconst (gc k_Model_weeks_1 38 rfl) ?_
            refine gw_cV0 (gc k_Model_weeks_1 39 rfl) y_Model_takesBack ln_Model_452 (c_Model_takesBack hx hf 0 (by omega)) rfl rfl (gAt hx rfl rfl) rfl rfl ?_
            refine gw_aload_n (gc k_Model_weeks_2 0 rfl) rfl rfl ?_
            refine gw_iload_n (gc k_Model_weeks_2 1 rfl) rfl ?_
            refine gw_cV1 (gc k_Model_weeks_2 2 rfl) y_Model_good ln_Model_14 (c_Model_good hx (hf.fr (fun _ => rfl)) _) rfl rfl (gAt hx rfl rfl) rfl rfl ?_
            refine gw_ireturn (gc k_Model_weeks_2 3 rfl) rfl ?_
            obtain rfl : i = 25 := by omega
            have hW : wkF n.toNat (g 179) seed 0 = (ρ, w) := by
              rw [← hV]
              cases m with
              | zero => rfl
              | succ m => exact if_neg (by omega)
            refine ⟨rfl, Or.inr (Or.inr ⟨by omega, by omega, by rw [hW], gup_s _ _ _ _, ?_, ?_, fun y a b => ?_, fun a k h1 h2 => ?_⟩)⟩
            · rw [gup_k _ _ _ _ (by decide), gfr_a _ _ _ _ (by decide), gfr_a _ _ _ _ (by decide), hJ.2.2 177 49 (by omega) (by decide) (by decide), gfr_a _ _ _ _ (by decide), gup_s]
            · rw [gup_fn _ _ _ _ (by decide), gfr_fs, gfr_fn _ _ _ (by decide), gfr_fn _ _ _ (by decide)]
              rw [show g1 182 = cpF (g 182) (g 179) (25 * 0) 0 25 from funext fun y => (hJ.2.2 182 y (by omega) (by decide) (by decide)).trans (gfr_s _ _ _ _), hJ.1]
              funext y
              by_cases z : 0 ≤ y ∧ y < 25
              · rw [cpF_in _ _ (by omega), cpF_in _ _ (by omega)]
                exact congrArg _ (by omega)
              · rw [cpF_out _ _ (by omega)]
                by_cases z2 : 25 ≤ y
                · exact hs1 y (Or.inr z2)
                · exact hs1 y (by omega)
            · rw [gup_fn _ _ _ _ (by decide), gfr_fn _ _ _ (by decide), gfr_s, cpF_in _ _ (by omega), hW, hJ.1]
              exact congrArg _ (by omega)
            · rw [show gup (gfr (gfr g1 200 (cpF (g1 200) (g1 179) 0 0 25)) 179 (cpF (gfr g1 200 (cpF (g1 200) (g1 179) 0 0 25) 179) (gfr g1 200 (cpF (g1 200) (g1 179) 0 0 25) 182) 0 (25 * 0) 25)) 177 0 0 a k = g1 a k by
                by_cases z : a = 177
                · subst z; rw [gup_k _ _ _ _ (by omega), gfr_a _ _ _ _ (by decide), gfr_a _ _ _ _ (by decide)]
                · rw [gup_a _ _ _ _ _ z, gfr_a _ _ _ _ (by omega), gfr_a _ _ _ _ (by omega)]]
              rw [hJ.2.2 a k (by omega) (by omega) (by omega), gfr_a _ _ _ _ (by omega)]
              by_cases z : a = 177
              · subst z; rw [gup_k _ _ _ _ (by omega), gup_k _ _ _ _ (by omega)]
              · rw [gup_a _ _ _ _ _ z, gup_a _ _ _ _ _ z]
          · refine gw_aload_n (gc k_Model_weeks_1 27 rfl) rfl rfl ?_
            refine gw_getref (gc k_Model_weeks_1 28 rfl) fl_Model_100 (gAt hx rfl rfl) (gRf hf rfl rfl) ?_
            refine gw_iload (gc k_Model_weeks_1 29 rfl) rfl ?_
            refine gw_aload_n (gc k_Model_weeks_1 30 rfl) rfl rfl ?_
            refine gw_getref (gc k_Model_weeks_1 31 rfl) fl_Model_28 (gAt hx rfl rfl) (gRf hf rfl rfl) ?_
            refine gw_iload (gc k_Model_weeks_1 32 rfl) rfl ?_
            refine gw_iald (gc k_Model_weeks_1 33 rfl) (gAt hx rfl rfl) (by omega) ?_
            refine gw_iastF (gc k_Model_weeks_1 34 rfl) (gAt hx rfl rfl) (by omega) hf rfl (fun hf => ?_)
            refine gw_iinc_4 (gc k_Model_weeks_1 35 rfl) rfl rfl ?_
            refine gw_goto (tgt := 114) (gc k_Model_weeks_1 36 rfl) rfl ?_
            refine cp_step0 (by omega) (ih (i + 1) (by omega) (by omega)) ?_
            first | rfl | exact (gfr_a _ _ _ _ (by decide)).trans (congrArg _ (by omega)) | exact congrArg _ (by omega)
        · refine gw_aload_n (gc k_Model_weeks_0 38 rfl) rfl rfl ?_
          refine gw_getref (gc k_Model_weeks_0 39 rfl) fl_Model_28 (gAt hx rfl rfl) (gRf hf rfl rfl) ?_
          refine gw_bipush (gc k_Model_weeks_1 0 rfl) (by decide) ?_
          refine gw_iald (gc k_Model_weeks_1 1 rfl) (gAt hx rfl rfl) (by omega) ?_
          rw [hJ.1]
          have hdy := ro_day ho1
          refine gw_sipush (gc k_Model_weeks_1 2 rfl) (by decide) ?_
          refine gw_icmp_ge (tgt := 111) (gc k_Model_weeks_1 3 rfl) rfl (by omega) (fun c79 => ?_) (fun c79 => ?_)
          · refine gw_iconst (gc k_Model_weeks_1 22 rfl) ?_
            refine gw_istore_4 (gc k_Model_weeks_1 23 rfl) rfl rfl ?_
            refine cp_start 200 (0) (0) (g1 179) ?_
            refine gloop (σ := Int) (I := fun i => 0 ≤ i ∧ i ≤ 25) (μ := fun i => (25 - i).toNat) (P := fun i => gWP f_Model_weeks _ _ _ 114 [(2, 177), (0, seed), (0, n), (0, w), (0, i)] [] sh (gfr g1 200 (cpF (g1 200) (g1 179) (0) (0) i)) _) (fun i hI ih => ?_) 0 (by omega)
            have hf := hf.fr (a := 200) (f := cpF (g1 200) (g1 179) (0) (0) i) (fun _ => rfl)
            refine gw_iload (gc k_Model_weeks_1 24 rfl) rfl ?_
            refine gw_bipush (gc k_Model_weeks_1 25 rfl) (by decide) ?_
            refine gw_icmp_ge (tgt := 141) (gc k_Model_weeks_1 26 rfl) rfl (by omega) (fun c118 => ?_) (fun c118 => ?_)
            · refine gw_aload_n (gc k_Model_weeks_1 37 rfl) rfl rfl ?_
              refine gw_iconst (gc k_Model_weeks_1 38 rfl) ?_
              refine gw_cV0 (gc k_Model_weeks_1 39 rfl) y_Model_takesBack ln_Model_452 (c_Model_takesBack hx hf 0 (by omega)) rfl rfl (gAt hx rfl rfl) rfl rfl ?_
              refine gw_aload_n (gc k_Model_weeks_2 0 rfl) rfl rfl ?_
              refine gw_iload_n (gc k_Model_weeks_2 1 rfl) rfl ?_
              refine gw_cV1 (gc k_Model_weeks_2 2 rfl) y_Model_good ln_Model_14 (c_Model_good hx (hf.fr (fun _ => rfl)) _) rfl rfl (gAt hx rfl rfl) rfl rfl ?_
              refine gw_ireturn (gc k_Model_weeks_2 3 rfl) rfl ?_
              obtain rfl : i = 25 := by omega
              have hW : wkF n.toNat (g 179) seed 0 = (ρ, w) := by
                rw [← hV]
                cases m with
                | zero => rfl
                | succ m => exact if_neg (by omega)
              refine ⟨rfl, Or.inr (Or.inr ⟨by omega, by omega, by rw [hW], gup_s _ _ _ _, ?_, ?_, fun y a b => ?_, fun a k h1 h2 => ?_⟩)⟩
              · rw [gup_k _ _ _ _ (by decide), gfr_a _ _ _ _ (by decide), gfr_a _ _ _ _ (by decide), hJ.2.2 177 49 (by omega) (by decide) (by decide), gfr_a _ _ _ _ (by decide), gup_s]
              · rw [gup_fn _ _ _ _ (by decide), gfr_fs, gfr_fn _ _ _ (by decide), gfr_fn _ _ _ (by decide)]
                rw [show g1 182 = cpF (g 182) (g 179) (25 * 0) 0 25 from funext fun y => (hJ.2.2 182 y (by omega) (by decide) (by decide)).trans (gfr_s _ _ _ _), hJ.1]
                funext y
                by_cases z : 0 ≤ y ∧ y < 25
                · rw [cpF_in _ _ (by omega), cpF_in _ _ (by omega)]
                  exact congrArg _ (by omega)
                · rw [cpF_out _ _ (by omega)]
                  by_cases z2 : 25 ≤ y
                  · exact hs1 y (Or.inr z2)
                  · exact hs1 y (by omega)
              · rw [gup_fn _ _ _ _ (by decide), gfr_fn _ _ _ (by decide), gfr_s, cpF_in _ _ (by omega), hW, hJ.1]
                exact congrArg _ (by omega)
              · rw [show gup (gfr (gfr g1 200 (cpF (g1 200) (g1 179) 0 0 25)) 179 (cpF (gfr g1 200 (cpF (g1 200) (g1 179) 0 0 25) 179) (gfr g1 200 (cpF (g1 200) (g1 179) 0 0 25) 182) 0 (25 * 0) 25)) 177 0 0 a k = g1 a k by
                  by_cases z : a = 177
                  · subst z; rw [gup_k _ _ _ _ (by omega), gfr_a _ _ _ _ (by decide), gfr_a _ _ _ _ (by decide)]
                  · rw [gup_a _ _ _ _ _ z, gfr_a _ _ _ _ (by omega), gfr_a _ _ _ _ (by omega)]]
                rw [hJ.2.2 a k (by omega) (by omega) (by omega), gfr_a _ _ _ _ (by omega)]
                by_cases z : a = 177
                · subst z; rw [gup_k _ _ _ _ (by omega), gup_k _ _ _ _ (by omega)]
                · rw [gup_a _ _ _ _ _ z, gup_a _ _ _ _ _ z]
            · refine gw_aload_n (gc k_Model_weeks_1 27 rfl) rfl rfl ?_
              refine gw_getref (gc k_Model_weeks_1 28 rfl) fl_Model_100 (gAt hx rfl rfl) (gRf hf rfl rfl) ?_
              refine gw_iload (gc k_Model_weeks_1 29 rfl) rfl ?_
              refine gw_aload_n (gc k_Model_weeks_1 30 rfl) rfl rfl ?_
              refine gw_getref (gc k_Model_weeks_1 31 rfl) fl_Model_28 (gAt hx rfl rfl) (gRf hf rfl rfl) ?_
              refine gw_iload (gc k_Model_weeks_1 32 rfl) rfl ?_
              refine gw_iald (gc k_Model_weeks_1 33 rfl) (gAt hx rfl rfl) (by omega) ?_
              refine gw_iastF (gc k_Model_weeks_1 34 rfl) (gAt hx rfl rfl) (by omega) hf rfl (fun hf => ?_)
              refine gw_iinc_4 (gc k_Model_weeks_1 35 rfl) rfl rfl ?_
              refine gw_goto (tgt := 114) (gc k_Model_weeks_1 36 rfl) rfl ?_
              refine cp_step0 (by omega) (ih (i + 1) (by omega) (by omega)) ?_
              first | rfl | exact (gfr_a _ _ _ _ (by decide)).trans (congrArg _ (by omega)) | exact congrArg _ (by omega)
          · obtain ⟨m, rfl⟩ : ∃ q, m = q + 1 := ⟨m - 1, by omega⟩
            refine gw_aload_n (gc k_Model_weeks_1 4 rfl) rfl rfl ?_
            refine gw_xV1 (gc k_Model_weeks_1 5 rfl) y_Model_drawnAct ln_Model_492 (c_Model_drawnAct hx hf hJ ho1 (by omega) hl1) rfl rfl (gAt hx rfl rfl) rfl rfl (fun r83 sh2 g83 hq83 => ?_)
            obtain ⟨rfl, rfl, hJ2⟩ := hq83
            have hf := hJ2.fin hf1
            have ho2 := drA_ok ho1 (by omega) l
            have hlk2 := hlk1.low (drA_low ho1 (by omega) l)
            have b3 := dr_bd (dr (dr l))
            have e24 := drA_24 ho1 (by omega) l
            have hab := allN_bd2 ho2
            refine gw_iload_n (gc k_Model_weeks_1 6 rfl) rfl ?_
            refine gw_aload_n (gc k_Model_weeks_1 7 rfl) rfl rfl ?_
            refine gw_iconst (gc k_Model_weeks_1 8 rfl) ?_
            refine gw_xV1 (gc k_Model_weeks_1 9 rfl) y_Model_allOf ln_Model_332 (c_Model_allOf hx hf 2 (by omega) (by rw [hJ2.1]; exact ho2) (by rw [hJ2.1]; exact hlk2)) rfl rfl (gAt hx rfl rfl) rfl rfl (fun r89 sh2 g89 hq89 => ?_)
            rw [hJ2.1] at hq89
            obtain ⟨rfl, rfl, hq89⟩ := hq89
            have hf := hf.sk hq89
            have hJ2 := hJ2.sk hq89
            refine gw_iadd (gc k_Model_weeks_1 10 rfl) ?_
            refine gw_istore_3 (gc k_Model_weeks_1 11 rfl) rfl rfl ?_
            refine gw_aload_n (gc k_Model_weeks_1 12 rfl) rfl rfl ?_
            refine gw_getref (gc k_Model_weeks_1 13 rfl) fl_Model_28 (gAt hx rfl rfl) (gRf hf rfl rfl) ?_
            refine gw_bipush (gc k_Model_weeks_1 14 rfl) (by decide) ?_
            refine gw_dup2 (gc k_Model_weeks_1 15 rfl) rfl ?_
            refine gw_iald (gc k_Model_weeks_1 16 rfl) (gAt hx rfl rfl) (by omega) ?_
            rw [hJ2.1]
            refine gw_iconst (gc k_Model_weeks_1 17 rfl) ?_
            refine gw_iadd (gc k_Model_weeks_1 18 rfl) ?_
            refine gw_iastF (gc k_Model_weeks_1 19 rfl) (gAt hx rfl rfl) (by omega) hf rfl (fun hf => ?_)
            refine gw_iinc_4 (gc k_Model_weeks_1 20 rfl) rfl rfl ?_
            refine gw_goto (tgt := 63) (gc k_Model_weeks_1 21 rfl) rfl ?_
            refine gWP.eqs ?_ rfl (ih (m, rDa (drA ρ l), dr (dr (dr l)), w + allN (drA ρ l) 2, gup g89 179 24 (drA ρ l 24 + 1)) (show (m : Int) ≤ n ∧ wkI (gfr (gup (gup g 177 50 seed) 177 49 (g 179 41)) 182 (cpF (g 182) (g 179) (25 * 0) 0 25)) (rDa (drA ρ l)) (dr (dr (dr l))) (gup g89 179 24 (drA ρ l 24 + 1)) ∧ rowOK (rDa (drA ρ l)) ∧ sLow (g 179) (rDa (drA ρ l)) ∧ (0 ≤ (dr (dr (dr l))) ∧ (dr (dr (dr l))) ≤ 1000002) ∧ (0 ≤ (w + allN (drA ρ l) 2) ∧ (w + allN (drA ρ l) 2) ≤ 12 * (n - m)) ∧ wkF m (rDa (drA ρ l)) (dr (dr (dr l))) (w + allN (drA ρ l) 2) = wkF n.toNat (g 179) seed 0 from ⟨by omega, hJ2.row 24 _, rDa_ok ho2 (by omega), (hs1.tr (drA_low ho1 (by omega) l)).tr (rDa_low _), b3, by omega, by rw [← hV]; exact (if_pos (by omega)).symm⟩) (show m < m + 1 from by omega))
            show [(2, 177), (0, seed), (0, n), (0, (w + allN (drA ρ l) 2)), (0, n - (m : Int))] = _
            rw [show n - ((m + 1 : Nat) : Int) + 1 = n - (m : Int) by omega]
      · refine gw_aload_n (gc k_Model_weeks_0 17 rfl) rfl rfl ?_
        refine gw_bipush (gc k_Model_weeks_0 18 rfl) (by decide) ?_
        refine gw_cV1 (gc k_Model_weeks_0 19 rfl) y_Model_refuses ln_Model_106 (c_refuses hx hf (-3) (by omega)) rfl rfl (gAt hx rfl rfl) rfl rfl ?_
        refine gw_ireturn (gc k_Model_weeks_0 20 rfl) rfl ?_
        exact ⟨rfl, Or.inr (Or.inl ⟨by omega, by omega, rfl, rfl⟩)⟩
    · refine gw_aload_n (gc k_Model_weeks_0 10 rfl) rfl rfl ?_
      refine gw_iconst (gc k_Model_weeks_0 11 rfl) ?_
      refine gw_cV1 (gc k_Model_weeks_0 12 rfl) y_Model_refuses ln_Model_106 (c_refuses hx hf (-1) (by omega)) rfl rfl (gAt hx rfl rfl) rfl rfl ?_
      refine gw_ireturn (gc k_Model_weeks_0 13 rfl) rfl ?_
      exact ⟨rfl, Or.inl ⟨by omega, rfl, rfl⟩⟩
