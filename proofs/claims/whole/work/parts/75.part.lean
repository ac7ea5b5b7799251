/-! ===== the class reads: code laid ===== -/
def agO (t : Int) (x : Int × Int) : Int := if x.1 = 3 ∨ x.1 = 4 then t + 1 + x.2 else x.2
def cdL (O A : Int → Int) : Int → PK → Prop
  | _, [] => True
  | t, x :: r => O t = x.1 ∧ A t = agO t x ∧ cdL O A (t + 1) r
theorem cdL_app {O A : Int → Int} : ∀ (c d : PK) (t : Int), cdL O A t (c ++ d) ↔ cdL O A t c ∧ cdL O A (t + c.length) d
  | [], d, t => by
    show cdL O A t d ↔ True ∧ cdL O A (t + ((0 : Nat) : Int)) d
    rw [show t + ((0 : Nat) : Int) = t by omega]; simp
  | x :: r, d, t => by
    show (O t = x.1 ∧ A t = agO t x ∧ cdL O A (t + 1) (r ++ d)) ↔ (O t = x.1 ∧ A t = agO t x ∧ cdL O A (t + 1) r) ∧ _
    rw [cdL_app r d (t + 1), List.length_cons, show t + 1 + (r.length : Int) = t + ((r.length + 1 : Nat) : Int) by omega]
    constructor
    · exact fun h => ⟨⟨h.1, h.2.1, h.2.2.1⟩, h.2.2.2⟩
    · exact fun h => ⟨h.1.1, h.1.2.1, h.1.2.2, h.2⟩
theorem cdL_ext {O A O2 A2 : Int → Int} : ∀ (c : PK) (t : Int), (∀ j, t ≤ j → j < t + c.length → O2 j = O j ∧ A2 j = A j) → cdL O A t c → cdL O2 A2 t c
  | [], _, _, _ => trivial
  | x :: r, t, h, hc => by
    rw [List.length_cons] at h
    have h1 := h t (Int.le_refl _) (by omega)
    exact ⟨h1.1.trans hc.1, h1.2.trans hc.2.1, cdL_ext r (t + 1) (fun j a b => h j (by omega) (by omega)) hc.2.2⟩
def lb (c : PK) : Bool := c.any fun x => decide (x.1 = 1 ∧ (x.2 = 4 ∨ x.2 = 5))
theorem lb_app (c d : PK) : lb (c ++ d) = (lb c || lb d) := List.any_append
def lbV (o : Bool) (old : Int) (c : PK) : Int := if old = 1 ∨ (o = false ∧ lb c = true) then 1 else 0
theorem lbV_01 (o : Bool) (old : Int) (c : PK) : lbV o old c = 0 ∨ lbV o old c = 1 := by unfold lbV; split <;> simp
theorem lbV_app (o : Bool) (old : Int) (c d : PK) : lbV o (lbV o old c) d = lbV o old (c ++ d) := by
  unfold lbV
  rw [lb_app]
  by_cases h1 : old = 1 ∨ (o = false ∧ lb c = true)
  · rw [if_pos h1, if_pos (Or.inl rfl), if_pos]
    rcases h1 with h | h
    · exact Or.inl h
    · exact Or.inr ⟨h.1, by rw [h.2]; rfl⟩
  · rw [if_neg h1]
    by_cases h2 : o = false ∧ lb d = true
    · rw [if_pos (Or.inr h2), if_pos (Or.inr ⟨h2.1, by rw [h2.2, Bool.or_true]⟩)]
    · rw [if_neg (fun z => by rcases z with z | z; exact absurd z (by decide); exact h2 z), if_neg (fun z => by
        rcases z with z | ⟨z1, z2⟩
        · exact h1 (Or.inl z)
        · rcases Bool.or_eq_true_iff.mp z2 with q | q
          · exact h1 (Or.inr ⟨z1, q⟩)
          · exact h2 ⟨z1, q⟩)]
theorem lbV_no (o : Bool) {old : Int} (h : old = 0 ∨ old = 1) {c : PK} (hc : lb c = false) : lbV o old c = old := by
  unfold lbV
  rcases h with rfl | rfl
  · rw [if_neg (fun z => by rcases z with z | z; exact absurd z (by decide); rw [hc] at z; exact absurd z.2 (by decide))]
  · rw [if_pos (Or.inl rfl)]
def clF (g g2 : gM) : Prop := ∀ a k, ¬ (a = 151 ∧ 4 ≤ k ∧ k ≤ 8) → ¬ (a = 152 ∧ 1 ≤ k ∧ k ≤ 2) → a ≠ 156 → a ≠ 157 → g2 a k = g a k
theorem clF.rf (g : gM) : clF g g := fun _ _ _ _ _ _ => rfl
theorem clF.tr {g g2 g3 : gM} (h : clF g g2) (h2 : clF g2 g3) : clF g g3 := fun a k n m q r => (h2 a k n m q r).trans (h a k n m q r)
theorem rcF.cl {g g2 : gM} (h : rcF g g2) : clF g g2 := fun a k n _ _ _ => h a k (fun z => n ⟨z.1, by omega⟩)
theorem clF.fin {g g2 : gM} (h : clF g g2) (hf : gFin g) : gFin g2 := hf.of fun a k z => h _ _ (fun q => z (by
  obtain rfl : a = 151 := by omega
  rcases (show k = 4 ∨ k = 5 ∨ k = 6 ∨ k = 7 ∨ k = 8 by omega) with y | y | y | y | y <;> (subst y; rfl))) (fun q => z (by
  obtain rfl : a = 152 := by omega
  rcases (show k = 1 ∨ k = 2 by omega) with y | y <;> (subst y; rfl))) (fun q => z (by
  obtain rfl : a = 156 := by omega
  rfl)) (fun q => z (by
  obtain rfl : a = 157 := by omega
  rfl))
theorem clF.u8 (g : gM) (v : Int) : clF g (gup g 151 8 v) := fun a k n m q r => by
  by_cases z : a = 151
  · subst z; exact gup_k _ _ _ _ (by omega)
  · exact gup_a _ _ _ _ _ z
theorem clF.u2 (g : gM) (v : Int) : clF g (gup g 152 2 v) := fun a k n m q r => by
  by_cases z : a = 152
  · subst z; exact gup_k _ _ _ _ (by omega)
  · exact gup_a _ _ _ _ _ z
theorem clF.st (g : gM) (op a : Int) : clF g (stM g op a) := fun x k n m q r => by
  unfold stM
  by_cases z : x = 152
  · subst z; rw [gup_k _ _ _ _ (by omega), gup_a _ _ _ _ _ r, gup_a _ _ _ _ _ q]
  · rw [gup_a _ _ _ _ _ z, gup_a _ _ _ _ _ r, gup_a _ _ _ _ _ q]
theorem rcP.of {B : Int → Int} {len p : Int} {g g2 : gM} (h : rcP B len p g) (he : ∀ k, 4 ≤ k → k ≤ 7 → g2 151 k = g 151 k) : rcP B len p g2 := by
  obtain ⟨h5, h6, h4, hv2, hv3, hvb⟩ := h
  refine ⟨?_, ?_, ?_, ?_, ?_, ?_⟩
  · rw [he _ (by decide) (by decide)]; exact h5
  · rw [he _ (by decide) (by decide)]; exact h6
  · rw [he _ (by decide) (by decide)]; exact h4
  · rw [he _ (by decide) (by decide)]; exact hv2
  · rw [he _ (by decide) (by decide)]; exact hv3
  · rw [he _ (by decide) (by decide)]; exact hvb
theorem rcB.cl {B : Int → Int} {len : Int} {g g2 : gM} (h : rcB B len g) (hs : clF g g2) : rcB B len g2 := h.of (hs _ _ (by omega) (by omega) (by decide) (by decide)) (funext fun k => hs _ _ (by omega) (by omega) (by decide) (by decide))
theorem stM_s1 (g : gM) (op a : Int) : stM g op a 152 1 = g 152 1 + 1 := gup_s _ _ _ _
theorem stM_151 (g : gM) (op a : Int) : stM g op a 151 = g 151 := by unfold stM; rw [gup_fn _ _ _ _ (by decide), gup_fn _ _ _ _ (by decide), gup_fn _ _ _ _ (by decide)]
theorem stM_s2 (g : gM) (op a : Int) : stM g op a 152 2 = g 152 2 := by unfold stM; rw [gup_k _ _ _ _ (by decide), gup_fn _ _ _ _ (by decide), gup_fn _ _ _ _ (by decide)]
theorem stM_O (g : gM) (op a : Int) (j : Int) : stM g op a 156 j = if j = g 152 1 then op else g 156 j := by
  unfold stM
  rw [gup_fn _ _ _ _ (by decide), gup_fn _ _ _ _ (by decide)]
  unfold gup
  rw [if_pos rfl]
theorem stM_A (g : gM) (op a : Int) (j : Int) : stM g op a 157 j = if j = g 152 1 then a else g 157 j := by
  unfold stM
  rw [gup_fn _ _ _ _ (by decide)]
  show (if (157 : Int) = 157 then (if j = g 152 1 then a else gup g 156 (g 152 1) op 157 j) else _) = _
  rw [if_pos rfl, gup_a _ _ _ _ _ (by decide)]
theorem cd_snoc {g : gM} {Lc op a a2 : Int} {c : PK} (hc : cdL (g 156) (g 157) Lc c) (h1 : g 152 1 = Lc + c.length) (ha : a = agO (Lc + c.length) (op, a2)) : cdL (stM g op a 156) (stM g op a 157) Lc (c ++ [(op, a2)]) := by
  rw [cdL_app]
  refine ⟨cdL_ext c Lc (fun j j1 j2 => ?_) hc, ?_, ?_, trivial⟩
  · rw [stM_O, stM_A, if_neg (by omega), if_neg (by omega)]; exact ⟨rfl, rfl⟩
  · rw [stM_O, h1, if_pos rfl]
  · rw [stM_A, h1, if_pos rfl]; exact ha
/-- the reader's state: at token p, n parts, Lc steps laid -/
def cS (B : Int → Int) (len K p n Lc : Int) (g : gM) : Prop := rcB B len g ∧ rcP B len p g ∧ g 151 8 = n ∧ g 152 1 = Lc ∧ (0 ≤ p ∧ 0 ≤ n ∧ n ≤ 50) ∧ (0 ≤ Lc ∧ 0 ≤ K) ∧ Lc + K ≤ p
def rcQ (B : Int → Int) (len K : Int) (o : Bool) (g : gM) (Lc : Int) (r : PR) (x : Option gV) (g2 : gM) : Prop := clF g g2 ∧ ((∃ e, r = .inl e ∧ x = some (0, 0) ∧ rcP B len e g2 ∧ 0 ≤ e) ∨ (∃ p2 n2 c s, r = .inr (p2, n2, c, s) ∧ x = some (0, 1) ∧ cS B len K p2 n2 (Lc + c.length) g2 ∧ cdL (g2 156) (g2 157) Lc c ∧ (∀ j, j < Lc → g2 156 j = g 156 j ∧ g2 157 j = g 157 j) ∧ g2 152 2 = lbV o (g 152 2) c))
theorem rcQ.v {B : Int → Int} {len K : Int} {o : Bool} {g : gM} {Lc : Int} {r : PR} {x : Option gV} {g2 : gM} (h : rcQ B len K o g Lc r x g2) : ∃ v, x = some (0, v) ∧ (v = 0 ∨ v = 1) ∧ clF g g2 ∧ ((v = 0 ∧ ∃ e, r = .inl e ∧ rcP B len e g2 ∧ 0 ≤ e) ∨ (v = 1 ∧ ∃ p2 n2 c s, r = .inr (p2, n2, c, s) ∧ cS B len K p2 n2 (Lc + c.length) g2 ∧ cdL (g2 156) (g2 157) Lc c ∧ (∀ j, j < Lc → g2 156 j = g 156 j ∧ g2 157 j = g 157 j) ∧ g2 152 2 = lbV o (g 152 2) c)) := by
  obtain ⟨hF, ⟨e, h1, h2, h3⟩ | ⟨p2, n2, c, s, h1, h2, h3⟩⟩ := h
  · exact ⟨0, h2, Or.inl rfl, hF, Or.inl ⟨rfl, e, h1, h3⟩⟩
  · exact ⟨1, h2, Or.inr rfl, hF, Or.inr ⟨rfl, p2, n2, c, s, h1, h3⟩⟩
/-- the method F reads what f says, and lays its code -/
def RcL (B : Int → Int) (len : Int) (o : Bool) (sh : gS) (F : gF) (d : Nat) (as : List gV) (f : Int → Int → PR) : Prop := ∀ (g : gM) (p n Lc K : Int), gFin g → g 151 3 = (if o = true then 0 else 1) → cS B len K p n Lc g → (g 152 2 = 0 ∨ g 152 2 = 1) → gTri F d 0 0 as sh g (fun x s2 g2 => s2 = sh ∧ rcQ B len K o g Lc (f p n) x g2)
theorem gor_01 {a b : Int} (ha : a = 0 ∨ a = 1) (hb : b = 0 ∨ b = 1) : gor a b = if a = 1 ∨ b = 1 then 1 else 0 := by
  rcases ha with rfl | rfl <;> rcases hb with rfl | rfl <;> decide
theorem mv1_le {v : Int} (h : 0 ≤ v) : (mv1 v ≤ 1000 ↔ v ≤ 1000) ∧ (v ≤ 1000 → mv1 v = v) ∧ (mv1 v < 12 ↔ v ≤ 11) := by unfold mv1; split <;> omega
/-- a single step behind what was laid -/
theorem leaf_end {B : Int → Int} {len K : Int} {o : Bool} {g g1 g2 : gM} {Lc p2 n op a : Int} {r : PR} {s : PS} (hr : r = .inr (p2, n + 1, [(op, a)], s)) (hop : op = 0 ∨ op = 1) (hF : clF g g1) (h11 : g1 152 1 = Lc) (h6 : g1 156 = g 156 ∧ g1 157 = g 157) (h8 : g1 151 8 = n + 1) (hf : rcF (stM g1 op a) g2) (hB : rcB B len g1) (hP : rcP B len p2 g2) (hb : (0 ≤ n ∧ n < 50) ∧ (0 ≤ Lc ∧ 0 ≤ K) ∧ Lc + K < p2) (h2 : g1 152 2 = lbV o (g 152 2) [(op, a)]) : rcQ B len K o g Lc r (some (0, 1)) g2 := by
  have e156 : g2 156 = stM g1 op a 156 := funext fun k => hf _ _ (by omega)
  have e157 : g2 157 = stM g1 op a 157 := funext fun k => hf _ _ (by omega)
  refine ⟨hF.tr ((clF.st g1 op a).tr hf.cl), Or.inr ⟨p2, n + 1, _, s, hr, rfl, ⟨(hB.cl (clF.st g1 op a)).f hf, hP, ?_, ?_, by omega, ?_⟩, ?_, fun j hj => ?_, ?_⟩⟩
  · rw [hf _ _ (by omega), stM_151, h8]
  · rw [hf _ _ (by omega), stM_s1, h11]; rfl
  · show (0 ≤ Lc + ((1 : Nat) : Int) ∧ 0 ≤ K) ∧ Lc + ((1 : Nat) : Int) + K ≤ p2
    omega
  · rw [e156, e157]
    have q := cd_snoc (g := g1) (Lc := Lc) (op := op) (a := a) (a2 := a) (c := []) trivial (by rw [h11]; show Lc = Lc + ((0 : Nat) : Int); omega) (by unfold agO; rw [if_neg (by dsimp only; omega)])
    exact q
  · rw [e156, e157, stM_O, stM_A, h11, if_neg (by omega), if_neg (by omega), h6.1, h6.2]; exact ⟨rfl, rfl⟩
  · rw [hf _ _ (by omega), stM_s2, h2]
theorem tT_bd2 (B : Int → Int) (len p : Int) : True := trivial
theorem lwI_bd (c : Int) : 0 ≤ lwI c ∧ lwI c ≤ 9 := by
  unfold lwI
  repeat' split
  all_goals omega
theorem loW_bd (c : Int) : -1 ≤ loW c ∧ loW c ≤ 17 := by
  unfold loW
  repeat' split
  all_goals omega
theorem loW_in {c : Int} (h : ¬ loW c = -1) : 15 ≤ c ∧ c ≤ 21 := by
  unfold loW at h
  repeat' split at h
  all_goals omega
theorem loW_out {c : Int} (h : loW c = -1) (h2 : 15 ≤ c ∧ c ≤ 21) : False := by
  unfold loW at h
  repeat' split at h
  all_goals omega
theorem loW_15 {c : Int} (h : 5 ≤ loW c) : c = 15 ∨ c = 16 := by
  unfold loW at h
  repeat' split at h
  all_goals omega
theorem loW_hu {c : Int} (h : c = 15 ∨ c = 16) : loW c = if c = 15 then 5 else 17 := by rcases h with rfl | rfl <;> rfl
theorem loW_4 {c : Int} (h : 0 ≤ loW c) (h2 : loW c < 5) : (17 ≤ c ∧ c ≤ 21) ∧ loW c = c - 17 := by
  unfold loW at h h2 ⊢
  repeat' split at h
  all_goals (first | omega | (repeat' split
                              all_goals omega))
theorem lbV_w (old w : Int) : (if old = 1 ∨ bi (w = 4 ∨ w = 5) = 1 then (1 : Int) else 0) = lbV false old [(1, w)] := by
  unfold lbV lb
  by_cases h : w = 4 ∨ w = 5
  · rw [bi_1 h, if_pos (Or.inr rfl), if_pos (Or.inr ⟨rfl, by simp [h]⟩)]
  · rw [bi_0 h]
    by_cases h2 : old = 1
    · rw [if_pos (Or.inl h2), if_pos (Or.inl h2)]
    · rw [if_neg (fun z => by rcases z with z | z; exact h2 z; exact absurd z (by decide)), if_neg (fun z => by rcases z with z | z; exact h2 z; simp [h] at z)]
theorem lbV_o {old : Int} (h : old = 0 ∨ old = 1) (c : PK) : lbV true old c = old := by
  unfold lbV
  rcases h with rfl | rfl
  · rw [if_neg (fun z => by rcases z with z | z; exact absurd z (by decide); exact absurd z.1 (by decide))]
  · rw [if_pos (Or.inl rfl)]
set_option maxHeartbeats 8000000 in
theorem rc_partL0 {sh : gS} (hx : gFix sh) {B : Int → Int} {len nt : Int} (hk : pOK (tT B len) nt) (hnt : nt ≤ 400) {D : Nat} (hD : 9 ≤ D) : RcL B len false sh f_Reader_part D [(2, 151), (0, 8)] (pPartW (tT B len) (tW B len) false none) := by
  intro g p n Lc K hf h3 hcS hlb2
  obtain ⟨hB, hP, h8, h1, hpn, hLc⟩ := hcS
  have hkd := kd_of B len p hpn.1 hB.2.2.2 hB.1
  obtain ⟨h5, h6, h4, hv2, hv3, hvb⟩ := id hP
  have hpk := hk p
  have hBb := hB.2.2.2
  refine gTri.of (by decide +kernel) rfl ?_
  show gWP f_Reader_part _ _ _ 0 [(2, 151), (0, 8), (9, 0)] [] sh g _
  refine gw_aload_n (gc k_Reader_part_0 0 rfl) rfl rfl ?_
  refine gw_bipush (gc k_Reader_part_0 1 rfl) (by decide) ?_
  refine gw_cV1 (gc k_Reader_part_0 2 rfl) y_Reader_isSign ln_Reader_110 (c_Reader_isSign hx hf hB p hpn.1 hP 91 (by omega)) rfl rfl (gAt hx rfl rfl) rfl (gble (by omega)) ?_
  rw [show (100 : Int) + 91 = 191 from rfl]
  refine gw_beq (tgt := 46) (gc k_Reader_part_0 3 rfl) rfl (fun c6 => ?_) (fun c6 => ?_)
  · refine gw_aload_n (gc k_Reader_part_0 25 rfl) rfl rfl ?_
    refine gw_getf 8 rfl (gc k_Reader_part_0 26 rfl) fl_Reader_43 (gAt hx rfl rfl) ?_
    rw [h8]
    refine gw_bipush (gc k_Reader_part_0 27 rfl) (by decide) ?_
    refine gw_icmp_lt (tgt := 57) (gc k_Reader_part_0 28 rfl) rfl (by omega) (fun c52 => ?_) (fun c52 => ?_)
    · refine gw_aload_n (gc k_Reader_part_0 31 rfl) rfl rfl ?_
      refine gw_dup (gc k_Reader_part_0 32 rfl) rfl ?_
      refine gw_getf 8 rfl (gc k_Reader_part_0 33 rfl) fl_Reader_43 (gAt hx rfl rfl) ?_
      rw [h8]
      refine gw_iconst (gc k_Reader_part_0 34 rfl) ?_
      refine gw_iadd (gc k_Reader_part_0 35 rfl) ?_
      refine gw_putIK 8 rfl (gc k_Reader_part_0 36 rfl) fl_Reader_43 (gAt hx rfl rfl) hf rfl (fun hf => ?_)
      have hf1 : gFin (gup g 151 8 (n + 1)) := hf
      have hB1 : rcB B len (gup g 151 8 (n + 1)) := hB.cl (clF.u8 g _)
      have hP1 : rcP B len p (gup g 151 8 (n + 1)) := hP.of (fun k a b => gup_k _ _ _ _ (by omega))
      have h11 : (gup g 151 8 (n + 1)) 152 1 = Lc := by rw [gup_fn _ _ _ _ (by decide)]; exact h1
      have hg7 : (gup g 151 8 (n + 1)) 151 7 = g 151 7 := gup_k _ _ _ _ (by decide)
      have hg4 : (gup g 151 8 (n + 1)) 151 4 = tKd B len (tP B len p.toNat) := (gup_k _ _ _ _ (by decide)).trans h4
      have hVn := tW_bd B len p
      refine gw_aload_n (gc k_Reader_part_0 37 rfl) rfl rfl ?_
      refine gw_getf 4 rfl (gc k_Reader_part_0 38 rfl) fl_Reader_75 (gAt hx rfl rfl) ?_
      rw [hg4]
      refine gw_iconst (gc k_Reader_part_0 39 rfl) ?_
      refine gw_icmp_ne (tgt := 103) (gc k_Reader_part_1 0 rfl) rfl (by omega) (fun c72 => ?_) (fun c72 => ?_)
      · have hkt : ¬ tKd B len (tP B len p.toNat) = 2 := by omega
        have h50 : ¬ tT B len p = 50 := by rcases hkd with ⟨q, q2, -⟩ | ⟨q, q2, q3, q4⟩ | ⟨q, -⟩ | ⟨q, q2, q3, q4⟩ <;> omega
        refine gw_aload_n (gc k_Reader_part_1 17 rfl) rfl rfl ?_
        refine gw_getf 3 rfl (gc k_Reader_part_1 18 rfl) fl_Reader_36 (gAt hx rfl rfl) ?_
        rw [gup_k _ _ _ _ (by decide), h3]
        refine gw_if_eq (tgt := 117) (gc k_Reader_part_1 19 rfl) rfl (by omega) (fun c107 => ?_) (fun c107 => ?_)
        · exact absurd c107 (by decide)
        · refine gw_aload_n (gc k_Reader_part_1 20 rfl) rfl rfl ?_
          refine gw_cV1 (gc k_Reader_part_1 21 rfl) y_Reader_lawWord ln_Reader_175 (c_Reader_lawWord hx hf hB1 p hpn.1 hP1) rfl rfl (gAt hx rfl rfl) rfl (gble (by omega)) ?_
          refine gw_goto (tgt := 121) (gc k_Reader_part_1 22 rfl) rfl ?_
          refine gw_istore_2 (gc k_Reader_part_1 25 rfl) rfl rfl ?_
          have hTb := tT_bd2 B len p
          have hlw := lwI_bd (tT B len p)
          refine gw_iload_n (gc k_Reader_part_1 26 rfl) rfl ?_
          refine gw_iconst (gc k_Reader_part_1 27 rfl) ?_
          refine gw_icmp_ne (tgt := 129) (gc k_Reader_part_1 28 rfl) rfl (by omega) (fun c124 => ?_) (fun c124 => ?_)
          · have hw : 8 ≤ tT B len p ∧ tT B len p ≤ 17 := Decidable.byContradiction fun q => c124 (if_neg q)
            rw [if_pos hw]
            have hpk1 := hpk (by omega)
            have hf := hf1
            refine gw_aload_n (gc k_Reader_part_1 31 rfl) rfl rfl ?_
            refine gw_xV1 (gc k_Reader_part_1 32 rfl) y_Reader_advance ln_Reader_56 (c_advP hx hf1 hB1 p hpn.1 hP1) rfl rfl (gAt hx rfl rfl) rfl (gble (by omega)) (fun r130 sh2 g130 hq130 => ?_)
            obtain ⟨rfl, rfl, hF5, hP5⟩ := hq130
            have hf5 := hF5.fin hf1
            have hf := hf5
            have hB5 := hB1.f hF5
            refine gw_aload_n (gc k_Reader_part_1 33 rfl) rfl rfl ?_
            refine gw_getf 3 rfl (gc k_Reader_part_1 34 rfl) fl_Reader_36 (gAt hx rfl rfl) ?_
            rw [hF5 _ _ (by omega), gup_k _ _ _ _ (by decide), h3]
            refine gw_if_eq (tgt := 170) (gc k_Reader_part_1 35 rfl) rfl (by omega) (fun c137 => ?_) (fun c137 => ?_)
            · exact absurd c137 (by decide)
            · refine gw_aload_n (gc k_Reader_part_1 36 rfl) rfl rfl ?_
              refine gw_getref (gc k_Reader_part_1 37 rfl) fl_Reader_12 (gAt hx rfl rfl) (gRf hf rfl rfl) ?_
              refine gw_dup (gc k_Reader_part_1 38 rfl) rfl ?_
              refine gw_getf 2 rfl (gc k_Reader_part_1 39 rfl) fl_Reader_50 (gAt hx rfl rfl) ?_
              refine gw_join0 163 (fun v => v = bi (lwI (tT B len p) = 4 ∨ lwI (tT B len p) = 5)) (fun v148 hv148 => ?_) (fun kj148 => ?_)
              · subst hv148
                have h52 : g130 152 2 = g 152 2 := (hF5 152 2 (by omega)).trans (gup_a _ _ _ _ _ (by decide))
                rw [h52]
                refine gw_ior (gc k_Reader_part_2 9 rfl) ?_
                rw [gor_01 hlb2 (bi_01 _)]
                refine gw_putZK 2 rfl (gc k_Reader_part_2 10 rfl) fl_Reader_50 (gAt hx rfl rfl) (by omega) hf rfl (fun hf => ?_)
                refine gw_goto (tgt := 205) (gc k_Reader_part_2 11 rfl) rfl ?_
                have h51 : gup g130 152 2 (if g 152 2 = 1 ∨ bi (lwI (tT B len p) = 4 ∨ lwI (tT B len p) = 5) = 1 then 1 else 0) 152 1 = Lc := by rw [gup_k _ _ _ _ (by decide), hF5 _ _ (by omega)]; exact h11
                refine gw_aload_n (gc k_Reader_part_2 32 rfl) rfl rfl ?_
                refine gw_iconst (gc k_Reader_part_2 33 rfl) ?_
                refine gw_iload_n (gc k_Reader_part_2 34 rfl) rfl ?_
                refine gw_cV1 (gc k_Reader_part_2 35 rfl) y_Reader_step ln_Reader_156 (c_Reader_step hx hf 1 _ (by rw [h51]; omega)) rfl rfl (gAt hx rfl rfl) rfl (gble (by omega)) ?_
                refine gw_pop (gc k_Reader_part_2 36 rfl) rfl ?_
                refine gw_iconst (gc k_Reader_part_2 37 rfl) ?_
                refine gw_zreturn (gc k_Reader_part_2 38 rfl) rfl (by omega) ?_
                exact ⟨rfl, leaf_end (pP_law (by omega) (by omega) (fun q => h50 q.1) ⟨rfl, hw⟩) (Or.inr rfl) (((clF.u8 g _).tr hF5.cl).tr (clF.u2 _ _)) h51 ⟨by rw [gup_fn _ _ _ _ (by decide), show g130 156 = g 156 from funext fun k => (hF5 _ _ (by omega)).trans (gup_a _ _ _ _ _ (by decide))], by rw [gup_fn _ _ _ _ (by decide), show g130 157 = g 157 from funext fun k => (hF5 _ _ (by omega)).trans (gup_a _ _ _ _ _ (by decide))]⟩ (by rw [gup_a _ _ _ _ _ (by decide), hF5 _ _ (by omega), gup_s]) (rcF.rf _) (hB5.cl (clF.u2 _ _)) (hP5.of (fun k a b => (congrFun (stM_151 _ _ _) k).trans (gup_a _ _ _ _ _ (by decide)))) (by omega) (by rw [gup_s]; exact lbV_w _ _)⟩
              · refine gw_iload_n (gc k_Reader_part_2 0 rfl) rfl ?_
                refine gw_iconst (gc k_Reader_part_2 1 rfl) ?_
                refine gw_icmp_eq (tgt := 158) (gc k_Reader_part_2 2 rfl) rfl (by omega) (fun c150 => ?_) (fun c150 => ?_)
                · refine gw_iconst (gc k_Reader_part_2 6 rfl) ?_
                  refine gw_goto (tgt := 163) (gc k_Reader_part_2 7 rfl) rfl ?_
                  exact kj148 _ (by first | exact (bi_1 (by omega)).symm | exact (bi_0 (by omega)).symm)
                · refine gw_iload_n (gc k_Reader_part_2 3 rfl) rfl ?_
                  refine gw_iconst (gc k_Reader_part_2 4 rfl) ?_
                  refine gw_icmp_ne (tgt := 162) (gc k_Reader_part_2 5 rfl) rfl (by omega) (fun c155 => ?_) (fun c155 => ?_)
                  · refine gw_iconst (gc k_Reader_part_2 8 rfl) ?_
                    exact kj148 _ (by first | exact (bi_1 (by omega)).symm | exact (bi_0 (by omega)).symm)
                  · refine gw_iconst (gc k_Reader_part_2 6 rfl) ?_
                    refine gw_goto (tgt := 163) (gc k_Reader_part_2 7 rfl) rfl ?_
                    exact kj148 _ (by first | exact (bi_1 (by omega)).symm | exact (bi_0 (by omega)).symm)
          · refine gw_iconst (gc k_Reader_part_1 29 rfl) ?_
            refine gw_zreturn (gc k_Reader_part_1 30 rfl) rfl (by omega) ?_
            exact ⟨rfl, clF.u8 g _, Or.inl ⟨p, pP_no (by omega) (fun q => h50 q.1) (fun q => by rw [if_neg (by decide), if_neg (by decide)] at q; rw [if_pos q] at c124; omega), rfl, hP1, hpn.1⟩⟩
      · have hkt : tKd B len (tP B len p.toNat) = 2 := by omega
        have h50 : tT B len p = 50 ∧ tP B len p.toNat < len := by rcases hkd with ⟨q, -⟩ | ⟨q, -⟩ | ⟨q, q2, q3⟩ | ⟨q, -⟩ <;> omega
        have hV9 := tW_at B len p hpn.1 h50.2
        have hml := mv1_le hVn.1
        have hv2 := hv2 hkt
        rw [← hV9] at hv2
        have hpk1 := hpk (by omega)
        refine gw_aload_n (gc k_Reader_part_1 1 rfl) rfl rfl ?_
        refine gw_getf 7 rfl (gc k_Reader_part_1 2 rfl) fl_Reader_82 (gAt hx rfl rfl) ?_
        rw [hg7, hv2]
        refine gw_sipush (gc k_Reader_part_1 3 rfl) (by decide) ?_
        refine gw_icmp_le (tgt := 87) (gc k_Reader_part_1 4 rfl) rfl (by omega) (fun c82 => ?_) (fun c82 => ?_)
        · refine gw_aload_n (gc k_Reader_part_1 7 rfl) rfl rfl ?_
          refine gw_iconst (gc k_Reader_part_1 8 rfl) ?_
          refine gw_aload_n (gc k_Reader_part_1 9 rfl) rfl rfl ?_
          refine gw_getf 7 rfl (gc k_Reader_part_1 10 rfl) fl_Reader_82 (gAt hx rfl rfl) ?_
          rw [hg7, hv2, hml.2.1 (by omega)]
          refine gw_cV1 (gc k_Reader_part_1 11 rfl) y_Reader_step ln_Reader_156 (c_Reader_step hx hf 0 _ (by rw [h11]; omega)) rfl rfl (gAt hx rfl rfl) rfl (gble (by omega)) ?_
          refine gw_pop (gc k_Reader_part_1 12 rfl) rfl ?_
          refine gw_aload_n (gc k_Reader_part_1 13 rfl) rfl rfl ?_
          refine gw_xV1 (gc k_Reader_part_1 14 rfl) y_Reader_advance ln_Reader_56 (c_advP hx (hf1.stp 0 (tW B len p)) (hB1.cl (clF.st _ _ _)) p hpn.1 (hP1.of (fun k a b => congrFun (stM_151 _ _ _) k))) rfl rfl (gAt hx rfl rfl) rfl (gble (by omega)) (fun r98 sh2 g98 hq98 => ?_)
          obtain ⟨rfl, rfl, hF4, hP4⟩ := hq98
          refine gw_iconst (gc k_Reader_part_1 15 rfl) ?_
          refine gw_zreturn (gc k_Reader_part_1 16 rfl) rfl (by omega) ?_
          exact ⟨rfl, leaf_end (pP_num (by omega) (by omega) ⟨h50.1, by omega⟩) (Or.inl rfl) (clF.u8 g _) h11 ⟨gup_fn _ _ _ _ (by decide), gup_fn _ _ _ _ (by decide)⟩ (gup_s _ _ _ _) hF4 hB1 hP4 (by omega) (by rw [gup_fn _ _ _ _ (by decide)]; exact (lbV_no _ hlb2 rfl).symm)⟩
        · refine gw_iconst (gc k_Reader_part_1 5 rfl) ?_
          refine gw_zreturn (gc k_Reader_part_1 6 rfl) rfl (by omega) ?_
          exact ⟨rfl, clF.u8 g _, Or.inl ⟨p, pP_no (by omega) (fun q => by omega) (fun q => by first | (rw [if_neg (by decide), if_neg (by decide)] at q; omega) | (rw [if_pos rfl, if_pos rfl] at q; omega)), rfl, hP1, hpn.1⟩⟩
    · refine gw_iconst (gc k_Reader_part_0 29 rfl) ?_
      refine gw_zreturn (gc k_Reader_part_0 30 rfl) rfl (by omega) ?_
      exact ⟨rfl, clF.rf g, Or.inl ⟨p, pP_full (by omega) (by omega), rfl, hP, hpn.1⟩⟩
  · refine gw_iload_n (gc k_Reader_part_0 4 rfl) rfl ?_
    refine gw_bipush (gc k_Reader_part_0 5 rfl) (by decide) ?_
    refine gw_icmp_lt (tgt := 17) (gc k_Reader_part_0 6 rfl) rfl (by omega) (fun c12 => ?_) (fun c12 => ?_)
    · exact absurd c12 (by decide)
    · refine gw_iconst (gc k_Reader_part_0 7 rfl) ?_
      refine gw_zreturn (gc k_Reader_part_0 8 rfl) rfl (by omega) ?_
      exact ⟨rfl, clF.rf g, Or.inl ⟨p, pP_b0 (by omega), rfl, hP, hpn.1⟩⟩
set_option maxHeartbeats 8000000 in
theorem rc_partL1 {sh : gS} (hx : gFix sh) {B : Int → Int} {len nt : Int} (hk : pOK (tT B len) nt) (hnt : nt ≤ 400) {D : Nat} (hD : 9 ≤ D) {dp : Int} (hdp : 0 ≤ dp ∧ dp < 8) {f : Int → Int → PR} {D2 : Nat} (hD2 : D2 + 1 ≤ D) (hS : RcL B len false sh f_Reader_sum D2 [(2, 151), (0, dp + 1)] f) : RcL B len false sh f_Reader_part D [(2, 151), (0, dp)] (pPartW (tT B len) (tW B len) false (some f)) := by
  intro g p n Lc K hf h3 hcS hlb2
  obtain ⟨hB, hP, h8, h1, hpn, hLc⟩ := hcS
  have hkd := kd_of B len p hpn.1 hB.2.2.2 hB.1
  obtain ⟨h5, h6, h4, hv2, hv3, hvb⟩ := id hP
  have hpk := hk p
  have hBb := hB.2.2.2
  refine gTri.of (by decide +kernel) rfl ?_
  show gWP f_Reader_part _ _ _ 0 [(2, 151), (0, dp), (9, 0)] [] sh g _
  refine gw_aload_n (gc k_Reader_part_0 0 rfl) rfl rfl ?_
  refine gw_bipush (gc k_Reader_part_0 1 rfl) (by decide) ?_
  refine gw_cV1 (gc k_Reader_part_0 2 rfl) y_Reader_isSign ln_Reader_110 (c_Reader_isSign hx hf hB p hpn.1 hP 91 (by omega)) rfl rfl (gAt hx rfl rfl) rfl (gble (by omega)) ?_
  rw [show (100 : Int) + 91 = 191 from rfl]
  refine gw_beq (tgt := 46) (gc k_Reader_part_0 3 rfl) rfl (fun c6 => ?_) (fun c6 => ?_)
  · refine gw_aload_n (gc k_Reader_part_0 25 rfl) rfl rfl ?_
    refine gw_getf 8 rfl (gc k_Reader_part_0 26 rfl) fl_Reader_43 (gAt hx rfl rfl) ?_
    rw [h8]
    refine gw_bipush (gc k_Reader_part_0 27 rfl) (by decide) ?_
    refine gw_icmp_lt (tgt := 57) (gc k_Reader_part_0 28 rfl) rfl (by omega) (fun c52 => ?_) (fun c52 => ?_)
    · refine gw_aload_n (gc k_Reader_part_0 31 rfl) rfl rfl ?_
      refine gw_dup (gc k_Reader_part_0 32 rfl) rfl ?_
      refine gw_getf 8 rfl (gc k_Reader_part_0 33 rfl) fl_Reader_43 (gAt hx rfl rfl) ?_
      rw [h8]
      refine gw_iconst (gc k_Reader_part_0 34 rfl) ?_
      refine gw_iadd (gc k_Reader_part_0 35 rfl) ?_
      refine gw_putIK 8 rfl (gc k_Reader_part_0 36 rfl) fl_Reader_43 (gAt hx rfl rfl) hf rfl (fun hf => ?_)
      have hf1 : gFin (gup g 151 8 (n + 1)) := hf
      have hB1 : rcB B len (gup g 151 8 (n + 1)) := hB.cl (clF.u8 g _)
      have hP1 : rcP B len p (gup g 151 8 (n + 1)) := hP.of (fun k a b => gup_k _ _ _ _ (by omega))
      have h11 : (gup g 151 8 (n + 1)) 152 1 = Lc := by rw [gup_fn _ _ _ _ (by decide)]; exact h1
      have hg7 : (gup g 151 8 (n + 1)) 151 7 = g 151 7 := gup_k _ _ _ _ (by decide)
      have hg4 : (gup g 151 8 (n + 1)) 151 4 = tKd B len (tP B len p.toNat) := (gup_k _ _ _ _ (by decide)).trans h4
      have hVn := tW_bd B len p
      refine gw_aload_n (gc k_Reader_part_0 37 rfl) rfl rfl ?_
      refine gw_getf 4 rfl (gc k_Reader_part_0 38 rfl) fl_Reader_75 (gAt hx rfl rfl) ?_
      rw [hg4]
      refine gw_iconst (gc k_Reader_part_0 39 rfl) ?_
      refine gw_icmp_ne (tgt := 103) (gc k_Reader_part_1 0 rfl) rfl (by omega) (fun c72 => ?_) (fun c72 => ?_)
      · have hkt : ¬ tKd B len (tP B len p.toNat) = 2 := by omega
        have h50 : ¬ tT B len p = 50 := by rcases hkd with ⟨q, q2, -⟩ | ⟨q, q2, q3, q4⟩ | ⟨q, -⟩ | ⟨q, q2, q3, q4⟩ <;> omega
        refine gw_aload_n (gc k_Reader_part_1 17 rfl) rfl rfl ?_
        refine gw_getf 3 rfl (gc k_Reader_part_1 18 rfl) fl_Reader_36 (gAt hx rfl rfl) ?_
        rw [gup_k _ _ _ _ (by decide), h3]
        refine gw_if_eq (tgt := 117) (gc k_Reader_part_1 19 rfl) rfl (by omega) (fun c107 => ?_) (fun c107 => ?_)
        · exact absurd c107 (by decide)
        · refine gw_aload_n (gc k_Reader_part_1 20 rfl) rfl rfl ?_
          refine gw_cV1 (gc k_Reader_part_1 21 rfl) y_Reader_lawWord ln_Reader_175 (c_Reader_lawWord hx hf hB1 p hpn.1 hP1) rfl rfl (gAt hx rfl rfl) rfl (gble (by omega)) ?_
          refine gw_goto (tgt := 121) (gc k_Reader_part_1 22 rfl) rfl ?_
          refine gw_istore_2 (gc k_Reader_part_1 25 rfl) rfl rfl ?_
          have hTb := tT_bd2 B len p
          have hlw := lwI_bd (tT B len p)
          refine gw_iload_n (gc k_Reader_part_1 26 rfl) rfl ?_
          refine gw_iconst (gc k_Reader_part_1 27 rfl) ?_
          refine gw_icmp_ne (tgt := 129) (gc k_Reader_part_1 28 rfl) rfl (by omega) (fun c124 => ?_) (fun c124 => ?_)
          · have hw : 8 ≤ tT B len p ∧ tT B len p ≤ 17 := Decidable.byContradiction fun q => c124 (if_neg q)
            rw [if_pos hw]
            have hpk1 := hpk (by omega)
            have hf := hf1
            refine gw_aload_n (gc k_Reader_part_1 31 rfl) rfl rfl ?_
            refine gw_xV1 (gc k_Reader_part_1 32 rfl) y_Reader_advance ln_Reader_56 (c_advP hx hf1 hB1 p hpn.1 hP1) rfl rfl (gAt hx rfl rfl) rfl (gble (by omega)) (fun r130 sh2 g130 hq130 => ?_)
            obtain ⟨rfl, rfl, hF5, hP5⟩ := hq130
            have hf5 := hF5.fin hf1
            have hf := hf5
            have hB5 := hB1.f hF5
            refine gw_aload_n (gc k_Reader_part_1 33 rfl) rfl rfl ?_
            refine gw_getf 3 rfl (gc k_Reader_part_1 34 rfl) fl_Reader_36 (gAt hx rfl rfl) ?_
            rw [hF5 _ _ (by omega), gup_k _ _ _ _ (by decide), h3]
            refine gw_if_eq (tgt := 170) (gc k_Reader_part_1 35 rfl) rfl (by omega) (fun c137 => ?_) (fun c137 => ?_)
            · exact absurd c137 (by decide)
            · refine gw_aload_n (gc k_Reader_part_1 36 rfl) rfl rfl ?_
              refine gw_getref (gc k_Reader_part_1 37 rfl) fl_Reader_12 (gAt hx rfl rfl) (gRf hf rfl rfl) ?_
              refine gw_dup (gc k_Reader_part_1 38 rfl) rfl ?_
              refine gw_getf 2 rfl (gc k_Reader_part_1 39 rfl) fl_Reader_50 (gAt hx rfl rfl) ?_
              refine gw_join0 163 (fun v => v = bi (lwI (tT B len p) = 4 ∨ lwI (tT B len p) = 5)) (fun v148 hv148 => ?_) (fun kj148 => ?_)
              · subst hv148
                have h52 : g130 152 2 = g 152 2 := (hF5 152 2 (by omega)).trans (gup_a _ _ _ _ _ (by decide))
                rw [h52]
                refine gw_ior (gc k_Reader_part_2 9 rfl) ?_
                rw [gor_01 hlb2 (bi_01 _)]
                refine gw_putZK 2 rfl (gc k_Reader_part_2 10 rfl) fl_Reader_50 (gAt hx rfl rfl) (by omega) hf rfl (fun hf => ?_)
                refine gw_goto (tgt := 205) (gc k_Reader_part_2 11 rfl) rfl ?_
                have h51 : gup g130 152 2 (if g 152 2 = 1 ∨ bi (lwI (tT B len p) = 4 ∨ lwI (tT B len p) = 5) = 1 then 1 else 0) 152 1 = Lc := by rw [gup_k _ _ _ _ (by decide), hF5 _ _ (by omega)]; exact h11
                refine gw_aload_n (gc k_Reader_part_2 32 rfl) rfl rfl ?_
                refine gw_iconst (gc k_Reader_part_2 33 rfl) ?_
                refine gw_iload_n (gc k_Reader_part_2 34 rfl) rfl ?_
                refine gw_cV1 (gc k_Reader_part_2 35 rfl) y_Reader_step ln_Reader_156 (c_Reader_step hx hf 1 _ (by rw [h51]; omega)) rfl rfl (gAt hx rfl rfl) rfl (gble (by omega)) ?_
                refine gw_pop (gc k_Reader_part_2 36 rfl) rfl ?_
                refine gw_iconst (gc k_Reader_part_2 37 rfl) ?_
                refine gw_zreturn (gc k_Reader_part_2 38 rfl) rfl (by omega) ?_
                exact ⟨rfl, leaf_end (pP_law (by omega) (by omega) (fun q => h50 q.1) ⟨rfl, hw⟩) (Or.inr rfl) (((clF.u8 g _).tr hF5.cl).tr (clF.u2 _ _)) h51 ⟨by rw [gup_fn _ _ _ _ (by decide), show g130 156 = g 156 from funext fun k => (hF5 _ _ (by omega)).trans (gup_a _ _ _ _ _ (by decide))], by rw [gup_fn _ _ _ _ (by decide), show g130 157 = g 157 from funext fun k => (hF5 _ _ (by omega)).trans (gup_a _ _ _ _ _ (by decide))]⟩ (by rw [gup_a _ _ _ _ _ (by decide), hF5 _ _ (by omega), gup_s]) (rcF.rf _) (hB5.cl (clF.u2 _ _)) (hP5.of (fun k a b => (congrFun (stM_151 _ _ _) k).trans (gup_a _ _ _ _ _ (by decide)))) (by omega) (by rw [gup_s]; exact lbV_w _ _)⟩
              · refine gw_iload_n (gc k_Reader_part_2 0 rfl) rfl ?_
                refine gw_iconst (gc k_Reader_part_2 1 rfl) ?_
                refine gw_icmp_eq (tgt := 158) (gc k_Reader_part_2 2 rfl) rfl (by omega) (fun c150 => ?_) (fun c150 => ?_)
                · refine gw_iconst (gc k_Reader_part_2 6 rfl) ?_
                  refine gw_goto (tgt := 163) (gc k_Reader_part_2 7 rfl) rfl ?_
                  exact kj148 _ (by first | exact (bi_1 (by omega)).symm | exact (bi_0 (by omega)).symm)
                · refine gw_iload_n (gc k_Reader_part_2 3 rfl) rfl ?_
                  refine gw_iconst (gc k_Reader_part_2 4 rfl) ?_
                  refine gw_icmp_ne (tgt := 162) (gc k_Reader_part_2 5 rfl) rfl (by omega) (fun c155 => ?_) (fun c155 => ?_)
                  · refine gw_iconst (gc k_Reader_part_2 8 rfl) ?_
                    exact kj148 _ (by first | exact (bi_1 (by omega)).symm | exact (bi_0 (by omega)).symm)
                  · refine gw_iconst (gc k_Reader_part_2 6 rfl) ?_
                    refine gw_goto (tgt := 163) (gc k_Reader_part_2 7 rfl) rfl ?_
                    exact kj148 _ (by first | exact (bi_1 (by omega)).symm | exact (bi_0 (by omega)).symm)
          · refine gw_iconst (gc k_Reader_part_1 29 rfl) ?_
            refine gw_zreturn (gc k_Reader_part_1 30 rfl) rfl (by omega) ?_
            exact ⟨rfl, clF.u8 g _, Or.inl ⟨p, pP_no (by omega) (fun q => h50 q.1) (fun q => by rw [if_neg (by decide), if_neg (by decide)] at q; rw [if_pos q] at c124; omega), rfl, hP1, hpn.1⟩⟩
      · have hkt : tKd B len (tP B len p.toNat) = 2 := by omega
        have h50 : tT B len p = 50 ∧ tP B len p.toNat < len := by rcases hkd with ⟨q, -⟩ | ⟨q, -⟩ | ⟨q, q2, q3⟩ | ⟨q, -⟩ <;> omega
        have hV9 := tW_at B len p hpn.1 h50.2
        have hml := mv1_le hVn.1
        have hv2 := hv2 hkt
        rw [← hV9] at hv2
        have hpk1 := hpk (by omega)
        refine gw_aload_n (gc k_Reader_part_1 1 rfl) rfl rfl ?_
        refine gw_getf 7 rfl (gc k_Reader_part_1 2 rfl) fl_Reader_82 (gAt hx rfl rfl) ?_
        rw [hg7, hv2]
        refine gw_sipush (gc k_Reader_part_1 3 rfl) (by decide) ?_
        refine gw_icmp_le (tgt := 87) (gc k_Reader_part_1 4 rfl) rfl (by omega) (fun c82 => ?_) (fun c82 => ?_)
        · refine gw_aload_n (gc k_Reader_part_1 7 rfl) rfl rfl ?_
          refine gw_iconst (gc k_Reader_part_1 8 rfl) ?_
          refine gw_aload_n (gc k_Reader_part_1 9 rfl) rfl rfl ?_
          refine gw_getf 7 rfl (gc k_Reader_part_1 10 rfl) fl_Reader_82 (gAt hx rfl rfl) ?_
          rw [hg7, hv2, hml.2.1 (by omega)]
          refine gw_cV1 (gc k_Reader_part_1 11 rfl) y_Reader_step ln_Reader_156 (c_Reader_step hx hf 0 _ (by rw [h11]; omega)) rfl rfl (gAt hx rfl rfl) rfl (gble (by omega)) ?_
          refine gw_pop (gc k_Reader_part_1 12 rfl) rfl ?_
          refine gw_aload_n (gc k_Reader_part_1 13 rfl) rfl rfl ?_
          refine gw_xV1 (gc k_Reader_part_1 14 rfl) y_Reader_advance ln_Reader_56 (c_advP hx (hf1.stp 0 (tW B len p)) (hB1.cl (clF.st _ _ _)) p hpn.1 (hP1.of (fun k a b => congrFun (stM_151 _ _ _) k))) rfl rfl (gAt hx rfl rfl) rfl (gble (by omega)) (fun r98 sh2 g98 hq98 => ?_)
          obtain ⟨rfl, rfl, hF4, hP4⟩ := hq98
          refine gw_iconst (gc k_Reader_part_1 15 rfl) ?_
          refine gw_zreturn (gc k_Reader_part_1 16 rfl) rfl (by omega) ?_
          exact ⟨rfl, leaf_end (pP_num (by omega) (by omega) ⟨h50.1, by omega⟩) (Or.inl rfl) (clF.u8 g _) h11 ⟨gup_fn _ _ _ _ (by decide), gup_fn _ _ _ _ (by decide)⟩ (gup_s _ _ _ _) hF4 hB1 hP4 (by omega) (by rw [gup_fn _ _ _ _ (by decide)]; exact (lbV_no _ hlb2 rfl).symm)⟩
        · refine gw_iconst (gc k_Reader_part_1 5 rfl) ?_
          refine gw_zreturn (gc k_Reader_part_1 6 rfl) rfl (by omega) ?_
          exact ⟨rfl, clF.u8 g _, Or.inl ⟨p, pP_no (by omega) (fun q => by omega) (fun q => by first | (rw [if_neg (by decide), if_neg (by decide)] at q; omega) | (rw [if_pos rfl, if_pos rfl] at q; omega)), rfl, hP1, hpn.1⟩⟩
    · refine gw_iconst (gc k_Reader_part_0 29 rfl) ?_
      refine gw_zreturn (gc k_Reader_part_0 30 rfl) rfl (by omega) ?_
      exact ⟨rfl, clF.rf g, Or.inl ⟨p, pP_full (by omega) (by omega), rfl, hP, hpn.1⟩⟩
  · refine gw_iload_n (gc k_Reader_part_0 4 rfl) rfl ?_
    refine gw_bipush (gc k_Reader_part_0 5 rfl) (by decide) ?_
    refine gw_icmp_lt (tgt := 17) (gc k_Reader_part_0 6 rfl) rfl (by omega) (fun c12 => ?_) (fun c12 => ?_)
    · refine gw_aload_n (gc k_Reader_part_0 9 rfl) rfl rfl ?_
      refine gw_xV1 (gc k_Reader_part_0 10 rfl) y_Reader_advance ln_Reader_56 (c_advP hx hf hB p hpn.1 hP) rfl rfl (gAt hx rfl rfl) rfl (gble (by omega)) (fun r18 sh2 g18 hq18 => ?_)
      obtain ⟨rfl, rfl, hF1, hP1⟩ := hq18
      have hf1 := hF1.fin hf
      have hB1 := hB.f hF1
      have hcS1 : cS B len K (p + 1) n Lc g18 := ⟨hB1, hP1, (hF1 _ _ (by omega)).trans h8, (hF1 _ _ (by omega)).trans h1, by omega, by omega⟩
      have hf := hf1
      refine gw_aload_n (gc k_Reader_part_0 11 rfl) rfl rfl ?_
      refine gw_iload_n (gc k_Reader_part_0 12 rfl) rfl ?_
      refine gw_iconst (gc k_Reader_part_0 13 rfl) ?_
      refine gw_iadd (gc k_Reader_part_0 14 rfl) ?_
      refine gw_xV1 (gc k_Reader_part_0 15 rfl) y_Reader_sum ln_Reader_125 (hS g18 (p + 1) n Lc K hf1 ((hF1 _ _ (by omega)).trans h3) hcS1 (by rw [hF1 _ _ (by omega)]; exact hlb2)) rfl rfl (gAt hx rfl rfl) rfl (gble (by omega)) (fun r25 sh2 g25 hq25 => ?_)
      obtain ⟨rfl, hQ⟩ := hq25
      obtain ⟨v, rfl, hv01, hcl, hQv⟩ := hQ.v
      have hf := hcl.fin hf1
      refine gw_if_eq (tgt := 44) (gc k_Reader_part_0 16 rfl) rfl (by omega) (fun c28 => ?_) (fun c28 => ?_)
      · refine gw_iconst (gc k_Reader_part_0 23 rfl) ?_
        refine gw_zreturn (gc k_Reader_part_0 24 rfl) rfl (by omega) ?_
        rcases hQv with ⟨-, e, hr, hPe, he0⟩ | ⟨q, -⟩
        · exact ⟨rfl, hF1.cl.tr hcl, Or.inl ⟨e, pP_be (by omega) hr, rfl, hPe, he0⟩⟩
        · exfalso; omega
      · obtain ⟨p2, n2, c, s, hr, hcS2, hcd, hpre, hlbv⟩ : ∃ p2 n2 c s, f (p + 1) n = .inr (p2, n2, c, s) ∧ cS B len K p2 n2 (Lc + c.length) g25 ∧ cdL (g25 156) (g25 157) Lc c ∧ (∀ j, j < Lc → g25 156 j = g18 156 j ∧ g25 157 j = g18 157 j) ∧ g25 152 2 = lbV false (g18 152 2) c := by
          rcases hQv with ⟨q, -⟩ | ⟨-, q⟩
          · omega
          · exact q
        refine gw_aload_n (gc k_Reader_part_0 17 rfl) rfl rfl ?_
        refine gw_bipush (gc k_Reader_part_0 18 rfl) (by decide) ?_
        refine gw_xV1 (gc k_Reader_part_0 19 rfl) y_Reader_takeSign ln_Reader_78 (c_Reader_takeSign hx hf hcS2.1 p2 hcS2.2.2.2.2.1.1 hcS2.2.1 93 (by omega)) rfl rfl (gAt hx rfl rfl) rfl (gble (by omega)) (fun r34 sh2 g34 hq34 => ?_)
        rw [show (100 : Int) + 93 = 193 from rfl] at hq34
        obtain ⟨rfl, rfl, hF3, hP3⟩ := hq34
        have hf := hF3.fin hf
        refine gw_beq (tgt := 44) (gc k_Reader_part_0 20 rfl) rfl (fun c37 => ?_) (fun c37 => ?_)
        · refine gw_iconst (gc k_Reader_part_0 23 rfl) ?_
          refine gw_zreturn (gc k_Reader_part_0 24 rfl) rfl (by omega) ?_
          rw [if_neg c37] at hP3
          exact ⟨rfl, (hF1.cl.tr hcl).tr hF3.cl, Or.inl ⟨p2, (pP_bi (by omega) hr).trans (if_neg c37), rfl, hP3, hcS2.2.2.2.2.1.1⟩⟩
        · refine gw_iconst (gc k_Reader_part_0 21 rfl) ?_
          refine gw_goto (tgt := 45) (gc k_Reader_part_0 22 rfl) rfl ?_
          refine gw_zreturn (gc k_Reader_part_0 24 rfl) rfl (by omega) ?_
          rw [if_pos c37] at hP3
          obtain ⟨b1, b2, b3, b4, b5, b6⟩ := hcS2
          refine ⟨rfl, (hF1.cl.tr hcl).tr hF3.cl, Or.inr ⟨p2 + 1, n2, c, s, (pP_bi (by omega) hr).trans (if_pos c37), rfl, ⟨b1.f hF3, hP3, (hF3 _ _ (by omega)).trans b3, (hF3 _ _ (by omega)).trans b4, by omega, by omega⟩, ?_, fun j hj => ?_, ?_⟩⟩
          · rw [show g34 156 = g25 156 from funext fun k => hF3 _ _ (by omega), show g34 157 = g25 157 from funext fun k => hF3 _ _ (by omega)]; exact hcd
          · rw [hF3 _ _ (by omega), hF3 _ _ (by omega), ← hF1 156 j (by omega), ← hF1 157 j (by omega)]; exact hpre j hj
          · rw [hF3 _ _ (by omega), hlbv, hF1 _ _ (by omega)]
    · exfalso; omega
set_option maxHeartbeats 8000000 in
theorem rc_partO0 {sh : gS} (hx : gFix sh) {B : Int → Int} {len nt : Int} (hk : pOK (tT B len) nt) (hnt : nt ≤ 400) {D : Nat} (hD : 9 ≤ D) : RcL B len true sh f_Reader_part D [(2, 151), (0, 8)] (pPartW (tT B len) (tW B len) true none) := by
  intro g p n Lc K hf h3 hcS hlb2
  obtain ⟨hB, hP, h8, h1, hpn, hLc⟩ := hcS
  have hkd := kd_of B len p hpn.1 hB.2.2.2 hB.1
  obtain ⟨h5, h6, h4, hv2, hv3, hvb⟩ := id hP
  have hpk := hk p
  have hBb := hB.2.2.2
  refine gTri.of (by decide +kernel) rfl ?_
  show gWP f_Reader_part _ _ _ 0 [(2, 151), (0, 8), (9, 0)] [] sh g _
  refine gw_aload_n (gc k_Reader_part_0 0 rfl) rfl rfl ?_
  refine gw_bipush (gc k_Reader_part_0 1 rfl) (by decide) ?_
  refine gw_cV1 (gc k_Reader_part_0 2 rfl) y_Reader_isSign ln_Reader_110 (c_Reader_isSign hx hf hB p hpn.1 hP 91 (by omega)) rfl rfl (gAt hx rfl rfl) rfl (gble (by omega)) ?_
  rw [show (100 : Int) + 91 = 191 from rfl]
  refine gw_beq (tgt := 46) (gc k_Reader_part_0 3 rfl) rfl (fun c6 => ?_) (fun c6 => ?_)
  · refine gw_aload_n (gc k_Reader_part_0 25 rfl) rfl rfl ?_
    refine gw_getf 8 rfl (gc k_Reader_part_0 26 rfl) fl_Reader_43 (gAt hx rfl rfl) ?_
    rw [h8]
    refine gw_bipush (gc k_Reader_part_0 27 rfl) (by decide) ?_
    refine gw_icmp_lt (tgt := 57) (gc k_Reader_part_0 28 rfl) rfl (by omega) (fun c52 => ?_) (fun c52 => ?_)
    · refine gw_aload_n (gc k_Reader_part_0 31 rfl) rfl rfl ?_
      refine gw_dup (gc k_Reader_part_0 32 rfl) rfl ?_
      refine gw_getf 8 rfl (gc k_Reader_part_0 33 rfl) fl_Reader_43 (gAt hx rfl rfl) ?_
      rw [h8]
      refine gw_iconst (gc k_Reader_part_0 34 rfl) ?_
      refine gw_iadd (gc k_Reader_part_0 35 rfl) ?_
      refine gw_putIK 8 rfl (gc k_Reader_part_0 36 rfl) fl_Reader_43 (gAt hx rfl rfl) hf rfl (fun hf => ?_)
      have hf1 : gFin (gup g 151 8 (n + 1)) := hf
      have hB1 : rcB B len (gup g 151 8 (n + 1)) := hB.cl (clF.u8 g _)
      have hP1 : rcP B len p (gup g 151 8 (n + 1)) := hP.of (fun k a b => gup_k _ _ _ _ (by omega))
      have h11 : (gup g 151 8 (n + 1)) 152 1 = Lc := by rw [gup_fn _ _ _ _ (by decide)]; exact h1
      have hg7 : (gup g 151 8 (n + 1)) 151 7 = g 151 7 := gup_k _ _ _ _ (by decide)
      have hg4 : (gup g 151 8 (n + 1)) 151 4 = tKd B len (tP B len p.toNat) := (gup_k _ _ _ _ (by decide)).trans h4
      have hVn := tW_bd B len p
      refine gw_aload_n (gc k_Reader_part_0 37 rfl) rfl rfl ?_
      refine gw_getf 4 rfl (gc k_Reader_part_0 38 rfl) fl_Reader_75 (gAt hx rfl rfl) ?_
      rw [hg4]
      refine gw_iconst (gc k_Reader_part_0 39 rfl) ?_
      refine gw_icmp_ne (tgt := 103) (gc k_Reader_part_1 0 rfl) rfl (by omega) (fun c72 => ?_) (fun c72 => ?_)
      · have hkt : ¬ tKd B len (tP B len p.toNat) = 2 := by omega
        have h50 : ¬ tT B len p = 50 := by rcases hkd with ⟨q, q2, -⟩ | ⟨q, q2, q3, q4⟩ | ⟨q, -⟩ | ⟨q, q2, q3, q4⟩ <;> omega
        refine gw_aload_n (gc k_Reader_part_1 17 rfl) rfl rfl ?_
        refine gw_getf 3 rfl (gc k_Reader_part_1 18 rfl) fl_Reader_36 (gAt hx rfl rfl) ?_
        rw [gup_k _ _ _ _ (by decide), h3, if_pos rfl]
        refine gw_if_eq (tgt := 117) (gc k_Reader_part_1 19 rfl) rfl (by omega) (fun c107 => ?_) (fun c107 => ?_)
        · refine gw_aload_n (gc k_Reader_part_1 23 rfl) rfl rfl ?_
          refine gw_cV1 (gc k_Reader_part_1 24 rfl) y_Reader_orderWord ln_Reader_178 (c_Reader_orderWord hx hf hB1 p hpn.1 hP1) rfl rfl (gAt hx rfl rfl) rfl (gble (by omega)) ?_
          refine gw_istore_2 (gc k_Reader_part_1 25 rfl) rfl rfl ?_
          have hlo := loW_bd (tT B len p)
          refine gw_iload_n (gc k_Reader_part_1 26 rfl) rfl ?_
          refine gw_iconst (gc k_Reader_part_1 27 rfl) ?_
          refine gw_icmp_ne (tgt := 129) (gc k_Reader_part_1 28 rfl) rfl (by omega) (fun c124 => ?_) (fun c124 => ?_)
          · have hw := loW_in c124
            have hpk1 := hpk (by omega)
            have hf := hf1
            refine gw_aload_n (gc k_Reader_part_1 31 rfl) rfl rfl ?_
            refine gw_xV1 (gc k_Reader_part_1 32 rfl) y_Reader_advance ln_Reader_56 (c_advP hx hf1 hB1 p hpn.1 hP1) rfl rfl (gAt hx rfl rfl) rfl (gble (by omega)) (fun r130 sh2 g130 hq130 => ?_)
            obtain ⟨rfl, rfl, hF5, hP5⟩ := hq130
            have hf5 := hF5.fin hf1
            have hf := hf5
            have hB5 := hB1.f hF5
            refine gw_aload_n (gc k_Reader_part_1 33 rfl) rfl rfl ?_
            refine gw_getf 3 rfl (gc k_Reader_part_1 34 rfl) fl_Reader_36 (gAt hx rfl rfl) ?_
            rw [hF5 _ _ (by omega), gup_k _ _ _ _ (by decide), h3, if_pos rfl]
            refine gw_if_eq (tgt := 170) (gc k_Reader_part_1 35 rfl) rfl (by omega) (fun c137 => ?_) (fun c137 => ?_)
            · refine gw_iload_n (gc k_Reader_part_2 12 rfl) rfl ?_
              refine gw_iconst (gc k_Reader_part_2 13 rfl) ?_
              refine gw_icmp_lt (tgt := 205) (gc k_Reader_part_2 14 rfl) rfl (by omega) (fun c172 => ?_) (fun c172 => ?_)
              · have h51 : g130 152 1 = Lc := (hF5 _ _ (by omega)).trans h11
                refine gw_aload_n (gc k_Reader_part_2 32 rfl) rfl rfl ?_
                refine gw_iconst (gc k_Reader_part_2 33 rfl) ?_
                refine gw_iload_n (gc k_Reader_part_2 34 rfl) rfl ?_
                refine gw_cV1 (gc k_Reader_part_2 35 rfl) y_Reader_step ln_Reader_156 (c_Reader_step hx hf 1 _ (by rw [h51]; omega)) rfl rfl (gAt hx rfl rfl) rfl (gble (by omega)) ?_
                refine gw_pop (gc k_Reader_part_2 36 rfl) rfl ?_
                refine gw_iconst (gc k_Reader_part_2 37 rfl) ?_
                refine gw_zreturn (gc k_Reader_part_2 38 rfl) rfl (by omega) ?_
                have hw4 := loW_4 (by omega : 0 ≤ loW (tT B len p)) (by omega)
                have hr := pP_ord (V := tW B len) (o := true) (sub := none) (n := n) (by omega : ¬ tT B len p = 191) (by omega) (fun q => h50 q.1) ⟨rfl, hw4.1⟩
                rw [← hw4.2] at hr
                exact ⟨rfl, leaf_end hr (Or.inr rfl) ((clF.u8 g _).tr hF5.cl) h51 ⟨funext fun k => (hF5 _ _ (by omega)).trans (gup_a _ _ _ _ _ (by decide)), funext fun k => (hF5 _ _ (by omega)).trans (gup_a _ _ _ _ _ (by decide))⟩ (by rw [hF5 _ _ (by omega), gup_s]) (rcF.rf _) hB5 (hP5.of (fun k a b => congrFun (stM_151 _ _ _) k)) (by omega) (by rw [hF5 _ _ (by omega), gup_fn _ _ _ _ (by decide)]; exact (lbV_o hlb2 _).symm)⟩
              · obtain ⟨k5, k6, k4, kv2, kv3, kvb⟩ := id hP5
                have hkd5 := kd_of B len (p + 1) (by omega) hB.2.2.2 hB.1
                have hVn5 := tW_bd B len (p + 1)
                have hml5 := mv1_le hVn5.1
                have hw15 := loW_15 (by omega : 5 ≤ loW (tT B len p))
                refine gw_aload_n (gc k_Reader_part_2 15 rfl) rfl rfl ?_
                refine gw_getf 4 rfl (gc k_Reader_part_2 16 rfl) fl_Reader_75 (gAt hx rfl rfl) ?_
                rw [k4]
                refine gw_iconst (gc k_Reader_part_2 17 rfl) ?_
                refine gw_icmp_ne (tgt := 192) (gc k_Reader_part_2 18 rfl) rfl (by omega) (fun c180 => ?_) (fun c180 => ?_)
                · refine gw_iconst (gc k_Reader_part_2 23 rfl) ?_
                  refine gw_zreturn (gc k_Reader_part_2 24 rfl) rfl (by omega) ?_
                  exact ⟨rfl, (clF.u8 g _).tr hF5.cl, Or.inl ⟨p + 1, (pP_on (by omega) (by omega) (fun q => h50 q.1) rfl hw15).trans (if_neg (fun q => by first | omega | (rcases hkd5 with ⟨q1, q2, -⟩ | ⟨q1, q2, q3, q4⟩ | ⟨q1, -⟩ | ⟨q1, q2, q3, q4⟩ <;> omega))), rfl, hP5, by omega⟩⟩
                · have h550 : tT B len (p + 1) = 50 ∧ tP B len (p + 1).toNat < len := by rcases hkd5 with ⟨q, -⟩ | ⟨q, -⟩ | ⟨q, q2, q3⟩ | ⟨q, -⟩ <;> omega
                  have hV95 := tW_at B len (p + 1) (by omega) h550.2
                  have kv2 := kv2 (by omega)
                  rw [← hV95] at kv2
                  have hpk2 := hk (p + 1) (by omega)
                  refine gw_aload_n (gc k_Reader_part_2 19 rfl) rfl rfl ?_
                  refine gw_getf 7 rfl (gc k_Reader_part_2 20 rfl) fl_Reader_82 (gAt hx rfl rfl) ?_
                  rw [kv2]
                  refine gw_bipush (gc k_Reader_part_2 21 rfl) (by decide) ?_
                  refine gw_icmp_lt (tgt := 194) (gc k_Reader_part_2 22 rfl) rfl (by omega) (fun c189 => ?_) (fun c189 => ?_)
                  · refine gw_iload_n (gc k_Reader_part_2 25 rfl) rfl ?_
                    refine gw_aload_n (gc k_Reader_part_2 26 rfl) rfl rfl ?_
                    refine gw_getf 7 rfl (gc k_Reader_part_2 27 rfl) fl_Reader_82 (gAt hx rfl rfl) ?_
                    rw [kv2, hml5.2.1 (by omega)]
                    refine gw_iadd (gc k_Reader_part_2 28 rfl) ?_
                    refine gw_istore_2 (gc k_Reader_part_2 29 rfl) rfl rfl ?_
                    refine gw_aload_n (gc k_Reader_part_2 30 rfl) rfl rfl ?_
                    refine gw_xV1 (gc k_Reader_part_2 31 rfl) y_Reader_advance ln_Reader_56 (c_advP hx hf5 hB5 (p + 1) (by omega) hP5) rfl rfl (gAt hx rfl rfl) rfl (gble (by omega)) (fun r202 sh2 g202 hq202 => ?_)
                    obtain ⟨rfl, rfl, hF6, hP6⟩ := hq202
                    have hf := hF6.fin hf5
                    have h51 : g202 152 1 = Lc := (hF6 _ _ (by omega)).trans ((hF5 _ _ (by omega)).trans h11)
                    refine gw_aload_n (gc k_Reader_part_2 32 rfl) rfl rfl ?_
                    refine gw_iconst (gc k_Reader_part_2 33 rfl) ?_
                    refine gw_iload_n (gc k_Reader_part_2 34 rfl) rfl ?_
                    refine gw_cV1 (gc k_Reader_part_2 35 rfl) y_Reader_step ln_Reader_156 (c_Reader_step hx hf 1 _ (by rw [h51]; omega)) rfl rfl (gAt hx rfl rfl) rfl (gble (by omega)) ?_
                    refine gw_pop (gc k_Reader_part_2 36 rfl) rfl ?_
                    refine gw_iconst (gc k_Reader_part_2 37 rfl) ?_
                    refine gw_zreturn (gc k_Reader_part_2 38 rfl) rfl (by omega) ?_
                    have hr := (pP_on (V := tW B len) (o := true) (sub := none) (n := n) (by omega : ¬ tT B len p = 191) (by omega) (fun q => h50 q.1) rfl hw15).trans (if_pos ⟨h550.1, by omega⟩)
                    rw [show (if tT B len p = 15 then (5 : Int) else 17) = loW (tT B len p) from (loW_hu hw15).symm] at hr
                    exact ⟨rfl, leaf_end hr (Or.inr rfl) (((clF.u8 g _).tr hF5.cl).tr hF6.cl) h51 ⟨funext fun k => (hF6 _ _ (by omega)).trans ((hF5 _ _ (by omega)).trans (gup_a _ _ _ _ _ (by decide))), funext fun k => (hF6 _ _ (by omega)).trans ((hF5 _ _ (by omega)).trans (gup_a _ _ _ _ _ (by decide)))⟩ (by rw [hF6 _ _ (by omega), hF5 _ _ (by omega), gup_s]) (rcF.rf _) (hB5.f hF6) (by have q := hP6; rw [show p + 1 + 1 = p + 2 by omega] at q; exact q.of (fun k a b => congrFun (stM_151 _ _ _) k)) (by omega) (by rw [hF6 _ _ (by omega), hF5 _ _ (by omega), gup_fn _ _ _ _ (by decide)]; exact (lbV_o hlb2 _).symm)⟩
                  · refine gw_iconst (gc k_Reader_part_2 23 rfl) ?_
                    refine gw_zreturn (gc k_Reader_part_2 24 rfl) rfl (by omega) ?_
                    exact ⟨rfl, (clF.u8 g _).tr hF5.cl, Or.inl ⟨p + 1, (pP_on (by omega) (by omega) (fun q => h50 q.1) rfl hw15).trans (if_neg (fun q => by first | omega | (rcases hkd5 with ⟨q1, q2, -⟩ | ⟨q1, q2, q3, q4⟩ | ⟨q1, -⟩ | ⟨q1, q2, q3, q4⟩ <;> omega))), rfl, hP5, by omega⟩⟩
            · exact absurd rfl c137
          · refine gw_iconst (gc k_Reader_part_1 29 rfl) ?_
            refine gw_zreturn (gc k_Reader_part_1 30 rfl) rfl (by omega) ?_
            exact ⟨rfl, clF.u8 g _, Or.inl ⟨p, pP_no (by omega) (fun q => h50 q.1) (fun q => by rw [if_pos rfl, if_pos rfl] at q; exact loW_out c124 q), rfl, hP1, hpn.1⟩⟩
        · exact absurd rfl c107
      · have hkt : tKd B len (tP B len p.toNat) = 2 := by omega
        have h50 : tT B len p = 50 ∧ tP B len p.toNat < len := by rcases hkd with ⟨q, -⟩ | ⟨q, -⟩ | ⟨q, q2, q3⟩ | ⟨q, -⟩ <;> omega
        have hV9 := tW_at B len p hpn.1 h50.2
        have hml := mv1_le hVn.1
        have hv2 := hv2 hkt
        rw [← hV9] at hv2
        have hpk1 := hpk (by omega)
        refine gw_aload_n (gc k_Reader_part_1 1 rfl) rfl rfl ?_
        refine gw_getf 7 rfl (gc k_Reader_part_1 2 rfl) fl_Reader_82 (gAt hx rfl rfl) ?_
        rw [hg7, hv2]
        refine gw_sipush (gc k_Reader_part_1 3 rfl) (by decide) ?_
        refine gw_icmp_le (tgt := 87) (gc k_Reader_part_1 4 rfl) rfl (by omega) (fun c82 => ?_) (fun c82 => ?_)
        · refine gw_aload_n (gc k_Reader_part_1 7 rfl) rfl rfl ?_
          refine gw_iconst (gc k_Reader_part_1 8 rfl) ?_
          refine gw_aload_n (gc k_Reader_part_1 9 rfl) rfl rfl ?_
          refine gw_getf 7 rfl (gc k_Reader_part_1 10 rfl) fl_Reader_82 (gAt hx rfl rfl) ?_
          rw [hg7, hv2, hml.2.1 (by omega)]
          refine gw_cV1 (gc k_Reader_part_1 11 rfl) y_Reader_step ln_Reader_156 (c_Reader_step hx hf 0 _ (by rw [h11]; omega)) rfl rfl (gAt hx rfl rfl) rfl (gble (by omega)) ?_
          refine gw_pop (gc k_Reader_part_1 12 rfl) rfl ?_
          refine gw_aload_n (gc k_Reader_part_1 13 rfl) rfl rfl ?_
          refine gw_xV1 (gc k_Reader_part_1 14 rfl) y_Reader_advance ln_Reader_56 (c_advP hx (hf1.stp 0 (tW B len p)) (hB1.cl (clF.st _ _ _)) p hpn.1 (hP1.of (fun k a b => congrFun (stM_151 _ _ _) k))) rfl rfl (gAt hx rfl rfl) rfl (gble (by omega)) (fun r98 sh2 g98 hq98 => ?_)
          obtain ⟨rfl, rfl, hF4, hP4⟩ := hq98
          refine gw_iconst (gc k_Reader_part_1 15 rfl) ?_
          refine gw_zreturn (gc k_Reader_part_1 16 rfl) rfl (by omega) ?_
          exact ⟨rfl, leaf_end (pP_num (by omega) (by omega) ⟨h50.1, by omega⟩) (Or.inl rfl) (clF.u8 g _) h11 ⟨gup_fn _ _ _ _ (by decide), gup_fn _ _ _ _ (by decide)⟩ (gup_s _ _ _ _) hF4 hB1 hP4 (by omega) (by rw [gup_fn _ _ _ _ (by decide)]; exact (lbV_no _ hlb2 rfl).symm)⟩
        · refine gw_iconst (gc k_Reader_part_1 5 rfl) ?_
          refine gw_zreturn (gc k_Reader_part_1 6 rfl) rfl (by omega) ?_
          exact ⟨rfl, clF.u8 g _, Or.inl ⟨p, pP_no (by omega) (fun q => by omega) (fun q => by first | (rw [if_neg (by decide), if_neg (by decide)] at q; omega) | (rw [if_pos rfl, if_pos rfl] at q; omega)), rfl, hP1, hpn.1⟩⟩
    · refine gw_iconst (gc k_Reader_part_0 29 rfl) ?_
      refine gw_zreturn (gc k_Reader_part_0 30 rfl) rfl (by omega) ?_
      exact ⟨rfl, clF.rf g, Or.inl ⟨p, pP_full (by omega) (by omega), rfl, hP, hpn.1⟩⟩
  · refine gw_iload_n (gc k_Reader_part_0 4 rfl) rfl ?_
    refine gw_bipush (gc k_Reader_part_0 5 rfl) (by decide) ?_
    refine gw_icmp_lt (tgt := 17) (gc k_Reader_part_0 6 rfl) rfl (by omega) (fun c12 => ?_) (fun c12 => ?_)
    · exact absurd c12 (by decide)
    · refine gw_iconst (gc k_Reader_part_0 7 rfl) ?_
      refine gw_zreturn (gc k_Reader_part_0 8 rfl) rfl (by omega) ?_
      exact ⟨rfl, clF.rf g, Or.inl ⟨p, pP_b0 (by omega), rfl, hP, hpn.1⟩⟩
set_option maxHeartbeats 8000000 in
theorem rc_partO1 {sh : gS} (hx : gFix sh) {B : Int → Int} {len nt : Int} (hk : pOK (tT B len) nt) (hnt : nt ≤ 400) {D : Nat} (hD : 9 ≤ D) {dp : Int} (hdp : 0 ≤ dp ∧ dp < 8) {f : Int → Int → PR} {D2 : Nat} (hD2 : D2 + 1 ≤ D) (hS : RcL B len true sh f_Reader_sum D2 [(2, 151), (0, dp + 1)] f) : RcL B len true sh f_Reader_part D [(2, 151), (0, dp)] (pPartW (tT B len) (tW B len) true (some f)) := by
  intro g p n Lc K hf h3 hcS hlb2
  obtain ⟨hB, hP, h8, h1, hpn, hLc⟩ := hcS
  have hkd := kd_of B len p hpn.1 hB.2.2.2 hB.1
  obtain ⟨h5, h6, h4, hv2, hv3, hvb⟩ := id hP
  have hpk := hk p
  have hBb := hB.2.2.2
  refine gTri.of (by decide +kernel) rfl ?_
  show gWP f_Reader_part _ _ _ 0 [(2, 151), (0, dp), (9, 0)] [] sh g _
  refine gw_aload_n (gc k_Reader_part_0 0 rfl) rfl rfl ?_
  refine gw_bipush (gc k_Reader_part_0 1 rfl) (by decide) ?_
  refine gw_cV1 (gc k_Reader_part_0 2 rfl) y_Reader_isSign ln_Reader_110 (c_Reader_isSign hx hf hB p hpn.1 hP 91 (by omega)) rfl rfl (gAt hx rfl rfl) rfl (gble (by omega)) ?_
  rw [show (100 : Int) + 91 = 191 from rfl]
  refine gw_beq (tgt := 46) (gc k_Reader_part_0 3 rfl) rfl (fun c6 => ?_) (fun c6 => ?_)
  · refine gw_aload_n (gc k_Reader_part_0 25 rfl) rfl rfl ?_
    refine gw_getf 8 rfl (gc k_Reader_part_0 26 rfl) fl_Reader_43 (gAt hx rfl rfl) ?_
    rw [h8]
    refine gw_bipush (gc k_Reader_part_0 27 rfl) (by decide) ?_
    refine gw_icmp_lt (tgt := 57) (gc k_Reader_part_0 28 rfl) rfl (by omega) (fun c52 => ?_) (fun c52 => ?_)
    · refine gw_aload_n (gc k_Reader_part_0 31 rfl) rfl rfl ?_
      refine gw_dup (gc k_Reader_part_0 32 rfl) rfl ?_
      refine gw_getf 8 rfl (gc k_Reader_part_0 33 rfl) fl_Reader_43 (gAt hx rfl rfl) ?_
      rw [h8]
      refine gw_iconst (gc k_Reader_part_0 34 rfl) ?_
      refine gw_iadd (gc k_Reader_part_0 35 rfl) ?_
      refine gw_putIK 8 rfl (gc k_Reader_part_0 36 rfl) fl_Reader_43 (gAt hx rfl rfl) hf rfl (fun hf => ?_)
      have hf1 : gFin (gup g 151 8 (n + 1)) := hf
      have hB1 : rcB B len (gup g 151 8 (n + 1)) := hB.cl (clF.u8 g _)
      have hP1 : rcP B len p (gup g 151 8 (n + 1)) := hP.of (fun k a b => gup_k _ _ _ _ (by omega))
      have h11 : (gup g 151 8 (n + 1)) 152 1 = Lc := by rw [gup_fn _ _ _ _ (by decide)]; exact h1
      have hg7 : (gup g 151 8 (n + 1)) 151 7 = g 151 7 := gup_k _ _ _ _ (by decide)
      have hg4 : (gup g 151 8 (n + 1)) 151 4 = tKd B len (tP B len p.toNat) := (gup_k _ _ _ _ (by decide)).trans h4
      have hVn := tW_bd B len p
      refine gw_aload_n (gc k_Reader_part_0 37 rfl) rfl rfl ?_
      refine gw_getf 4 rfl (gc k_Reader_part_0 38 rfl) fl_Reader_75 (gAt hx rfl rfl) ?_
      rw [hg4]
      refine gw_iconst (gc k_Reader_part_0 39 rfl) ?_
      refine gw_icmp_ne (tgt := 103) (gc k_Reader_part_1 0 rfl) rfl (by omega) (fun c72 => ?_) (fun c72 => ?_)
      · have hkt : ¬ tKd B len (tP B len p.toNat) = 2 := by omega
        have h50 : ¬ tT B len p = 50 := by rcases hkd with ⟨q, q2, -⟩ | ⟨q, q2, q3, q4⟩ | ⟨q, -⟩ | ⟨q, q2, q3, q4⟩ <;> omega
        refine gw_aload_n (gc k_Reader_part_1 17 rfl) rfl rfl ?_
        refine gw_getf 3 rfl (gc k_Reader_part_1 18 rfl) fl_Reader_36 (gAt hx rfl rfl) ?_
        rw [gup_k _ _ _ _ (by decide), h3, if_pos rfl]
        refine gw_if_eq (tgt := 117) (gc k_Reader_part_1 19 rfl) rfl (by omega) (fun c107 => ?_) (fun c107 => ?_)
        · refine gw_aload_n (gc k_Reader_part_1 23 rfl) rfl rfl ?_
          refine gw_cV1 (gc k_Reader_part_1 24 rfl) y_Reader_orderWord ln_Reader_178 (c_Reader_orderWord hx hf hB1 p hpn.1 hP1) rfl rfl (gAt hx rfl rfl) rfl (gble (by omega)) ?_
          refine gw_istore_2 (gc k_Reader_part_1 25 rfl) rfl rfl ?_
          have hlo := loW_bd (tT B len p)
          refine gw_iload_n (gc k_Reader_part_1 26 rfl) rfl ?_
          refine gw_iconst (gc k_Reader_part_1 27 rfl) ?_
          refine gw_icmp_ne (tgt := 129) (gc k_Reader_part_1 28 rfl) rfl (by omega) (fun c124 => ?_) (fun c124 => ?_)
          · have hw := loW_in c124
            have hpk1 := hpk (by omega)
            have hf := hf1
            refine gw_aload_n (gc k_Reader_part_1 31 rfl) rfl rfl ?_
            refine gw_xV1 (gc k_Reader_part_1 32 rfl) y_Reader_advance ln_Reader_56 (c_advP hx hf1 hB1 p hpn.1 hP1) rfl rfl (gAt hx rfl rfl) rfl (gble (by omega)) (fun r130 sh2 g130 hq130 => ?_)
            obtain ⟨rfl, rfl, hF5, hP5⟩ := hq130
            have hf5 := hF5.fin hf1
            have hf := hf5
            have hB5 := hB1.f hF5
            refine gw_aload_n (gc k_Reader_part_1 33 rfl) rfl rfl ?_
            refine gw_getf 3 rfl (gc k_Reader_part_1 34 rfl) fl_Reader_36 (gAt hx rfl rfl) ?_
            rw [hF5 _ _ (by omega), gup_k _ _ _ _ (by decide), h3, if_pos rfl]
            refine gw_if_eq (tgt := 170) (gc k_Reader_part_1 35 rfl) rfl (by omega) (fun c137 => ?_) (fun c137 => ?_)
            · refine gw_iload_n (gc k_Reader_part_2 12 rfl) rfl ?_
              refine gw_iconst (gc k_Reader_part_2 13 rfl) ?_
              refine gw_icmp_lt (tgt := 205) (gc k_Reader_part_2 14 rfl) rfl (by omega) (fun c172 => ?_) (fun c172 => ?_)
              · have h51 : g130 152 1 = Lc := (hF5 _ _ (by omega)).trans h11
                refine gw_aload_n (gc k_Reader_part_2 32 rfl) rfl rfl ?_
                refine gw_iconst (gc k_Reader_part_2 33 rfl) ?_
                refine gw_iload_n (gc k_Reader_part_2 34 rfl) rfl ?_
                refine gw_cV1 (gc k_Reader_part_2 35 rfl) y_Reader_step ln_Reader_156 (c_Reader_step hx hf 1 _ (by rw [h51]; omega)) rfl rfl (gAt hx rfl rfl) rfl (gble (by omega)) ?_
                refine gw_pop (gc k_Reader_part_2 36 rfl) rfl ?_
                refine gw_iconst (gc k_Reader_part_2 37 rfl) ?_
                refine gw_zreturn (gc k_Reader_part_2 38 rfl) rfl (by omega) ?_
                have hw4 := loW_4 (by omega : 0 ≤ loW (tT B len p)) (by omega)
                have hr := pP_ord (V := tW B len) (o := true) (sub := (some f)) (n := n) (by omega : ¬ tT B len p = 191) (by omega) (fun q => h50 q.1) ⟨rfl, hw4.1⟩
                rw [← hw4.2] at hr
                exact ⟨rfl, leaf_end hr (Or.inr rfl) ((clF.u8 g _).tr hF5.cl) h51 ⟨funext fun k => (hF5 _ _ (by omega)).trans (gup_a _ _ _ _ _ (by decide)), funext fun k => (hF5 _ _ (by omega)).trans (gup_a _ _ _ _ _ (by decide))⟩ (by rw [hF5 _ _ (by omega), gup_s]) (rcF.rf _) hB5 (hP5.of (fun k a b => congrFun (stM_151 _ _ _) k)) (by omega) (by rw [hF5 _ _ (by omega), gup_fn _ _ _ _ (by decide)]; exact (lbV_o hlb2 _).symm)⟩
              · obtain ⟨k5, k6, k4, kv2, kv3, kvb⟩ := id hP5
                have hkd5 := kd_of B len (p + 1) (by omega) hB.2.2.2 hB.1
                have hVn5 := tW_bd B len (p + 1)
                have hml5 := mv1_le hVn5.1
                have hw15 := loW_15 (by omega : 5 ≤ loW (tT B len p))
                refine gw_aload_n (gc k_Reader_part_2 15 rfl) rfl rfl ?_
                refine gw_getf 4 rfl (gc k_Reader_part_2 16 rfl) fl_Reader_75 (gAt hx rfl rfl) ?_
                rw [k4]
                refine gw_iconst (gc k_Reader_part_2 17 rfl) ?_
                refine gw_icmp_ne (tgt := 192) (gc k_Reader_part_2 18 rfl) rfl (by omega) (fun c180 => ?_) (fun c180 => ?_)
                · refine gw_iconst (gc k_Reader_part_2 23 rfl) ?_
                  refine gw_zreturn (gc k_Reader_part_2 24 rfl) rfl (by omega) ?_
                  exact ⟨rfl, (clF.u8 g _).tr hF5.cl, Or.inl ⟨p + 1, (pP_on (by omega) (by omega) (fun q => h50 q.1) rfl hw15).trans (if_neg (fun q => by first | omega | (rcases hkd5 with ⟨q1, q2, -⟩ | ⟨q1, q2, q3, q4⟩ | ⟨q1, -⟩ | ⟨q1, q2, q3, q4⟩ <;> omega))), rfl, hP5, by omega⟩⟩
                · have h550 : tT B len (p + 1) = 50 ∧ tP B len (p + 1).toNat < len := by rcases hkd5 with ⟨q, -⟩ | ⟨q, -⟩ | ⟨q, q2, q3⟩ | ⟨q, -⟩ <;> omega
                  have hV95 := tW_at B len (p + 1) (by omega) h550.2
                  have kv2 := kv2 (by omega)
                  rw [← hV95] at kv2
                  have hpk2 := hk (p + 1) (by omega)
                  refine gw_aload_n (gc k_Reader_part_2 19 rfl) rfl rfl ?_
                  refine gw_getf 7 rfl (gc k_Reader_part_2 20 rfl) fl_Reader_82 (gAt hx rfl rfl) ?_
                  rw [kv2]
                  refine gw_bipush (gc k_Reader_part_2 21 rfl) (by decide) ?_
                  refine gw_icmp_lt (tgt := 194) (gc k_Reader_part_2 22 rfl) rfl (by omega) (fun c189 => ?_) (fun c189 => ?_)
                  · refine gw_iload_n (gc k_Reader_part_2 25 rfl) rfl ?_
                    refine gw_aload_n (gc k_Reader_part_2 26 rfl) rfl rfl ?_
                    refine gw_getf 7 rfl (gc k_Reader_part_2 27 rfl) fl_Reader_82 (gAt hx rfl rfl) ?_
                    rw [kv2, hml5.2.1 (by omega)]
                    refine gw_iadd (gc k_Reader_part_2 28 rfl) ?_
                    refine gw_istore_2 (gc k_Reader_part_2 29 rfl) rfl rfl ?_
                    refine gw_aload_n (gc k_Reader_part_2 30 rfl) rfl rfl ?_
                    refine gw_xV1 (gc k_Reader_part_2 31 rfl) y_Reader_advance ln_Reader_56 (c_advP hx hf5 hB5 (p + 1) (by omega) hP5) rfl rfl (gAt hx rfl rfl) rfl (gble (by omega)) (fun r202 sh2 g202 hq202 => ?_)
                    obtain ⟨rfl, rfl, hF6, hP6⟩ := hq202
                    have hf := hF6.fin hf5
                    have h51 : g202 152 1 = Lc := (hF6 _ _ (by omega)).trans ((hF5 _ _ (by omega)).trans h11)
                    refine gw_aload_n (gc k_Reader_part_2 32 rfl) rfl rfl ?_
                    refine gw_iconst (gc k_Reader_part_2 33 rfl) ?_
                    refine gw_iload_n (gc k_Reader_part_2 34 rfl) rfl ?_
                    refine gw_cV1 (gc k_Reader_part_2 35 rfl) y_Reader_step ln_Reader_156 (c_Reader_step hx hf 1 _ (by rw [h51]; omega)) rfl rfl (gAt hx rfl rfl) rfl (gble (by omega)) ?_
                    refine gw_pop (gc k_Reader_part_2 36 rfl) rfl ?_
                    refine gw_iconst (gc k_Reader_part_2 37 rfl) ?_
                    refine gw_zreturn (gc k_Reader_part_2 38 rfl) rfl (by omega) ?_
                    have hr := (pP_on (V := tW B len) (o := true) (sub := (some f)) (n := n) (by omega : ¬ tT B len p = 191) (by omega) (fun q => h50 q.1) rfl hw15).trans (if_pos ⟨h550.1, by omega⟩)
                    rw [show (if tT B len p = 15 then (5 : Int) else 17) = loW (tT B len p) from (loW_hu hw15).symm] at hr
                    exact ⟨rfl, leaf_end hr (Or.inr rfl) (((clF.u8 g _).tr hF5.cl).tr hF6.cl) h51 ⟨funext fun k => (hF6 _ _ (by omega)).trans ((hF5 _ _ (by omega)).trans (gup_a _ _ _ _ _ (by decide))), funext fun k => (hF6 _ _ (by omega)).trans ((hF5 _ _ (by omega)).trans (gup_a _ _ _ _ _ (by decide)))⟩ (by rw [hF6 _ _ (by omega), hF5 _ _ (by omega), gup_s]) (rcF.rf _) (hB5.f hF6) (by have q := hP6; rw [show p + 1 + 1 = p + 2 by omega] at q; exact q.of (fun k a b => congrFun (stM_151 _ _ _) k)) (by omega) (by rw [hF6 _ _ (by omega), hF5 _ _ (by omega), gup_fn _ _ _ _ (by decide)]; exact (lbV_o hlb2 _).symm)⟩
                  · refine gw_iconst (gc k_Reader_part_2 23 rfl) ?_
                    refine gw_zreturn (gc k_Reader_part_2 24 rfl) rfl (by omega) ?_
                    exact ⟨rfl, (clF.u8 g _).tr hF5.cl, Or.inl ⟨p + 1, (pP_on (by omega) (by omega) (fun q => h50 q.1) rfl hw15).trans (if_neg (fun q => by first | omega | (rcases hkd5 with ⟨q1, q2, -⟩ | ⟨q1, q2, q3, q4⟩ | ⟨q1, -⟩ | ⟨q1, q2, q3, q4⟩ <;> omega))), rfl, hP5, by omega⟩⟩
            · exact absurd rfl c137
          · refine gw_iconst (gc k_Reader_part_1 29 rfl) ?_
            refine gw_zreturn (gc k_Reader_part_1 30 rfl) rfl (by omega) ?_
            exact ⟨rfl, clF.u8 g _, Or.inl ⟨p, pP_no (by omega) (fun q => h50 q.1) (fun q => by rw [if_pos rfl, if_pos rfl] at q; exact loW_out c124 q), rfl, hP1, hpn.1⟩⟩
        · exact absurd rfl c107
      · have hkt : tKd B len (tP B len p.toNat) = 2 := by omega
        have h50 : tT B len p = 50 ∧ tP B len p.toNat < len := by rcases hkd with ⟨q, -⟩ | ⟨q, -⟩ | ⟨q, q2, q3⟩ | ⟨q, -⟩ <;> omega
        have hV9 := tW_at B len p hpn.1 h50.2
        have hml := mv1_le hVn.1
        have hv2 := hv2 hkt
        rw [← hV9] at hv2
        have hpk1 := hpk (by omega)
        refine gw_aload_n (gc k_Reader_part_1 1 rfl) rfl rfl ?_
        refine gw_getf 7 rfl (gc k_Reader_part_1 2 rfl) fl_Reader_82 (gAt hx rfl rfl) ?_
        rw [hg7, hv2]
        refine gw_sipush (gc k_Reader_part_1 3 rfl) (by decide) ?_
        refine gw_icmp_le (tgt := 87) (gc k_Reader_part_1 4 rfl) rfl (by omega) (fun c82 => ?_) (fun c82 => ?_)
        · refine gw_aload_n (gc k_Reader_part_1 7 rfl) rfl rfl ?_
          refine gw_iconst (gc k_Reader_part_1 8 rfl) ?_
          refine gw_aload_n (gc k_Reader_part_1 9 rfl) rfl rfl ?_
          refine gw_getf 7 rfl (gc k_Reader_part_1 10 rfl) fl_Reader_82 (gAt hx rfl rfl) ?_
          rw [hg7, hv2, hml.2.1 (by omega)]
          refine gw_cV1 (gc k_Reader_part_1 11 rfl) y_Reader_step ln_Reader_156 (c_Reader_step hx hf 0 _ (by rw [h11]; omega)) rfl rfl (gAt hx rfl rfl) rfl (gble (by omega)) ?_
          refine gw_pop (gc k_Reader_part_1 12 rfl) rfl ?_
          refine gw_aload_n (gc k_Reader_part_1 13 rfl) rfl rfl ?_
          refine gw_xV1 (gc k_Reader_part_1 14 rfl) y_Reader_advance ln_Reader_56 (c_advP hx (hf1.stp 0 (tW B len p)) (hB1.cl (clF.st _ _ _)) p hpn.1 (hP1.of (fun k a b => congrFun (stM_151 _ _ _) k))) rfl rfl (gAt hx rfl rfl) rfl (gble (by omega)) (fun r98 sh2 g98 hq98 => ?_)
          obtain ⟨rfl, rfl, hF4, hP4⟩ := hq98
          refine gw_iconst (gc k_Reader_part_1 15 rfl) ?_
          refine gw_zreturn (gc k_Reader_part_1 16 rfl) rfl (by omega) ?_
          exact ⟨rfl, leaf_end (pP_num (by omega) (by omega) ⟨h50.1, by omega⟩) (Or.inl rfl) (clF.u8 g _) h11 ⟨gup_fn _ _ _ _ (by decide), gup_fn _ _ _ _ (by decide)⟩ (gup_s _ _ _ _) hF4 hB1 hP4 (by omega) (by rw [gup_fn _ _ _ _ (by decide)]; exact (lbV_no _ hlb2 rfl).symm)⟩
        · refine gw_iconst (gc k_Reader_part_1 5 rfl) ?_
          refine gw_zreturn (gc k_Reader_part_1 6 rfl) rfl (by omega) ?_
          exact ⟨rfl, clF.u8 g _, Or.inl ⟨p, pP_no (by omega) (fun q => by omega) (fun q => by first | (rw [if_neg (by decide), if_neg (by decide)] at q; omega) | (rw [if_pos rfl, if_pos rfl] at q; omega)), rfl, hP1, hpn.1⟩⟩
    · refine gw_iconst (gc k_Reader_part_0 29 rfl) ?_
      refine gw_zreturn (gc k_Reader_part_0 30 rfl) rfl (by omega) ?_
      exact ⟨rfl, clF.rf g, Or.inl ⟨p, pP_full (by omega) (by omega), rfl, hP, hpn.1⟩⟩
  · refine gw_iload_n (gc k_Reader_part_0 4 rfl) rfl ?_
    refine gw_bipush (gc k_Reader_part_0 5 rfl) (by decide) ?_
    refine gw_icmp_lt (tgt := 17) (gc k_Reader_part_0 6 rfl) rfl (by omega) (fun c12 => ?_) (fun c12 => ?_)
    · refine gw_aload_n (gc k_Reader_part_0 9 rfl) rfl rfl ?_
      refine gw_xV1 (gc k_Reader_part_0 10 rfl) y_Reader_advance ln_Reader_56 (c_advP hx hf hB p hpn.1 hP) rfl rfl (gAt hx rfl rfl) rfl (gble (by omega)) (fun r18 sh2 g18 hq18 => ?_)
      obtain ⟨rfl, rfl, hF1, hP1⟩ := hq18
      have hf1 := hF1.fin hf
      have hB1 := hB.f hF1
      have hcS1 : cS B len K (p + 1) n Lc g18 := ⟨hB1, hP1, (hF1 _ _ (by omega)).trans h8, (hF1 _ _ (by omega)).trans h1, by omega, by omega⟩
      have hf := hf1
      refine gw_aload_n (gc k_Reader_part_0 11 rfl) rfl rfl ?_
      refine gw_iload_n (gc k_Reader_part_0 12 rfl) rfl ?_
      refine gw_iconst (gc k_Reader_part_0 13 rfl) ?_
      refine gw_iadd (gc k_Reader_part_0 14 rfl) ?_
      refine gw_xV1 (gc k_Reader_part_0 15 rfl) y_Reader_sum ln_Reader_125 (hS g18 (p + 1) n Lc K hf1 ((hF1 _ _ (by omega)).trans h3) hcS1 (by rw [hF1 _ _ (by omega)]; exact hlb2)) rfl rfl (gAt hx rfl rfl) rfl (gble (by omega)) (fun r25 sh2 g25 hq25 => ?_)
      obtain ⟨rfl, hQ⟩ := hq25
      obtain ⟨v, rfl, hv01, hcl, hQv⟩ := hQ.v
      have hf := hcl.fin hf1
      refine gw_if_eq (tgt := 44) (gc k_Reader_part_0 16 rfl) rfl (by omega) (fun c28 => ?_) (fun c28 => ?_)
      · refine gw_iconst (gc k_Reader_part_0 23 rfl) ?_
        refine gw_zreturn (gc k_Reader_part_0 24 rfl) rfl (by omega) ?_
        rcases hQv with ⟨-, e, hr, hPe, he0⟩ | ⟨q, -⟩
        · exact ⟨rfl, hF1.cl.tr hcl, Or.inl ⟨e, pP_be (by omega) hr, rfl, hPe, he0⟩⟩
        · exfalso; omega
      · obtain ⟨p2, n2, c, s, hr, hcS2, hcd, hpre, hlbv⟩ : ∃ p2 n2 c s, f (p + 1) n = .inr (p2, n2, c, s) ∧ cS B len K p2 n2 (Lc + c.length) g25 ∧ cdL (g25 156) (g25 157) Lc c ∧ (∀ j, j < Lc → g25 156 j = g18 156 j ∧ g25 157 j = g18 157 j) ∧ g25 152 2 = lbV true (g18 152 2) c := by
          rcases hQv with ⟨q, -⟩ | ⟨-, q⟩
          · omega
          · exact q
        refine gw_aload_n (gc k_Reader_part_0 17 rfl) rfl rfl ?_
        refine gw_bipush (gc k_Reader_part_0 18 rfl) (by decide) ?_
        refine gw_xV1 (gc k_Reader_part_0 19 rfl) y_Reader_takeSign ln_Reader_78 (c_Reader_takeSign hx hf hcS2.1 p2 hcS2.2.2.2.2.1.1 hcS2.2.1 93 (by omega)) rfl rfl (gAt hx rfl rfl) rfl (gble (by omega)) (fun r34 sh2 g34 hq34 => ?_)
        rw [show (100 : Int) + 93 = 193 from rfl] at hq34
        obtain ⟨rfl, rfl, hF3, hP3⟩ := hq34
        have hf := hF3.fin hf
        refine gw_beq (tgt := 44) (gc k_Reader_part_0 20 rfl) rfl (fun c37 => ?_) (fun c37 => ?_)
        · refine gw_iconst (gc k_Reader_part_0 23 rfl) ?_
          refine gw_zreturn (gc k_Reader_part_0 24 rfl) rfl (by omega) ?_
          rw [if_neg c37] at hP3
          exact ⟨rfl, (hF1.cl.tr hcl).tr hF3.cl, Or.inl ⟨p2, (pP_bi (by omega) hr).trans (if_neg c37), rfl, hP3, hcS2.2.2.2.2.1.1⟩⟩
        · refine gw_iconst (gc k_Reader_part_0 21 rfl) ?_
          refine gw_goto (tgt := 45) (gc k_Reader_part_0 22 rfl) rfl ?_
          refine gw_zreturn (gc k_Reader_part_0 24 rfl) rfl (by omega) ?_
          rw [if_pos c37] at hP3
          obtain ⟨b1, b2, b3, b4, b5, b6⟩ := hcS2
          refine ⟨rfl, (hF1.cl.tr hcl).tr hF3.cl, Or.inr ⟨p2 + 1, n2, c, s, (pP_bi (by omega) hr).trans (if_pos c37), rfl, ⟨b1.f hF3, hP3, (hF3 _ _ (by omega)).trans b3, (hF3 _ _ (by omega)).trans b4, by omega, by omega⟩, ?_, fun j hj => ?_, ?_⟩⟩
          · rw [show g34 156 = g25 156 from funext fun k => hF3 _ _ (by omega), show g34 157 = g25 157 from funext fun k => hF3 _ _ (by omega)]; exact hcd
          · rw [hF3 _ _ (by omega), hF3 _ _ (by omega), ← hF1 156 j (by omega), ← hF1 157 j (by omega)]; exact hpre j hj
          · rw [hF3 _ _ (by omega), hlbv, hF1 _ _ (by omega)]
    · exfalso; omega
