/-! ===== the class reads: whole texts ===== -/
/-- how many tokens there are -/
def ntK (B : Int → Int) (len nt : Int) : Prop := (0 ≤ nt ∧ nt ≤ len) ∧ ∀ p, 0 ≤ p → (tP B len p.toNat < len ↔ p < nt)
theorem ntK_ex (B : Int → Int) {len : Int} (hl : 0 ≤ len) : ∃ nt, ntK B len nt := by
  have hex : ∃ t : Nat, ¬ tP B len t < len := by
    refine ⟨len.toNat, fun z => ?_⟩
    have mono : ∀ (d i : Nat), ¬ tP B len i < len → ¬ tP B len (i + d) < len := fun d i h => by rw [tP_end B hl d i h]; omega
    have h2 := tP_ge B hl len.toNat (fun j hj => by
      by_cases q : tP B len j < len
      · exact q
      · exact absurd z (by have := mono (len.toNat - j) j q; rwa [show j + (len.toNat - j) = len.toNat by omega] at this))
    omega
  have hmin : ∀ m : Nat, (¬ tP B len m < len) → ∃ t : Nat, t ≤ m ∧ ¬ tP B len t < len ∧ ∀ j, j < t → tP B len j < len := by
    intro m
    induction m with
    | zero => intro h; exact ⟨0, Nat.le_refl _, h, fun j hj => absurd hj (Nat.not_lt_zero _)⟩
    | succ m ih =>
      intro h
      by_cases q : tP B len m < len
      · refine ⟨m + 1, Nat.le_refl _, h, fun j hj => ?_⟩
        by_cases q2 : tP B len j < len
        · exact q2
        · exfalso
          have := tP_end B hl (m - j) j q2
          rw [show j + (m - j) = m by omega] at this
          omega
      · obtain ⟨t, a, b⟩ := ih q
        exact ⟨t, by omega, b⟩
  obtain ⟨m, hm⟩ := hex
  obtain ⟨t, -, h1, h2⟩ := hmin m hm
  have h3 := tP_ge B hl t h2
  have h4 := tP_bd B hl t
  refine ⟨(t : Int), ⟨by omega, by omega⟩, fun p hp => ⟨fun z => ?_, fun z => h2 _ (by omega)⟩⟩
  by_cases q : p < (t : Int)
  · exact q
  · exfalso
    have := tP_end B hl (p.toNat - t) t h1
    rw [show t + (p.toNat - t) = p.toNat by omega] at this
    omega
theorem ntK.ok {B : Int → Int} {len nt : Int} (h : ntK B len nt) : pOK (tT B len) nt := fun p hp => by
  have h0 : 0 ≤ p := by
    by_cases z : 0 ≤ p
    · exact z
    · exact absurd (if_neg (fun q => z q.1)) hp
  refine (h.2 p h0).mp ?_
  by_cases z : tP B len p.toNat < len
  · exact z
  · rw [tT_at B len p h0, if_neg z] at hp
    exact absurd rfl hp
def pAn {α : Type} (T : Int → Int) (nt : Int) (cl : Int → Int → Int ⊕ (Int × Int × α)) (f : Nat) (p n : Int) (L : List α) : Int ⊕ List α := if L.length = 12 then .inl p else match cl p n with
  | .inl e => .inl e
  | .inr (p2, n2, c) => pAllL T nt cl f p2 n2 (L ++ [c])
theorem pAn_0 {α : Type} (T : Int → Int) (nt : Int) (cl : Int → Int → Int ⊕ (Int × Int × α)) : pAn T nt cl 401 0 0 [] = pAll T nt cl := by
  unfold pAn pAll
  rw [if_neg (show ¬ ([] : List α).length = 12 from fun z => by cases z)]
  cases cl 0 0 with
  | inl e => rfl
  | inr x => rfl
theorem pAn_full {α : Type} {T : Int → Int} {nt : Int} {cl : Int → Int → Int ⊕ (Int × Int × α)} {f : Nat} {p n : Int} {L : List α} (h : L.length = 12) : pAn T nt cl f p n L = .inl p := if_pos h
theorem pAn_e {α : Type} {T : Int → Int} {nt : Int} {cl : Int → Int → Int ⊕ (Int × Int × α)} {f : Nat} {p n e : Int} {L : List α} (h : ¬ L.length = 12) (hc : cl p n = .inl e) : pAn T nt cl f p n L = .inl e := by
  unfold pAn; rw [if_neg h, hc]
theorem pAn_i {α : Type} {T : Int → Int} {nt : Int} {cl : Int → Int → Int ⊕ (Int × Int × α)} {f : Nat} {p n p2 n2 : Int} {c : α} {L : List α} (h : ¬ L.length = 12) (hc : cl p n = .inr (p2, n2, c)) : pAn T nt cl f p n L = pAllL T nt cl f p2 n2 (L ++ [c]) := by
  unfold pAn; rw [if_neg h, hc]
theorem pA_n {α : Type} {T : Int → Int} {nt : Int} {cl : Int → Int → Int ⊕ (Int × Int × α)} {p n : Int} {L : List α} (h : T p = 159) (f : Nat) : pAllL T nt cl (f + 1) p n L = pAn T nt cl f (p + 1) n L := by
  have e : pAllL T nt cl (f + 1) p n L = (if L.length = 12 then .inl (p + 1) else match cl (p + 1) n with
      | .inl e => .inl e
      | .inr (p2, n2, c) => pAllL T nt cl f p2 n2 (L ++ [c])) := if_pos h
  rw [e]; rfl
/-- the code of a whole clause -/
def ocK (c : OC) : PK := (c.2.1 ++ c.2.2.2.1) ++ c.2.2.2.2.2.2.1.getD []
/-- clause i of the draft, its code at t -/
def dfC (o : Bool) (g : gM) (i t : Int) (c : OC) : Prop := g 153 i = c.1 - (if o = true then 22 else 1) ∧ g 154 i = c.2.2.2.2.2.1 ∧ g 155 (i * 3) = t ∧ g 155 (i * 3 + 1) = t + c.2.1.length ∧ g 155 (i * 3 + 2) = t + (c.2.1 ++ c.2.2.2.1).length ∧ g 155 (i * 3 + 3) = t + (ocK c).length ∧ cdL (g 156) (g 157) t (ocK c)
def dfL (o : Bool) (g : gM) : Int → Int → List OC → Int → Prop
  | _, t, [], u => u = t
  | i, t, c :: R, u => dfC o g i t c ∧ dfL o g (i + 1) (t + (ocK c).length) R u
theorem dfL_le {o : Bool} {g : gM} : ∀ (L : List OC) (i t u : Int), dfL o g i t L u → t ≤ u
  | [], _, _, _, h => by have h : _ = _ := h; omega
  | c :: R, i, t, u, h => by have := dfL_le R _ _ _ h.2; omega
theorem dfL_snoc {o : Bool} {g : gM} {c : OC} : ∀ (L : List OC) (i t u : Int), dfL o g i t L u → dfC o g (i + L.length) u c → dfL o g i t (L ++ [c]) (u + (ocK c).length)
  | [], i, t, u, h, h2 => by
    have h : u = t := h
    subst h
    rw [show i + (([] : List OC).length : Int) = i from Int.add_zero _] at h2
    exact ⟨h2, rfl⟩
  | d :: R, i, t, u, h, h2 => ⟨h.1, dfL_snoc R _ _ _ h.2 (by rw [show i + 1 + (R.length : Int) = i + ((d :: R).length : Int) by rw [List.length_cons]; omega]; exact h2)⟩
theorem dfC_ext {o : Bool} {g g2 : gM} {i t u m : Int} {c : OC} (h3 : ∀ k, k < m → g2 153 k = g 153 k) (h4 : ∀ k, k < m → g2 154 k = g 154 k) (h5 : ∀ k, k ≤ m * 3 → g2 155 k = g 155 k) (h6 : ∀ k, k < u → g2 156 k = g 156 k ∧ g2 157 k = g 157 k) (hi : i < m) (ht : t + (ocK c).length ≤ u) (h : dfC o g i t c) : dfC o g2 i t c := by
  obtain ⟨q1, q2, q3, q4, q5, q6, q7⟩ := h
  exact ⟨by rw [h3 _ hi]; exact q1, by rw [h4 _ hi]; exact q2, by rw [h5 _ (by omega)]; exact q3, by rw [h5 _ (by omega)]; exact q4, by rw [h5 _ (by omega)]; exact q5, by rw [h5 _ (by omega)]; exact q6, cdL_ext _ _ (fun j _ b => h6 j (by omega)) q7⟩
theorem dfL_ext {o : Bool} {g g2 : gM} {m w : Int} (h3 : ∀ k, k < m → g2 153 k = g 153 k) (h4 : ∀ k, k < m → g2 154 k = g 154 k) (h5 : ∀ k, k ≤ m * 3 → g2 155 k = g 155 k) (h6 : ∀ k, k < w → g2 156 k = g 156 k ∧ g2 157 k = g 157 k) : ∀ (L : List OC) (i t u : Int), i + L.length ≤ m → u ≤ w → dfL o g i t L u → dfL o g2 i t L u
  | [], _, _, _, _, _, h => h
  | c :: R, i, t, u, hi, hu, h => by
    rw [List.length_cons] at hi
    have := dfL_le R _ _ _ h.2
    exact ⟨dfC_ext h3 h4 h5 h6 (by omega) (by omega) h.1, dfL_ext h3 h4 h5 h6 R _ _ _ (by omega) hu h.2⟩
/-- what reading may change -/
def rdA (g g2 : gM) : Prop := ∀ a k, ¬ (a = 151 ∧ 2 ≤ k ∧ k ≤ 8) → ¬ (a = 152 ∧ 0 ≤ k ∧ k ≤ 2) → ¬ (153 ≤ a ∧ a ≤ 158) → g2 a k = g a k
theorem clG.rd {i : Int} {g g2 : gM} (h : clG i g g2) : rdA g g2 := fun a k q r s => h a k (by omega) (by omega) (by omega) (by omega) (by omega) (by omega) (by omega)
theorem rdA.rf (g : gM) : rdA g g := fun _ _ _ _ _ => rfl
theorem rdA.tr {g g2 g3 : gM} (h : rdA g g2) (h2 : rdA g2 g3) : rdA g g3 := fun a k n m q => (h2 a k n m q).trans (h a k n m q)
theorem rdA.up {g g2 : gM} (h : rdA g g2) {a k : Int} (v : Int) (hz : (a = 151 ∧ 2 ≤ k ∧ k ≤ 8) ∨ (a = 152 ∧ 0 ≤ k ∧ k ≤ 2) ∨ (153 ≤ a ∧ a ≤ 158)) : rdA g (gup g2 a k v) := fun b j n m q => by
  by_cases z : b = a
  · subst z; rw [gup_k _ _ _ _ (by omega)]; exact h _ _ n m q
  · rw [gup_a _ _ _ _ _ z]; exact h _ _ n m q
theorem rdA.fr {g g2 : gM} (h : rdA g g2) {a : Int} (f : Int → Int) (hz : 153 ≤ a ∧ a ≤ 158) : rdA g (gfr g2 a f) := fun b j n m q => by
  rw [gfr_a _ _ _ _ (by omega)]; exact h _ _ n m q
/-- reading at clause i -/
def rdI (B : Int → Int) (len nt : Int) (o : Bool) (cl : Int → Int → OCR) (g0 : gM) (i : Int) (L : List OC) (p n Lc : Int) (f : Nat) (g1 : gM) : Prop := (L.length : Int) = i ∧ rdA g0 g1 ∧ g1 151 3 = (if o = true then 0 else 1) ∧ cS B len 0 p n Lc g1 ∧ p ≤ nt ∧ dfL o g1 0 0 L Lc ∧ g1 155 (i * 3) = Lc ∧ g1 152 2 = lbV o 0 (L.flatMap ocK) ∧ pAn (tT B len) nt cl f p n L = pAll (tT B len) nt cl ∧ 401 ≤ f + p
def rdV (B : Int → Int) (len nt : Int) (o : Bool) (cl : Int → Int → OCR) (b : Int) (g2 : gM) : Prop := (∃ e, pAll (tT B len) nt cl = .inl e ∧ b = tP B len e.toNat ∧ 0 ≤ e ∧ 0 ≤ b) ∨ (b = -1 ∧ ∃ L Lc, pAll (tT B len) nt cl = .inr L ∧ (L.length ≤ 12 ∧ 1 ≤ L.length) ∧ g2 152 0 = L.length ∧ g2 152 1 = Lc ∧ Lc ≤ 400 ∧ dfL o g2 0 0 L Lc ∧ g2 152 2 = lbV o 0 (L.flatMap ocK))
theorem whW_i {T : Int → Int} {test : Int → Int → PR} {p n h : Int} {c : PK} {s : PS} {c2 : PK} {s2 : PS} {t p2 n2 : Int} {k : PK} (hq : (T p = 4 ∧ ∃ q, test (p + 1) n = .inr (p2, n2, k, q)) ∨ (¬ T p = 4 ∧ p2 = p ∧ n2 = n ∧ k = [])) : ∃ x : OC, whW T test (.inr (p, n, h, c, s, c2, s2, t)) = .inr (p2, n2, x) ∧ x.1 = h ∧ x.2.1 = c ∧ x.2.2.2.1 = c2 ∧ x.2.2.2.2.2.1 = t ∧ x.2.2.2.2.2.2.1.getD [] = k := by
  show ∃ x : OC, pOWhen T test h c s c2 s2 t p n = _ ∧ _
  unfold pOWhen
  rcases hq with ⟨a, q, b⟩ | ⟨a, rfl, rfl, rfl⟩
  · rw [if_pos a, b]; exact ⟨_, rfl, rfl, rfl, rfl, rfl, rfl⟩
  · rw [if_neg a]; exact ⟨_, rfl, rfl, rfl, rfl, rfl, rfl⟩
theorem whW_e {T : Int → Int} {test : Int → Int → PR} {p n h : Int} {c : PK} {s : PS} {c2 : PK} {s2 : PS} {t e : Int} (h4 : T p = 4) (ht : test (p + 1) n = .inl e) : whW T test (.inr (p, n, h, c, s, c2, s2, t)) = .inl e := by
  show pOWhen T test h c s c2 s2 t p n = _
  unfold pOWhen
  rw [if_pos h4, ht]
/-- a clause was read -/
theorem rdI.step {B : Int → Int} {len nt : Int} {o : Bool} {cl : Int → Int → OCR} {g0 : gM} {i : Int} {L : List OC} {p n Lc : Int} {f : Nat} {g1 : gM} (hI : rdI B len nt o cl g0 i L p n Lc f g1) (hi : i < 12) {x : OC} {p3 n3 w5 : Int} {g3 : gM} (hc : cl p n = .inr (p3, n3, x)) (hJ : ckI B len o i (gup (gup g1 152 0 (i + 1)) 154 i 1) Lc (ocK x) p3 n3 (x.1 - (if o = true then 22 else 1)) x.2.2.2.2.2.1 (Lc + x.2.1.length) (Lc + (x.2.1 ++ x.2.2.2.1).length) w5 g3) (h5 : w5 = Lc + (ocK x).length) : ((L ++ [x]).length : Int) = i + 1 ∧ rdA g0 g3 ∧ g3 151 3 = (if o = true then 0 else 1) ∧ cS B len 0 p3 n3 (Lc + (ocK x).length) g3 ∧ dfL o g3 0 0 (L ++ [x]) (Lc + (ocK x).length) ∧ g3 155 ((i + 1) * 3) = Lc + (ocK x).length ∧ g3 152 2 = lbV o 0 ((L ++ [x]).flatMap ocK) ∧ pAllL (tT B len) nt cl f p3 n3 (L ++ [x]) = pAll (tT B len) nt cl ∧ g3 152 0 = ((L ++ [x]).length : Int) := by
  obtain ⟨a1, a2, a3, a4, a5, a6, a7, a8, a9, a10⟩ := hI
  obtain ⟨b1, b2, b3, b4, b5, q1, q2, q3, q4, q5⟩ := hJ
  have hlen : ((L ++ [x]).length : Int) = i + 1 := by rw [List.length_append, List.length_singleton]; omega
  have ge : ∀ a k, a ≠ 152 → ¬ (a = 154 ∧ k = i) → gup (gup g1 152 0 (i + 1)) 154 i 1 a k = g1 a k := fun a k z z2 => by
    by_cases z3 : a = 154
    · subst z3; rw [gup_k _ _ _ _ (by omega), gup_a _ _ _ _ _ (by decide)]
    · rw [gup_a _ _ _ _ _ z3, gup_a _ _ _ _ _ z]
  have g152 : ∀ k, k ≠ 0 → gup (gup g1 152 0 (i + 1)) 154 i 1 152 k = g1 152 k := fun k z => by rw [gup_a _ _ _ _ _ (by decide), gup_k _ _ _ _ z]
  refine ⟨hlen, (((a2.up _ (Or.inr (Or.inl ⟨rfl, by decide, by decide⟩))).up _ (Or.inr (Or.inr ⟨by decide, by decide⟩))).tr b1.rd), ((b1 _ _ (by omega) (by omega) (by decide) (by decide) (by omega) (by omega) (by omega)).trans (ge _ _ (by decide) (by omega))).trans a3, b2, ?_, ?_, ?_, ?_, ?_⟩
  · refine dfL_snoc L 0 0 Lc (dfL_ext (m := i) (w := Lc) (fun k hk => ?_) (fun k hk => ?_) (fun k hk => ?_) (fun k hk => ?_) L 0 0 Lc (by omega) (Int.le_refl _) a6) ?_
    · rw [b1 _ _ (by omega) (by omega) (by decide) (by decide) (by omega) (by omega) (by omega)]; exact ge _ _ (by decide) (by omega)
    · rw [b1 _ _ (by omega) (by omega) (by decide) (by decide) (by omega) (by omega) (by omega)]; exact ge _ _ (by decide) (by omega)
    · rw [b1 _ _ (by omega) (by omega) (by decide) (by decide) (by omega) (by omega) (by omega)]; exact ge _ _ (by decide) (by omega)
    · rw [(b4 k hk).1, (b4 k hk).2]; exact ⟨ge _ _ (by decide) (by omega), ge _ _ (by decide) (by omega)⟩
    · rw [show (0 : Int) + L.length = i by omega]
      refine ⟨q1, q2, ?_, ?_, ?_, ?_, b3⟩
      · rw [b1 _ _ (by omega) (by omega) (by decide) (by decide) (by omega) (by omega) (by omega)]; exact (ge _ _ (by decide) (by omega)).trans a7
      · rw [show i * 3 + 1 = i * 3 + 0 + 1 by omega]; exact q3
      · rw [show i * 3 + 2 = i * 3 + 1 + 1 by omega]; exact q4
      · rw [show i * 3 + 3 = i * 3 + 2 + 1 by omega, q5]; exact h5
  · rw [show (i + 1) * 3 = i * 3 + 2 + 1 by omega, q5]; exact h5
  · rw [b5, g152 _ (by decide), a8, List.flatMap_append, ← lbV_app]
    show _ = lbV o _ (ocK x ++ [])
    rw [List.append_nil]
  · rw [← a9, pAn_i (by omega) hc]
  · rw [b1 _ _ (by omega) (by omega) (by decide) (by decide) (by omega) (by omega) (by omega), gup_a _ _ _ _ _ (by decide), gup_s, hlen]
set_option maxHeartbeats 8000000 in
theorem rc_readL {sh : gS} (hx : gFix sh) {g : gM} (hf0 : gFin g) {B : Int → Int} {len nt : Int} (hB : ∀ j, 0 ≤ j → j < 400 → g 150 j = B j ∧ 0 ≤ B j ∧ B j ≤ 255) (hl : 0 ≤ len ∧ len ≤ 400) (h149 : g 149 1 = len) (hnt : ntK B len nt) (hfw : ∀ p n p2 n2 c, whW (tT B len) (pTest (tT B len) (tW B len) false 8) (hdL (tT B len) (pSum (tT B len) (tW B len) false 8) p n) = .inr (p2, n2, c) → p < p2 ∧ p2 ≤ nt) : gTri f_Reader_read 40 0 0 [(2, 151), (2, 149), (0, 1)] sh g (fun x s2 g2 => ∃ b, x = some (0, b) ∧ s2 = sh ∧ rdA g g2 ∧ rdV B len nt false (fun p n => whW (tT B len) (pTest (tT B len) (tW B len) false 8) (hdL (tT B len) (pSum (tT B len) (tW B len) false 8) p n)) b g2) := by
  have hf := hf0
  have hk := hnt.ok
  have hnl := hnt.1
  have hnt4 : nt ≤ 400 := by omega
  obtain ⟨cl, hcl⟩ : ∃ f : Int → Int → OCR, f = (fun p n => whW (tT B len) (pTest (tT B len) (tW B len) false 8) (hdL (tT B len) (pSum (tT B len) (tW B len) false 8) p n)) := ⟨_, rfl⟩
  have hclp : ∀ p n, cl p n = whW (tT B len) (pTest (tT B len) (tW B len) false 8) (hdL (tT B len) (pSum (tT B len) (tW B len) false 8) p n) := fun p n => by rw [hcl]
  have hfw2 : ∀ p n p2 n2 c, cl p n = .inr (p2, n2, c) → p < p2 ∧ p2 ≤ nt := fun p n p2 n2 c z => hfw p n p2 n2 c ((hclp p n).symm.trans z)
  rw [← hcl]
  refine gTri.of (by decide +kernel) rfl ?_
  show gWP f_Reader_read _ _ _ 0 [(2, 151), (2, 149), (0, 1), (9, 0)] [] sh g _
  refine gw_aload_n (gc k_Reader_read_0 0 rfl) rfl rfl ?_
  refine gw_getref (gc k_Reader_read_0 1 rfl) fl_Reader_22 (gAt hx rfl rfl) (gRf hf rfl rfl) ?_
  refine gw_iconst (gc k_Reader_read_0 2 rfl) ?_
  refine gw_aload_n (gc k_Reader_read_0 3 rfl) rfl rfl ?_
  refine gw_getref (gc k_Reader_read_0 4 rfl) fl_Reader_18 (gAt hx rfl rfl) (gRf hf rfl rfl) ?_
  refine gw_iconst (gc k_Reader_read_0 5 rfl) ?_
  refine gw_sipush (gc k_Reader_read_0 6 rfl) (by decide) ?_
  refine gw_copy (gc k_Reader_read_0 7 rfl) ln_Reader_25 (gm3 90 rfl rfl) (gm3 89 rfl rfl) (gm1 15 rfl rfl) (gAt hx rfl rfl) (gAt hx rfl rfl) (by omega) rfl rfl ?_
  obtain ⟨GA, hGA⟩ : ∃ M, M = gfr g 158 (fun y => if 0 ≤ y ∧ y < 0 + 400 then g 150 (0 + (y - 0)) else g 158 y) := ⟨_, rfl⟩
  rw [← hGA]
  have hfA : gFin GA := by rw [hGA]; exact hf0.fr (fun _ => rfl)
  have hf := hfA
  refine gw_aload_n (gc k_Reader_read_0 8 rfl) rfl rfl ?_
  refine gw_aload_n (gc k_Reader_read_0 9 rfl) rfl rfl ?_
  refine gw_getf 1 rfl (gc k_Reader_read_0 10 rfl) fl_Reader_31 (gAt hx rfl rfl) ?_
  rw [show GA 149 1 = len by rw [hGA, gfr_a _ _ _ _ (by decide)]; exact h149]
  refine gw_putIK 2 rfl (gc k_Reader_read_0 11 rfl) fl_Reader_35 (gAt hx rfl rfl) hf rfl (fun hf => ?_)
  refine gw_aload_n (gc k_Reader_read_0 12 rfl) rfl rfl ?_
  refine gw_iload_n (gc k_Reader_read_0 13 rfl) rfl ?_
  refine gw_putZK 3 rfl (gc k_Reader_read_0 14 rfl) fl_Reader_36 (gAt hx rfl rfl) (by omega) hf rfl (fun hf => ?_)
  refine gw_aload_n (gc k_Reader_read_0 15 rfl) rfl rfl ?_
  refine gw_iconst (gc k_Reader_read_0 16 rfl) ?_
  refine gw_putIK 6 rfl (gc k_Reader_read_0 17 rfl) fl_Reader_40 (gAt hx rfl rfl) hf rfl (fun hf => ?_)
  refine gw_aload_n (gc k_Reader_read_0 18 rfl) rfl rfl ?_
  refine gw_iconst (gc k_Reader_read_0 19 rfl) ?_
  refine gw_putIK 8 rfl (gc k_Reader_read_0 20 rfl) fl_Reader_43 (gAt hx rfl rfl) hf rfl (fun hf => ?_)
  refine gw_aload_n (gc k_Reader_read_0 21 rfl) rfl rfl ?_
  refine gw_getref (gc k_Reader_read_0 22 rfl) fl_Reader_12 (gAt hx rfl rfl) (gRf hf rfl rfl) ?_
  refine gw_iconst (gc k_Reader_read_0 23 rfl) ?_
  refine gw_putIK 0 rfl (gc k_Reader_read_0 24 rfl) fl_Reader_46 (gAt hx rfl rfl) hf rfl (fun hf => ?_)
  refine gw_aload_n (gc k_Reader_read_0 25 rfl) rfl rfl ?_
  refine gw_getref (gc k_Reader_read_0 26 rfl) fl_Reader_12 (gAt hx rfl rfl) (gRf hf rfl rfl) ?_
  refine gw_iconst (gc k_Reader_read_0 27 rfl) ?_
  refine gw_putIK 1 rfl (gc k_Reader_read_0 28 rfl) fl_Reader_49 (gAt hx rfl rfl) hf rfl (fun hf => ?_)
  refine gw_aload_n (gc k_Reader_read_0 29 rfl) rfl rfl ?_
  refine gw_getref (gc k_Reader_read_0 30 rfl) fl_Reader_12 (gAt hx rfl rfl) (gRf hf rfl rfl) ?_
  refine gw_iconst (gc k_Reader_read_0 31 rfl) ?_
  refine gw_putZK 2 rfl (gc k_Reader_read_0 32 rfl) fl_Reader_50 (gAt hx rfl rfl) (by omega) hf rfl (fun hf => ?_)
  refine gw_aload_n (gc k_Reader_read_0 33 rfl) rfl rfl ?_
  refine gw_getref (gc k_Reader_read_0 34 rfl) fl_Reader_12 (gAt hx rfl rfl) (gRf hf rfl rfl) ?_
  refine gw_getref (gc k_Reader_read_0 35 rfl) fl_Reader_53 (gAt hx rfl rfl) (gRf hf rfl rfl) ?_
  refine gw_iconst (gc k_Reader_read_0 36 rfl) ?_
  refine gw_iconst (gc k_Reader_read_0 37 rfl) ?_
  refine gw_iastF (gc k_Reader_read_0 38 rfl) (gAt hx rfl rfl) (by omega) hf rfl (fun hf => ?_)
  refine gw_aload_n (gc k_Reader_read_0 39 rfl) rfl rfl ?_
  obtain ⟨MZ, hMZ⟩ : ∃ M, M = gup (gup (gup (gup (gup (gup (gup (gup GA 151 2 len) 151 3 1) 151 6 0) 151 8 0) 152 0 0) 152 1 0) 152 2 0) 155 0 0 := ⟨_, rfl⟩
  have hGZ : rdA g MZ := by
    rw [hMZ, hGA]
    exact (((((((((rdA.rf g).fr _ ⟨by decide, by decide⟩).up _ (Or.inl ⟨rfl, by decide, by decide⟩)).up _ (Or.inl ⟨rfl, by decide, by decide⟩)).up _ (Or.inl ⟨rfl, by decide, by decide⟩)).up _ (Or.inl ⟨rfl, by decide, by decide⟩)).up _ (Or.inr (Or.inl ⟨rfl, by decide, by decide⟩))).up _ (Or.inr (Or.inl ⟨rfl, by decide, by decide⟩))).up _ (Or.inr (Or.inl ⟨rfl, by decide, by decide⟩))).up _ (Or.inr (Or.inr ⟨by decide, by decide⟩))
  have z2 : MZ 151 2 = len := by rw [hMZ]; rfl
  have z3 : MZ 151 3 = 1 := by rw [hMZ]; rfl
  have z6 : MZ 151 6 = 0 := by rw [hMZ]; rfl
  have z8 : MZ 151 8 = 0 := by rw [hMZ]; rfl
  have y1 : MZ 152 1 = 0 := by rw [hMZ]; rfl
  have y2 : MZ 152 2 = 0 := by rw [hMZ]; rfl
  have y5 : MZ 155 0 = 0 := by rw [hMZ]; rfl
  have y8 : ∀ j, 0 ≤ j → j < 400 → MZ 158 j = B j := fun j a b => by
    have e : MZ 158 j = GA 158 j := by rw [hMZ]; rfl
    rw [e, hGA, gfr_s]
    exact (if_pos (show 0 ≤ j ∧ j < 0 + 400 by omega)).trans ((congrArg (g 150) (by omega)).trans (hB j a b).1)
  have hBZ : rcB B len MZ := ⟨hl, z2, y8, fun j a b => (hB j a b).2⟩
  have hfZ : gFin MZ := by rw [hMZ]; exact (((((((hfA.up rfl).up rfl).up rfl).up rfl).up rfl).up rfl).up rfl).up rfl
  rw [← hMZ]
  refine gw_xV1 (gc k_Reader_read_1 0 rfl) y_Reader_advance ln_Reader_56 (c_Reader_advance hx hfZ hBZ 0 (by omega) z6) rfl rfl (gAt hx rfl rfl) rfl (gble (by omega)) (fun r74 sh2 g74 hq74 => ?_)
  obtain ⟨rfl, rfl, hF0, hP0⟩ := hq74
  have hf := hF0.fin hfZ
  refine gw_iconst (gc k_Reader_read_1 1 rfl) ?_
  refine gw_istore_3 (gc k_Reader_read_1 2 rfl) rfl rfl ?_
  refine gwloop (σ := Int × (List OC) × Int × Int × Int × Nat × gM) (fun zs => (0 ≤ (zs.1) ∧ (zs.1) ≤ 12) ∧ rdI B len nt false cl g (zs.1) (zs.2.1) (zs.2.2.1) (zs.2.2.2.1) (zs.2.2.2.2.1) (zs.2.2.2.2.2.1) (zs.2.2.2.2.2.2)) (fun zs => (12 - (zs.1)).toNat) (fun zs => [(2, 151), (2, 149), (0, 1), (0, (zs.1))]) (fun zs => (zs.2.2.2.2.2.2)) (0, [], 0, 0, 0, 401, g74) (show (0 ≤ (0 : Int) ∧ (0 : Int) ≤ 12) ∧ rdI B len nt false cl g (0 : Int) ([]) (0 : Int) (0 : Int) (0 : Int) (401 : Nat) g74 from ⟨⟨by decide, by decide⟩, rfl, hGZ.tr ((hF0.cl.g 0).rd), (hF0 _ _ (by omega)).trans z3, ⟨hBZ.f hF0, hP0, (hF0 _ _ (by omega)).trans z8, (hF0 _ _ (by omega)).trans y1, by decide, by decide, by decide⟩, hnl.1, rfl, (hF0 _ _ (by omega)).trans y5, (hF0 _ _ (by omega)).trans y2, pAn_0 _ _ _, by decide⟩) rfl rfl (fun zs hI ih => ?_)
  obtain ⟨i, L, p, n, Lc, f, g1⟩ := zs
  replace hI : (0 ≤ i ∧ i ≤ 12) ∧ rdI B len nt false cl g i L p n Lc f g1 := hI
  obtain ⟨hi, hI⟩ := hI
  show gWP _ _ _ _ _ [(2, 151), (2, 149), (0, 1), (0, i)] [] _ (g1) _
  have hI1 := hI.2.1
  have hf1 : gFin g1 := by
    refine hf0.of fun a k z => hI1 a k (fun q => z ?_) (fun q => z ?_) (fun q => z ?_)
    · obtain rfl : a = 151 := by omega
      rcases (show k = 2 ∨ k = 3 ∨ k = 4 ∨ k = 5 ∨ k = 6 ∨ k = 7 ∨ k = 8 by omega) with y | y | y | y | y | y | y <;> (subst y; rfl)
    · obtain rfl : a = 152 := by omega
      rcases (show k = 0 ∨ k = 1 ∨ k = 2 by omega) with y | y | y <;> (subst y; rfl)
    · rcases (show a = 153 ∨ a = 154 ∨ a = 155 ∨ a = 156 ∨ a = 157 ∨ a = 158 by omega) with y | y | y | y | y | y <;> (subst y; rfl)
  have hIS := hI.2.2.2.1
  have hIp := hI.2.2.2.2.1
  have hI10 := hI.2.2.2.2.2.2.2.2.2
  have hI9 := hI.2.2.2.2.2.2.2.2.1
  have hI0 := hI.1
  have hf := hf1
  refine gw_iload_n (gc k_Reader_read_1 3 rfl) rfl ?_
  refine gw_bipush (gc k_Reader_read_1 4 rfl) (by decide) ?_
  refine gw_icmp_ge (tgt := 173) (gc k_Reader_read_1 5 rfl) rfl (by omega) (fun c82 => ?_) (fun c82 => ?_)
  · refine gw_aload_n (gc k_Reader_read_2 11 rfl) rfl rfl ?_
    refine gw_getf 5 rfl (gc k_Reader_read_2 12 rfl) fl_Reader_72 (gAt hx rfl rfl) ?_
    refine gw_ireturn (gc k_Reader_read_2 13 rfl) rfl ?_
    have hpe := tP_bd B hl.1 p.toNat
    rw [hIS.2.1.1]
    exact ⟨_, rfl, rfl, hI1, Or.inl ⟨p, by rw [← hI9, pAn_full (by omega)], rfl, hIS.2.2.2.2.1.1, hpe.1⟩⟩
  · refine gw_aload_n (gc k_Reader_read_1 6 rfl) rfl rfl ?_
    refine gw_getref (gc k_Reader_read_1 7 rfl) fl_Reader_12 (gAt hx rfl rfl) (gRf hf rfl rfl) ?_
    refine gw_iload_n (gc k_Reader_read_1 8 rfl) rfl ?_
    refine gw_iconst (gc k_Reader_read_1 9 rfl) ?_
    refine gw_iadd (gc k_Reader_read_1 10 rfl) ?_
    refine gw_putIK 0 rfl (gc k_Reader_read_1 11 rfl) fl_Reader_46 (gAt hx rfl rfl) hf rfl (fun hf => ?_)
    refine gw_aload_n (gc k_Reader_read_1 12 rfl) rfl rfl ?_
    refine gw_getref (gc k_Reader_read_1 13 rfl) fl_Reader_12 (gAt hx rfl rfl) (gRf hf rfl rfl) ?_
    refine gw_getref (gc k_Reader_read_1 14 rfl) fl_Reader_59 (gAt hx rfl rfl) (gRf hf rfl rfl) ?_
    refine gw_iload_n (gc k_Reader_read_1 15 rfl) rfl ?_
    refine gw_iconst (gc k_Reader_read_1 16 rfl) ?_
    refine gw_iastF (gc k_Reader_read_1 17 rfl) (gAt hx rfl rfl) (by omega) hf rfl (fun hf => ?_)
    obtain ⟨MC, hMC⟩ : ∃ M, M = gup (gup g1 152 0 (i + 1)) 154 i 1 := ⟨_, rfl⟩
    have hfC : gFin MC := by rw [hMC]; exact (hf1.up rfl).up rfl
    have h3C : MC 151 3 = 1 := by rw [hMC, gup_fn _ _ _ _ (by decide), gup_fn _ _ _ _ (by decide)]; exact hI.2.2.1
    have hSC : cS B len 0 p n Lc MC := by
      obtain ⟨b1, b2, b3, b4, b5⟩ := hIS
      have e151 : MC 151 = g1 151 := by rw [hMC, gup_fn _ _ _ _ (by decide), gup_fn _ _ _ _ (by decide)]
      have e1521 : MC 152 1 = g1 152 1 := by rw [hMC, gup_fn _ _ _ _ (by decide), gup_k _ _ _ _ (by decide)]
      have e158 : MC 158 = g1 158 := by rw [hMC, gup_fn _ _ _ _ (by decide), gup_fn _ _ _ _ (by decide)]
      exact ⟨b1.of (by rw [e151]) e158, b2.of (fun k _ _ => by rw [e151]), by rw [e151]; exact b3, by rw [e1521]; exact b4, b5⟩
    have hlC : MC 152 2 = 0 ∨ MC 152 2 = 1 := by rw [hMC, gup_fn _ _ _ _ (by decide), gup_k _ _ _ _ (by decide), hI.2.2.2.2.2.2.2.1]; exact lbV_01 _ _ _
    have h4C : MC 154 i = 1 := by rw [hMC]; exact gup_s _ _ _ _
    have hrdC : rdA g MC := by rw [hMC]; exact (hI1.up _ (Or.inr (Or.inl ⟨rfl, by decide, by decide⟩))).up _ (Or.inr (Or.inr ⟨by decide, by decide⟩))
    rw [← hMC]
    have hf := hfC
    refine gw_aload_n (gc k_Reader_read_1 18 rfl) rfl rfl ?_
    refine gw_getf 3 rfl (gc k_Reader_read_1 19 rfl) fl_Reader_36 (gAt hx rfl rfl) ?_
    rw [h3C]
    refine gw_if_eq (tgt := 123) (gc k_Reader_read_1 20 rfl) rfl (by omega) (fun c109 => ?_) (fun c109 => ?_)
    · exact absurd c109 (by decide)
    · refine gw_aload_n (gc k_Reader_read_1 21 rfl) rfl rfl ?_
      refine gw_iload_n (gc k_Reader_read_1 22 rfl) rfl ?_
      refine gw_xV1 (gc k_Reader_read_1 23 rfl) y_Reader_lawClause ln_Reader_62 (ck_lawClause hx hk hnt4 (by omega) hfC h3C hSC hlC h4C (D := 36) (by omega) (by omega) (rc_sum8 hx hk hnt4)) rfl rfl (gAt hx rfl rfl) rfl (gble (by omega)) (fun r114 sh2 g114 hq114 => ?_)
      obtain ⟨rfl, v1, rfl, hv101, hcG, hQ1⟩ := hq114
      have hf := hcG.fin hfC
      refine gw_if_eq (tgt := 139) (gc k_Reader_read_1 24 rfl) rfl (by omega) (fun c117 => ?_) (fun c117 => ?_)
      · refine gw_aload_n (gc k_Reader_read_1 34 rfl) rfl rfl ?_
        refine gw_getf 5 rfl (gc k_Reader_read_1 35 rfl) fl_Reader_72 (gAt hx rfl rfl) ?_
        refine gw_ireturn (gc k_Reader_read_1 36 rfl) rfl ?_
        obtain ⟨e, hr, hPe, he0⟩ := orR hQ1 c117
        clear hQ1
        rw [hPe.1]
        have hpe := tP_bd B hl.1 e.toNat
        exact ⟨_, rfl, rfl, hrdC.tr hcG.rd, Or.inl ⟨e, by rw [← hI9, pAn_e (by omega) (by rw [hclp, hr]; rfl)], rfl, he0, hpe.1⟩⟩
      · refine gw_goto (tgt := 131) (gc k_Reader_read_1 25 rfl) rfl ?_
        obtain ⟨p2, n2, h, c, s, c2, s2, t, w5, hr, hJ1⟩ := orL hQ1 c117
        clear hQ1
        refine gw_aload_n (gc k_Reader_read_1 30 rfl) rfl rfl ?_
        refine gw_iload_n (gc k_Reader_read_1 31 rfl) rfl ?_
        refine gw_xV1 (gc k_Reader_read_1 32 rfl) y_Reader_condition ln_Reader_69 (ck_condition hx (by omega) hfC hJ1 (h3C.trans (by rfl)) (D := 39) (by omega) (by omega) (rc_test8 hx hk hnt4)) rfl rfl (gAt hx rfl rfl) rfl (gble (by omega)) (fun r133 sh2 g133 hq133 => ?_)
        obtain ⟨rfl, v2, rfl, hv201, hcG2, hQ2⟩ := hq133
        have hf := hcG2.fin hfC
        refine gw_if_ne (tgt := 144) (gc k_Reader_read_1 33 rfl) rfl (by omega) (fun c136 => ?_) (fun c136 => ?_)
        · obtain ⟨p3, n3, k, s3, hr2, hJ2⟩ := orL hQ2 c136
          clear hQ2
          obtain ⟨x, hx1, rfl, rfl, rfl, rfl, rfl⟩ := whW_i (T := tT B len) (test := (pTest (tT B len) (tW B len) false 8)) (p := p2) (n := n2) (h := h) (c := c) (s := s) (c2 := c2) (s2 := s2) (t := t) (p2 := p3) (n2 := n3) (k := k) (hr2.elim (fun z => Or.inl ⟨z.1, s3, z.2⟩) Or.inr)
          clear hr2
          have hc : cl p n = .inr (p3, n3, x) := by rw [hclp, hr, hx1]
          have hp3 := hfw2 _ _ _ _ _ hc
          rw [hMC] at hJ2
          obtain ⟨d1, d2, d3, d4, d5, d6, d7, d8, d9⟩ := hI.step (by omega) hc hJ2 rfl
          obtain ⟨k1, k2, k3, k4, k5⟩ := ck_val d4.1 d4.2.2.2.2.1.1 d4.2.1
          have hn3 := hnt.2 p3 d4.2.2.2.2.1.1
          have hkp3 := hk p3
          obtain ⟨f, rfl⟩ : ∃ q, f = q + 1 := ⟨f - 1, by omega⟩
          refine gw_aload_n (gc k_Reader_read_1 37 rfl) rfl rfl ?_
          refine gw_getf 4 rfl (gc k_Reader_read_1 38 rfl) fl_Reader_75 (gAt hx rfl rfl) ?_
          refine gw_if_ne (tgt := 153) (gc k_Reader_read_1 39 rfl) rfl (by omega) (fun c148 => ?_) (fun c148 => ?_)
          · refine gw_aload_n (gc k_Reader_read_2 2 rfl) rfl rfl ?_
            refine gw_bipush (gc k_Reader_read_2 3 rfl) (by decide) ?_
            refine gw_xV1 (gc k_Reader_read_2 4 rfl) y_Reader_takeSign ln_Reader_78 (c_Reader_takeSign hx hf d4.1 p3 d4.2.2.2.2.1.1 d4.2.1 59 (by omega)) rfl rfl (gAt hx rfl rfl) rfl (gble (by omega)) (fun r156 sh2 g156 hq156 => ?_)
            rw [show (100 : Int) + 59 = 159 from rfl] at hq156
            obtain ⟨rfl, rfl, hF9, hP9⟩ := hq156
            have hf := hF9.fin hf
            refine gw_bne (tgt := 167) (gc k_Reader_read_2 5 rfl) rfl (fun c159 => ?_) (fun c159 => ?_)
            · refine gw_iinc_3 (gc k_Reader_read_2 9 rfl) rfl rfl ?_
              refine gw_goto (tgt := 79) (gc k_Reader_read_2 10 rfl) rfl ?_
              rw [if_pos c159] at hP9
              rw [pA_n c159] at d8
              obtain ⟨b1, b2, b3, b4, b5, b6, b7⟩ := d4
              exact ih (i + 1, L ++ [x], p3 + 1, n3, Lc + ((ocK x).length : Int), f, g156) (show (0 ≤ (i + 1) ∧ (i + 1) ≤ 12) ∧ rdI B len nt false cl g (i + 1) (L ++ [x]) (p3 + 1) n3 (Lc + ((ocK x).length : Int)) f g156 from ⟨by omega, d1, d2.tr ((hF9.cl.g 0).rd), (hF9 _ _ (by omega)).trans d3, ⟨b1.f hF9, hP9, (hF9 _ _ (by omega)).trans b3, (hF9 _ _ (by omega)).trans b4, by omega, b6, by omega⟩, by have := hkp3 (by omega); omega, dfL_ext (m := i + 1) (w := Lc + ((ocK x).length : Int)) (fun k _ => hF9 _ _ (by omega)) (fun k _ => hF9 _ _ (by omega)) (fun k _ => hF9 _ _ (by omega)) (fun k _ => ⟨hF9 _ _ (by omega), hF9 _ _ (by omega)⟩) _ 0 0 _ (by omega) (Int.le_refl _) d5, (hF9 _ _ (by omega)).trans d6, (hF9 _ _ (by omega)).trans d7, d8, by omega⟩) (show (12 - (i + 1)).toNat < (12 - i).toNat from by omega)
            · refine gw_aload_n (gc k_Reader_read_2 6 rfl) rfl rfl ?_
              refine gw_getf 5 rfl (gc k_Reader_read_2 7 rfl) fl_Reader_72 (gAt hx rfl rfl) ?_
              refine gw_ireturn (gc k_Reader_read_2 8 rfl) rfl ?_
              rw [if_neg c159] at hP9
              have hpe := tP_bd B hl.1 p3.toNat
              rw [hP9.1]
              exact ⟨_, rfl, rfl, d2.tr ((hF9.cl.g 0).rd), Or.inl ⟨p3, by rw [← d8, pA_f c159 (by omega)], rfl, d4.2.2.2.2.1.1, hpe.1⟩⟩
          · refine gw_iconst (gc k_Reader_read_2 0 rfl) ?_
            refine gw_ireturn (gc k_Reader_read_2 1 rfl) rfl ?_
            have hN : ¬ tT B len p3 = 159 := fun z => by have := hkp3 (by omega); omega
            exact ⟨-1, rfl, rfl, d2, Or.inr ⟨rfl, _, _, by rw [← d8, pA_d hN (by omega)], ⟨by omega, by omega⟩, d9, d4.2.2.2.1, by have := d4.2.2.2.2.2.2; omega, d5, d7⟩⟩
        · refine gw_aload_n (gc k_Reader_read_1 34 rfl) rfl rfl ?_
          refine gw_getf 5 rfl (gc k_Reader_read_1 35 rfl) fl_Reader_72 (gAt hx rfl rfl) ?_
          refine gw_ireturn (gc k_Reader_read_1 36 rfl) rfl ?_
          obtain ⟨h4, e, ht, hPe, he0⟩ := orR hQ2 c136
          clear hQ2
          rw [hPe.1]
          have hpe := tP_bd B hl.1 e.toNat
          exact ⟨_, rfl, rfl, hrdC.tr hcG2.rd, Or.inl ⟨e, by rw [← hI9, pAn_e (by omega) (by rw [hclp, hr]; exact whW_e h4 ht)], rfl, he0, hpe.1⟩⟩
set_option maxHeartbeats 8000000 in
theorem rc_readO {sh : gS} (hx : gFix sh) {g : gM} (hf0 : gFin g) {B : Int → Int} {len nt : Int} (hB : ∀ j, 0 ≤ j → j < 400 → g 150 j = B j ∧ 0 ≤ B j ∧ B j ≤ 255) (hl : 0 ≤ len ∧ len ≤ 400) (h149 : g 149 1 = len) (hnt : ntK B len nt) (hfw : ∀ p n p2 n2 c, whW (tT B len) (pTest (tT B len) (tW B len) true 8) (hdO (tT B len) (tW B len) (pSum (tT B len) (tW B len) true 8) p n) = .inr (p2, n2, c) → p < p2 ∧ p2 ≤ nt) : gTri f_Reader_read 40 0 0 [(2, 151), (2, 149), (0, 0)] sh g (fun x s2 g2 => ∃ b, x = some (0, b) ∧ s2 = sh ∧ rdA g g2 ∧ rdV B len nt true (fun p n => whW (tT B len) (pTest (tT B len) (tW B len) true 8) (hdO (tT B len) (tW B len) (pSum (tT B len) (tW B len) true 8) p n)) b g2) := by
  have hf := hf0
  have hk := hnt.ok
  have hnl := hnt.1
  have hnt4 : nt ≤ 400 := by omega
  obtain ⟨cl, hcl⟩ : ∃ f : Int → Int → OCR, f = (fun p n => whW (tT B len) (pTest (tT B len) (tW B len) true 8) (hdO (tT B len) (tW B len) (pSum (tT B len) (tW B len) true 8) p n)) := ⟨_, rfl⟩
  have hclp : ∀ p n, cl p n = whW (tT B len) (pTest (tT B len) (tW B len) true 8) (hdO (tT B len) (tW B len) (pSum (tT B len) (tW B len) true 8) p n) := fun p n => by rw [hcl]
  have hfw2 : ∀ p n p2 n2 c, cl p n = .inr (p2, n2, c) → p < p2 ∧ p2 ≤ nt := fun p n p2 n2 c z => hfw p n p2 n2 c ((hclp p n).symm.trans z)
  rw [← hcl]
  refine gTri.of (by decide +kernel) rfl ?_
  show gWP f_Reader_read _ _ _ 0 [(2, 151), (2, 149), (0, 0), (9, 0)] [] sh g _
  refine gw_aload_n (gc k_Reader_read_0 0 rfl) rfl rfl ?_
  refine gw_getref (gc k_Reader_read_0 1 rfl) fl_Reader_22 (gAt hx rfl rfl) (gRf hf rfl rfl) ?_
  refine gw_iconst (gc k_Reader_read_0 2 rfl) ?_
  refine gw_aload_n (gc k_Reader_read_0 3 rfl) rfl rfl ?_
  refine gw_getref (gc k_Reader_read_0 4 rfl) fl_Reader_18 (gAt hx rfl rfl) (gRf hf rfl rfl) ?_
  refine gw_iconst (gc k_Reader_read_0 5 rfl) ?_
  refine gw_sipush (gc k_Reader_read_0 6 rfl) (by decide) ?_
  refine gw_copy (gc k_Reader_read_0 7 rfl) ln_Reader_25 (gm3 90 rfl rfl) (gm3 89 rfl rfl) (gm1 15 rfl rfl) (gAt hx rfl rfl) (gAt hx rfl rfl) (by omega) rfl rfl ?_
  obtain ⟨GA, hGA⟩ : ∃ M, M = gfr g 158 (fun y => if 0 ≤ y ∧ y < 0 + 400 then g 150 (0 + (y - 0)) else g 158 y) := ⟨_, rfl⟩
  rw [← hGA]
  have hfA : gFin GA := by rw [hGA]; exact hf0.fr (fun _ => rfl)
  have hf := hfA
  refine gw_aload_n (gc k_Reader_read_0 8 rfl) rfl rfl ?_
  refine gw_aload_n (gc k_Reader_read_0 9 rfl) rfl rfl ?_
  refine gw_getf 1 rfl (gc k_Reader_read_0 10 rfl) fl_Reader_31 (gAt hx rfl rfl) ?_
  rw [show GA 149 1 = len by rw [hGA, gfr_a _ _ _ _ (by decide)]; exact h149]
  refine gw_putIK 2 rfl (gc k_Reader_read_0 11 rfl) fl_Reader_35 (gAt hx rfl rfl) hf rfl (fun hf => ?_)
  refine gw_aload_n (gc k_Reader_read_0 12 rfl) rfl rfl ?_
  refine gw_iload_n (gc k_Reader_read_0 13 rfl) rfl ?_
  refine gw_putZK 3 rfl (gc k_Reader_read_0 14 rfl) fl_Reader_36 (gAt hx rfl rfl) (by omega) hf rfl (fun hf => ?_)
  refine gw_aload_n (gc k_Reader_read_0 15 rfl) rfl rfl ?_
  refine gw_iconst (gc k_Reader_read_0 16 rfl) ?_
  refine gw_putIK 6 rfl (gc k_Reader_read_0 17 rfl) fl_Reader_40 (gAt hx rfl rfl) hf rfl (fun hf => ?_)
  refine gw_aload_n (gc k_Reader_read_0 18 rfl) rfl rfl ?_
  refine gw_iconst (gc k_Reader_read_0 19 rfl) ?_
  refine gw_putIK 8 rfl (gc k_Reader_read_0 20 rfl) fl_Reader_43 (gAt hx rfl rfl) hf rfl (fun hf => ?_)
  refine gw_aload_n (gc k_Reader_read_0 21 rfl) rfl rfl ?_
  refine gw_getref (gc k_Reader_read_0 22 rfl) fl_Reader_12 (gAt hx rfl rfl) (gRf hf rfl rfl) ?_
  refine gw_iconst (gc k_Reader_read_0 23 rfl) ?_
  refine gw_putIK 0 rfl (gc k_Reader_read_0 24 rfl) fl_Reader_46 (gAt hx rfl rfl) hf rfl (fun hf => ?_)
  refine gw_aload_n (gc k_Reader_read_0 25 rfl) rfl rfl ?_
  refine gw_getref (gc k_Reader_read_0 26 rfl) fl_Reader_12 (gAt hx rfl rfl) (gRf hf rfl rfl) ?_
  refine gw_iconst (gc k_Reader_read_0 27 rfl) ?_
  refine gw_putIK 1 rfl (gc k_Reader_read_0 28 rfl) fl_Reader_49 (gAt hx rfl rfl) hf rfl (fun hf => ?_)
  refine gw_aload_n (gc k_Reader_read_0 29 rfl) rfl rfl ?_
  refine gw_getref (gc k_Reader_read_0 30 rfl) fl_Reader_12 (gAt hx rfl rfl) (gRf hf rfl rfl) ?_
  refine gw_iconst (gc k_Reader_read_0 31 rfl) ?_
  refine gw_putZK 2 rfl (gc k_Reader_read_0 32 rfl) fl_Reader_50 (gAt hx rfl rfl) (by omega) hf rfl (fun hf => ?_)
  refine gw_aload_n (gc k_Reader_read_0 33 rfl) rfl rfl ?_
  refine gw_getref (gc k_Reader_read_0 34 rfl) fl_Reader_12 (gAt hx rfl rfl) (gRf hf rfl rfl) ?_
  refine gw_getref (gc k_Reader_read_0 35 rfl) fl_Reader_53 (gAt hx rfl rfl) (gRf hf rfl rfl) ?_
  refine gw_iconst (gc k_Reader_read_0 36 rfl) ?_
  refine gw_iconst (gc k_Reader_read_0 37 rfl) ?_
  refine gw_iastF (gc k_Reader_read_0 38 rfl) (gAt hx rfl rfl) (by omega) hf rfl (fun hf => ?_)
  refine gw_aload_n (gc k_Reader_read_0 39 rfl) rfl rfl ?_
  obtain ⟨MZ, hMZ⟩ : ∃ M, M = gup (gup (gup (gup (gup (gup (gup (gup GA 151 2 len) 151 3 0) 151 6 0) 151 8 0) 152 0 0) 152 1 0) 152 2 0) 155 0 0 := ⟨_, rfl⟩
  have hGZ : rdA g MZ := by
    rw [hMZ, hGA]
    exact (((((((((rdA.rf g).fr _ ⟨by decide, by decide⟩).up _ (Or.inl ⟨rfl, by decide, by decide⟩)).up _ (Or.inl ⟨rfl, by decide, by decide⟩)).up _ (Or.inl ⟨rfl, by decide, by decide⟩)).up _ (Or.inl ⟨rfl, by decide, by decide⟩)).up _ (Or.inr (Or.inl ⟨rfl, by decide, by decide⟩))).up _ (Or.inr (Or.inl ⟨rfl, by decide, by decide⟩))).up _ (Or.inr (Or.inl ⟨rfl, by decide, by decide⟩))).up _ (Or.inr (Or.inr ⟨by decide, by decide⟩))
  have z2 : MZ 151 2 = len := by rw [hMZ]; rfl
  have z3 : MZ 151 3 = 0 := by rw [hMZ]; rfl
  have z6 : MZ 151 6 = 0 := by rw [hMZ]; rfl
  have z8 : MZ 151 8 = 0 := by rw [hMZ]; rfl
  have y1 : MZ 152 1 = 0 := by rw [hMZ]; rfl
  have y2 : MZ 152 2 = 0 := by rw [hMZ]; rfl
  have y5 : MZ 155 0 = 0 := by rw [hMZ]; rfl
  have y8 : ∀ j, 0 ≤ j → j < 400 → MZ 158 j = B j := fun j a b => by
    have e : MZ 158 j = GA 158 j := by rw [hMZ]; rfl
    rw [e, hGA, gfr_s]
    exact (if_pos (show 0 ≤ j ∧ j < 0 + 400 by omega)).trans ((congrArg (g 150) (by omega)).trans (hB j a b).1)
  have hBZ : rcB B len MZ := ⟨hl, z2, y8, fun j a b => (hB j a b).2⟩
  have hfZ : gFin MZ := by rw [hMZ]; exact (((((((hfA.up rfl).up rfl).up rfl).up rfl).up rfl).up rfl).up rfl).up rfl
  rw [← hMZ]
  refine gw_xV1 (gc k_Reader_read_1 0 rfl) y_Reader_advance ln_Reader_56 (c_Reader_advance hx hfZ hBZ 0 (by omega) z6) rfl rfl (gAt hx rfl rfl) rfl (gble (by omega)) (fun r74 sh2 g74 hq74 => ?_)
  obtain ⟨rfl, rfl, hF0, hP0⟩ := hq74
  have hf := hF0.fin hfZ
  refine gw_iconst (gc k_Reader_read_1 1 rfl) ?_
  refine gw_istore_3 (gc k_Reader_read_1 2 rfl) rfl rfl ?_
  refine gwloop (σ := Int × (List OC) × Int × Int × Int × Nat × gM) (fun zs => (0 ≤ (zs.1) ∧ (zs.1) ≤ 12) ∧ rdI B len nt true cl g (zs.1) (zs.2.1) (zs.2.2.1) (zs.2.2.2.1) (zs.2.2.2.2.1) (zs.2.2.2.2.2.1) (zs.2.2.2.2.2.2)) (fun zs => (12 - (zs.1)).toNat) (fun zs => [(2, 151), (2, 149), (0, 0), (0, (zs.1))]) (fun zs => (zs.2.2.2.2.2.2)) (0, [], 0, 0, 0, 401, g74) (show (0 ≤ (0 : Int) ∧ (0 : Int) ≤ 12) ∧ rdI B len nt true cl g (0 : Int) ([]) (0 : Int) (0 : Int) (0 : Int) (401 : Nat) g74 from ⟨⟨by decide, by decide⟩, rfl, hGZ.tr ((hF0.cl.g 0).rd), (hF0 _ _ (by omega)).trans z3, ⟨hBZ.f hF0, hP0, (hF0 _ _ (by omega)).trans z8, (hF0 _ _ (by omega)).trans y1, by decide, by decide, by decide⟩, hnl.1, rfl, (hF0 _ _ (by omega)).trans y5, (hF0 _ _ (by omega)).trans y2, pAn_0 _ _ _, by decide⟩) rfl rfl (fun zs hI ih => ?_)
  obtain ⟨i, L, p, n, Lc, f, g1⟩ := zs
  replace hI : (0 ≤ i ∧ i ≤ 12) ∧ rdI B len nt true cl g i L p n Lc f g1 := hI
  obtain ⟨hi, hI⟩ := hI
  show gWP _ _ _ _ _ [(2, 151), (2, 149), (0, 0), (0, i)] [] _ (g1) _
  have hI1 := hI.2.1
  have hf1 : gFin g1 := by
    refine hf0.of fun a k z => hI1 a k (fun q => z ?_) (fun q => z ?_) (fun q => z ?_)
    · obtain rfl : a = 151 := by omega
      rcases (show k = 2 ∨ k = 3 ∨ k = 4 ∨ k = 5 ∨ k = 6 ∨ k = 7 ∨ k = 8 by omega) with y | y | y | y | y | y | y <;> (subst y; rfl)
    · obtain rfl : a = 152 := by omega
      rcases (show k = 0 ∨ k = 1 ∨ k = 2 by omega) with y | y | y <;> (subst y; rfl)
    · rcases (show a = 153 ∨ a = 154 ∨ a = 155 ∨ a = 156 ∨ a = 157 ∨ a = 158 by omega) with y | y | y | y | y | y <;> (subst y; rfl)
  have hIS := hI.2.2.2.1
  have hIp := hI.2.2.2.2.1
  have hI10 := hI.2.2.2.2.2.2.2.2.2
  have hI9 := hI.2.2.2.2.2.2.2.2.1
  have hI0 := hI.1
  have hf := hf1
  refine gw_iload_n (gc k_Reader_read_1 3 rfl) rfl ?_
  refine gw_bipush (gc k_Reader_read_1 4 rfl) (by decide) ?_
  refine gw_icmp_ge (tgt := 173) (gc k_Reader_read_1 5 rfl) rfl (by omega) (fun c82 => ?_) (fun c82 => ?_)
  · refine gw_aload_n (gc k_Reader_read_2 11 rfl) rfl rfl ?_
    refine gw_getf 5 rfl (gc k_Reader_read_2 12 rfl) fl_Reader_72 (gAt hx rfl rfl) ?_
    refine gw_ireturn (gc k_Reader_read_2 13 rfl) rfl ?_
    have hpe := tP_bd B hl.1 p.toNat
    rw [hIS.2.1.1]
    exact ⟨_, rfl, rfl, hI1, Or.inl ⟨p, by rw [← hI9, pAn_full (by omega)], rfl, hIS.2.2.2.2.1.1, hpe.1⟩⟩
  · refine gw_aload_n (gc k_Reader_read_1 6 rfl) rfl rfl ?_
    refine gw_getref (gc k_Reader_read_1 7 rfl) fl_Reader_12 (gAt hx rfl rfl) (gRf hf rfl rfl) ?_
    refine gw_iload_n (gc k_Reader_read_1 8 rfl) rfl ?_
    refine gw_iconst (gc k_Reader_read_1 9 rfl) ?_
    refine gw_iadd (gc k_Reader_read_1 10 rfl) ?_
    refine gw_putIK 0 rfl (gc k_Reader_read_1 11 rfl) fl_Reader_46 (gAt hx rfl rfl) hf rfl (fun hf => ?_)
    refine gw_aload_n (gc k_Reader_read_1 12 rfl) rfl rfl ?_
    refine gw_getref (gc k_Reader_read_1 13 rfl) fl_Reader_12 (gAt hx rfl rfl) (gRf hf rfl rfl) ?_
    refine gw_getref (gc k_Reader_read_1 14 rfl) fl_Reader_59 (gAt hx rfl rfl) (gRf hf rfl rfl) ?_
    refine gw_iload_n (gc k_Reader_read_1 15 rfl) rfl ?_
    refine gw_iconst (gc k_Reader_read_1 16 rfl) ?_
    refine gw_iastF (gc k_Reader_read_1 17 rfl) (gAt hx rfl rfl) (by omega) hf rfl (fun hf => ?_)
    obtain ⟨MC, hMC⟩ : ∃ M, M = gup (gup g1 152 0 (i + 1)) 154 i 1 := ⟨_, rfl⟩
    have hfC : gFin MC := by rw [hMC]; exact (hf1.up rfl).up rfl
    have h3C : MC 151 3 = 0 := by rw [hMC, gup_fn _ _ _ _ (by decide), gup_fn _ _ _ _ (by decide)]; exact hI.2.2.1
    have hSC : cS B len 0 p n Lc MC := by
      obtain ⟨b1, b2, b3, b4, b5⟩ := hIS
      have e151 : MC 151 = g1 151 := by rw [hMC, gup_fn _ _ _ _ (by decide), gup_fn _ _ _ _ (by decide)]
      have e1521 : MC 152 1 = g1 152 1 := by rw [hMC, gup_fn _ _ _ _ (by decide), gup_k _ _ _ _ (by decide)]
      have e158 : MC 158 = g1 158 := by rw [hMC, gup_fn _ _ _ _ (by decide), gup_fn _ _ _ _ (by decide)]
      exact ⟨b1.of (by rw [e151]) e158, b2.of (fun k _ _ => by rw [e151]), by rw [e151]; exact b3, by rw [e1521]; exact b4, b5⟩
    have hlC : MC 152 2 = 0 ∨ MC 152 2 = 1 := by rw [hMC, gup_fn _ _ _ _ (by decide), gup_k _ _ _ _ (by decide), hI.2.2.2.2.2.2.2.1]; exact lbV_01 _ _ _
    have h4C : MC 154 i = 1 := by rw [hMC]; exact gup_s _ _ _ _
    have hrdC : rdA g MC := by rw [hMC]; exact (hI1.up _ (Or.inr (Or.inl ⟨rfl, by decide, by decide⟩))).up _ (Or.inr (Or.inr ⟨by decide, by decide⟩))
    rw [← hMC]
    have hf := hfC
    refine gw_aload_n (gc k_Reader_read_1 18 rfl) rfl rfl ?_
    refine gw_getf 3 rfl (gc k_Reader_read_1 19 rfl) fl_Reader_36 (gAt hx rfl rfl) ?_
    rw [h3C]
    refine gw_if_eq (tgt := 123) (gc k_Reader_read_1 20 rfl) rfl (by omega) (fun c109 => ?_) (fun c109 => ?_)
    · refine gw_aload_n (gc k_Reader_read_1 26 rfl) rfl rfl ?_
      refine gw_iload_n (gc k_Reader_read_1 27 rfl) rfl ?_
      refine gw_xV1 (gc k_Reader_read_1 28 rfl) y_Reader_orderClause ln_Reader_66 (ck_orderClause hx hk hnt4 (by omega) hfC h3C hSC hlC h4C (D := 36) (by omega) (by omega) (rc_sum8 hx hk hnt4)) rfl rfl (gAt hx rfl rfl) rfl (gble (by omega)) (fun r125 sh2 g125 hq125 => ?_)
      obtain ⟨rfl, v1, rfl, hv101, hcG, hQ1⟩ := hq125
      have hf := hcG.fin hfC
      refine gw_if_eq (tgt := 139) (gc k_Reader_read_1 29 rfl) rfl (by omega) (fun c128 => ?_) (fun c128 => ?_)
      · refine gw_aload_n (gc k_Reader_read_1 34 rfl) rfl rfl ?_
        refine gw_getf 5 rfl (gc k_Reader_read_1 35 rfl) fl_Reader_72 (gAt hx rfl rfl) ?_
        refine gw_ireturn (gc k_Reader_read_1 36 rfl) rfl ?_
        obtain ⟨e, hr, hPe, he0⟩ := orR hQ1 c128
        clear hQ1
        rw [hPe.1]
        have hpe := tP_bd B hl.1 e.toNat
        exact ⟨_, rfl, rfl, hrdC.tr hcG.rd, Or.inl ⟨e, by rw [← hI9, pAn_e (by omega) (by rw [hclp, hr]; rfl)], rfl, he0, hpe.1⟩⟩
      · obtain ⟨p2, n2, h, c, s, c2, s2, t, w5, hr, hJ1⟩ := orL hQ1 c128
        clear hQ1
        refine gw_aload_n (gc k_Reader_read_1 30 rfl) rfl rfl ?_
        refine gw_iload_n (gc k_Reader_read_1 31 rfl) rfl ?_
        refine gw_xV1 (gc k_Reader_read_1 32 rfl) y_Reader_condition ln_Reader_69 (ck_condition hx (by omega) hfC hJ1 (h3C.trans (by rfl)) (D := 39) (by omega) (by omega) (rc_test8 hx hk hnt4)) rfl rfl (gAt hx rfl rfl) rfl (gble (by omega)) (fun r133 sh2 g133 hq133 => ?_)
        obtain ⟨rfl, v2, rfl, hv201, hcG2, hQ2⟩ := hq133
        have hf := hcG2.fin hfC
        refine gw_if_ne (tgt := 144) (gc k_Reader_read_1 33 rfl) rfl (by omega) (fun c136 => ?_) (fun c136 => ?_)
        · obtain ⟨p3, n3, k, s3, hr2, hJ2⟩ := orL hQ2 c136
          clear hQ2
          obtain ⟨x, hx1, rfl, rfl, rfl, rfl, rfl⟩ := whW_i (T := tT B len) (test := (pTest (tT B len) (tW B len) true 8)) (p := p2) (n := n2) (h := h) (c := c) (s := s) (c2 := c2) (s2 := s2) (t := t) (p2 := p3) (n2 := n3) (k := k) (hr2.elim (fun z => Or.inl ⟨z.1, s3, z.2⟩) Or.inr)
          clear hr2
          have hc : cl p n = .inr (p3, n3, x) := by rw [hclp, hr, hx1]
          have hp3 := hfw2 _ _ _ _ _ hc
          rw [hMC] at hJ2
          obtain ⟨d1, d2, d3, d4, d5, d6, d7, d8, d9⟩ := hI.step (by omega) hc hJ2 rfl
          obtain ⟨k1, k2, k3, k4, k5⟩ := ck_val d4.1 d4.2.2.2.2.1.1 d4.2.1
          have hn3 := hnt.2 p3 d4.2.2.2.2.1.1
          have hkp3 := hk p3
          obtain ⟨f, rfl⟩ : ∃ q, f = q + 1 := ⟨f - 1, by omega⟩
          refine gw_aload_n (gc k_Reader_read_1 37 rfl) rfl rfl ?_
          refine gw_getf 4 rfl (gc k_Reader_read_1 38 rfl) fl_Reader_75 (gAt hx rfl rfl) ?_
          refine gw_if_ne (tgt := 153) (gc k_Reader_read_1 39 rfl) rfl (by omega) (fun c148 => ?_) (fun c148 => ?_)
          · refine gw_aload_n (gc k_Reader_read_2 2 rfl) rfl rfl ?_
            refine gw_bipush (gc k_Reader_read_2 3 rfl) (by decide) ?_
            refine gw_xV1 (gc k_Reader_read_2 4 rfl) y_Reader_takeSign ln_Reader_78 (c_Reader_takeSign hx hf d4.1 p3 d4.2.2.2.2.1.1 d4.2.1 59 (by omega)) rfl rfl (gAt hx rfl rfl) rfl (gble (by omega)) (fun r156 sh2 g156 hq156 => ?_)
            rw [show (100 : Int) + 59 = 159 from rfl] at hq156
            obtain ⟨rfl, rfl, hF9, hP9⟩ := hq156
            have hf := hF9.fin hf
            refine gw_bne (tgt := 167) (gc k_Reader_read_2 5 rfl) rfl (fun c159 => ?_) (fun c159 => ?_)
            · refine gw_iinc_3 (gc k_Reader_read_2 9 rfl) rfl rfl ?_
              refine gw_goto (tgt := 79) (gc k_Reader_read_2 10 rfl) rfl ?_
              rw [if_pos c159] at hP9
              rw [pA_n c159] at d8
              obtain ⟨b1, b2, b3, b4, b5, b6, b7⟩ := d4
              exact ih (i + 1, L ++ [x], p3 + 1, n3, Lc + ((ocK x).length : Int), f, g156) (show (0 ≤ (i + 1) ∧ (i + 1) ≤ 12) ∧ rdI B len nt true cl g (i + 1) (L ++ [x]) (p3 + 1) n3 (Lc + ((ocK x).length : Int)) f g156 from ⟨by omega, d1, d2.tr ((hF9.cl.g 0).rd), (hF9 _ _ (by omega)).trans d3, ⟨b1.f hF9, hP9, (hF9 _ _ (by omega)).trans b3, (hF9 _ _ (by omega)).trans b4, by omega, b6, by omega⟩, by have := hkp3 (by omega); omega, dfL_ext (m := i + 1) (w := Lc + ((ocK x).length : Int)) (fun k _ => hF9 _ _ (by omega)) (fun k _ => hF9 _ _ (by omega)) (fun k _ => hF9 _ _ (by omega)) (fun k _ => ⟨hF9 _ _ (by omega), hF9 _ _ (by omega)⟩) _ 0 0 _ (by omega) (Int.le_refl _) d5, (hF9 _ _ (by omega)).trans d6, (hF9 _ _ (by omega)).trans d7, d8, by omega⟩) (show (12 - (i + 1)).toNat < (12 - i).toNat from by omega)
            · refine gw_aload_n (gc k_Reader_read_2 6 rfl) rfl rfl ?_
              refine gw_getf 5 rfl (gc k_Reader_read_2 7 rfl) fl_Reader_72 (gAt hx rfl rfl) ?_
              refine gw_ireturn (gc k_Reader_read_2 8 rfl) rfl ?_
              rw [if_neg c159] at hP9
              have hpe := tP_bd B hl.1 p3.toNat
              rw [hP9.1]
              exact ⟨_, rfl, rfl, d2.tr ((hF9.cl.g 0).rd), Or.inl ⟨p3, by rw [← d8, pA_f c159 (by omega)], rfl, d4.2.2.2.2.1.1, hpe.1⟩⟩
          · refine gw_iconst (gc k_Reader_read_2 0 rfl) ?_
            refine gw_ireturn (gc k_Reader_read_2 1 rfl) rfl ?_
            have hN : ¬ tT B len p3 = 159 := fun z => by have := hkp3 (by omega); omega
            exact ⟨-1, rfl, rfl, d2, Or.inr ⟨rfl, _, _, by rw [← d8, pA_d hN (by omega)], ⟨by omega, by omega⟩, d9, d4.2.2.2.1, by have := d4.2.2.2.2.2.2; omega, d5, d7⟩⟩
        · refine gw_aload_n (gc k_Reader_read_1 34 rfl) rfl rfl ?_
          refine gw_getf 5 rfl (gc k_Reader_read_1 35 rfl) fl_Reader_72 (gAt hx rfl rfl) ?_
          refine gw_ireturn (gc k_Reader_read_1 36 rfl) rfl ?_
          obtain ⟨h4, e, ht, hPe, he0⟩ := orR hQ2 c136
          clear hQ2
          rw [hPe.1]
          have hpe := tP_bd B hl.1 e.toNat
          exact ⟨_, rfl, rfl, hrdC.tr hcG2.rd, Or.inl ⟨e, by rw [← hI9, pAn_e (by omega) (by rw [hclp, hr]; exact whW_e h4 ht)], rfl, he0, hpe.1⟩⟩
    · exact absurd c109 (by decide)
