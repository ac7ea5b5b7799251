/-! ===== laws and orders at the desk ===== -/
theorem rdA.fin {g g2 : gM} (h : rdA g g2) (hf : gFin g) : gFin g2 := hf.of fun a k z => h _ _ (fun e => z (by
  obtain ⟨e1, e2, e3⟩ := e
  rw [show a = 151 by omega]
  rcases (show k = 2 ∨ k = 3 ∨ k = 4 ∨ k = 5 ∨ k = 6 ∨ k = 7 ∨ k = 8 by omega) with rfl | rfl | rfl | rfl | rfl | rfl | rfl <;> rfl)) (fun e => z (by
  obtain ⟨e1, e2, e3⟩ := e
  rw [show a = 152 by omega]
  rcases (show k = 0 ∨ k = 1 ∨ k = 2 by omega) with rfl | rfl | rfl <;> rfl)) (fun e => z (by
  rcases (show a = 153 ∨ a = 154 ∨ a = 155 ∨ a = 156 ∨ a = 157 ∨ a = 158 by omega) with rfl | rfl | rfl | rfl | rfl | rfl <;> rfl))
theorem rdV_b {B : Int → Int} {len nt : Int} {o : Bool} {cl : Int → Int → OCR} {b : Int} {g2 : gM} (h : rdV B len nt o cl b g2) (hl : 0 ≤ len ∧ len ≤ 400) : -1 ≤ b ∧ b ≤ 400 := by
  rcases h with ⟨e, -, h2, h3, h4⟩ | ⟨h1, -⟩
  · have := tP_bd B hl.1 e.toNat
    omega
  · omega
/-- the draft as a text -/
theorem tx_draft {sh : gS} {g : gM} {o : Bool} {L : List OC} {Lc : Int} (hx : gFix sh) (hf : gFin g) (h0 : g 152 0 = L.length) (hL : L.length ≤ 12) (hLc : Lc ≤ 400) (hd : dfL o g 0 0 L Lc) (h2 : g 152 2 = lbV o 0 (L.flatMap ocK)) (hk : ∀ c ∈ L, clK o c) : txL 152 o sh g 152 L := by
  have r3 : g 152 3 = 153 := gRf hf rfl rfl
  have r4 : g 152 4 = 154 := gRf hf rfl rfl
  have r5 : g 152 5 = 155 := gRf hf rfl rfl
  have r6 : g 152 6 = 156 := gRf hf rfl rfl
  have r7 : g 152 7 = 157 := gRf hf rfl rfl
  refine ⟨12, 37, 400, ?_, gAt hx rfl rfl, ?_, ?_, ?_, ?_, ?_, ⟨hL, by decide, by omega, by decide, by decide⟩, h0, h2, ⟨Lc, by omega, ?_⟩, hk⟩
  · rw [r3, r4, r5, r6, r7]; decide
  · rw [r3]; exact gAt hx rfl rfl
  · rw [r4]; exact gAt hx rfl rfl
  · rw [r5]; exact gAt hx rfl rfl
  · rw [r6]; exact gAt hx rfl rfl
  · rw [r7]; exact gAt hx rfl rfl
  · rw [r3, r4, r5, r6, r7]; exact dfL_tc L 0 0 Lc hd
theorem len_snoc {sh : gS} {x : Nat × Nat} : ((sh ++ [x]).length : Int) = sh.length + 1 := by rw [List.length_append]; rfl
/-- the new text -/
theorem tx_new {sh : gS} {g M : gM} {o : Bool} {L : List OC} {Lc : Int} {k l : Nat} (hsh : 201 ≤ (sh.length : Int)) (hk0 : (k : Int) = L.length) (hl0 : (l : Int) = Lc) (hL : L.length ≤ 12) (hLc : Lc ≤ 400) (hd : dfL o g 0 0 L Lc) (h0 : g 152 0 = L.length) (h2 : g 152 2 = lbV o 0 (L.flatMap ocK)) (hk : ∀ c ∈ L, clK o c) (hM : tkP g (sh.length : Int) (sh.length + 1) (lnT k l) 5 M) : txL 201 o ((((((sh ++ [(10, 8)]) ++ [(13, k)]) ++ [(13, k)]) ++ [(13, 3 * k + 1)]) ++ [(13, l)]) ++ [(13, l)]) M (sh.length : Int) L := by
  obtain ⟨m1, ⟨m2, m3, m4⟩, m5, m6⟩ := hM
  have r3 : M (sh.length : Int) 3 = sh.length + 1 := by have := m5 0 (by decide) (by decide); rw [show (3 : Int) + 0 = 3 from rfl] at this; omega
  have r4 : M (sh.length : Int) 4 = sh.length + 2 := by have := m5 1 (by decide) (by decide); rw [show (3 : Int) + 1 = 4 from rfl] at this; omega
  have r5 : M (sh.length : Int) 5 = sh.length + 3 := by have := m5 2 (by decide) (by decide); rw [show (3 : Int) + 2 = 5 from rfl] at this; omega
  have r6 : M (sh.length : Int) 6 = sh.length + 4 := by have := m5 3 (by decide) (by decide); rw [show (3 : Int) + 3 = 6 from rfl] at this; omega
  have r7 : M (sh.length : Int) 7 = sh.length + 5 := by have := m5 4 (by decide) (by decide); rw [show (3 : Int) + 4 = 7 from rfl] at this; omega
  have s0 := gsz_last sh 10 8
  have s1 := gsz_last (sh ++ [(10, 8)]) 13 k
  have s2 := gsz_last ((sh ++ [(10, 8)]) ++ [(13, k)]) 13 k
  have s3 := gsz_last (((sh ++ [(10, 8)]) ++ [(13, k)]) ++ [(13, k)]) 13 (3 * k + 1)
  have s4 := gsz_last ((((sh ++ [(10, 8)]) ++ [(13, k)]) ++ [(13, k)]) ++ [(13, 3 * k + 1)]) 13 l
  have s5 := gsz_last (((((sh ++ [(10, 8)]) ++ [(13, k)]) ++ [(13, k)]) ++ [(13, 3 * k + 1)]) ++ [(13, l)]) 13 l
  simp only [len_snoc] at s1 s2 s3 s4 s5
  have q0 := m6 0 (by decide) (by decide)
  have q1 := m6 1 (by decide) (by decide)
  have q2 := m6 2 (by decide) (by decide)
  have q3 := m6 3 (by decide) (by decide)
  have q4 := m6 4 (by decide) (by decide)
  have l0 : lnT k l 0 = k := rfl
  have l1 : lnT k l 1 = k := rfl
  have l2 : lnT k l 2 = k * 3 + 1 := rfl
  have l3 : lnT k l 3 = l := rfl
  have l4 : lnT k l 4 = l := rfl
  rw [l0] at q0
  rw [l1] at q1
  rw [l2] at q2
  rw [l3] at q3
  rw [l4] at q4
  refine ⟨k, 3 * k + 1, l, ?_, s0.app _ |>.app _ |>.app _ |>.app _ |>.app _, ?_, ?_, ?_, ?_, ?_, ⟨by omega, by omega, by omega, by omega, by omega⟩, by rw [m2, h0], by rw [m4, h2], ⟨Lc, by omega, ?_⟩, hk⟩
  · rw [r3, r4, r5, r6, r7]; omega
  · rw [r3]; exact (((s1.app _).app _).app _).app _
  · rw [r4, show (sh.length : Int) + 2 = sh.length + 1 + 1 by omega]; exact ((s2.app _).app _).app _
  · rw [r5, show (sh.length : Int) + 3 = sh.length + 1 + 1 + 1 by omega]; exact (s3.app _).app _
  · rw [r6, show (sh.length : Int) + 4 = sh.length + 1 + 1 + 1 + 1 by omega]; exact s4.app _
  · rw [r7, show (sh.length : Int) + 5 = sh.length + 1 + 1 + 1 + 1 + 1 by omega]; exact s5
  · rw [r3, r4, r5, r6, r7]
    refine tcL_ext (m := k) (w := l) (fun y a b => ?_) (fun y a b => ?_) (fun y a b => ?_) (fun y a b => ⟨?_, ?_⟩) L 0 0 Lc ⟨by decide, by decide⟩ (by omega) (by omega) (dfL_tc L 0 0 Lc hd)
    · have := q0 y a b
      rwa [show (sh.length : Int) + 1 + 0 = sh.length + 1 by omega, show (153 : Int) + 0 = 153 from rfl] at this
    · have := q1 y a b
      rwa [show (sh.length : Int) + 1 + 1 = sh.length + 2 by omega, show (153 : Int) + 1 = 154 from rfl] at this
    · have := q2 y a (by omega)
      rwa [show (sh.length : Int) + 1 + 2 = sh.length + 3 by omega, show (153 : Int) + 2 = 155 from rfl] at this
    · have := q3 y a b
      rwa [show (sh.length : Int) + 1 + 3 = sh.length + 4 by omega, show (153 : Int) + 3 = 156 from rfl] at this
    · have := q4 y a b
      rwa [show (sh.length : Int) + 1 + 4 = sh.length + 5 by omega, show (153 : Int) + 4 = 157 from rfl] at this
/-- what law may write at the desk -/
def lwF (n43 S : Int) (g M : gM) : Prop := ∀ a k, ¬ (a = 0 ∧ k = 12) → ¬ (a = 1 ∧ k = 7) → ¬ (a = 7 ∧ k = n43) → ¬ (a = 149 ∧ k = 1) → ¬ (a = 151 ∧ 2 ≤ k ∧ k ≤ 8) → ¬ (a = 152 ∧ 0 ≤ k ∧ k ≤ 2) → ¬ (153 ≤ a ∧ a ≤ 158) → a < S → M a k = g a k
def rdD (g : gM) (b : Int) (M : gM) : Prop := M 0 12 = b ∧ M 149 1 = 0 ∧ gFin M ∧ ∀ a k, ¬ (a = 0 ∧ k = 12) → ¬ (a = 149 ∧ k = 1) → ¬ (a = 151 ∧ 2 ≤ k ∧ k ≤ 8) → ¬ (a = 152 ∧ 0 ≤ k ∧ k ≤ 2) → ¬ (153 ≤ a ∧ a ≤ 158) → M a k = g a k
theorem rdD_of {g G : gM} {b : Int} (h : rdA g G) (hf : gFin g) : rdD g b (gup (gup G 0 12 b) 149 1 0) := by
  refine ⟨by rw [gup_a _ _ _ _ _ (by decide), gup_s], gup_s _ _ _ _, ((h.fin hf).up rfl).up rfl, fun a k z1 z2 z3 z4 z5 => ?_⟩
  have e : gup (gup G 0 12 b) 149 1 0 a k = G a k := by
    by_cases e1 : a = 149
    · subst e1; rw [gup_k _ _ _ _ (fun q => z2 ⟨rfl, q⟩), gup_a _ _ _ _ _ (by decide)]
    · rw [gup_a _ _ _ _ _ e1]
      by_cases e2 : a = 0
      · subst e2; exact gup_k _ _ _ _ (fun q => z1 ⟨rfl, q⟩)
      · exact gup_a _ _ _ _ _ e2
  rw [e]; exact h a k z3 z4 z5
/-- what law leaves at the desk -/
def lwD (sh : gS) (g : gM) (nt : Int) (x : Option gV) (s1 : gS) (g1 : gM) : Prop :=
  (g 179 43 = 6 ∧ x = some (0, -5) ∧ s1 = sh ∧ g1 = ansM (gup g 149 1 0) (-5)) ∨
  (¬ g 179 43 = 6 ∧ ((∃ e M, lawRd (tT (tB g) (g 177 13)) (tW (tB g) (g 177 13)) nt = .inl e ∧ x = some (0, -6) ∧ s1 = sh ∧ g1 = ansM M (-6) ∧ rdD g (tP (tB g) (g 177 13) e.toNat) M) ∨
   (∃ L M, lawRd (tT (tB g) (g 177 13)) (tW (tB g) (g 177 13)) nt = .inr L ∧ x = some (0, g 179 43) ∧ (∃ t, s1 = sh ++ t ∧ 1 ≤ t.length) ∧ g1 = ansM M 0 ∧ gFin M ∧ txL 201 false s1 M (sh.length : Int) (L.map pcO) ∧ M 7 (g 179 43) = sh.length ∧ M 1 7 = g 179 43 + 1 ∧ M 0 12 = -1 ∧ M 149 1 = 0 ∧ lwF (g 179 43) (sh.length : Int) g M)))
def orD (Λ : Int → List PC) (sh : gS) (g : gM) (r1 : Int → Int) (nt : Int) (x : Option gV) (g1 : gM) : Prop :=
  (∃ e M, pOrd (tT (tB g) (g 177 13)) (tW (tB g) (g 177 13)) nt = .inl e ∧ x = some (0, -6) ∧ g1 = ansM M (-6) ∧ M 0 12 = tP (tB g) (g 177 13) e.toNat ∧ M 149 1 = 0 ∧ M 12 1 = -1 ∧ gFin M ∧ clI Λ sh (osM g) M ∧ bdT sh M 1 ∧ (∀ a k, ¬ cS2 a k → M a k = g a k) ∧ (∀ j, M 150 j = g 150 j) ∧ ∀ k, k ≠ 12 → M 0 k = g 0 k) ∨
  (∃ L M, pOrd (tT (tB g) (g 177 13)) (tW (tB g) (g 177 13)) nt = .inr L ∧ M 0 12 = -1 ∧ M 149 1 = 0 ∧ gFin M ∧ bdT sh M 1 ∧ (∀ a k, ¬ cS2 a k → M a k = g a k) ∧ (∀ j, M 150 j = g 150 j) ∧ (∀ k, k ≠ 12 → M 0 k = g 0 k) ∧
   ((∃ i, exL L 0 ((r1, g 190, g 177 33), 0, -1) = .inl i ∧ x = some (0, -3) ∧ g1 = ansM M (-3) ∧ M 12 1 = i ∧ clI Λ sh (r1, g 190, g 177 33) M) ∨
    (∃ S, exL L 0 ((r1, g 190, g 177 33), 0, -1) = .inr S ∧ x = some (0, S.2.1) ∧ 0 ≤ S.2.1 ∧ g1 = ansM M 0 ∧ M 12 1 = -1 ∧ clI Λ sh S.1 M)))
theorem exL_bd {r0 : Int → Int} : ∀ (L : List OC) (i : Int) (S S' : XS) (d : Int), osOK r0 S.1 → xsB S d → (∀ c ∈ L, 22 ≤ c.1 ∧ c.1 ≤ 25) → (∀ c ∈ L, 1 ≤ c.2.2.2.2.2.1 ∧ c.2.2.2.2.2.1 ≤ 20) → exL L i S = .inr S' → xsB S' (d + 20 * L.length)
  | [], i, S, S', d, _, hb, _, _, e => by
    cases e
    unfold xsB at hb ⊢
    rw [List.length_nil]
    omega
  | c :: R, i, S, S', d, ho, hb, h1, h2, e => by
    have c1 := h1 c List.mem_cons_self
    have c2 := h2 c List.mem_cons_self
    cases hq : exC c.1 c.2.2.1 c.2.2.2.2.1 c.2.2.2.2.2.2.2 c.2.2.2.2.2.1.toNat S with
    | none => rw [exL_n hq] at e; cases e
    | some S1 =>
      rw [exL_s hq] at e
      have q := exC_bd c1 _ S S1 d ho hb hq
      have := exL_bd R (i + 1) S1 S' _ q.2 q.1 (fun c hc => h1 c (List.mem_cons_of_mem _ hc)) (fun c hc => h2 c (List.mem_cons_of_mem _ hc)) e
      unfold xsB at this ⊢
      rw [List.length_cons]
      omega
set_option maxHeartbeats 8000000 in
theorem c_Desk_law {sh : gS} {g : gM} (hx : gFix sh) (hf : gFin g) {Λ : Int → List PC} (hR : relR Λ sh g) {nt : Int} (hnt : ntK (tB g) (g 177 13) nt) : gTri f_Desk_law 41 6 869 [(2, 0)] sh g (fun x s1 g1 => lwD sh g nt x s1 g1) := by
  have hro := hR.ro
  have hm := ro_many hro
  have h0 := hR.X.nums.1.1
  have hX := hR.X
  have htp := hR.2.2.1
  have hl0 : g 149 1 = g 177 13 := htp.2.1
  have hl : 0 ≤ g 177 13 ∧ g 177 13 ≤ 400 := htp.1.1
  have hB : ∀ j, 0 ≤ j → j < 400 → g 150 j = tB g j ∧ 0 ≤ tB g j ∧ tB g j ≤ 255 := fun j a b => ⟨htp.2.2 j a b, tB_bd g j⟩
  have h7 : g 1 7 = g 179 43 := hX.nums.2.2.1.1
  have hm43 := hX.nums.2.2.1.2
  have hsl := hx.len
  refine gTri.of (by decide +kernel) rfl ?_
  show gWP f_Desk_law _ _ _ 0 [(2, 0)] [] sh g _
  refine gw_aload_n (gc k_Desk_law_0 0 rfl) rfl rfl ?_
  refine gw_getref (gc k_Desk_law_0 1 rfl) fl_Desk_12 (by first | exact gAt hx rfl rfl) (by first | exact gRf hf rfl rfl) ?_
  refine gw_getf 7 rfl (gc k_Desk_law_0 2 rfl) fl_Desk_143 (by first | exact gAt hx rfl rfl) ?_
  rw [h7]
  refine gw_bipush (gc k_Desk_law_0 3 rfl) (by decide) ?_
  refine gw_icmp_lt (tgt := 27) (gc k_Desk_law_0 4 rfl) rfl (by omega) (fun c9 => ?_) (fun c9 => ?_)
  · refine gw_aload_n (gc k_Desk_law_0 13 rfl) rfl rfl ?_
    refine gw_aload_n (gc k_Desk_law_0 14 rfl) rfl rfl ?_
    refine gw_getref (gc k_Desk_law_0 15 rfl) fl_Desk_58 (by first | exact gAt hx rfl rfl) (by first | exact gRf hf rfl rfl) ?_
    refine gw_aload_n (gc k_Desk_law_0 16 rfl) rfl rfl ?_
    refine gw_getref (gc k_Desk_law_0 17 rfl) fl_Desk_51 (by first | exact gAt hx rfl rfl) (by first | exact gRf hf rfl rfl) ?_
    refine gw_iconst (gc k_Desk_law_0 18 rfl) ?_
    refine gw_xV1 (gc k_Desk_law_0 19 rfl) y_Reader_read ln_Desk_146 (rc_readL hx hf hB hl hl0 hnt (hdL_fw hnt.ok)) rfl rfl (by first | exact gAt hx rfl rfl) rfl rfl (fun r37 sh2 g37 hq37 => ?_)
    obtain ⟨b, rfl, hsh, hrA, hV⟩ := hq37
    subst sh2
    have hf0 := hf
    have hf := hrA.fin hf
    refine gw_putIK 12 rfl (gc k_Desk_law_0 20 rfl) fl_Desk_78 (by first | exact gAt hx rfl rfl) hf (by rfl) (fun hf => ?_)
    refine gw_aload_n (gc k_Desk_law_0 21 rfl) rfl rfl ?_
    refine gw_getref (gc k_Desk_law_0 22 rfl) fl_Desk_51 (by first | exact gAt hx rfl rfl) (by first | exact gRf hf rfl rfl) ?_
    refine gw_iconst (gc k_Desk_law_0 23 rfl) ?_
    refine gw_putIK 1 rfl (gc k_Desk_law_0 24 rfl) fl_Desk_132 (by first | exact gAt hx rfl rfl) hf (by rfl) (fun hf => ?_)
    have hD := rdD_of (b := b) hrA hf0
    have hbb := rdV_b hV hl
    refine gw_aload_n (gc k_Desk_law_0 25 rfl) rfl rfl ?_
    refine gw_getf 12 rfl (gc k_Desk_law_0 26 rfl) fl_Desk_78 (by first | exact gAt hx rfl rfl) ?_
    rw [gup_a _ _ _ _ _ (by decide), gup_s]
    refine gw_iconst (gc k_Desk_law_0 27 rfl) ?_
    refine gw_icmp_eq (tgt := 66) (gc k_Desk_law_0 28 rfl) rfl (by omega) (fun c56 => ?_) (fun c56 => ?_)
    · rcases hV with ⟨e, -, h2, h3, h4⟩ | ⟨-, L0, Lc, hp, hL12, h0c, h1c, hLc, hdf, h2c⟩
      · exfalso; omega
      rw [lawRd_wh] at hp
      obtain ⟨L, hL, rfl⟩ : ∃ L, lawRd (tT (tB g) (g 177 13)) (tW (tB g) (g 177 13)) nt = .inr L ∧ L0 = L.map pcO := by
        cases hq : lawRd (tT (tB g) (g 177 13)) (tW (tB g) (g 177 13)) nt with
        | inl e => rw [hq] at hp; cases hp
        | inr L => rw [hq] at hp; exact ⟨L, rfl, (Sum.inr.inj hp).symm⟩
      have hLc0 := dfL_tc _ 0 0 Lc hdf
      have hLc1 : 0 ≤ Lc := tcL_le _ _ _ _ hLc0
      obtain ⟨k, hk⟩ : ∃ k : Nat, (k : Int) = (L.map pcO).length := ⟨_, rfl⟩
      obtain ⟨l, hl9⟩ : ∃ l : Nat, (l : Int) = Lc := ⟨Lc.toNat, by omega⟩
      obtain ⟨g3, hg3⟩ : ∃ M, M = gup (gup g37 0 12 b) 149 1 0 := ⟨_, rfl⟩
      rw [← hg3] at hD ⊢
      obtain ⟨d1, d2, hf3, d4⟩ := hD
      have hf := hf3
      have hkk : ∀ c ∈ L.map pcO, clK false c := fun c hc => by
        obtain ⟨c0, hc0, rfl⟩ := List.mem_map.mp hc
        exact lawRd_k (fun p => (tW_bd _ _ _).1) hL c0 hc0
      have hb1 : b = -1 := by omega
      refine gw_aload_n (gc k_Desk_law_0 33 rfl) rfl rfl ?_
      refine gw_getref (gc k_Desk_law_0 34 rfl) fl_Desk_12 (by first | exact gAt hx rfl rfl) (by first | exact gRf hf rfl rfl) ?_
      refine gw_getref (gc k_Desk_law_0 35 rfl) fl_Desk_150 (by first | exact gAt hx rfl rfl) (by first | exact gRf hf rfl rfl) ?_
      refine gw_aload_n (gc k_Desk_law_0 36 rfl) rfl rfl ?_
      refine gw_getref (gc k_Desk_law_0 37 rfl) fl_Desk_12 (by first | exact gAt hx rfl rfl) (by first | exact gRf hf rfl rfl) ?_
      refine gw_getf 7 rfl (gc k_Desk_law_0 38 rfl) fl_Desk_143 (by first | exact gAt hx rfl rfl) ?_
      rw [show g3 1 7 = g 179 43 from (d4 _ _ (by decide) (by decide) (by omega) (by decide) (by decide)).trans h7]
      refine gw_new (gc k_Desk_law_0 39 rfl) nw_Desk_154 (by omega) ?_
      obtain ⟨g4, hg4⟩ : ∃ M, M = gfr g3 (sh.length : Int) (gdef 10) := ⟨_, rfl⟩
      rw [← hg4]
      have c4 : ∀ a, a ≠ (sh.length : Int) → g4 a = g3 a := fun a z => by rw [hg4, gfr_fn _ _ _ z]
      have hf : gFin g4 := by rw [hg4]; exact hf3.fr (fun j => gref_hi (by omega) j)
      have hx4 : gFix (sh ++ [(10, 8)]) := hx.app
      have hx := hx4
      have e152 : ∀ j, g4 152 j = g37 152 j := fun j => by rw [c4 152 (by omega), hg3, gup_a _ _ _ _ _ (by decide), gup_a _ _ _ _ _ (by decide)]
      have e15 : ∀ a j, 153 ≤ a → a ≤ 157 → g4 a j = g37 a j := fun a j q1 q2 => by rw [c4 a (by omega), hg3, gup_a _ _ _ _ _ (by omega), gup_a _ _ _ _ _ (by omega)]
      refine gw_dup (gc k_Desk_law_1 0 rfl) rfl ?_
      refine gw_aload_n (gc k_Desk_law_1 1 rfl) rfl rfl ?_
      refine gw_getref (gc k_Desk_law_1 2 rfl) fl_Desk_58 (by first | exact gAt hx rfl rfl) (by first | exact gRf hf rfl rfl) ?_
      refine gw_getref (gc k_Desk_law_1 3 rfl) fl_Desk_156 (by first | exact gAt hx rfl rfl) (by first | exact gRf hf rfl rfl) ?_
      refine gw_callI (gc k_Desk_law_1 4 rfl) y_Text_init2 ln_Desk_160 (c_Text_init2 hx hf (o := (sh.length : Int)) (S := sh.length + 1) (by rw [len_snoc]) (gsz_last sh 10 8) (by omega) (k := k) (L := l) (by rw [e152, h0c, hk]) (by rw [e152, h1c, hl9]) (by rw [List.length_map] at hk hL12; omega) (by omega) (by rw [e152, h2c]; exact lbV_01 _ _ _)) rfl rfl (by omega) rfl rfl ⟨by omega, by rw [List.length_map] at hk hL12; omega⟩ (fun r91 sh2 g91 hq91 => ?_)
      obtain ⟨rfl, rfl, hk5⟩ := hq91
      have hf91 := hk5.fin (by omega) hf
      have hx1 := ((((hx.app (t := [(13, k)])).app (t := [(13, k)])).app (t := [(13, 3 * k + 1)])).app (t := [(13, l)])).app (t := [(13, l)])
      have hx := hx1
      refine gw_aast_Text (gc k_Desk_law_1 5 rfl) (by first | exact gAt hx rfl rfl) (by omega) (Or.inr ((((((gsz_last sh 10 8).app _).app _).app _).app _).app _)) ?_
      obtain ⟨g9, hg9⟩ : ∃ M, M = gup g91 7 (g 179 43) (sh.length : Int) := ⟨_, rfl⟩
      rw [← hg9]
      have c9 : ∀ a j, a ≠ (sh.length : Int) → a < sh.length + 1 → ¬ (a = 7 ∧ j = g 179 43) → g9 a j = g3 a j := fun a j q1 q2 q3 => by
        have e1 : g91 a j = g3 a j := by rw [hk5.1 a q1 (Or.inl q2), c4 a q1]
        rw [hg9]
        by_cases e : a = 7
        · subst e; rw [gup_k _ _ _ _ (fun q => q3 ⟨rfl, q⟩)]; exact e1
        · rw [gup_a _ _ _ _ _ e]; exact e1
      have hf : gFin g9 := by rw [hg9]; exact hf91.up rfl
      have e17 : g9 1 7 = g 179 43 := by rw [c9 1 7 (by omega) (by omega) (by omega), d4 _ _ (by decide) (by decide) (by omega) (by decide) (by decide), h7]
      refine gw_aload_n (gc k_Desk_law_1 6 rfl) rfl rfl ?_
      refine gw_getref (gc k_Desk_law_1 7 rfl) fl_Desk_12 (by first | exact gAt hx rfl rfl) (by first | exact gRf hf rfl rfl) ?_
      refine gw_dup (gc k_Desk_law_1 8 rfl) rfl ?_
      refine gw_getf 7 rfl (gc k_Desk_law_1 9 rfl) fl_Desk_143 (by first | exact gAt hx rfl rfl) ?_
      rw [e17]
      refine gw_iconst (gc k_Desk_law_1 10 rfl) ?_
      refine gw_iadd (gc k_Desk_law_1 11 rfl) ?_
      refine gw_putIK 7 rfl (gc k_Desk_law_1 12 rfl) fl_Desk_143 (by first | exact gAt hx rfl rfl) hf (by rfl) (fun hf => ?_)
      refine gw_aload_n (gc k_Desk_law_1 13 rfl) rfl rfl ?_
      refine gw_aload_n (gc k_Desk_law_1 14 rfl) rfl rfl ?_
      refine gw_getref (gc k_Desk_law_1 15 rfl) fl_Desk_12 (by first | exact gAt hx rfl rfl) (by first | exact gRf hf rfl rfl) ?_
      refine gw_getf 7 rfl (gc k_Desk_law_1 16 rfl) fl_Desk_143 (by first | exact gAt hx rfl rfl) ?_
      rw [gup_s]
      refine gw_iconst (gc k_Desk_law_1 17 rfl) ?_
      refine gw_isub (gc k_Desk_law_1 18 rfl) ?_
      rw [show g 179 43 + 1 - 1 = g 179 43 by omega]
      refine gw_cV1 (gc k_Desk_law_1 19 rfl) y_Desk_answer ln_Desk_86 (c_Desk_answer hx hf (g 179 43) (by omega)) rfl rfl (by first | exact gAt hx rfl rfl) rfl rfl ?_
      refine gw_ireturn (gc k_Desk_law_1 20 rfl) rfl ?_
      have hdf4 : dfL false g4 0 0 (L.map pcO) Lc := dfL_ext (m := 12) (w := 400) (fun j _ => e15 153 j (by decide) (by decide)) (fun j _ => e15 154 j (by decide) (by decide)) (fun j _ => e15 155 j (by decide) (by decide)) (fun j _ => ⟨e15 156 j (by decide) (by decide), e15 157 j (by decide) (by decide)⟩) _ 0 0 Lc (by omega) (by omega) hdf
      have hTx := tx_new (sh := sh) (g := g4) (M := g91) (o := false) hsl hk hl9 hL12.1 hLc hdf4 (by rw [e152, h0c]) (by rw [e152, h2c]) hkk hk5
      refine Or.inr ⟨by omega, Or.inr ⟨L, gup g9 1 7 (g 179 43 + 1), hL, rfl, ⟨[(10, 8), (13, k), (13, k), (13, 3 * k + 1), (13, l), (13, l)], by simp, by simp⟩, ansM_nn _ (by omega), hf, hTx.ext (fun x y hxy => ?_), ?_, gup_s _ _ _ _, ?_, ?_, fun a j z1 z2 z3 z4 z5 z6 z7 z8 => ?_⟩⟩
      · rw [gup_a _ _ _ _ _ (by omega), hg9, gup_a _ _ _ _ _ (by omega)]
      · rw [gup_a _ _ _ _ _ (by decide), hg9, gup_s]
      · rw [gup_a _ _ _ _ _ (by decide), c9 0 12 (by omega) (by omega) (by omega), d1, hb1]
      · rw [gup_a _ _ _ _ _ (by decide), c9 149 1 (by omega) (by omega) (by omega), d2]
      · have e : gup g9 1 7 (g 179 43 + 1) a j = g9 a j := by
          by_cases e : a = 1
          · subst e; exact gup_k _ _ _ _ (fun q => z2 ⟨rfl, q⟩)
          · exact gup_a _ _ _ _ _ e
        rw [e, c9 a j (by omega) (by omega) z3, d4 a j z1 z4 z5 z6 z7]
    · refine gw_aload_n (gc k_Desk_law_0 29 rfl) rfl rfl ?_
      refine gw_bipush (gc k_Desk_law_0 30 rfl) (by decide) ?_
      refine gw_cV1 (gc k_Desk_law_0 31 rfl) y_Desk_answer ln_Desk_86 (c_Desk_answer hx hf (-6) (by decide)) rfl rfl (by first | exact gAt hx rfl rfl) rfl rfl ?_
      refine gw_ireturn (gc k_Desk_law_0 32 rfl) rfl ?_
      rcases hV with ⟨e, hp, h2, h3, h4⟩ | ⟨z, -⟩
      · rw [lawRd_wh] at hp
        refine Or.inr ⟨by omega, Or.inl ⟨e, _, ?_, rfl, rfl, rfl, by rw [← h2]; exact hD⟩⟩
        cases hq : lawRd (tT (tB g) (g 177 13)) (tW (tB g) (g 177 13)) nt with
        | inl e2 => rw [hq] at hp; exact congrArg Sum.inl (Sum.inl.inj hp)
        | inr L => rw [hq] at hp; cases hp
      · exfalso; omega
  · refine gw_aload_n (gc k_Desk_law_0 5 rfl) rfl rfl ?_
    refine gw_getref (gc k_Desk_law_0 6 rfl) fl_Desk_51 (by first | exact gAt hx rfl rfl) (by first | exact gRf hf rfl rfl) ?_
    refine gw_iconst (gc k_Desk_law_0 7 rfl) ?_
    refine gw_putIK 1 rfl (gc k_Desk_law_0 8 rfl) fl_Desk_132 (by first | exact gAt hx rfl rfl) hf (by rfl) (fun hf => ?_)
    refine gw_aload_n (gc k_Desk_law_0 9 rfl) rfl rfl ?_
    refine gw_bipush (gc k_Desk_law_0 10 rfl) (by decide) ?_
    refine gw_cV1 (gc k_Desk_law_0 11 rfl) y_Desk_answer ln_Desk_86 (c_Desk_answer hx hf (-5) (by decide)) rfl rfl (by first | exact gAt hx rfl rfl) rfl rfl ?_
    refine gw_ireturn (gc k_Desk_law_0 12 rfl) rfl ?_
    exact Or.inl ⟨by omega, rfl, rfl, rfl⟩
set_option maxHeartbeats 8000000 in
theorem c_Desk_orders {sh : gS} {g : gM} (hx : gFix sh) (hf : gFin g) {Λ : Int → List PC} (hR : relR Λ sh g) {nt : Int} (hnt : ntK (tB g) (g 177 13) nt) {r1 : Int → Int} (hr1 : oRow (g 179) r1) : gTri f_Desk_orders 41 0 0 [(2, 0)] sh g (fun x s1 g1 => s1 = sh ∧ orD Λ sh g r1 nt x g1) := by
  have hro := hR.ro
  have hm := ro_many hro
  have h0 := hR.X.nums.1.1
  have hX := hR.X
  have htp := hR.2.2.1
  have hl0 : g 149 1 = g 177 13 := htp.2.1
  have hl : 0 ≤ g 177 13 ∧ g 177 13 ≤ 400 := htp.1.1
  have hB : ∀ j, 0 ≤ j → j < 400 → g 150 j = tB g j ∧ 0 ≤ tB g j ∧ tB g j ≤ 255 := fun j a b => ⟨htp.2.2 j a b, tB_bd g j⟩
  refine gTri.of (by decide +kernel) rfl ?_
  show gWP f_Desk_orders _ _ _ 0 [(2, 0)] [] sh g _
  refine gw_aload_n (gc k_Desk_orders_0 0 rfl) rfl rfl ?_
  refine gw_aload_n (gc k_Desk_orders_0 1 rfl) rfl rfl ?_
  refine gw_getref (gc k_Desk_orders_0 2 rfl) fl_Desk_58 (by first | exact gAt hx rfl rfl) (by first | exact gRf hf rfl rfl) ?_
  refine gw_aload_n (gc k_Desk_orders_0 3 rfl) rfl rfl ?_
  refine gw_getref (gc k_Desk_orders_0 4 rfl) fl_Desk_51 (by first | exact gAt hx rfl rfl) (by first | exact gRf hf rfl rfl) ?_
  refine gw_iconst (gc k_Desk_orders_0 5 rfl) ?_
  refine gw_xV1 (gc k_Desk_orders_0 6 rfl) y_Reader_read ln_Desk_146 (rc_readO hx hf hB hl hl0 hnt (hdO_fw hnt.ok)) rfl rfl (by first | exact gAt hx rfl rfl) rfl rfl (fun r10 sh2 g10 hq10 => ?_)
  obtain ⟨b, rfl, hsh, hrA, hV⟩ := hq10
  subst sh2
  have hf0 := hf
  have hf := hrA.fin hf
  refine gw_putIK 12 rfl (gc k_Desk_orders_0 7 rfl) fl_Desk_78 (by first | exact gAt hx rfl rfl) hf (by rfl) (fun hf => ?_)
  refine gw_aload_n (gc k_Desk_orders_0 8 rfl) rfl rfl ?_
  refine gw_getref (gc k_Desk_orders_0 9 rfl) fl_Desk_51 (by first | exact gAt hx rfl rfl) (by first | exact gRf hf rfl rfl) ?_
  refine gw_iconst (gc k_Desk_orders_0 10 rfl) ?_
  refine gw_putIK 1 rfl (gc k_Desk_orders_0 11 rfl) fl_Desk_132 (by first | exact gAt hx rfl rfl) hf (by rfl) (fun hf => ?_)
  have hD := rdD_of (b := b) hrA hf0
  have hbb := rdV_b hV hl
  refine gw_aload_n (gc k_Desk_orders_0 12 rfl) rfl rfl ?_
  refine gw_getf 12 rfl (gc k_Desk_orders_0 13 rfl) fl_Desk_78 (by first | exact gAt hx rfl rfl) ?_
  rw [gup_a _ _ _ _ _ (by decide), gup_s]
  refine gw_iconst (gc k_Desk_orders_0 14 rfl) ?_
  refine gw_icmp_eq (tgt := 47) (gc k_Desk_orders_0 15 rfl) rfl (by omega) (fun c29 => ?_) (fun c29 => ?_)
  · rcases hV with ⟨e, -, h2, h3, h4⟩ | ⟨-, L, Lc, hp, hL12, h0c, h1c, hLc, hdf, h2c⟩
    · exfalso; omega
    rw [ordRd_wh] at hp
    obtain ⟨g3, hg3⟩ : ∃ M, M = gup (gup g10 0 12 b) 149 1 0 := ⟨_, rfl⟩
    rw [← hg3] at hD ⊢
    obtain ⟨d1, d2, hf3, d4⟩ := hD
    have hf := hf3
    have e15 : ∀ a j, 152 ≤ a → g3 a j = g10 a j := fun a j q1 => by rw [hg3, gup_a _ _ _ _ _ (by omega), gup_a _ _ _ _ _ (by omega)]
    have hdf3 : dfL true g3 0 0 L Lc := dfL_ext (m := 12) (w := 400) (fun j _ => e15 153 j (by decide)) (fun j _ => e15 154 j (by decide)) (fun j _ => e15 155 j (by decide)) (fun j _ => ⟨e15 156 j (by decide), e15 157 j (by decide)⟩) _ 0 0 Lc (by omega) (by omega) hdf
    have htx : txL 152 true sh g3 152 L := tx_draft hx hf (by rw [e15 _ _ (by decide), h0c]) hL12.1 hLc hdf3 (by rw [e15 _ _ (by decide), h2c]) (ordRd_k (fun p => (tW_bd _ _ _).1) hp)
    have hb1 : b = -1 := by omega
    have d5 : ∀ a j, (1 ≤ a ∧ a ≤ 148) ∨ 159 ≤ a → g3 a j = g a j := fun a j q => d4 a j (by omega) (by omega) (by omega) (by omega) (by omega)
    have hro1 := hr1.2
    have hC1 : clI Λ sh (r1, g 190, g 177 33) g3 := by
      have hX1 : bdX Λ sh r1 g 1 := hX.row hro1 (fun y z => hr1.1 y (by omega))
      have hT1 : trI r1 (g 190) (g 177 33) 13 g := hR.2.1.1.2.row hm (fun y a b => hr1.1 y (by omega)) (hr1.1 41 (by omega))
      exact ⟨hX1.of (fun a k z => d5 a k (by omega)), hT1.of (fun a k z1 z2 => d5 a k (by omega))⟩
    have hbT : bdT sh g3 1 := hR.2.1.2.keep (fun k => d5 _ _ (by omega))
    refine gw_aload_n (gc k_Desk_orders_0 24 rfl) rfl rfl ?_
    refine gw_aload_n (gc k_Desk_orders_0 25 rfl) rfl rfl ?_
    refine gw_getref (gc k_Desk_orders_0 26 rfl) fl_Desk_28 (by first | exact gAt hx rfl rfl) (by first | exact gRf hf rfl rfl) ?_
    refine gw_aload_n (gc k_Desk_orders_0 27 rfl) rfl rfl ?_
    refine gw_getref (gc k_Desk_orders_0 28 rfl) fl_Desk_58 (by first | exact gAt hx rfl rfl) (by first | exact gRf hf rfl rfl) ?_
    refine gw_getref (gc k_Desk_orders_0 29 rfl) fl_Desk_156 (by first | exact gAt hx rfl rfl) (by first | exact gRf hf rfl rfl) ?_
    refine gw_xV1 (gc k_Desk_orders_0 30 rfl) y_Clerk_carryOut ln_Desk_166 (c_Clerk_carryOut hx hf hC1 hbT htx (by decide) (ordRd_s (fun p => (tW_bd _ _ _).1) hp)) rfl rfl (by first | exact gAt hx rfl rfl) rfl rfl (fun r59 sh2 g59 hq59 => ?_)
    obtain ⟨hsh, hcF, hf, hbT2, hQ⟩ := hq59
    subst sh2
    have hr : ∃ v, r59 = some (0, v) ∧ -6 ≤ v ∧ v ≤ 2147483647 := by
      rcases hQ with ⟨i, -, e, -⟩ | ⟨S, hS, e, -⟩
      · exact ⟨_, e, by decide, by decide⟩
      · refine ⟨_, e, ?_⟩
        have := exL_bd L 0 _ S 0 ⟨hro1, fun _ _ => rfl, hR.un.1⟩ (show xsB ((r1, g 190, g 177 33), 0, -1) 0 from ⟨⟨Int.le_refl 0, Int.le_refl 0⟩, Int.le_refl (-1), (by decide : (-1 : Int) ≤ 12)⟩) (fun c hc => (clK_t (ordRd_k (fun p => (tW_bd _ _ _).1) hp c hc)).1) (fun c hc => (clK_t (ordRd_k (fun p => (tW_bd _ _ _).1) hp c hc)).2.2.1) hS
        unfold xsB at this
        omega
    obtain ⟨v, rfl, hvb⟩ := hr
    refine gw_cV1 (gc k_Desk_orders_0 31 rfl) y_Desk_answer ln_Desk_86 (c_Desk_answer hx hf v (by omega)) rfl rfl (by first | exact gAt hx rfl rfl) rfl rfl ?_
    refine gw_ireturn (gc k_Desk_orders_0 32 rfl) rfl ?_
    refine ⟨rfl, Or.inr ⟨L, g59, hp, ?_, ?_, hf, hbT2, fun a k z => ?_, fun j => ?_, fun k z => ?_, ?_⟩⟩
    · rw [hcF _ _ (by decide) (by decide) (by decide) (by omega) (by decide) (by decide) (by omega) (by decide), d1, hb1]
    · rw [hcF _ _ (by decide) (by decide) (by decide) (by omega) (by decide) (by decide) (by omega) (by decide), d2]
    · unfold cS2 cS1 at z
      rw [hcF a k (by omega) (by omega) (by omega) (by omega) (by omega) (by omega) (by omega) (by omega)]
      exact d4 a k (by omega) (by omega) (by omega) (by omega) (by omega)
    · rw [hcF _ _ (by decide) (by decide) (by decide) (by omega) (by decide) (by decide) (by omega) (by decide)]
      exact d4 _ _ (by omega) (by omega) (by omega) (by omega) (by omega)
    · rw [hcF _ _ (by decide) (by decide) (by decide) (by omega) (by decide) (by decide) (by omega) (by decide)]
      exact d4 _ _ (by omega) (by omega) (by omega) (by omega) (by omega)
    · rcases hQ with ⟨i, h1, e, h2, h3⟩ | ⟨S, h1, e, h2, h3⟩
      · exact Or.inl ⟨i, h1, e, by rw [sv_eq e], h2, h3⟩
      · have hv0 : 0 ≤ v := by
          have := exL_bd L 0 _ S 0 ⟨hro1, fun _ _ => rfl, hR.un.1⟩ (show xsB ((r1, g 190, g 177 33), 0, -1) 0 from ⟨⟨Int.le_refl 0, Int.le_refl 0⟩, Int.le_refl (-1), (by decide : (-1 : Int) ≤ 12)⟩) (fun c hc => (clK_t (ordRd_k (fun p => (tW_bd _ _ _).1) hp c hc)).1) (fun c hc => (clK_t (ordRd_k (fun p => (tW_bd _ _ _).1) hp c hc)).2.2.1) h1
          unfold xsB at this
          have := sv_eq e
          omega
        exact Or.inr ⟨S, h1, e, by rw [← sv_eq e]; exact hv0, ansM_nn _ hv0, h2, h3⟩
  · refine gw_aload_n (gc k_Desk_orders_0 16 rfl) rfl rfl ?_
    refine gw_getref (gc k_Desk_orders_0 17 rfl) fl_Desk_28 (by first | exact gAt hx rfl rfl) (by first | exact gRf hf rfl rfl) ?_
    refine gw_iconst (gc k_Desk_orders_0 18 rfl) ?_
    refine gw_putIK 1 rfl (gc k_Desk_orders_0 19 rfl) fl_Desk_163 (by first | exact gAt hx rfl rfl) hf (by rfl) (fun hf => ?_)
    refine gw_aload_n (gc k_Desk_orders_0 20 rfl) rfl rfl ?_
    refine gw_bipush (gc k_Desk_orders_0 21 rfl) (by decide) ?_
    refine gw_cV1 (gc k_Desk_orders_0 22 rfl) y_Desk_answer ln_Desk_86 (c_Desk_answer hx hf (-6) (by decide)) rfl rfl (by first | exact gAt hx rfl rfl) rfl rfl ?_
    refine gw_ireturn (gc k_Desk_orders_0 23 rfl) rfl ?_
    rcases hV with ⟨e, hp, h2, h3, h4⟩ | ⟨z, -⟩
    · rw [ordRd_wh] at hp
      have c : ∀ a k, ¬ (a = 12 ∧ k = 1) → gup (gup (gup g10 0 12 b) 149 1 0) 12 1 (-1) a k = gup (gup g10 0 12 b) 149 1 0 a k := fun a k q => by
        by_cases e : a = 12
        · subst e; exact gup_k _ _ _ _ (fun y => q ⟨rfl, y⟩)
        · exact gup_a _ _ _ _ _ e
      refine ⟨rfl, Or.inl ⟨e, _, hp, rfl, rfl, ?_, ?_, gup_s _ _ _ _, hf, hR.2.1.1.of (fun a k z => ?_), hR.2.1.2.keep (fun k => ?_), fun a k z => ?_, fun j => ?_, fun k z => ?_⟩⟩
      · rw [c _ _ (by omega), hD.1, h2]
      · rw [c _ _ (by omega), hD.2.1]
      · rw [c a k (by omega)]; exact hD.2.2.2 a k (by omega) (by omega) (by omega) (by omega) (by omega)
      · rw [c _ _ (by omega)]; exact hD.2.2.2 _ _ (by omega) (by omega) (by omega) (by omega) (by omega)
      · unfold cS2 cS1 at z
        rw [c a k (by omega)]; exact hD.2.2.2 a k (by omega) (by omega) (by omega) (by omega) (by omega)
      · rw [c _ _ (by omega)]; exact hD.2.2.2 _ _ (by omega) (by omega) (by omega) (by omega) (by omega)
      · rw [c _ _ (by omega)]; exact hD.2.2.2 _ _ (by omega) (by omega) (by omega) (by omega) (by omega)
    · exfalso; omega
