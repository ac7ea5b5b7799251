theorem askM_bdG {r : Int → Int} (ho : rowOK r) (n here ahead : Int) (p : Prop) [Decidable p] (hn : 0 ≤ n ∧ n < 12) (hp : p → 0 < n) (hh : 0 ≤ here ∧ here ≤ 24) (ha : p → 0 ≤ ahead ∧ ahead ≤ 24) (j : Int) : -1000 ≤ askM r n here p ahead j ∧ askM r n here p ahead j ≤ 1000 := by
  have a2 := ro_pitch ho (12 + n) (by omega)
  have a3 := ro_day ho
  have a4 := ro_mood ho
  have a5 := bi_01 (n = r 41 - 1)
  unfold askM
  by_cases h : p
  · have a6 := ha h
    have a8 := hp h
    have a7 := ro_pitch ho (12 + n - 1) (by omega)
    simp only [if_pos h]
    repeat' split
    all_goals omega
  · simp only [if_neg h]
    repeat' split
    all_goals omega
def atM (g : gM) (n here ahead : Int) (p : Prop) [Decidable p] : gM := gfr g 189 (fun y => if 0 ≤ y ∧ y < 10 then askM (g 179) n here p ahead y else g 189 y)
theorem atM_fn (g : gM) (n here ahead : Int) (p : Prop) [Decidable p] {a : Int} (h : a ≠ 189) : atM g n here ahead p a = g a := gfr_fn _ _ _ h
theorem atM_sk (g : gM) (n here ahead : Int) (p : Prop) [Decidable p] : gSk g (atM g n here ahead p) := fun a k _ h => congrFun (atM_fn g n here ahead p h) k
theorem c_barQ {sh : gS} {g : gM} (hx : gFix sh) (hf : gFin g) {r : Int → Int} (hr : g 179 = r) (ho : rowOK r) (hl : lawsOK r) (n here ahead : Int) (p : Prop) [Decidable p] (hn : 0 ≤ n ∧ n < 12) (hp : p → 0 < n) (hh : 0 ≤ here ∧ here ≤ 24) (ha : p → 0 ≤ ahead ∧ ahead ≤ 24) : gTri f_Model_isBarred 43 0 0 [(2, 177)] sh (atM g n here ahead p) (fun x s2 g2 => x = some (0, bi (tlR r (askW (askM r n here p ahead)) 3 1 0 = 1)) ∧ s2 = sh ∧ gSc (atM g n here ahead p) g2) := by
  subst hr
  have e1 : atM g n here ahead p 179 = g 179 := atM_fn _ _ _ _ _ (by decide)
  have e2 : ∀ j, 0 ≤ j → j < 10 → atM g n here ahead p 189 j = askM (g 179) n here p ahead j := fun j h1 h2 => (gfr_s _ _ _ _).trans (if_pos ⟨h1, h2⟩)
  have q := c_Model_isBarred hx (hf.fr (a := 189) (f := fun y => if 0 ≤ y ∧ y < 10 then askM (g 179) n here p ahead y else g 189 y) (fun _ => rfl)) (show rowOK (atM g n here ahead p 179) by rw [e1]; exact ho) (fun j h1 h2 => by
    show -1000 ≤ atM g n here ahead p 189 j ∧ atM g n here ahead p 189 j ≤ 1000
    rw [e2 j h1 h2]; exact askM_bdG ho n here ahead p hn hp hh ha j) (show lawsOK (atM g n here ahead p 179) by rw [e1]; exact hl)
  rw [show askW (gfr g 189 (fun y => if 0 ≤ y ∧ y < 10 then askM (g 179) n here p ahead y else g 189 y) 189) = askW (askM (g 179) n here p ahead) from askW_in e2] at q
  rw [show gfr g 189 (fun y => if 0 ≤ y ∧ y < 10 then askM (g 179) n here p ahead y else g 189 y) 179 = g 179 from e1] at q
  exact q
/-! canons -/
def cnA (r : Int → Int) (d h n : Int) : Int := if d < n then r (12 + n - 1 - d) + h else 0
def cnB (r : Int → Int) (d h n : Int) : Int := bi (tlR r (askW (askM r n (r (12 + n - d) + h) (d < n) (cnA r d h n))) 3 1 0 = 1)
def cnF (r : Int → Int) (d h : Int) : Nat → Int → Int
  | 0, _ => 1
  | m + 1, n => if 0 ≤ r (12 + n - d) + h ∧ r (12 + n - d) + h ≤ 24 then (if cnB r d h n = 1 then 0 else cnF r d h m (n + 1)) else 0
theorem cnF_bd (r : Int → Int) (d h : Int) : ∀ (m : Nat) (n : Int), cnF r d h m n = 0 ∨ cnF r d h m n = 1
  | 0, _ => Or.inr rfl
  | m + 1, n => by
    unfold cnF
    split
    · split
      · exact Or.inl rfl
      · exact cnF_bd r d h m (n + 1)
    · exact Or.inl rfl
theorem cnF_a {r : Int → Int} {d h n : Int} {m : Nat} (h1 : ¬ (0 ≤ r (12 + n - d) + h ∧ r (12 + n - d) + h ≤ 24)) : cnF r d h (m + 1) n = 0 := if_neg h1
theorem cnF_b {r : Int → Int} {d h n : Int} {m : Nat} (h1 : 0 ≤ r (12 + n - d) + h ∧ r (12 + n - d) + h ≤ 24) (h2 : cnB r d h n = 1) : cnF r d h (m + 1) n = 0 := (if_pos h1).trans (if_pos h2)
theorem cnF_c {r : Int → Int} {d h n : Int} {m : Nat} (h1 : 0 ≤ r (12 + n - d) + h ∧ r (12 + n - d) + h ≤ 24) (h2 : ¬ cnB r d h n = 1) : cnF r d h (m + 1) n = cnF r d h m (n + 1) := (if_pos h1).trans (if_neg h2)
def cnC (r : Int → Int) (d h : Int) : Int := cnF r d h (r 41 - d).toNat d
def cnL (r : Int → Int) (d i : Int) : Nat → Int → Int → Int
  | 0, _, n => if i = -1 then n else -1000
  | m + 1, h, n => if cnC r d h = 1 then (if n = i then h else cnL r d i m (h + 1) (n + 1)) else cnL r d i m (h + 1) n
def canR (r : Int → Int) (d i : Int) : Int := if (1 ≤ d ∧ d ≤ r 41 - 1) ∧ -1 ≤ i then cnL r d i 49 (-24) 0 else -1000
theorem cnL_a {r : Int → Int} {d i h n : Int} {m : Nat} (h1 : ¬ cnC r d h = 1) : cnL r d i (m + 1) h n = cnL r d i m (h + 1) n := if_neg h1
theorem cnL_b {r : Int → Int} {d i h n : Int} {m : Nat} (h1 : cnC r d h = 1) (h2 : n = i) : cnL r d i (m + 1) h n = h := (if_pos h1).trans (if_pos h2)
theorem cnL_c {r : Int → Int} {d i h n : Int} {m : Nat} (h1 : cnC r d h = 1) (h2 : ¬ n = i) : cnL r d i (m + 1) h n = cnL r d i m (h + 1) (n + 1) := (if_pos h1).trans (if_neg h2)
set_option maxHeartbeats 1000000 in
theorem c_Model_isCanon {sh : gS} {g : gM} (hx : gFix sh) (hf : gFin g) (d h : Int) (hd : 1 ≤ d ∧ d < g 179 41) (hh : -24 ≤ h ∧ h ≤ 24) (ho : rowOK (g 179)) (hl : lawsOK (g 179)) : gTri f_Model_isCanon 44 0 0 [(2, 177), (0, d), (0, h)] sh g (fun x s2 g2 => x = some (0, cnC (g 179) d h) ∧ s2 = sh ∧ gSk g g2) := by
  have hm := ro_many ho
  have hf0 := hf
  refine gTri.of (by decide +kernel) rfl ?_
  show gWP f_Model_isCanon _ _ _ 0 [(2, 177), (0, d), (0, h), (9, 0), (9, 0), (9, 0)] [] sh g _
  refine gw_iconst (gc k_Model_isCanon_0 0 rfl) ?_
  refine gw_istore_3 (gc k_Model_isCanon_0 1 rfl) rfl rfl ?_
  refine gw_iload_n (gc k_Model_isCanon_0 2 rfl) rfl ?_
  refine gw_istore_4 (gc k_Model_isCanon_0 3 rfl) rfl rfl ?_
  refine gwloop (σ := Int × Int × gV × gM) (fun zs => (d ≤ (zs.2.1) ∧ (zs.2.1) ≤ g 179 41) ∧ gSk g (zs.2.2.2) ∧ (((zs.1) = 1 ∧ cnF (g 179) d h (g 179 41 - (zs.2.1)).toNat (zs.2.1) = cnC (g 179) d h ∧ (d < (zs.2.1) → 0 ≤ cnA (g 179) d h (zs.2.1) ∧ cnA (g 179) d h (zs.2.1) ≤ 24)) ∨ ((zs.1) = 0 ∧ cnC (g 179) d h = 0))) (fun zs => (g 179 41 - (zs.2.1)).toNat) (fun zs => [(2, 177), (0, d), (0, h), (0, (zs.1)), (0, (zs.2.1)), (zs.2.2.1)]) (fun zs => (zs.2.2.2)) (1, d, (9, 0), g) (show (d ≤ d ∧ d ≤ g 179 41) ∧ gSk g g ∧ (((1 : Int) = 1 ∧ cnF (g 179) d h (g 179 41 - d).toNat d = cnC (g 179) d h ∧ (d < d → 0 ≤ cnA (g 179) d h d ∧ cnA (g 179) d h d ≤ 24)) ∨ ((1 : Int) = 0 ∧ cnC (g 179) d h = 0)) from ⟨by omega, gSk.rf g, Or.inl ⟨rfl, rfl, fun z => absurd z (by omega)⟩⟩) rfl rfl (fun zs hI ih => ?_)
  obtain ⟨t, n, x, g1⟩ := zs
  replace hI : (d ≤ n ∧ n ≤ g 179 41) ∧ gSk g g1 ∧ ((t = 1 ∧ cnF (g 179) d h (g 179 41 - n).toNat n = cnC (g 179) d h ∧ (d < n → 0 ≤ cnA (g 179) d h n ∧ cnA (g 179) d h n ≤ 24)) ∨ (t = 0 ∧ cnC (g 179) d h = 0)) := hI
  obtain ⟨hn, hS, hV⟩ := hI
  show gWP _ _ _ _ _ [(2, 177), (0, d), (0, h), (0, t), (0, n), x] [] _ (g1) _
  have hf := hf0.sk hS
  have e1 : g1 179 = g 179 := hS.fn (by decide) (by decide)
  refine gw_iload (gc k_Model_isCanon_0 4 rfl) rfl ?_
  refine gw_aload_n (gc k_Model_isCanon_0 5 rfl) rfl rfl ?_
  refine gw_cV1 (gc k_Model_isCanon_0 6 rfl) y_Model_noteMany ln_Model_112 (c_Model_noteMany hx hf) rfl rfl (gAt hx rfl rfl) rfl rfl ?_
  rw [e1]
  refine gw_icmp_ge (tgt := 111) (gc k_Model_isCanon_0 7 rfl) rfl (by omega) (fun c11 => ?_) (fun c11 => ?_)
  · refine gw_iload_n (gc k_Model_isCanon_1 23 rfl) rfl ?_
    refine gw_zreturn (gc k_Model_isCanon_1 24 rfl) rfl (by omega) ?_
    have e0 : n < g 179 41 ∨ (g 179 41 - n).toNat = 0 := by omega
    rcases e0 with e0 | e0
    · exact ⟨gsi (by omega), rfl, hS⟩
    · rw [e0, show cnF (g 179) d h 0 n = 1 from rfl] at hV
      exact ⟨gsi (by omega), rfl, hS⟩
  · refine gw_iload_n (gc k_Model_isCanon_0 8 rfl) rfl ?_
    refine gw_if_eq (tgt := 111) (gc k_Model_isCanon_0 9 rfl) rfl (by omega) (fun c15 => ?_) (fun c15 => ?_)
    · refine gw_iload_n (gc k_Model_isCanon_1 23 rfl) rfl ?_
      refine gw_zreturn (gc k_Model_isCanon_1 24 rfl) rfl (by omega) ?_
      have e0 : n < g 179 41 ∨ (g 179 41 - n).toNat = 0 := by omega
      rcases e0 with e0 | e0
      · exact ⟨gsi (by omega), rfl, hS⟩
      · rw [e0, show cnF (g 179) d h 0 n = 1 from rfl] at hV
        exact ⟨gsi (by omega), rfl, hS⟩
    · have hV := Or.resolve_right hV (fun z => c15 z.1)
      have en : (g 179 41 - n).toNat = (g 179 41 - (n + 1)).toNat + 1 := by omega
      rw [en] at hV
      have hv := hV.2.1
      have hah := hV.2.2
      refine gw_aload_n (gc k_Model_isCanon_0 10 rfl) rfl rfl ?_
      refine gw_getref (gc k_Model_isCanon_0 11 rfl) fl_Model_28 (gAt hx rfl rfl) (gRf hf rfl rfl) ?_
      refine gw_bipush (gc k_Model_isCanon_0 12 rfl) (by decide) ?_
      refine gw_iload (gc k_Model_isCanon_0 13 rfl) rfl ?_
      refine gw_iadd (gc k_Model_isCanon_0 14 rfl) ?_
      refine gw_iload_n (gc k_Model_isCanon_0 15 rfl) rfl ?_
      refine gw_isub (gc k_Model_isCanon_0 16 rfl) ?_
      refine gw_iald (gc k_Model_isCanon_0 17 rfl) (gAt hx rfl rfl) (by omega) ?_
      rw [e1]
      have hpi := ro_pitch ho (12 + n - d) (by omega)
      refine gw_iload_n (gc k_Model_isCanon_0 18 rfl) rfl ?_
      refine gw_iadd (gc k_Model_isCanon_0 19 rfl) ?_
      refine gw_istore_5 (gc k_Model_isCanon_0 20 rfl) rfl rfl ?_
      refine gw_iload (gc k_Model_isCanon_0 21 rfl) rfl ?_
      refine gw_cS1 (gc k_Model_isCanon_0 22 rfl) y_Model_isPitch ln_Model_116 (c_Model_isPitch _ (by omega)) rfl rfl rfl rfl ?_
      refine gw_istore_3 (gc k_Model_isCanon_0 23 rfl) rfl rfl ?_
      refine gw_iload_n (gc k_Model_isCanon_0 24 rfl) rfl ?_
      refine gw_bne (tgt := 47) (gc k_Model_isCanon_0 25 rfl) rfl (fun c41 => ?_) (fun c41 => ?_)
      · refine gw_aload_n (gc k_Model_isCanon_0 27 rfl) rfl rfl ?_
        refine gw_iload (gc k_Model_isCanon_0 28 rfl) rfl ?_
        refine gw_iload (gc k_Model_isCanon_0 29 rfl) rfl ?_
        refine gw_join0 63 (fun v => v = bi (d < n)) (fun v52 hv52 => ?_) (fun kj52 => ?_)
        · refine gw_join0 89 (fun v => v = cnA (g 179) d h n) (fun v63 hv63 => ?_) (fun kj63 => ?_)
          · subst hv52; subst hv63
            refine gw_cV0 (gc k_Model_isCanon_1 13 rfl) y_Model_takesNote ln_Model_321 (c_Model_takesNote hx hf n _ _ (d < n) (by omega) (by omega) (by rw [e1]; omega)) rfl rfl (gAt hx rfl rfl) rfl rfl ?_
            refine gw_aload_n (gc k_Model_isCanon_1 14 rfl) rfl rfl ?_
            refine gw_xV1 (gc k_Model_isCanon_1 15 rfl) y_Model_isBarred ln_Model_137 (c_barQ hx hf e1 ho hl n _ _ (d < n) (by omega) (by omega) c41 hah) rfl rfl (gAt hx rfl rfl) rfl rfl (fun r93 sh2 g93 hq93 => ?_)
            obtain ⟨rfl, rfl, hq93⟩ := hq93
            refine gw_bne (tgt := 103) (gc k_Model_isCanon_1 16 rfl) rfl (fun c96 => ?_) (fun c96 => ?_)
            · refine gw_iconst (gc k_Model_isCanon_1 19 rfl) ?_
              refine gw_istore_3 (gc k_Model_isCanon_1 20 rfl) rfl rfl ?_
              refine gw_iinc_4 (gc k_Model_isCanon_1 21 rfl) rfl rfl ?_
              refine gw_goto (tgt := 5) (gc k_Model_isCanon_1 22 rfl) rfl ?_
              rw [cnF_b c41 (bi_1 c96)] at hv
              exact ih (0, n + 1, (0, g 179 (12 + n - d) + h), g93) (show (d ≤ (n + 1) ∧ (n + 1) ≤ g 179 41) ∧ gSk g g93 ∧ (((0 : Int) = 1 ∧ cnF (g 179) d h (g 179 41 - (n + 1)).toNat (n + 1) = cnC (g 179) d h ∧ (d < (n + 1) → 0 ≤ cnA (g 179) d h (n + 1) ∧ cnA (g 179) d h (n + 1) ≤ 24)) ∨ ((0 : Int) = 0 ∧ cnC (g 179) d h = 0)) from ⟨by omega, hS.tr ((atM_sk g1 n _ _ _).tr hq93.sk), Or.inr ⟨rfl, hv.symm⟩⟩) (show (g 179 41 - (n + 1)).toNat < (g 179 41 - n).toNat from by omega)
            · refine gw_iconst (gc k_Model_isCanon_1 17 rfl) ?_
              refine gw_goto (tgt := 104) (gc k_Model_isCanon_1 18 rfl) rfl ?_
              refine gw_istore_3 (gc k_Model_isCanon_1 20 rfl) rfl rfl ?_
              refine gw_iinc_4 (gc k_Model_isCanon_1 21 rfl) rfl rfl ?_
              refine gw_goto (tgt := 5) (gc k_Model_isCanon_1 22 rfl) rfl ?_
              rw [cnF_c c41 (fun z => absurd (z.symm.trans (bi_0 c96)) (by decide))] at hv
              exact ih (1, n + 1, (0, g 179 (12 + n - d) + h), g93) (show (d ≤ (n + 1) ∧ (n + 1) ≤ g 179 41) ∧ gSk g g93 ∧ (((1 : Int) = 1 ∧ cnF (g 179) d h (g 179 41 - (n + 1)).toNat (n + 1) = cnC (g 179) d h ∧ (d < (n + 1) → 0 ≤ cnA (g 179) d h (n + 1) ∧ cnA (g 179) d h (n + 1) ≤ 24)) ∨ ((1 : Int) = 0 ∧ cnC (g 179) d h = 0)) from ⟨by omega, hS.tr ((atM_sk g1 n _ _ _).tr hq93.sk), Or.inl ⟨rfl, hv, fun _ => by unfold cnA; rw [if_pos (by omega), show 12 + (n + 1) - 1 - d = 12 + n - d by omega]; exact c41⟩⟩) (show (g 179 41 - (n + 1)).toNat < (g 179 41 - n).toNat from by omega)
          · refine gw_iload (gc k_Model_isCanon_0 36 rfl) rfl ?_
            refine gw_iload_n (gc k_Model_isCanon_0 37 rfl) rfl ?_
            refine gw_icmp_le (tgt := 88) (gc k_Model_isCanon_0 38 rfl) rfl (by omega) (fun c66 => ?_) (fun c66 => ?_)
            · refine gw_iconst (gc k_Model_isCanon_1 12 rfl) ?_
              exact kj63 _ (by unfold cnA; first | rw [if_pos (by omega)] | rw [if_neg (by omega)])
            · refine gw_aload_n (gc k_Model_isCanon_0 39 rfl) rfl rfl ?_
              refine gw_getref (gc k_Model_isCanon_1 0 rfl) fl_Model_28 (gAt hx rfl rfl) (gRf hf rfl rfl) ?_
              refine gw_bipush (gc k_Model_isCanon_1 1 rfl) (by decide) ?_
              refine gw_iload (gc k_Model_isCanon_1 2 rfl) rfl ?_
              refine gw_iadd (gc k_Model_isCanon_1 3 rfl) ?_
              refine gw_iconst (gc k_Model_isCanon_1 4 rfl) ?_
              refine gw_isub (gc k_Model_isCanon_1 5 rfl) ?_
              refine gw_iload_n (gc k_Model_isCanon_1 6 rfl) rfl ?_
              refine gw_isub (gc k_Model_isCanon_1 7 rfl) ?_
              refine gw_iald (gc k_Model_isCanon_1 8 rfl) (gAt hx rfl rfl) (by omega) ?_
              rw [e1]
              refine gw_iload_n (gc k_Model_isCanon_1 9 rfl) rfl ?_
              refine gw_iadd (gc k_Model_isCanon_1 10 rfl) ?_
              refine gw_goto (tgt := 89) (gc k_Model_isCanon_1 11 rfl) rfl ?_
              exact kj63 _ (by unfold cnA; first | rw [if_pos (by omega)] | rw [if_neg (by omega)])
        · refine gw_iload (gc k_Model_isCanon_0 30 rfl) rfl ?_
          refine gw_iload_n (gc k_Model_isCanon_0 31 rfl) rfl ?_
          refine gw_icmp_le (tgt := 62) (gc k_Model_isCanon_0 32 rfl) rfl (by omega) (fun c55 => ?_) (fun c55 => ?_)
          · refine gw_iconst (gc k_Model_isCanon_0 35 rfl) ?_
            exact kj52 _ (by first | exact (bi_1 (by omega)).symm | exact (bi_0 (by omega)).symm)
          · refine gw_iconst (gc k_Model_isCanon_0 33 rfl) ?_
            refine gw_goto (tgt := 63) (gc k_Model_isCanon_0 34 rfl) rfl ?_
            exact kj52 _ (by first | exact (bi_1 (by omega)).symm | exact (bi_0 (by omega)).symm)
      · refine gw_goto (tgt := 105) (gc k_Model_isCanon_0 26 rfl) rfl ?_
        refine gw_iinc_4 (gc k_Model_isCanon_1 21 rfl) rfl rfl ?_
        refine gw_goto (tgt := 5) (gc k_Model_isCanon_1 22 rfl) rfl ?_
        rw [cnF_a c41] at hv
        exact ih (bi (0 ≤ g 179 (12 + n - d) + h ∧ g 179 (12 + n - d) + h ≤ 24), n + 1, (0, g 179 (12 + n - d) + h), g1) (show (d ≤ (n + 1) ∧ (n + 1) ≤ g 179 41) ∧ gSk g g1 ∧ (((bi (0 ≤ g 179 (12 + n - d) + h ∧ g 179 (12 + n - d) + h ≤ 24)) = 1 ∧ cnF (g 179) d h (g 179 41 - (n + 1)).toNat (n + 1) = cnC (g 179) d h ∧ (d < (n + 1) → 0 ≤ cnA (g 179) d h (n + 1) ∧ cnA (g 179) d h (n + 1) ≤ 24)) ∨ ((bi (0 ≤ g 179 (12 + n - d) + h ∧ g 179 (12 + n - d) + h ≤ 24)) = 0 ∧ cnC (g 179) d h = 0)) from ⟨by omega, hS, Or.inr ⟨bi_0 c41, hv.symm⟩⟩) (show (g 179 41 - (n + 1)).toNat < (g 179 41 - n).toNat from by omega)
set_option maxHeartbeats 1000000 in
theorem c_Model_canon {sh : gS} {g : gM} (hx : gFix sh) (hf : gFin g) (d i : Int) (hb : (-2147483648 ≤ d ∧ d ≤ 2147483647) ∧ (-2147483648 ≤ i ∧ i ≤ 2147483647)) (ho : rowOK (g 179)) (hl : lawsOK (g 179)) : gTri f_Model_canon 45 0 0 [(2, 177), (0, d), (0, i)] sh g (fun x s2 g2 => x = some (0, canR (g 179) d i) ∧ s2 = sh ∧ gSk g g2) := by
  have hm := ro_many ho
  have hf0 := hf
  refine gTri.of (by decide +kernel) rfl ?_
  show gWP f_Model_canon _ _ _ 0 [(2, 177), (0, d), (0, i), (9, 0), (9, 0)] [] sh g _
  refine gw_iload_n (gc k_Model_canon_0 0 rfl) rfl ?_
  refine gw_iconst (gc k_Model_canon_0 1 rfl) ?_
  refine gw_aload_n (gc k_Model_canon_0 2 rfl) rfl rfl ?_
  refine gw_cV1 (gc k_Model_canon_0 3 rfl) y_Model_noteMany ln_Model_112 (c_Model_noteMany hx hf) rfl rfl (gAt hx rfl rfl) rfl rfl ?_
  refine gw_iconst (gc k_Model_canon_0 4 rfl) ?_
  refine gw_isub (gc k_Model_canon_0 5 rfl) ?_
  refine gw_cS1 (gc k_Model_canon_0 6 rfl) y_Model_lies ln_Model_18 (c_Model_lies d 1 _ (by omega)) rfl rfl rfl rfl ?_
  refine gw_beq (tgt := 19) (gc k_Model_canon_0 7 rfl) rfl (fun c11 => ?_) (fun c11 => ?_)
  · refine gw_sipush (gc k_Model_canon_0 11 rfl) (by decide) ?_
    refine gw_ireturn (gc k_Model_canon_0 12 rfl) rfl ?_
    exact ⟨by unfold canR; rw [if_neg (by omega)], rfl, gSk.rf g⟩
  · refine gw_iload_n (gc k_Model_canon_0 8 rfl) rfl ?_
    refine gw_iconst (gc k_Model_canon_0 9 rfl) ?_
    refine gw_icmp_ge (tgt := 23) (gc k_Model_canon_0 10 rfl) rfl (by omega) (fun c16 => ?_) (fun c16 => ?_)
    · refine gw_iconst (gc k_Model_canon_0 13 rfl) ?_
      refine gw_istore_3 (gc k_Model_canon_0 14 rfl) rfl rfl ?_
      refine gw_bipush (gc k_Model_canon_0 15 rfl) (by decide) ?_
      refine gw_istore_4 (gc k_Model_canon_0 16 rfl) rfl rfl ?_
      refine gwloop (σ := Nat × Int × Int × gM) (fun zs => (zs.2.1) + (zs.1) = 25 ∧ gSk g (zs.2.2.2) ∧ (-24 ≤ (zs.2.1) ∧ 0 ≤ (zs.2.2.1) ∧ (zs.2.2.1) ≤ (zs.2.1) + 24) ∧ cnL (g 179) d i (zs.1) (zs.2.1) (zs.2.2.1) = cnL (g 179) d i 49 (-24) 0) (fun zs => (zs.1)) (fun zs => [(2, 177), (0, d), (0, i), (0, (zs.2.2.1)), (0, (zs.2.1))]) (fun zs => (zs.2.2.2)) (49, -24, 0, g) (show (-24 : Int) + (49 : Nat) = 25 ∧ gSk g g ∧ (-24 ≤ (-24 : Int) ∧ 0 ≤ (0 : Int) ∧ (0 : Int) ≤ (-24 : Int) + 24) ∧ cnL (g 179) d i (49 : Nat) (-24 : Int) (0 : Int) = cnL (g 179) d i 49 (-24) 0 from ⟨by omega, gSk.rf g, by omega, rfl⟩) rfl rfl (fun zs hI ih => ?_)
      obtain ⟨m, h, n, g1⟩ := zs
      replace hI : h + m = 25 ∧ gSk g g1 ∧ (-24 ≤ h ∧ 0 ≤ n ∧ n ≤ h + 24) ∧ cnL (g 179) d i m h n = cnL (g 179) d i 49 (-24) 0 := hI
      obtain ⟨hm0, hS, hb2, hV⟩ := hI
      show gWP _ _ _ _ _ [(2, 177), (0, d), (0, i), (0, n), (0, h)] [] _ (g1) _
      have hf := hf0.sk hS
      have e1 : g1 179 = g 179 := hS.fn (by decide) (by decide)
      refine gw_iload (gc k_Model_canon_0 17 rfl) rfl ?_
      refine gw_bipush (gc k_Model_canon_0 18 rfl) (by decide) ?_
      refine gw_icmp_ge (tgt := 66) (gc k_Model_canon_0 19 rfl) rfl (by omega) (fun c33 => ?_) (fun c33 => ?_)
      · refine gw_iload_n (gc k_Model_canon_0 34 rfl) rfl ?_
        refine gw_iconst (gc k_Model_canon_0 35 rfl) ?_
        refine gw_icmp_ne (tgt := 75) (gc k_Model_canon_0 36 rfl) rfl (by omega) (fun c68 => ?_) (fun c68 => ?_)
        · refine gw_sipush (gc k_Model_canon_0 39 rfl) (by decide) ?_
          refine gw_ireturn (gc k_Model_canon_1 0 rfl) rfl ?_
          obtain rfl : m = 0 := by omega
          exact ⟨by unfold canR; rw [if_pos (by omega), ← hV]; unfold cnL; first | rw [if_pos (by omega)] | rw [if_neg (by omega)], rfl, hS⟩
        · refine gw_iload_n (gc k_Model_canon_0 37 rfl) rfl ?_
          refine gw_goto (tgt := 78) (gc k_Model_canon_0 38 rfl) rfl ?_
          refine gw_ireturn (gc k_Model_canon_1 0 rfl) rfl ?_
          obtain rfl : m = 0 := by omega
          exact ⟨by unfold canR; rw [if_pos (by omega), ← hV]; unfold cnL; first | rw [if_pos (by omega)] | rw [if_neg (by omega)], rfl, hS⟩
      · obtain ⟨m, rfl⟩ : ∃ q, m = q + 1 := ⟨m - 1, by omega⟩
        refine gw_aload_n (gc k_Model_canon_0 20 rfl) rfl rfl ?_
        refine gw_iload_n (gc k_Model_canon_0 21 rfl) rfl ?_
        refine gw_iload (gc k_Model_canon_0 22 rfl) rfl ?_
        refine gw_xV1 (gc k_Model_canon_0 23 rfl) y_Model_isCanon ln_Model_410 (c_Model_isCanon hx hf d h (by rw [e1]; omega) (by omega) (by rw [e1]; exact ho) (by rw [e1]; exact hl)) rfl rfl (gAt hx rfl rfl) rfl rfl (fun r40 sh2 g40 hq40 => ?_)
        rw [e1] at hq40
        obtain ⟨rfl, rfl, hq40⟩ := hq40
        have hcb := cnF_bd (g 179) d h (g 179 41 - d).toNat d
        have hcc : cnC (g 179) d h = cnF (g 179) d h (g 179 41 - d).toNat d := rfl
        refine gw_if_ne (tgt := 49) (gc k_Model_canon_0 24 rfl) rfl (by omega) (fun c43 => ?_) (fun c43 => ?_)
        · refine gw_iload_n (gc k_Model_canon_0 26 rfl) rfl ?_
          refine gw_iload_n (gc k_Model_canon_0 27 rfl) rfl ?_
          refine gw_icmp_ne (tgt := 57) (gc k_Model_canon_0 28 rfl) rfl (by omega) (fun c51 => ?_) (fun c51 => ?_)
          · refine gw_iinc_3 (gc k_Model_canon_0 31 rfl) rfl rfl ?_
            refine gw_iinc_4 (gc k_Model_canon_0 32 rfl) rfl rfl ?_
            refine gw_goto (tgt := 29) (gc k_Model_canon_0 33 rfl) rfl ?_
            rw [cnL_c (by omega) c51] at hV
            exact ih (m, h + 1, n + 1, g40) (show (h + 1) + m = 25 ∧ gSk g g40 ∧ (-24 ≤ (h + 1) ∧ 0 ≤ (n + 1) ∧ (n + 1) ≤ (h + 1) + 24) ∧ cnL (g 179) d i m (h + 1) (n + 1) = cnL (g 179) d i 49 (-24) 0 from ⟨by omega, hS.tr hq40, by omega, hV⟩) (show m < m + 1 from by omega)
          · refine gw_iload (gc k_Model_canon_0 29 rfl) rfl ?_
            refine gw_ireturn (gc k_Model_canon_0 30 rfl) rfl ?_
            rw [cnL_b (by omega) c51] at hV
            exact ⟨by unfold canR; rw [if_pos (by omega), ← hV], rfl, hS.tr hq40⟩
        · refine gw_goto (tgt := 60) (gc k_Model_canon_0 25 rfl) rfl ?_
          refine gw_iinc_4 (gc k_Model_canon_0 32 rfl) rfl rfl ?_
          refine gw_goto (tgt := 29) (gc k_Model_canon_0 33 rfl) rfl ?_
          rw [cnL_a (by omega)] at hV
          exact ih (m, h + 1, n, g40) (show (h + 1) + m = 25 ∧ gSk g g40 ∧ (-24 ≤ (h + 1) ∧ 0 ≤ n ∧ n ≤ (h + 1) + 24) ∧ cnL (g 179) d i m (h + 1) n = cnL (g 179) d i 49 (-24) 0 from ⟨by omega, hS.tr hq40, by omega, hV⟩) (show m < m + 1 from by omega)
    · refine gw_sipush (gc k_Model_canon_0 11 rfl) (by decide) ?_
      refine gw_ireturn (gc k_Model_canon_0 12 rfl) rfl ?_
      exact ⟨by unfold canR; rw [if_neg (by omega)], rfl, gSk.rf g⟩
