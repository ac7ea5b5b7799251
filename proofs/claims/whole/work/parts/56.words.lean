/-! ===== words ===== -/
def wdL : List (List Int) := [[99, 111, 115, 116, 115], [101, 97, 114, 110, 115], [98, 97, 114, 115], [105, 102], [111, 114], [97, 110, 100], [110, 111, 116], [112, 108, 97, 99, 101], [97, 112, 97, 114, 116], [97, 104, 101, 97, 100], [108, 101, 97, 112], [109, 111, 118, 101, 115], [108, 97, 115, 116], [109, 111, 111, 100], [104, 101, 114, 101], [117, 110, 100, 101, 114], [100, 97, 121], [100, 111, 110, 101], [108, 97, 116, 101, 115, 116], [98, 97, 114, 114, 101, 100], [97, 108, 108], [115, 101, 116], [115, 104, 105, 102, 116], [115, 119, 97, 112], [112, 97, 115, 115], [116, 111], [116, 105, 109, 101, 115]]
def wdF : List (List Int) → List Int
  | [] => []
  | x :: r => x ++ 32 :: wdF r
def wordsOK (g : gM) : Prop := ∀ (j : Nat) (c : Int), (wdF wdL)[j]? = some c → g 183 j = c
def wmF (B : Int → Int) (k : Int) (x : List Int) : Nat → Int
  | 0 => 1
  | i + 1 => if wmF B k x i = 1 ∧ x.getD i 0 = B (k + i) then 1 else 0
theorem wmF_01 (B : Int → Int) (k : Int) (x : List Int) (i : Nat) : wmF B k x i = 0 ∨ wmF B k x i = 1 := by
  cases i with
  | zero => exact Or.inr rfl
  | succ i => unfold wmF; split <;> simp
theorem wmF_mono {B : Int → Int} {k : Int} {x : List Int} {i : Nat} (h : wmF B k x i = 0) : ∀ j, wmF B k x (i + j) = 0
  | 0 => h
  | j + 1 => by
    have := wmF_mono h j
    show (if wmF B k x (i + j) = 1 ∧ _ then (1 : Int) else 0) = 0
    rw [if_neg (fun z => by omega)]
theorem wmF_all {B : Int → Int} {k : Int} {x : List Int} : ∀ {i : Nat}, wmF B k x i = 1 → ∀ j : Nat, j < i → x.getD j 0 = B (k + j)
  | 0, _, j, hj => by omega
  | i + 1, h, j, hj => by
    have e : wmF B k x (i + 1) = if wmF B k x i = 1 ∧ x.getD i 0 = B (k + i) then 1 else 0 := rfl
    rw [e] at h
    by_cases z : wmF B k x i = 1 ∧ x.getD i 0 = B (k + i)
    · by_cases q : j = i
      · rw [q]; exact z.2
      · exact wmF_all z.1 j (by omega)
    · rw [if_neg z] at h; omega
def wEq (B : Int → Int) (k e : Int) (x : List Int) : Int := if (x.length : Int) = e - k then wmF B k x x.length else 0
def wcF (B : Int → Int) (k e : Int) : List (List Int) → Int → Int
  | [], _ => 0
  | x :: r, w => if wEq B k e x = 1 then w else wcF B k e r (w + 1)
def wordC (B : Int → Int) (k e : Int) : Int := wcF B k e wdL 1
def tB (g : gM) : Int → Int := fun j => g 184 j % 256
theorem wdF_len : (wdF wdL).length = 137 := by decide +kernel
theorem wdF_chars : ∀ x ∈ wdL, ∀ c ∈ x, 97 ≤ c ∧ c ≤ 122 := by decide
theorem wd_nil {L : List (List Int)} (h : wdF L = []) : L = [] := by
  cases L with
  | nil => rfl
  | cons x r =>
    exfalso
    have : (x ++ 32 :: wdF r).length = 0 := congrArg List.length h
    rw [List.length_append, List.length_cons] at this
    omega
theorem w_len {kk : Nat} {x : List Int} {r : List (List Int)} (h : (wdF wdL).drop kk = wdF (x :: r)) : kk + x.length + 1 ≤ 137 := by
  have e : ((wdF wdL).drop kk).length = (x ++ 32 :: wdF r).length := congrArg List.length h
  rw [List.length_drop, wdF_len, List.length_append, List.length_cons] at e
  omega
theorem w_at {g : gM} (hW : wordsOK g) {kk : Nat} {x : List Int} {r : List (List Int)} (h : (wdF wdL).drop kk = wdF (x :: r)) {j : Nat} (hj : j < x.length) : g 183 ((kk : Int) + (j : Int)) = x.getD j 0 := by
  refine hW (kk + j) _ ?_
  rw [← List.getElem?_drop, h]
  show (x ++ 32 :: wdF r)[j]? = _
  rw [List.getElem?_append_left hj, List.getElem?_eq_getElem hj]
  simp [List.getD, List.getElem?_eq_getElem hj]
theorem w_end {g : gM} (hW : wordsOK g) {kk : Nat} {x : List Int} {r : List (List Int)} (h : (wdF wdL).drop kk = wdF (x :: r)) : g 183 ((kk : Int) + (x.length : Int)) = 32 := by
  refine hW (kk + x.length) _ ?_
  rw [← List.getElem?_drop, h]
  show (x ++ 32 :: wdF r)[x.length]? = _
  rw [List.getElem?_append_right (Nat.le_refl _), Nat.sub_self]
  rfl
theorem w_next {kk : Nat} {x : List Int} {r : List (List Int)} (h : (wdF wdL).drop kk = wdF (x :: r)) : (wdF wdL).drop (kk + (x.length + 1)) = wdF r := by
  rw [← List.drop_drop, h]
  show (x ++ 32 :: wdF r).drop (x.length + 1) = _
  rw [← List.drop_drop, List.drop_left]
  rfl
theorem w_chr {x : List Int} (h : ∀ c ∈ x, 97 ≤ c ∧ c ≤ 122) {j : Nat} (hj : j < x.length) : 97 ≤ x.getD j 0 ∧ x.getD j 0 ≤ 122 := by
  have e : x.getD j 0 = x[j] := by simp [List.getD, List.getElem?_eq_getElem hj]
  rw [e]
  exact h _ (List.getElem_mem hj)
theorem wcF_no {B : Int → Int} {k e : Int} {x : List Int} {r : List (List Int)} {w : Int} (h : ¬ wEq B k e x = 1) : wcF B k e (x :: r) w = wcF B k e r (w + 1) := if_neg h
theorem wcF_bd {B : Int → Int} {k e : Int} : ∀ (L : List (List Int)) (w : Int), 0 ≤ w → 0 ≤ wcF B k e L w ∧ wcF B k e L w ≤ w + L.length
  | [], w, h => by unfold wcF; exact ⟨Int.le_refl _, by show 0 ≤ w + ((0 : Nat) : Int); omega⟩
  | x :: r, w, h => by
    have := wcF_bd (B := B) (k := k) (e := e) r (w + 1) (by omega)
    unfold wcF
    rw [List.length_cons]
    split <;> omega
set_option maxHeartbeats 4000000 in
theorem c_Model_wordOf {sh : gS} {g : gM} (hx : gFix sh) (hf : gFin g) (a e : Int) (hae : 0 ≤ a ∧ a ≤ e ∧ e ≤ 400) (hW : wordsOK g) (ht : tapeOK g) : gTri f_Model_wordOf 0 0 0 [(2, 177), (0, a), (0, e)] sh g (gR (some (0, wordC (tB g) a e)) sh g) := by
  refine gTri.of (by decide +kernel) rfl ?_
  show gWP f_Model_wordOf _ _ _ 0 [(2, 177), (0, a), (0, e), (9, 0), (9, 0), (9, 0), (9, 0), (9, 0)] [] sh g _
  refine gw_iconst (gc k_Model_wordOf_0 0 rfl) ?_
  refine gw_istore_3 (gc k_Model_wordOf_0 1 rfl) rfl rfl ?_
  refine gw_iconst (gc k_Model_wordOf_0 2 rfl) ?_
  refine gw_istore_4 (gc k_Model_wordOf_0 3 rfl) rfl rfl ?_
  refine gwloop (σ := (List (List Int)) × Int × Nat × gV × gV × gV) (fun zs => (wdF wdL).drop (zs.2.2.1) = wdF (zs.1) ∧ (∀ y ∈ (zs.1), ∀ z ∈ y, 97 ≤ z ∧ z ≤ 122) ∧ ((zs.2.2.1) ≤ 137 ∧ 0 ≤ (zs.2.1) ∧ (zs.2.1) ≤ 1000) ∧ wcF (tB g) a e (zs.1) (zs.2.1) = wordC (tB g) a e ∧ (zs.2.1) + (zs.1).length ≤ 28) (fun zs => (zs.1).length) (fun zs => [(2, 177), (0, a), (0, e), (0, (zs.2.1)), (0, ((zs.2.2.1) : Int)), (zs.2.2.2.1), (zs.2.2.2.2.1), (zs.2.2.2.2.2)]) (fun zs => g) (wdL, 1, 0, (9, 0), (9, 0), (9, 0)) (show (wdF wdL).drop (0 : Nat) = wdF wdL ∧ (∀ y ∈ wdL, ∀ z ∈ y, 97 ≤ z ∧ z ≤ 122) ∧ ((0 : Nat) ≤ 137 ∧ 0 ≤ (1 : Int) ∧ (1 : Int) ≤ 1000) ∧ wcF (tB g) a e wdL (1 : Int) = wordC (tB g) a e ∧ (1 : Int) + wdL.length ≤ 28 from ⟨rfl, wdF_chars, by omega, rfl, by decide⟩) rfl rfl (fun zs hI ih => ?_)
  obtain ⟨L, w, kk, x5, x6, x7⟩ := zs
  replace hI : (wdF wdL).drop kk = wdF L ∧ (∀ y ∈ L, ∀ z ∈ y, 97 ≤ z ∧ z ≤ 122) ∧ (kk ≤ 137 ∧ 0 ≤ w ∧ w ≤ 1000) ∧ wcF (tB g) a e L w = wordC (tB g) a e ∧ w + L.length ≤ 28 := hI
  obtain ⟨hL, hcs, hkk, hV, hwl⟩ := hI
  show gWP _ _ _ _ _ [(2, 177), (0, a), (0, e), (0, w), (0, (kk : Int)), x5, x6, x7] [] _ (g) _
  
  refine gw_iload (gc k_Model_wordOf_0 4 rfl) rfl ?_
  refine gw_aload_n (gc k_Model_wordOf_0 5 rfl) rfl rfl ?_
  refine gw_getref (gc k_Model_wordOf_0 6 rfl) fl_Model_41 (gAt hx rfl rfl) (gRf hf rfl rfl) ?_
  refine gw_alen15 (gc k_Model_wordOf_0 7 rfl) (gAt hx rfl rfl) (by decide) ?_
  refine gw_icmp_ge (tgt := 126) (gc k_Model_wordOf_0 8 rfl) rfl (by omega) (fun c12 => ?_) (fun c12 => ?_)
  · refine gw_iconst (gc k_Model_wordOf_1 28 rfl) ?_
    refine gw_ireturn (gc k_Model_wordOf_1 29 rfl) rfl ?_
    have hn0 : L = [] := by
      refine wd_nil ?_
      rw [← hL]
      exact List.drop_of_length_le (by rw [wdF_len]; omega)
    subst hn0
    exact ⟨by rw [← hV]; rfl, rfl, rfl⟩
  · obtain ⟨x, r, rfl⟩ : ∃ x r, L = x :: r := by
      cases L with
      | nil =>
        exfalso
        have q : ((wdF wdL).drop kk).length = 0 := by rw [hL]; rfl
        rw [List.length_drop, wdF_len] at q
        have c12' : ¬ (137 : Int) ≤ (kk : Int) := by omega
        omega
      | cons x r => exact ⟨x, r, rfl⟩
    have hlen := w_len hL
    have hwe := w_end hW hL
    rw [List.length_cons] at hwl
    refine gw_iconst (gc k_Model_wordOf_0 9 rfl) ?_
    refine gw_istore_5 (gc k_Model_wordOf_0 10 rfl) rfl rfl ?_
    refine gwloop (σ := Nat) (fun zs => zs ≤ x.length) (fun zs => x.length - zs) (fun zs => [(2, 177), (0, a), (0, e), (0, w), (0, (kk : Int)), (0, (zs : Int)), x6, x7]) (fun zs => g) (0) (show (0 : Nat) ≤ x.length from (by omega)) rfl rfl (fun zs hI ih2 => ?_)
    obtain ⟨n, hzz⟩ : ∃ x, x = zs := ⟨_, rfl⟩
    subst hzz
    replace hI : n ≤ x.length := hI
    have hn := hI
    show gWP _ _ _ _ _ [(2, 177), (0, a), (0, e), (0, w), (0, (kk : Int)), (0, (n : Int)), x6, x7] [] _ (g) _
    
    refine gw_aload_n (gc k_Model_wordOf_0 11 rfl) rfl rfl ?_
    refine gw_getref (gc k_Model_wordOf_0 12 rfl) fl_Model_41 (gAt hx rfl rfl) (gRf hf rfl rfl) ?_
    refine gw_iload (gc k_Model_wordOf_0 13 rfl) rfl ?_
    refine gw_iload (gc k_Model_wordOf_0 14 rfl) rfl ?_
    refine gw_iadd (gc k_Model_wordOf_0 15 rfl) ?_
    refine gw_bald (gc k_Model_wordOf_0 16 rfl) (gAt hx rfl rfl) (by omega) ?_
    have hc : (n < x.length ∧ g 183 ((kk : Int) + (n : Int)) = x.getD n 0 ∧ 97 ≤ x.getD n 0 ∧ x.getD n 0 ≤ 122) ∨ (n = x.length ∧ g 183 ((kk : Int) + (n : Int)) = 32) := by
      by_cases q : n < x.length
      · exact Or.inl ⟨q, w_at hW hL q, w_chr (hcs x (List.mem_cons_self ..)) q⟩
      · have q2 : n = x.length := by omega
        exact Or.inr ⟨q2, by rw [q2]; exact hwe⟩
    refine gw_bipush (gc k_Model_wordOf_0 17 rfl) (by decide) ?_
    refine gw_icmp_eq (tgt := 39) (gc k_Model_wordOf_0 18 rfl) rfl (by omega) (fun c30 => ?_) (fun c30 => ?_)
    · refine gw_join0 52 (fun v => v = bi ((x.length : Int) = e - a)) (fun v39 hv39 => ?_) (fun kj39 => ?_)
      · subst hv39
        obtain rfl : n = x.length := by omega
        refine gw_istore_6 (gc k_Model_wordOf_0 29 rfl) rfl rfl ?_
        refine gw_iconst (gc k_Model_wordOf_0 30 rfl) ?_
        refine gw_istore_7 (gc k_Model_wordOf_0 31 rfl) rfl rfl ?_
        refine gwloop (σ := Nat × Int) (fun zs => (zs.1) ≤ x.length ∧ (zs.2) = (if (x.length : Int) = e - a then wmF (tB g) a x (zs.1) else 0)) (fun zs => x.length - (zs.1)) (fun zs => [(2, 177), (0, a), (0, e), (0, w), (0, (kk : Int)), (0, (x.length : Int)), (0, (zs.2)), (0, ((zs.1) : Int))]) (fun zs => g) (0, bi ((x.length : Int) = e - a)) (show (0 : Nat) ≤ x.length ∧ (bi ((x.length : Int) = e - a)) = (if (x.length : Int) = e - a then wmF (tB g) a x (0 : Nat) else 0) from ⟨by omega, rfl⟩) rfl rfl (fun zs hI ih3 => ?_)
        obtain ⟨i, s⟩ := zs
        replace hI : i ≤ x.length ∧ s = (if (x.length : Int) = e - a then wmF (tB g) a x i else 0) := hI
        obtain ⟨hi, hs⟩ := hI
        show gWP _ _ _ _ _ [(2, 177), (0, a), (0, e), (0, w), (0, (kk : Int)), (0, (x.length : Int)), (0, s), (0, (i : Int))] [] _ (g) _
        have h01 := wmF_01 (tB g) a x i
        have hs01 : s = 0 ∨ s = 1 := by rw [hs]; split <;> omega
        refine gw_iload (gc k_Model_wordOf_0 32 rfl) rfl ?_
        refine gw_iload (gc k_Model_wordOf_0 33 rfl) rfl ?_
        refine gw_icmp_ge (tgt := 104) (gc k_Model_wordOf_0 34 rfl) rfl (by omega) (fun c61 => ?_) (fun c61 => ?_)
        · refine gw_iload (gc k_Model_wordOf_1 16 rfl) rfl ?_
          refine gw_if_eq (tgt := 111) (gc k_Model_wordOf_1 17 rfl) rfl (by omega) (fun c106 => ?_) (fun c106 => ?_)
          · refine gw_iload (gc k_Model_wordOf_1 20 rfl) rfl ?_
            refine gw_iload (gc k_Model_wordOf_1 21 rfl) rfl ?_
            refine gw_iconst (gc k_Model_wordOf_1 22 rfl) ?_
            refine gw_iadd (gc k_Model_wordOf_1 23 rfl) ?_
            refine gw_iadd (gc k_Model_wordOf_1 24 rfl) ?_
            refine gw_istore_4 (gc k_Model_wordOf_1 25 rfl) rfl rfl ?_
            refine gw_iinc_3 (gc k_Model_wordOf_1 26 rfl) rfl rfl ?_
            refine gw_goto (tgt := 5) (gc k_Model_wordOf_1 27 rfl) rfl ?_
            have hne : ¬ wEq (tB g) a e x = 1 := fun z => by
              unfold wEq at z
              by_cases q : (x.length : Int) = e - a
              · rw [if_pos q] at z hs
                by_cases q2 : i = x.length
                · rw [q2] at hs; omega
                · have := wmF_mono (x := x) (i := i) (by omega : wmF (tB g) a x i = 0) (x.length - i)
                  rw [show i + (x.length - i) = x.length by omega] at this
                  omega
              · rw [if_neg q] at z; omega
            rw [wcF_no hne] at hV
            refine gWP.eqs ?_ rfl (ih (r, w + 1, kk + (x.length + 1), (0, (x.length : Int)), (0, s), (0, (i : Int))) (show (wdF wdL).drop (kk + (x.length + 1)) = wdF r ∧ (∀ y ∈ r, ∀ z ∈ y, 97 ≤ z ∧ z ≤ 122) ∧ ((kk + (x.length + 1)) ≤ 137 ∧ 0 ≤ (w + 1) ∧ (w + 1) ≤ 1000) ∧ wcF (tB g) a e r (w + 1) = wordC (tB g) a e ∧ (w + 1) + r.length ≤ 28 from ⟨w_next hL, fun y hy => hcs y (List.mem_cons_of_mem _ hy), by omega, hV, by omega⟩) (show r.length < (x :: r).length from by rw [List.length_cons]; omega))
            show [(2, 177), (0, a), (0, e), (0, (w + 1)), (0, ((kk + (x.length + 1)) : Int)), (((0, (x.length : Int)) : gV)), (((0, s) : gV)), (((0, (i : Int)) : gV))] = _
            rfl
          · refine gw_iload_n (gc k_Model_wordOf_1 18 rfl) rfl ?_
            refine gw_ireturn (gc k_Model_wordOf_1 19 rfl) rfl ?_
            have hye : wEq (tB g) a e x = 1 := by
              unfold wEq
              by_cases q : (x.length : Int) = e - a
              · rw [if_pos q] at hs ⊢
                have q2 : i = x.length := by omega
                rw [q2] at hs
                omega
              · rw [if_neg q] at hs; omega
            exact ⟨by rw [← hV]; exact gsi (if_pos hye).symm, rfl, rfl⟩
        · refine gw_iload (gc k_Model_wordOf_0 35 rfl) rfl ?_
          refine gw_if_eq (tgt := 104) (gc k_Model_wordOf_0 36 rfl) rfl (by omega) (fun c66 => ?_) (fun c66 => ?_)
          · refine gw_iload (gc k_Model_wordOf_1 16 rfl) rfl ?_
            refine gw_if_eq (tgt := 111) (gc k_Model_wordOf_1 17 rfl) rfl (by omega) (fun c106 => ?_) (fun c106 => ?_)
            · refine gw_iload (gc k_Model_wordOf_1 20 rfl) rfl ?_
              refine gw_iload (gc k_Model_wordOf_1 21 rfl) rfl ?_
              refine gw_iconst (gc k_Model_wordOf_1 22 rfl) ?_
              refine gw_iadd (gc k_Model_wordOf_1 23 rfl) ?_
              refine gw_iadd (gc k_Model_wordOf_1 24 rfl) ?_
              refine gw_istore_4 (gc k_Model_wordOf_1 25 rfl) rfl rfl ?_
              refine gw_iinc_3 (gc k_Model_wordOf_1 26 rfl) rfl rfl ?_
              refine gw_goto (tgt := 5) (gc k_Model_wordOf_1 27 rfl) rfl ?_
              have hne : ¬ wEq (tB g) a e x = 1 := fun z => by
                unfold wEq at z
                by_cases q : (x.length : Int) = e - a
                · rw [if_pos q] at z hs
                  by_cases q2 : i = x.length
                  · rw [q2] at hs; omega
                  · have := wmF_mono (x := x) (i := i) (by omega : wmF (tB g) a x i = 0) (x.length - i)
                    rw [show i + (x.length - i) = x.length by omega] at this
                    omega
                · rw [if_neg q] at z; omega
              rw [wcF_no hne] at hV
              refine gWP.eqs ?_ rfl (ih (r, w + 1, kk + (x.length + 1), (0, (x.length : Int)), (0, s), (0, (i : Int))) (show (wdF wdL).drop (kk + (x.length + 1)) = wdF r ∧ (∀ y ∈ r, ∀ z ∈ y, 97 ≤ z ∧ z ≤ 122) ∧ ((kk + (x.length + 1)) ≤ 137 ∧ 0 ≤ (w + 1) ∧ (w + 1) ≤ 1000) ∧ wcF (tB g) a e r (w + 1) = wordC (tB g) a e ∧ (w + 1) + r.length ≤ 28 from ⟨w_next hL, fun y hy => hcs y (List.mem_cons_of_mem _ hy), by omega, hV, by omega⟩) (show r.length < (x :: r).length from by rw [List.length_cons]; omega))
              show [(2, 177), (0, a), (0, e), (0, (w + 1)), (0, ((kk + (x.length + 1)) : Int)), (((0, (x.length : Int)) : gV)), (((0, s) : gV)), (((0, (i : Int)) : gV))] = _
              rfl
            · refine gw_iload_n (gc k_Model_wordOf_1 18 rfl) rfl ?_
              refine gw_ireturn (gc k_Model_wordOf_1 19 rfl) rfl ?_
              have hye : wEq (tB g) a e x = 1 := by
                unfold wEq
                by_cases q : (x.length : Int) = e - a
                · rw [if_pos q] at hs ⊢
                  have q2 : i = x.length := by omega
                  rw [q2] at hs
                  omega
                · rw [if_neg q] at hs; omega
              exact ⟨by rw [← hV]; exact gsi (if_pos hye).symm, rfl, rfl⟩
          · have hle : (x.length : Int) = e - a := Decidable.byContradiction fun z => by rw [if_neg z] at hs; omega
            rw [if_pos hle] at hs
            have hwa := w_at hW hL (j := i) (by omega)
            have hwc := w_chr (hcs x (List.mem_cons_self ..)) (j := i) (by omega)
            have htp := ht.2 (a + (i : Int)) (by omega) (by omega)
            refine gw_aload_n (gc k_Model_wordOf_0 37 rfl) rfl rfl ?_
            refine gw_getref (gc k_Model_wordOf_0 38 rfl) fl_Model_41 (gAt hx rfl rfl) (gRf hf rfl rfl) ?_
            refine gw_iload (gc k_Model_wordOf_0 39 rfl) rfl ?_
            refine gw_iload (gc k_Model_wordOf_1 0 rfl) rfl ?_
            refine gw_iadd (gc k_Model_wordOf_1 1 rfl) ?_
            refine gw_bald (gc k_Model_wordOf_1 2 rfl) (gAt hx rfl rfl) (by omega) ?_
            refine gw_aload_n (gc k_Model_wordOf_1 3 rfl) rfl rfl ?_
            refine gw_getref (gc k_Model_wordOf_1 4 rfl) fl_Model_45 (gAt hx rfl rfl) (gRf hf rfl rfl) ?_
            refine gw_iload_n (gc k_Model_wordOf_1 5 rfl) rfl ?_
            refine gw_iload (gc k_Model_wordOf_1 6 rfl) rfl ?_
            refine gw_iadd (gc k_Model_wordOf_1 7 rfl) ?_
            refine gw_bald (gc k_Model_wordOf_1 8 rfl) (gAt hx rfl rfl) (by omega) ?_
            refine gw_icmp_ne (tgt := 95) (gc k_Model_wordOf_1 9 rfl) rfl (by omega) (fun c88 => ?_) (fun c88 => ?_)
            · refine gw_iconst (gc k_Model_wordOf_1 12 rfl) ?_
              refine gw_istore_6 (gc k_Model_wordOf_1 13 rfl) rfl rfl ?_
              refine gw_iinc_7 (gc k_Model_wordOf_1 14 rfl) rfl rfl ?_
              refine gw_goto (tgt := 57) (gc k_Model_wordOf_1 15 rfl) rfl ?_
              have hw1 : 0 = (if (x.length : Int) = e - a then wmF (tB g) a x (i + 1) else 0) := by
                rw [if_pos hle]
                exact (if_neg (fun z => c88 (by have := z.2; unfold tB at this; omega))).symm
              exact ih3 (i + 1, 0) (show (i + 1) ≤ x.length ∧ (0 : Int) = (if (x.length : Int) = e - a then wmF (tB g) a x (i + 1) else 0) from ⟨by omega, hw1⟩) (show x.length - (i + 1) < x.length - i from by omega)
            · refine gw_iconst (gc k_Model_wordOf_1 10 rfl) ?_
              refine gw_goto (tgt := 96) (gc k_Model_wordOf_1 11 rfl) rfl ?_
              refine gw_istore_6 (gc k_Model_wordOf_1 13 rfl) rfl rfl ?_
              refine gw_iinc_7 (gc k_Model_wordOf_1 14 rfl) rfl rfl ?_
              refine gw_goto (tgt := 57) (gc k_Model_wordOf_1 15 rfl) rfl ?_
              have hw1 : 1 = (if (x.length : Int) = e - a then wmF (tB g) a x (i + 1) else 0) := by
                rw [if_pos hle]
                exact (if_pos ⟨by omega, by unfold tB; omega⟩).symm
              exact ih3 (i + 1, 1) (show (i + 1) ≤ x.length ∧ (1 : Int) = (if (x.length : Int) = e - a then wmF (tB g) a x (i + 1) else 0) from ⟨by omega, hw1⟩) (show x.length - (i + 1) < x.length - i from by omega)
      · refine gw_iload (gc k_Model_wordOf_0 21 rfl) rfl ?_
        refine gw_iload_n (gc k_Model_wordOf_0 22 rfl) rfl ?_
        refine gw_iload_n (gc k_Model_wordOf_0 23 rfl) rfl ?_
        refine gw_isub (gc k_Model_wordOf_0 24 rfl) ?_
        refine gw_icmp_ne (tgt := 51) (gc k_Model_wordOf_0 25 rfl) rfl (by omega) (fun c44 => ?_) (fun c44 => ?_)
        · refine gw_iconst (gc k_Model_wordOf_0 28 rfl) ?_
          exact kj39 _ (by first | exact (bi_1 (by omega)).symm | exact (bi_0 (by omega)).symm)
        · refine gw_iconst (gc k_Model_wordOf_0 26 rfl) ?_
          refine gw_goto (tgt := 52) (gc k_Model_wordOf_0 27 rfl) rfl ?_
          exact kj39 _ (by first | exact (bi_1 (by omega)).symm | exact (bi_0 (by omega)).symm)
    · refine gw_iinc_5 (gc k_Model_wordOf_0 19 rfl) rfl rfl ?_
      refine gw_goto (tgt := 18) (gc k_Model_wordOf_0 20 rfl) rfl ?_
      exact ih2 (n + 1) (show (n + 1) ≤ x.length from (by omega)) (show x.length - (n + 1) < x.length - n from by omega)
