/-! ===== the class's machine works a piece out ===== -/
/-- the stack's cells: the top first -/
def stK (f : Int → Int) : List Int → Prop
  | [] => True
  | a :: r => f r.length = a ∧ stK f r
theorem stK.ext {f f2 : Int → Int} : ∀ (st : List Int), (∀ j : Int, 0 ≤ j → j < st.length → f2 j = f j) → stK f st → stK f2 st
  | [], _, _ => trivial
  | a :: r, h, hs => by
    rw [List.length_cons] at h
    exact ⟨(h _ (by omega) (by omega)).trans hs.1, stK.ext r (fun j x y => h j x (by omega)) hs.2⟩
theorem stK.push {g : gM} {S v : Int} {st : List Int} {L : Int} (h : stK (g S) st) (hL : L = st.length) : stK (gup g S L v S) (v :: st) := by
  subst hL
  exact ⟨gup_s _ _ _ _, stK.ext st (fun j _ b => gup_k _ _ _ _ (by omega)) h⟩
/-- a machine -/
def isMc (M : Int) : Prop := M = 9 ∨ M = 17
theorem isMc.bd {M : Int} (h : isMc M) : M = 9 ∨ M = 17 := h
theorem ms {sh : gS} (hx : gFix sh) {M : Int} (h : isMc M) : gsz sh M 5 1 ∧ gsz sh (M + 1) 13 51 := by
  rcases h with rfl | rfl <;> exact ⟨gAt hx rfl rfl, gAt hx rfl rfl⟩
theorem mr {g : gM} (hf : gFin g) {M : Int} (h : isMc M) : g M 0 = M + 1 := by
  rcases h with rfl | rfl <;> exact gRf hf rfl rfl
theorem mn {M : Int} (h : isMc M) (k : Nat) : gref (M + 1).toNat k = none := by
  rcases h with rfl | rfl <;> rfl
/-- all but the stack of machine M -/
def mcF (M : Int) (g g2 : gM) : Prop := ∀ a k, a ≠ M + 1 → g2 a k = g a k
theorem mcF.rf (M : Int) (g : gM) : mcF M g g := fun _ _ _ => rfl
theorem mcF.tr {M : Int} {g g2 g3 : gM} (h : mcF M g g2) (h2 : mcF M g2 g3) : mcF M g g3 := fun a k n => (h2 a k n).trans (h a k n)
theorem mcF.up {M : Int} {g g2 : gM} (h : mcF M g g2) (k v : Int) : mcF M g (gup g2 (M + 1) k v) := fun a j n => by rw [gup_a _ _ _ _ _ n]; exact h a j n
theorem mcF.fin {M : Int} (hM : isMc M) {g g2 : gM} (h : mcF M g g2) (hf : gFin g) : gFin g2 := hf.of fun a k z => h _ _ (fun q => z (by
  have := mn hM k
  rw [← q] at this
  exact this))
theorem mcF.fn {M : Int} {g g2 : gM} (h : mcF M g g2) {a : Int} (ha : a ≠ M + 1) : g2 a = g a := funext fun k => h a k ha
def pcn (c : PK) : Nat := c.countP isP
theorem pcn_cons (x : Int × Int) (c : PK) : pcn c ≤ pcn (x :: c) ∧ ((x.1 = 0 ∨ x.1 = 1) → pcn (x :: c) = pcn c + 1) := by
  unfold pcn
  rw [List.countP_cons]
  refine ⟨by omega, fun h => ?_⟩
  have : isP x = true := decide_eq_true h
  rw [this]; rfl
theorem pcn_drop (k : Nat) (c : PK) : pcn (c.drop k) ≤ pcn c := List.Sublist.countP_le (List.drop_sublist k c)
theorem cdL_drop {O A : Int → Int} : ∀ (k : Nat) (c : PK) (t : Int), k ≤ c.length → cdL O A t c → cdL O A (t + k) (c.drop k)
  | 0, c, t, _, h => by rw [show t + ((0 : Nat) : Int) = t by omega]; exact h
  | k + 1, [], t, hk, h => absurd hk (by simp)
  | k + 1, x :: c, t, hk, h => by
    rw [show t + ((k + 1 : Nat) : Int) = t + 1 + (k : Int) by omega]
    exact cdL_drop k c (t + 1) (by rw [List.length_cons] at hk; omega) h.2.2
theorem pjn_bd {op a b v : Int} (h : pjn op a b = some v) : bd9 v := by
  have hp : ∀ x y : Int, plim x = some y → bd9 y := fun x y e => by
    unfold plim at e
    split at e
    · cases e
    · cases e; unfold bd9; omega
  have hb : ∀ (p : Prop) [Decidable p] (y : Int), some (bi p) = some y → bd9 y := fun p _ y e => by
    cases e
    have := bi_01 p
    unfold bd9; omega
  unfold pjn at h
  split at h
  · exact hp _ _ h
  · split at h
    · exact hp _ _ h
    · split at h
      · exact hp _ _ h
      · split at h
        · split at h
          · cases h
          · exact hp _ _ h
        · split at h
          · split at h
            · cases h
            · exact hp _ _ h
          · split at h
            · exact hb _ _ h
            · split at h <;> exact hb _ _ h
/-- at work: code c is left, the stack is st -/
def mcI (M : Int) (w O A : Int → Int) (E : Int) (o2 : Bool) (R : Option (Option (List Int))) (g : gM) (c : PK) (st : List Int) (at0 : Int) (g1 : gM) : Prop := (0 ≤ at0 ∧ at0 + c.length = E) ∧ cdL O A at0 c ∧ (∀ x ∈ c, opOK o2 x) ∧ jpOK c ∧ st.length + pcn c ≤ 50 ∧ (∀ v ∈ st, bd9 v) ∧ ex w c 0 st = R ∧ stK (g1 (M + 1)) st ∧ mcF M g g1
theorem exV_one {w : Int → Int} {c : PK} {v : Int} (h : ex w c 0 [] = some (some [v])) : exV w c = v := by unfold exV; rw [h]
theorem exV_br {w : Int → Int} {c : PK} (h : ex w c 0 [] = some none) : exV w c = -2000000000 := by unfold exV; rw [h]
theorem exV_two {w : Int → Int} {c : PK} {st : List Int} (h : ex w c 0 [] = some (some st)) (h2 : ¬ (st.length : Int) - 1 = 0) : exV w c = -2000000000 := by
  unfold exV
  rw [h]
  match st, h2 with
  | [], _ => rfl
  | [_], h2 => exact absurd rfl h2
  | _ :: _ :: _, _ => rfl
set_option maxHeartbeats 8000000 in
theorem c_Machine_workOut {sh : gS} (hx : gFix sh) {g : gM} (hf0 : gFin g) {M : Int} (hM : isMc M) {o W P5 P6 P7 : Int} {n N5 N6 : Nat} (ho : gsz sh o 10 8) (h5 : g o 5 = P5) (h6 : g o 6 = P6) (h7 : g o 7 = P7) (s5 : gsz sh P5 13 N5) (s6 : gsz sh P6 13 N6) (s7 : gsz sh P7 13 N6) (hN : N5 ≤ 400 ∧ N6 ≤ 400) (sW : gsz sh W 13 n) (hnn : n ≤ 100) (hd : o ≠ M + 1 ∧ P5 ≠ M + 1 ∧ P6 ≠ M + 1 ∧ P7 ≠ M + 1 ∧ W ≠ M + 1) (cl pi : Int) (hb : (0 ≤ cl ∧ cl < 12) ∧ (0 ≤ pi ∧ pi ≤ 2) ∧ cl * 3 + pi + 1 < (N5 : Int)) {o2 : Bool} (hn : (if o2 = true then (29 : Int) else 10) ≤ n) {c : PK} (ht : 0 ≤ g P5 (cl * 3 + pi)) (hE : g P5 (cl * 3 + pi + 1) = g P5 (cl * 3 + pi) + c.length) (hE2 : g P5 (cl * 3 + pi + 1) ≤ (N6 : Int)) (hc : cdL (g P6) (g P7) (g P5 (cl * 3 + pi)) c) (hop : ∀ x ∈ c, opOK o2 x) (hjp : jpOK c) (hcp : pcn c ≤ 50) (hw : ∀ i, 0 ≤ i → i < (n : Int) → bd9 (g W i)) (hR : ex (g W) c 0 [] ≠ none) : gTri f_Machine_workOut 1 0 0 [(2, M), (2, o), (0, cl), (0, pi), (2, W)] sh g (fun x s2 g2 => x = some (0, exV (g W) c) ∧ s2 = sh ∧ mcF M g g2 ∧ ∀ v, ex (g W) c 0 [] = some (some [v]) → bd9 v) := by
  have hm := hM.bd
  have hf := hf0
  refine gTri.of (by decide +kernel) rfl ?_
  show gWP f_Machine_workOut _ _ _ 0 [(2, M), (2, o), (0, cl), (0, pi), (2, W), (9, 0), (9, 0), (9, 0), (9, 0), (9, 0), (9, 0), (9, 0)] [] sh g _
  refine gw_iload_n (gc k_Machine_workOut_0 0 rfl) rfl ?_
  refine gw_iconst (gc k_Machine_workOut_0 1 rfl) ?_
  refine gw_imul (gc k_Machine_workOut_0 2 rfl) ?_
  refine gw_iload_n (gc k_Machine_workOut_0 3 rfl) rfl ?_
  refine gw_iadd (gc k_Machine_workOut_0 4 rfl) ?_
  refine gw_istore_5 (gc k_Machine_workOut_0 5 rfl) rfl rfl ?_
  refine gw_aload_n (gc k_Machine_workOut_0 6 rfl) rfl rfl ?_
  refine gw_getref (gc k_Machine_workOut_0 7 rfl) fl_Machine_15 ho h5 ?_
  refine gw_iload (gc k_Machine_workOut_0 8 rfl) rfl ?_
  refine gw_iconst (gc k_Machine_workOut_0 9 rfl) ?_
  refine gw_iadd (gc k_Machine_workOut_0 10 rfl) ?_
  refine gw_iald (gc k_Machine_workOut_0 11 rfl) s5 (by omega) ?_
  refine gw_istore_6 (gc k_Machine_workOut_0 12 rfl) rfl rfl ?_
  refine gw_iconst (gc k_Machine_workOut_0 13 rfl) ?_
  refine gw_istore_7 (gc k_Machine_workOut_0 14 rfl) rfl rfl ?_
  refine gw_aload_n (gc k_Machine_workOut_0 15 rfl) rfl rfl ?_
  refine gw_getref (gc k_Machine_workOut_0 16 rfl) fl_Machine_15 ho h5 ?_
  refine gw_iload (gc k_Machine_workOut_0 17 rfl) rfl ?_
  refine gw_iald (gc k_Machine_workOut_0 18 rfl) s5 (by omega) ?_
  refine gw_istore_8 (gc k_Machine_workOut_0 19 rfl) rfl rfl ?_
  refine gwloop (σ := PK × (List Int) × Int × gV × gV × gV × gM) (fun zs => mcI M (g W) (g P6) (g P7) (g P5 (cl * 3 + pi + 1)) o2 (ex (g W) c 0 []) g (zs.1) (zs.2.1) (zs.2.2.1) (zs.2.2.2.2.2.2)) (fun zs => (zs.1).length) (fun zs => [(2, M), (2, o), (0, cl), (0, pi), (2, W), (0, cl * 3 + pi), (0, g P5 (cl * 3 + pi + 1)), (0, ((zs.2.1).length : Int) - 1), (0, (zs.2.2.1)), (zs.2.2.2.1), (zs.2.2.2.2.1), (zs.2.2.2.2.2.1)]) (fun zs => (zs.2.2.2.2.2.2)) (c, ([] : List Int), (g P5 (cl * 3 + pi)), (9, 0), (9, 0), (9, 0), g) (show mcI M (g W) (g P6) (g P7) (g P5 (cl * 3 + pi + 1)) o2 (ex (g W) c 0 []) g c (([] : List Int)) ((g P5 (cl * 3 + pi))) g from ⟨⟨ht, hE.symm⟩, hc, hop, hjp, by show 0 + pcn c ≤ 50; omega, fun v hv => absurd hv (by simp), rfl, trivial, mcF.rf M g⟩) rfl rfl (fun zs hI ih => ?_)
  obtain ⟨c1, st, at0, x9, x10, x11, g1⟩ := zs
  replace hI : mcI M (g W) (g P6) (g P7) (g P5 (cl * 3 + pi + 1)) o2 (ex (g W) c 0 []) g c1 st at0 g1 := hI
  obtain ⟨⟨i1, i2⟩, i3, i4, i5, i6, i7, i8, i9, i10⟩ := hI
  show gWP _ _ _ _ _ [(2, M), (2, o), (0, cl), (0, pi), (2, W), (0, cl * 3 + pi), (0, g P5 (cl * 3 + pi + 1)), (0, (st.length : Int) - 1), (0, at0), x9, x10, x11] [] _ (g1) _
  have hf := i10.fin hM hf0
  have hm := hM.bd
  have e5 : g1 o 5 = P5 := (i10 _ _ hd.1).trans h5
  have e6 : g1 o 6 = P6 := (i10 _ _ hd.1).trans h6
  have e7 : g1 o 7 = P7 := (i10 _ _ hd.1).trans h7
  have eW : g1 W = g W := i10.fn hd.2.2.2.2
  have eO : g1 P6 = g P6 := i10.fn hd.2.2.1
  have eA : g1 P7 = g P7 := i10.fn hd.2.2.2.1
  refine gw_iload (gc k_Machine_workOut_0 20 rfl) rfl ?_
  refine gw_iload (gc k_Machine_workOut_0 21 rfl) rfl ?_
  refine gw_icmp_ge (tgt := 275) (gc k_Machine_workOut_0 22 rfl) rfl (by omega) (fun c34 => ?_) (fun c34 => ?_)
  · refine gw_iload (gc k_Machine_workOut_3 25 rfl) rfl ?_
    refine gw_if_ne (tgt := 289) (gc k_Machine_workOut_3 26 rfl) rfl (by omega) (fun c277 => ?_) (fun c277 => ?_)
    · refine gw_ldc (gc k_Machine_workOut_3 32 rfl) cn_Machine_26 ?_
      refine gw_ireturn (gc k_Machine_workOut_3 33 rfl) rfl ?_
      obtain rfl : c1 = [] := by
        cases c1 with
        | nil => rfl
        | cons y r => exfalso; rw [List.length_cons] at i2; omega
      rw [ex_nil] at i8
      exact ⟨by rw [exV_two i8.symm c277], rfl, i10, fun v hv => by rw [← i8] at hv; cases hv; exact absurd rfl c277⟩
    · refine gw_aload_n (gc k_Machine_workOut_3 27 rfl) rfl rfl ?_
      refine gw_getref (gc k_Machine_workOut_3 28 rfl) fl_Machine_9 (ms hx hM).1 (mr hf hM) ?_
      refine gw_iconst (gc k_Machine_workOut_3 29 rfl) ?_
      refine gw_iald (gc k_Machine_workOut_3 30 rfl) (ms hx hM).2 (by omega) ?_
      refine gw_goto (tgt := 291) (gc k_Machine_workOut_3 31 rfl) rfl ?_
      refine gw_ireturn (gc k_Machine_workOut_3 33 rfl) rfl ?_
      obtain rfl : c1 = [] := by
        cases c1 with
        | nil => rfl
        | cons y r => exfalso; rw [List.length_cons] at i2; omega
      rw [ex_nil] at i8
      obtain ⟨v, rfl⟩ : ∃ v, st = [v] := by
        match st, c277 with
        | [], q => exact absurd q (by decide)
        | [v], _ => exact ⟨v, rfl⟩
        | _ :: _ :: r, q => exfalso; rw [List.length_cons, List.length_cons] at q; omega
      refine ⟨?_, rfl, i10, fun v2 hv => by rw [← i8] at hv; cases hv; exact i7 v List.mem_cons_self⟩
      rw [exV_one i8.symm]
      exact congrArg (fun z => some (0, z)) i9.1
  · obtain ⟨⟨op, xx⟩, c2, rfl⟩ : ∃ y r, c1 = y :: r := by
      cases c1 with
      | nil => exfalso; rw [List.length_nil] at i2; omega
      | cons y r => exact ⟨y, r, rfl⟩
    rw [List.length_cons] at i2
    have hO : g P6 at0 = op := i3.1
    have hA : g P7 at0 = agO at0 (op, xx) := i3.2.1
    have i3b := i3.2.2
    have hop1 : opOK o2 (op, xx) := i4 _ List.mem_cons_self
    have i4b : ∀ x ∈ c2, opOK o2 x := fun x hx => i4 x (List.mem_cons_of_mem _ hx)
    have i5b := i5.2
    have hpc := pcn_cons (op, xx) c2
    have hst : st.length ≤ 50 := by omega
    have hOr : 0 ≤ op ∧ op ≤ 12 := by rcases hop1 with q | q | q <;> (have := q.1; simp only at this; omega)
    refine gw_aload_n (gc k_Machine_workOut_0 23 rfl) rfl rfl ?_
    refine gw_getref (gc k_Machine_workOut_0 24 rfl) fl_Machine_20 ho e6 ?_
    refine gw_iload (gc k_Machine_workOut_0 25 rfl) rfl ?_
    refine gw_iald (gc k_Machine_workOut_0 26 rfl) s6 (by omega) ?_
    rw [eO, hO]
    refine gw_istore_9 (gc k_Machine_workOut_0 27 rfl) rfl rfl ?_
    refine gw_aload_n (gc k_Machine_workOut_0 28 rfl) rfl rfl ?_
    refine gw_getref (gc k_Machine_workOut_0 29 rfl) fl_Machine_23 ho e7 ?_
    refine gw_iload (gc k_Machine_workOut_0 30 rfl) rfl ?_
    refine gw_iald (gc k_Machine_workOut_0 31 rfl) s7 (by omega) ?_
    rw [eA, hA]
    refine gw_istore_10 (gc k_Machine_workOut_0 32 rfl) rfl rfl ?_
    refine gw_iload (gc k_Machine_workOut_0 33 rfl) rfl ?_
    refine gw_if_eq (tgt := 66) (gc k_Machine_workOut_0 34 rfl) rfl (by omega) (fun c57 => ?_) (fun c57 => ?_)
    · have hop0 : op = 0 := c57
      have hag : agO at0 (op, xx) = xx := if_neg (by show ¬ (op = 3 ∨ op = 4); omega)
      rw [hag]
      refine gw_iinc_7 (gc k_Machine_workOut_0 38 rfl) rfl rfl ?_
      refine gw_iload (gc k_Machine_workOut_0 39 rfl) rfl ?_
      refine gw_aload_n (gc k_Machine_workOut_1 0 rfl) rfl rfl ?_
      refine gw_getref (gc k_Machine_workOut_1 1 rfl) fl_Machine_9 (ms hx hM).1 (mr hf hM) ?_
      refine gw_alen13 (gc k_Machine_workOut_1 2 rfl) (ms hx hM).2 (by decide) ?_
      refine gw_icmp_lt (tgt := 82) (gc k_Machine_workOut_1 3 rfl) rfl (by omega) (fun c76 => ?_) (fun c76 => ?_)
      · refine gw_aload_n (gc k_Machine_workOut_1 6 rfl) rfl rfl ?_
        refine gw_getref (gc k_Machine_workOut_1 7 rfl) fl_Machine_9 (ms hx hM).1 (mr hf hM) ?_
        refine gw_iload (gc k_Machine_workOut_1 8 rfl) rfl ?_
        refine gw_iload (gc k_Machine_workOut_1 9 rfl) rfl ?_
        refine gw_if_ne (tgt := 98) (gc k_Machine_workOut_1 10 rfl) rfl (by omega) (fun c90 => ?_) (fun c90 => ?_)
        · exfalso; omega
        · refine gw_iload (gc k_Machine_workOut_1 11 rfl) rfl ?_
          refine gw_goto (tgt := 103) (gc k_Machine_workOut_1 12 rfl) rfl ?_
          refine gw_iastF (gc k_Machine_workOut_1 16 rfl) (ms hx hM).2 (by omega) hf (mn hM _) (fun hf => ?_)
          refine gw_goto (tgt := 269) (gc k_Machine_workOut_1 17 rfl) rfl ?_
          refine gw_iinc_8 (gc k_Machine_workOut_3 23 rfl) rfl rfl ?_
          refine gw_goto (tgt := 30) (gc k_Machine_workOut_3 24 rfl) rfl ?_
          have hnew : mcI M (g W) (g P6) (g P7) (g P5 (cl * 3 + pi + 1)) o2 (ex (g W) c 0 []) g c2 (xx :: st) (at0 + 1) (gup g1 (M + 1) ((st.length : Int) - 1 + 1) (xx)) := ⟨⟨by omega, by omega⟩, i3b, i4b, i5b, by have := hpc.2 (by omega); rw [List.length_cons]; omega, fun v hv => (List.mem_cons.mp hv).elim (fun z => by rw [z]; exact (by rcases hop1 with q | q | q <;> (have q1 := q.1; simp only at q1; first | omega | (have q2 := q.2; simp only at q2; unfold bd9; omega)))) (i7 v), by rw [← i8]; subst hop0; rfl, i9.push (by omega), i10.up _ _⟩
          have hlt : c2.length < ((op, xx) :: c2).length := by rw [List.length_cons]; omega
          refine gWP.eqs (ls' := [(2, M), (2, o), (0, cl), (0, pi), (2, W), (0, cl * 3 + pi), (0, g P5 (cl * 3 + pi + 1)), (0, ((xx :: st).length : Int) - 1), (0, at0 + 1), (0, op), (0, xx), x11]) (by rw [List.length_cons, show ((st.length + 1 : Nat) : Int) - 1 = (st.length : Int) - 1 + 1 by omega]) rfl ?_
          exact ih (c2, xx :: st, at0 + 1, (0, op), (0, xx), x11, gup g1 (M + 1) ((st.length : Int) - 1 + 1) (xx)) hnew hlt
      · refine gw_ldc (gc k_Machine_workOut_1 4 rfl) cn_Machine_26 ?_
        refine gw_ireturn (gc k_Machine_workOut_1 5 rfl) rfl ?_
        exfalso; omega
    · refine gw_iload (gc k_Machine_workOut_0 35 rfl) rfl ?_
      refine gw_iconst (gc k_Machine_workOut_0 36 rfl) ?_
      refine gw_icmp_ne (tgt := 107) (gc k_Machine_workOut_0 37 rfl) rfl (by omega) (fun c63 => ?_) (fun c63 => ?_)
      · refine gw_iload (gc k_Machine_workOut_1 18 rfl) rfl ?_
        refine gw_if_ge (tgt := 115) (gc k_Machine_workOut_1 19 rfl) rfl (by omega) (fun c109 => ?_) (fun c109 => ?_)
        · obtain ⟨a, s1, rfl⟩ : ∃ a r, st = a :: r := by
            cases st with
            | nil => exfalso; rw [List.length_nil] at c109; omega
            | cons a r => exact ⟨a, r, rfl⟩
          have hta : g1 (M + 1) (((a :: s1).length : Int) - 1) = a := by rw [List.length_cons, show ((s1.length + 1 : Nat) : Int) - 1 = s1.length by omega]; exact i9.1
          have hab := i7 a List.mem_cons_self
          unfold bd9 at hab
          have i7b : ∀ v ∈ s1, bd9 v := fun v hv => i7 v (List.mem_cons_of_mem _ hv)
          have i9b := i9.2
          have hl1 : ((a :: s1).length : Int) - 1 = s1.length := by rw [List.length_cons]; omega
          refine gw_iload (gc k_Machine_workOut_1 22 rfl) rfl ?_
          refine gw_iconst (gc k_Machine_workOut_1 23 rfl) ?_
          refine gw_icmp_ne (tgt := 140) (gc k_Machine_workOut_1 24 rfl) rfl (by omega) (fun c118 => ?_) (fun c118 => ?_)
          · refine gw_iload (gc k_Machine_workOut_1 36 rfl) rfl ?_
            refine gw_iconst (gc k_Machine_workOut_1 37 rfl) ?_
            refine gw_icmp_eq (tgt := 152) (gc k_Machine_workOut_1 38 rfl) rfl (by omega) (fun c143 => ?_) (fun c143 => ?_)
            · have hop3 : op = 3 := by omega
              have hx0 : 0 ≤ xx := by rcases hop1 with q | q | q <;> (have q1 := q.1; simp only at q1; first | omega | exact q.2.2)
              have hxl : xx ≤ c2.length := i5.1 (Or.inl hop3)
              refine gw_aload_n (gc k_Machine_workOut_2 2 rfl) rfl rfl ?_
              refine gw_getref (gc k_Machine_workOut_2 3 rfl) fl_Machine_9 (ms hx hM).1 (mr hf hM) ?_
              refine gw_iload (gc k_Machine_workOut_2 4 rfl) rfl ?_
              refine gw_iald (gc k_Machine_workOut_2 5 rfl) (ms hx hM).2 (by omega) ?_
              rw [hta]
              refine gw_if_eq (tgt := 166) (gc k_Machine_workOut_2 6 rfl) rfl (by omega) (fun c159 => ?_) (fun c159 => ?_)
              · refine gw_iconst (gc k_Machine_workOut_2 9 rfl) ?_
                refine gw_iload (gc k_Machine_workOut_2 10 rfl) rfl ?_
                refine gw_iconst (gc k_Machine_workOut_2 11 rfl) ?_
                refine gw_icmp_ne (tgt := 177) (gc k_Machine_workOut_2 12 rfl) rfl (by omega) (fun c170 => ?_) (fun c170 => ?_)
                · exfalso; omega
                · refine gw_iconst (gc k_Machine_workOut_2 13 rfl) ?_
                  refine gw_goto (tgt := 178) (gc k_Machine_workOut_2 14 rfl) rfl ?_
                  refine gw_icmp_ne (tgt := 185) (gc k_Machine_workOut_2 16 rfl) rfl (by omega) (fun c178 => ?_) (fun c178 => ?_)
                  · refine gw_iconst (gc k_Machine_workOut_2 19 rfl) ?_
                    refine gw_istore_11 (gc k_Machine_workOut_2 20 rfl) rfl rfl ?_
                    refine gw_iload (gc k_Machine_workOut_2 21 rfl) rfl ?_
                    refine gw_if_eq (tgt := 207) (gc k_Machine_workOut_2 22 rfl) rfl (by omega) (fun c190 => ?_) (fun c190 => ?_)
                    · refine gw_iinc_7 (gc k_Machine_workOut_2 30 rfl) rfl rfl ?_
                      refine gw_goto (tgt := 269) (gc k_Machine_workOut_2 31 rfl) rfl ?_
                      refine gw_iinc_8 (gc k_Machine_workOut_3 23 rfl) rfl rfl ?_
                      refine gw_goto (tgt := 30) (gc k_Machine_workOut_3 24 rfl) rfl ?_
                      have hnew : mcI M (g W) (g P6) (g P7) (g P5 (cl * 3 + pi + 1)) o2 (ex (g W) c 0 []) g c2 s1 (at0 + 1) (g1) := ⟨⟨by omega, by omega⟩, i3b, i4b, i5b, by have := hpc.1; rw [List.length_cons] at i6; omega, i7b, by rw [← i8, hop3, ex_30 _ _ _ _ _ c159], i9b, i10⟩
                      have hlt : (c2).length < ((op, xx) :: c2).length := by rw [List.length_cons]; omega
                      refine gWP.eqs (ls' := [(2, M), (2, o), (0, cl), (0, pi), (2, W), (0, cl * 3 + pi), (0, g P5 (cl * 3 + pi + 1)), (0, ((s1).length : Int) - 1), (0, at0 + 1), (0, op), (0, agO at0 (op, xx)), (0, 0)]) (by rw [List.length_cons, show ((s1.length + 1 : Nat) : Int) - 1 + -1 = (s1.length : Int) - 1 by omega]) rfl ?_
                      exact ih (c2, s1, at0 + 1, (0, op), (0, agO at0 (op, xx)), (0, 0), g1) hnew hlt
                    · exfalso; omega
                  · exfalso; omega
              · refine gw_iconst (gc k_Machine_workOut_2 7 rfl) ?_
                refine gw_goto (tgt := 167) (gc k_Machine_workOut_2 8 rfl) rfl ?_
                refine gw_iload (gc k_Machine_workOut_2 10 rfl) rfl ?_
                refine gw_iconst (gc k_Machine_workOut_2 11 rfl) ?_
                refine gw_icmp_ne (tgt := 177) (gc k_Machine_workOut_2 12 rfl) rfl (by omega) (fun c170 => ?_) (fun c170 => ?_)
                · exfalso; omega
                · refine gw_iconst (gc k_Machine_workOut_2 13 rfl) ?_
                  refine gw_goto (tgt := 178) (gc k_Machine_workOut_2 14 rfl) rfl ?_
                  refine gw_icmp_ne (tgt := 185) (gc k_Machine_workOut_2 16 rfl) rfl (by omega) (fun c178 => ?_) (fun c178 => ?_)
                  · exfalso; omega
                  · refine gw_iconst (gc k_Machine_workOut_2 17 rfl) ?_
                    refine gw_goto (tgt := 186) (gc k_Machine_workOut_2 18 rfl) rfl ?_
                    refine gw_istore_11 (gc k_Machine_workOut_2 20 rfl) rfl rfl ?_
                    refine gw_iload (gc k_Machine_workOut_2 21 rfl) rfl ?_
                    refine gw_if_eq (tgt := 207) (gc k_Machine_workOut_2 22 rfl) rfl (by omega) (fun c190 => ?_) (fun c190 => ?_)
                    · exfalso; omega
                    · have hagx : agO at0 (op, xx) = at0 + 1 + xx := if_pos (Or.inl hop3)
                      have hmx : (if at0 < agO at0 (op, xx) - 1 then agO at0 (op, xx) - 1 else at0) + 1 = at0 + 1 + xx := by
                        rw [hagx]
                        split <;> omega
                      refine gw_iload (gc k_Machine_workOut_2 23 rfl) rfl ?_
                      refine gw_iload (gc k_Machine_workOut_2 24 rfl) rfl ?_
                      refine gw_iconst (gc k_Machine_workOut_2 25 rfl) ?_
                      refine gw_isub (gc k_Machine_workOut_2 26 rfl) ?_
                      refine gw_mmax (gc k_Machine_workOut_2 27 rfl) y_Math_max ln_Machine_27 (by omega) rfl rfl ?_
                      refine gw_istore_8 (gc k_Machine_workOut_2 28 rfl) rfl rfl ?_
                      refine gw_goto (tgt := 210) (gc k_Machine_workOut_2 29 rfl) rfl ?_
                      refine gw_goto (tgt := 269) (gc k_Machine_workOut_2 31 rfl) rfl ?_
                      refine gw_iinc_8 (gc k_Machine_workOut_3 23 rfl) rfl rfl ?_
                      refine gw_goto (tgt := 30) (gc k_Machine_workOut_3 24 rfl) rfl ?_
                      have hnew : mcI M (g W) (g P6) (g P7) (g P5 (cl * 3 + pi + 1)) o2 (ex (g W) c 0 []) g (c2.drop xx.toNat) (a :: s1) (at0 + 1 + xx) (g1) := ⟨⟨by omega, by rw [List.length_drop]; omega⟩, (by have := cdL_drop xx.toNat c2 (at0 + 1) (by omega) i3b; rwa [Int.toNat_of_nonneg hx0] at this), fun x hx => i4b x (List.mem_of_mem_drop hx), i5b.drop _, by have := hpc.1; have := pcn_drop xx.toNat c2; omega, i7, by rw [← i8, hop3, ex_31 _ _ _ _ _ c159]; exact (ex_drop _ _ _ _).symm, i9, i10⟩
                      have hlt : ((c2.drop xx.toNat)).length < ((op, xx) :: c2).length := by rw [List.length_cons, List.length_drop]; omega
                      refine gWP.eqs (ls' := [(2, M), (2, o), (0, cl), (0, pi), (2, W), (0, cl * 3 + pi), (0, g P5 (cl * 3 + pi + 1)), (0, (((a :: s1)).length : Int) - 1), (0, at0 + 1 + xx), (0, op), (0, agO at0 (op, xx)), (0, 1)]) (by rw [hmx]) rfl ?_
                      exact ih ((c2.drop xx.toNat), (a :: s1), at0 + 1 + xx, (0, op), (0, agO at0 (op, xx)), (0, 1), g1) hnew hlt
            · refine gw_iload (gc k_Machine_workOut_1 39 rfl) rfl ?_
              refine gw_iconst (gc k_Machine_workOut_2 0 rfl) ?_
              refine gw_icmp_ne (tgt := 213) (gc k_Machine_workOut_2 1 rfl) rfl (by omega) (fun c149 => ?_) (fun c149 => ?_)
              · refine gw_iinc_7 (gc k_Machine_workOut_2 32 rfl) rfl rfl ?_
                refine gw_iload (gc k_Machine_workOut_2 33 rfl) rfl ?_
                refine gw_if_ge (tgt := 224) (gc k_Machine_workOut_2 34 rfl) rfl (by omega) (fun c218 => ?_) (fun c218 => ?_)
                · obtain ⟨b, s2, rfl⟩ : ∃ b r, s1 = b :: r := by
                    cases s1 with
                    | nil => exfalso; rw [List.length_cons, List.length_nil] at c218; omega
                    | cons b r => exact ⟨b, r, rfl⟩
                  have hl2 : ((a :: b :: s2).length : Int) - 1 + -1 = s2.length := by rw [List.length_cons, List.length_cons]; omega
                  rw [hl2]
                  have ha' : g1 (M + 1) ((s2.length : Int) + 1) = a := by have := i9.1; rw [List.length_cons] at this; rw [show (s2.length : Int) + 1 = ((s2.length + 1 : Nat) : Int) by omega]; exact this
                  have hb' : g1 (M + 1) (s2.length : Int) = b := i9b.1
                  have hbb := i7b b List.mem_cons_self
                  unfold bd9 at hbb
                  have hs2 : s2.length ≤ 48 := by rw [List.length_cons, List.length_cons] at i6; omega
                  have ho5 : 5 ≤ op := by omega
                  refine gw_aload_n (gc k_Machine_workOut_2 37 rfl) rfl rfl ?_
                  refine gw_getref (gc k_Machine_workOut_2 38 rfl) fl_Machine_9 (ms hx hM).1 (mr hf hM) ?_
                  refine gw_iload (gc k_Machine_workOut_2 39 rfl) rfl ?_
                  refine gw_iload (gc k_Machine_workOut_3 0 rfl) rfl ?_
                  refine gw_aload_n (gc k_Machine_workOut_3 1 rfl) rfl rfl ?_
                  refine gw_getref (gc k_Machine_workOut_3 2 rfl) fl_Machine_9 (ms hx hM).1 (mr hf hM) ?_
                  refine gw_iload (gc k_Machine_workOut_3 3 rfl) rfl ?_
                  refine gw_iald (gc k_Machine_workOut_3 4 rfl) (ms hx hM).2 (by omega) ?_
                  rw [hb']
                  refine gw_i2l (gc k_Machine_workOut_3 5 rfl) (by omega) ?_
                  refine gw_aload_n (gc k_Machine_workOut_3 6 rfl) rfl rfl ?_
                  refine gw_getref (gc k_Machine_workOut_3 7 rfl) fl_Machine_9 (ms hx hM).1 (mr hf hM) ?_
                  refine gw_iload (gc k_Machine_workOut_3 8 rfl) rfl ?_
                  refine gw_iconst (gc k_Machine_workOut_3 9 rfl) ?_
                  refine gw_iadd (gc k_Machine_workOut_3 10 rfl) ?_
                  refine gw_iald (gc k_Machine_workOut_3 11 rfl) (ms hx hM).2 (by omega) ?_
                  rw [ha']
                  refine gw_i2l (gc k_Machine_workOut_3 12 rfl) (by omega) ?_
                  refine gw_cS1 (gc k_Machine_workOut_3 13 rfl) y_Machine_joined ln_Machine_33 (c_Machine_joined hx hf op b a (by omega) hbb hab) rfl rfl rfl rfl ?_
                  refine gw_iastF (gc k_Machine_workOut_3 14 rfl) (ms hx hM).2 (by omega) hf (mn hM _) (fun hf => ?_)
                  refine gw_aload_n (gc k_Machine_workOut_3 15 rfl) rfl rfl ?_
                  refine gw_getref (gc k_Machine_workOut_3 16 rfl) fl_Machine_9 (ms hx hM).1 (mr hf hM) ?_
                  refine gw_iload (gc k_Machine_workOut_3 17 rfl) rfl ?_
                  refine gw_iald (gc k_Machine_workOut_3 18 rfl) (ms hx hM).2 (by omega) ?_
                  rw [gup_s]
                  have hpr : -2147483648 ≤ brK (pjn op b a) ∧ brK (pjn op b a) ≤ 1000000000 := by
                    cases hj : pjn op b a with
                    | none => exact ⟨by decide, by decide⟩
                    | some v => have := pjn_bd hj; unfold bd9 at this; exact ⟨by show _ ≤ v; omega, this.2⟩
                  refine gw_ldc (gc k_Machine_workOut_3 19 rfl) cn_Machine_26 ?_
                  refine gw_icmp_ne (tgt := 269) (gc k_Machine_workOut_3 20 rfl) rfl (by omega) (fun c263 => ?_) (fun c263 => ?_)
                  · obtain ⟨v, hj⟩ : ∃ v, pjn op b a = some v := by
                      cases hj : pjn op b a with
                      | none => exfalso; rw [hj] at c263; exact c263 rfl
                      | some v => exact ⟨v, rfl⟩
                    rw [hj, show brK (some v) = v from rfl]
                    refine gw_iinc_8 (gc k_Machine_workOut_3 23 rfl) rfl rfl ?_
                    refine gw_goto (tgt := 30) (gc k_Machine_workOut_3 24 rfl) rfl ?_
                    have hnew : mcI M (g W) (g P6) (g P7) (g P5 (cl * 3 + pi + 1)) o2 (ex (g W) c 0 []) g c2 (v :: s2) (at0 + 1) (gup g1 (M + 1) ((s2.length : Int)) v) := ⟨⟨by omega, by omega⟩, i3b, i4b, i5b, by have := hpc.1; rw [List.length_cons, List.length_cons] at i6; rw [List.length_cons]; omega, fun v1 hv => (List.mem_cons.mp hv).elim (fun z => by rw [z]; exact pjn_bd hj) (fun z => i7b v1 (List.mem_cons_of_mem _ z)), by rw [← i8, ex_j _ ho5, hj], i9b.2.push rfl, i10.up _ _⟩
                    have hlt : (c2).length < ((op, xx) :: c2).length := by rw [List.length_cons]; omega
                    refine gWP.eqs (ls' := [(2, M), (2, o), (0, cl), (0, pi), (2, W), (0, cl * 3 + pi), (0, g P5 (cl * 3 + pi + 1)), (0, (((v :: s2)).length : Int) - 1), (0, at0 + 1), (0, op), (0, agO at0 (op, xx)), x11]) (by rw [List.length_cons, show ((s2.length + 1 : Nat) : Int) - 1 = (s2.length : Int) by omega]) rfl ?_
                    exact ih (c2, (v :: s2), at0 + 1, (0, op), (0, agO at0 (op, xx)), x11, gup g1 (M + 1) ((s2.length : Int)) v) hnew hlt
                  · refine gw_ldc (gc k_Machine_workOut_3 21 rfl) cn_Machine_26 ?_
                    refine gw_ireturn (gc k_Machine_workOut_3 22 rfl) rfl ?_
                    have hjn : pjn op b a = none := by
                      cases hj : pjn op b a with
                      | none => rfl
                      | some v =>
                        exfalso
                        rw [hj] at c263
                        have := pjn_bd hj
                        unfold bd9 at this
                        exact absurd c263 (by show ¬ v = _; omega)
                    have hbr : ex (g W) c 0 [] = some none := by rw [← i8, ex_j _ ho5, hjn]
                    exact ⟨by rw [exV_br hbr], rfl, i10.up _ _, fun v hv => by rw [hbr] at hv; cases hv⟩
                · refine gw_ldc (gc k_Machine_workOut_2 35 rfl) cn_Machine_26 ?_
                  refine gw_ireturn (gc k_Machine_workOut_2 36 rfl) rfl ?_
                  exfalso
                  apply hR
                  rw [← i8]
                  obtain rfl : s1 = [] := by
                    cases s1 with
                    | nil => rfl
                    | cons b r => rw [List.length_cons, List.length_cons] at c218; omega
                  unfold ex
                  dsimp only
                  rw [if_neg (by omega), if_neg (by omega), if_neg (by omega), if_neg (by omega), if_neg (by omega)]
              · have hop3 : op = 4 := by omega
                have hx0 : 0 ≤ xx := by rcases hop1 with q | q | q <;> (have q1 := q.1; simp only at q1; first | omega | exact q.2.2)
                have hxl : xx ≤ c2.length := i5.1 (Or.inr hop3)
                refine gw_aload_n (gc k_Machine_workOut_2 2 rfl) rfl rfl ?_
                refine gw_getref (gc k_Machine_workOut_2 3 rfl) fl_Machine_9 (ms hx hM).1 (mr hf hM) ?_
                refine gw_iload (gc k_Machine_workOut_2 4 rfl) rfl ?_
                refine gw_iald (gc k_Machine_workOut_2 5 rfl) (ms hx hM).2 (by omega) ?_
                rw [hta]
                refine gw_if_eq (tgt := 166) (gc k_Machine_workOut_2 6 rfl) rfl (by omega) (fun c159 => ?_) (fun c159 => ?_)
                · refine gw_iconst (gc k_Machine_workOut_2 9 rfl) ?_
                  refine gw_iload (gc k_Machine_workOut_2 10 rfl) rfl ?_
                  refine gw_iconst (gc k_Machine_workOut_2 11 rfl) ?_
                  refine gw_icmp_ne (tgt := 177) (gc k_Machine_workOut_2 12 rfl) rfl (by omega) (fun c170 => ?_) (fun c170 => ?_)
                  · refine gw_iconst (gc k_Machine_workOut_2 15 rfl) ?_
                    refine gw_icmp_ne (tgt := 185) (gc k_Machine_workOut_2 16 rfl) rfl (by omega) (fun c178 => ?_) (fun c178 => ?_)
                    · exfalso; omega
                    · refine gw_iconst (gc k_Machine_workOut_2 17 rfl) ?_
                      refine gw_goto (tgt := 186) (gc k_Machine_workOut_2 18 rfl) rfl ?_
                      refine gw_istore_11 (gc k_Machine_workOut_2 20 rfl) rfl rfl ?_
                      refine gw_iload (gc k_Machine_workOut_2 21 rfl) rfl ?_
                      refine gw_if_eq (tgt := 207) (gc k_Machine_workOut_2 22 rfl) rfl (by omega) (fun c190 => ?_) (fun c190 => ?_)
                      · exfalso; omega
                      · have hagx : agO at0 (op, xx) = at0 + 1 + xx := if_pos (Or.inr hop3)
                        have hmx : (if at0 < agO at0 (op, xx) - 1 then agO at0 (op, xx) - 1 else at0) + 1 = at0 + 1 + xx := by
                          rw [hagx]
                          split <;> omega
                        refine gw_iload (gc k_Machine_workOut_2 23 rfl) rfl ?_
                        refine gw_iload (gc k_Machine_workOut_2 24 rfl) rfl ?_
                        refine gw_iconst (gc k_Machine_workOut_2 25 rfl) ?_
                        refine gw_isub (gc k_Machine_workOut_2 26 rfl) ?_
                        refine gw_mmax (gc k_Machine_workOut_2 27 rfl) y_Math_max ln_Machine_27 (by omega) rfl rfl ?_
                        refine gw_istore_8 (gc k_Machine_workOut_2 28 rfl) rfl rfl ?_
                        refine gw_goto (tgt := 210) (gc k_Machine_workOut_2 29 rfl) rfl ?_
                        refine gw_goto (tgt := 269) (gc k_Machine_workOut_2 31 rfl) rfl ?_
                        refine gw_iinc_8 (gc k_Machine_workOut_3 23 rfl) rfl rfl ?_
                        refine gw_goto (tgt := 30) (gc k_Machine_workOut_3 24 rfl) rfl ?_
                        have hnew : mcI M (g W) (g P6) (g P7) (g P5 (cl * 3 + pi + 1)) o2 (ex (g W) c 0 []) g (c2.drop xx.toNat) (a :: s1) (at0 + 1 + xx) (g1) := ⟨⟨by omega, by rw [List.length_drop]; omega⟩, (by have := cdL_drop xx.toNat c2 (at0 + 1) (by omega) i3b; rwa [Int.toNat_of_nonneg hx0] at this), fun x hx => i4b x (List.mem_of_mem_drop hx), i5b.drop _, by have := hpc.1; have := pcn_drop xx.toNat c2; omega, i7, by rw [← i8, hop3, ex_40 _ _ _ _ _ c159]; exact (ex_drop _ _ _ _).symm, i9, i10⟩
                        have hlt : ((c2.drop xx.toNat)).length < ((op, xx) :: c2).length := by rw [List.length_cons, List.length_drop]; omega
                        refine gWP.eqs (ls' := [(2, M), (2, o), (0, cl), (0, pi), (2, W), (0, cl * 3 + pi), (0, g P5 (cl * 3 + pi + 1)), (0, (((a :: s1)).length : Int) - 1), (0, at0 + 1 + xx), (0, op), (0, agO at0 (op, xx)), (0, 1)]) (by rw [hmx]) rfl ?_
                        exact ih ((c2.drop xx.toNat), (a :: s1), at0 + 1 + xx, (0, op), (0, agO at0 (op, xx)), (0, 1), g1) hnew hlt
                  · exfalso; omega
                · refine gw_iconst (gc k_Machine_workOut_2 7 rfl) ?_
                  refine gw_goto (tgt := 167) (gc k_Machine_workOut_2 8 rfl) rfl ?_
                  refine gw_iload (gc k_Machine_workOut_2 10 rfl) rfl ?_
                  refine gw_iconst (gc k_Machine_workOut_2 11 rfl) ?_
                  refine gw_icmp_ne (tgt := 177) (gc k_Machine_workOut_2 12 rfl) rfl (by omega) (fun c170 => ?_) (fun c170 => ?_)
                  · refine gw_iconst (gc k_Machine_workOut_2 15 rfl) ?_
                    refine gw_icmp_ne (tgt := 185) (gc k_Machine_workOut_2 16 rfl) rfl (by omega) (fun c178 => ?_) (fun c178 => ?_)
                    · refine gw_iconst (gc k_Machine_workOut_2 19 rfl) ?_
                      refine gw_istore_11 (gc k_Machine_workOut_2 20 rfl) rfl rfl ?_
                      refine gw_iload (gc k_Machine_workOut_2 21 rfl) rfl ?_
                      refine gw_if_eq (tgt := 207) (gc k_Machine_workOut_2 22 rfl) rfl (by omega) (fun c190 => ?_) (fun c190 => ?_)
                      · refine gw_iinc_7 (gc k_Machine_workOut_2 30 rfl) rfl rfl ?_
                        refine gw_goto (tgt := 269) (gc k_Machine_workOut_2 31 rfl) rfl ?_
                        refine gw_iinc_8 (gc k_Machine_workOut_3 23 rfl) rfl rfl ?_
                        refine gw_goto (tgt := 30) (gc k_Machine_workOut_3 24 rfl) rfl ?_
                        have hnew : mcI M (g W) (g P6) (g P7) (g P5 (cl * 3 + pi + 1)) o2 (ex (g W) c 0 []) g c2 s1 (at0 + 1) (g1) := ⟨⟨by omega, by omega⟩, i3b, i4b, i5b, by have := hpc.1; rw [List.length_cons] at i6; omega, i7b, by rw [← i8, hop3, ex_41 _ _ _ _ _ c159], i9b, i10⟩
                        have hlt : (c2).length < ((op, xx) :: c2).length := by rw [List.length_cons]; omega
                        refine gWP.eqs (ls' := [(2, M), (2, o), (0, cl), (0, pi), (2, W), (0, cl * 3 + pi), (0, g P5 (cl * 3 + pi + 1)), (0, ((s1).length : Int) - 1), (0, at0 + 1), (0, op), (0, agO at0 (op, xx)), (0, 0)]) (by rw [List.length_cons, show ((s1.length + 1 : Nat) : Int) - 1 + -1 = (s1.length : Int) - 1 by omega]) rfl ?_
                        exact ih (c2, s1, at0 + 1, (0, op), (0, agO at0 (op, xx)), (0, 0), g1) hnew hlt
                      · exfalso; omega
                    · exfalso; omega
                  · exfalso; omega
          · have ha01 : a = 0 ∨ a = 1 := by
              by_cases q : a = 0 ∨ a = 1
              · exact q
              · exfalso; apply hR; rw [← i8]; obtain rfl : op = 2 := by omega
                exact if_neg q
            refine gw_aload_n (gc k_Machine_workOut_1 25 rfl) rfl rfl ?_
            refine gw_getref (gc k_Machine_workOut_1 26 rfl) fl_Machine_9 (ms hx hM).1 (mr hf hM) ?_
            refine gw_iload (gc k_Machine_workOut_1 27 rfl) rfl ?_
            refine gw_iconst (gc k_Machine_workOut_1 28 rfl) ?_
            refine gw_aload_n (gc k_Machine_workOut_1 29 rfl) rfl rfl ?_
            refine gw_getref (gc k_Machine_workOut_1 30 rfl) fl_Machine_9 (ms hx hM).1 (mr hf hM) ?_
            refine gw_iload (gc k_Machine_workOut_1 31 rfl) rfl ?_
            refine gw_iald (gc k_Machine_workOut_1 32 rfl) (ms hx hM).2 (by omega) ?_
            rw [hta]
            refine gw_isub (gc k_Machine_workOut_1 33 rfl) ?_
            refine gw_iastF (gc k_Machine_workOut_1 34 rfl) (ms hx hM).2 (by omega) hf (mn hM _) (fun hf => ?_)
            refine gw_goto (tgt := 269) (gc k_Machine_workOut_1 35 rfl) rfl ?_
            refine gw_iinc_8 (gc k_Machine_workOut_3 23 rfl) rfl rfl ?_
            refine gw_goto (tgt := 30) (gc k_Machine_workOut_3 24 rfl) rfl ?_
            have hnew : mcI M (g W) (g P6) (g P7) (g P5 (cl * 3 + pi + 1)) o2 (ex (g W) c 0 []) g c2 ((1 - a) :: s1) (at0 + 1) (gup g1 (M + 1) (((a :: s1).length : Int) - 1) (1 - a)) := ⟨⟨by omega, by omega⟩, i3b, i4b, i5b, by have := hpc.1; rw [List.length_cons] at i6 ⊢; omega, fun v hv => (List.mem_cons.mp hv).elim (fun z => by rw [z]; unfold bd9; omega) (i7b v), by rw [← i8, show op = 2 from c118, ex_2 _ _ _ _ _ ha01], i9b.push hl1, i10.up _ _⟩
            have hlt : (c2).length < ((op, xx) :: c2).length := by rw [List.length_cons]; omega
            refine gWP.eqs (ls' := [(2, M), (2, o), (0, cl), (0, pi), (2, W), (0, cl * 3 + pi), (0, g P5 (cl * 3 + pi + 1)), (0, ((((1 - a) :: s1)).length : Int) - 1), (0, at0 + 1), (0, op), (0, agO at0 (op, xx)), x11]) (rfl) rfl ?_
            exact ih (c2, ((1 - a) :: s1), at0 + 1, (0, op), (0, agO at0 (op, xx)), x11, gup g1 (M + 1) (((a :: s1).length : Int) - 1) (1 - a)) hnew hlt
        · refine gw_ldc (gc k_Machine_workOut_1 20 rfl) cn_Machine_26 ?_
          refine gw_ireturn (gc k_Machine_workOut_1 21 rfl) rfl ?_
          exfalso
          apply hR
          rw [← i8]
          obtain rfl : st = [] := by
            cases st with
            | nil => rfl
            | cons a r => rw [List.length_cons] at c109; omega
          unfold ex
          rw [if_neg (by omega), if_neg (by omega)]
      · have hop0 : op = 1 := by omega
        have hxx : 0 ≤ xx ∧ xx < (if o2 = true then (29 : Int) else 10) := by
          rcases hop1 with q | q | q
          · have := q.1; simp only at this; omega
          · exact q.2
          · have := q.1; simp only at this; omega
        have hag : agO at0 (op, xx) = xx := if_neg (by show ¬ (op = 3 ∨ op = 4); omega)
        rw [hag]
        refine gw_iinc_7 (gc k_Machine_workOut_0 38 rfl) rfl rfl ?_
        refine gw_iload (gc k_Machine_workOut_0 39 rfl) rfl ?_
        refine gw_aload_n (gc k_Machine_workOut_1 0 rfl) rfl rfl ?_
        refine gw_getref (gc k_Machine_workOut_1 1 rfl) fl_Machine_9 (ms hx hM).1 (mr hf hM) ?_
        refine gw_alen13 (gc k_Machine_workOut_1 2 rfl) (ms hx hM).2 (by decide) ?_
        refine gw_icmp_lt (tgt := 82) (gc k_Machine_workOut_1 3 rfl) rfl (by omega) (fun c76 => ?_) (fun c76 => ?_)
        · refine gw_aload_n (gc k_Machine_workOut_1 6 rfl) rfl rfl ?_
          refine gw_getref (gc k_Machine_workOut_1 7 rfl) fl_Machine_9 (ms hx hM).1 (mr hf hM) ?_
          refine gw_iload (gc k_Machine_workOut_1 8 rfl) rfl ?_
          refine gw_iload (gc k_Machine_workOut_1 9 rfl) rfl ?_
          refine gw_if_ne (tgt := 98) (gc k_Machine_workOut_1 10 rfl) rfl (by omega) (fun c90 => ?_) (fun c90 => ?_)
          · refine gw_aload (gc k_Machine_workOut_1 13 rfl) rfl rfl ?_
            refine gw_iload (gc k_Machine_workOut_1 14 rfl) rfl ?_
            refine gw_iald (gc k_Machine_workOut_1 15 rfl) sW (by omega) ?_
            rw [eW]
            refine gw_iastF (gc k_Machine_workOut_1 16 rfl) (ms hx hM).2 (by omega) hf (mn hM _) (fun hf => ?_)
            refine gw_goto (tgt := 269) (gc k_Machine_workOut_1 17 rfl) rfl ?_
            refine gw_iinc_8 (gc k_Machine_workOut_3 23 rfl) rfl rfl ?_
            refine gw_goto (tgt := 30) (gc k_Machine_workOut_3 24 rfl) rfl ?_
            have hnew : mcI M (g W) (g P6) (g P7) (g P5 (cl * 3 + pi + 1)) o2 (ex (g W) c 0 []) g c2 (g W xx :: st) (at0 + 1) (gup g1 (M + 1) ((st.length : Int) - 1 + 1) (g W xx)) := ⟨⟨by omega, by omega⟩, i3b, i4b, i5b, by have := hpc.2 (by omega); rw [List.length_cons]; omega, fun v hv => (List.mem_cons.mp hv).elim (fun z => by rw [z]; exact (hw xx hxx.1 (by omega))) (i7 v), by rw [← i8]; subst hop0; rfl, i9.push (by omega), i10.up _ _⟩
            have hlt : c2.length < ((op, xx) :: c2).length := by rw [List.length_cons]; omega
            refine gWP.eqs (ls' := [(2, M), (2, o), (0, cl), (0, pi), (2, W), (0, cl * 3 + pi), (0, g P5 (cl * 3 + pi + 1)), (0, ((g W xx :: st).length : Int) - 1), (0, at0 + 1), (0, op), (0, xx), x11]) (by rw [List.length_cons, show ((st.length + 1 : Nat) : Int) - 1 = (st.length : Int) - 1 + 1 by omega]) rfl ?_
            exact ih (c2, g W xx :: st, at0 + 1, (0, op), (0, xx), x11, gup g1 (M + 1) ((st.length : Int) - 1 + 1) (g W xx)) hnew hlt
          · exfalso; omega
        · refine gw_ldc (gc k_Machine_workOut_1 4 rfl) cn_Machine_26 ?_
          refine gw_ireturn (gc k_Machine_workOut_1 5 rfl) rfl ?_
          exfalso; omega
