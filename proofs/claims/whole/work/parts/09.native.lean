/-! ===== what lies outside, and the machine's own methods ===== -/
section GO
variable {F : gF} {d mc ms pc npc : Nat} {ls st : List gV} {sh : gS} {g : gM} {Q : gQ}
theorem gw_ldcS {ix k : Nat} {tx : String} (hi : gI F pc (.ldc ix) 2 npc) (hF : F.1.cls = "CounterDesk$Reader") (hk : gSt[k]? = some (ix, tx)) (kk : gWP F d mc ms npc ls ((3, (k : Int)) :: st) sh g Q) : gWP F d mc ms pc ls st sh g Q := by
  intro D p l e R s m args below meth c H locs cells slots lsC Qw C hR hS hl h1 h2 K
  obtain ⟨hd, rfl⟩ := hi
  have hOut : gOut D s s.heap := C.2.2.2.2.2.2.2.2.2.2.1.2.2.2.2.2.2.2
  have hown := C.2.2.2.2.1
  rw [hF] at hown
  exact va_ldcS C.1 C.2.1 hown (hOut.2.1 k _ hk) hd (kk D p l e R s m args below meth c H locs cells slots lsC Qw C hR hS hl h1 h2 K)
theorem gw_getT {ix : Nat} (hi : gI F pc (.getstatic ix) 3 npc) (hw : Cond.fieldLink F.1.cls ix "CounterDesk" "MOST_OF_TERM" "[I" ∈ lw_good) (kk : gWP F d mc ms npc ls ((4, 0) :: st) sh g Q) : gWP F d mc ms pc ls st sh g Q := by
  intro D p l e R s m args below meth c H locs cells slots lsC Qw C hR hS hl h1 h2 K
  obtain ⟨hd, rfl⟩ := hi
  have hOut : gOut D s s.heap := C.2.2.2.2.2.2.2.2.2.2.1.2.2.2.2.2.2.2
  exact va_gets C.1 C.2.1 hOut.2.2.1 hS C.2.2.2.2.1 (C.2.2.2.2.2.1 _ hw) (fun _ h => h) hd (kk D p l e R s m args below meth c H locs cells slots lsC Qw C hR hS hl h1 h2 K)
theorem gw_getTN (hi : gI F pc (.getstatic 76) 3 npc) (hF : F.1.cls = "CounterDesk$Sheet") (kk : gWP F d mc ms npc ls ((4, 0) :: st) sh g Q) : gWP F d mc ms pc ls st sh g Q := by
  intro D p l e R s m args below meth c H locs cells slots lsC Qw C hR hS hl h1 h2 K
  obtain ⟨hd, rfl⟩ := hi
  have hKn : gKn D s s.heap := C.2.2.2.2.2.2.2.2.2.2.1
  have hOut : gOut D s s.heap := hKn.2.2.2.2.2.2.2
  have hown := C.2.2.2.2.1
  rw [hF] at hown
  exact va_getsN C.1 C.2.1 hOut.2.2.1 hS hown (va_Nw.use rfl hKn.2.2.2.2.2.2.1) (fun _ h => h) hd (kk D p l e R s m args below meth c H locs cells slots lsC Qw C hR hS hl h1 h2 K)
theorem gw_ialdT {i x : Int} (hi : gI F pc (.iaload) 1 npc) (hx : 0 ≤ i ∧ i < 5) (hv : gTm[i.toNat]? = some x) (kk : gWP F d mc ms npc ls ((0, x) :: st) sh g Q) : gWP F d mc ms pc ls ((0, i) :: (4, 0) :: st) sh g Q := by
  intro D p l e R s m args below meth c H locs cells slots lsC Qw C hR hS hl h1 h2 K
  obtain ⟨hd, rfl⟩ := hi
  have hOut : gOut D s s.heap := C.2.2.2.2.2.2.2.2.2.2.1.2.2.2.2.2.2.2
  have hx2 := gi_ix (i := i) (n := 5) (by omega)
  refine va_ti C.1 C.2.1 hOut.2.2.2.1 hS (i := Int32.ofInt i) hx2.2 (v := .int (Int32.ofInt x)) ?_ hd (kk D p l e R s m args below meth c H locs cells slots lsC Qw C hR hS hl h1 h2 K)
  rw [hx2.1, List.getD_eq_getElem?_getD, hv]
  rfl
/-! String constants -/
theorem gw_getSv {ix k : Nat} (hi : gI F pc (.getfield ix) 3 npc) (hw : Cond.fieldLink F.1.cls ix "java/lang/String" "value" "[B" ∈ lw_good) (hk : k < 27) (kk : gWP F d mc ms npc ls ((5, (k : Int)) :: st) sh g Q) : gWP F d mc ms pc ls ((3, (k : Int)) :: st) sh g Q := by
  intro D p l e R s m args below meth c H locs cells slots lsC Qw C hR hS hl h1 h2 K
  obtain ⟨hd, rfl⟩ := hi
  have hOut : gOut D s s.heap := C.2.2.2.2.2.2.2.2.2.2.1.2.2.2.2.2.2.2
  exact vk_getf C.1 C.2.1 (hOut.1.1 k hk).2.2.1 hS C.2.2.2.2.1 (C.2.2.2.2.2.1 _ hw) (fun _ h => h) hd (kk D p l e R s m args below meth c H locs cells slots lsC Qw C hR hS hl h1 h2 K)
theorem gw_getSc {ix k : Nat} (hi : gI F pc (.getfield ix) 3 npc) (hw : Cond.fieldLink F.1.cls ix "java/lang/String" "coder" "B" ∈ lw_good) (hk : k < 27) (kk : gWP F d mc ms npc ls ((0, 0) :: st) sh g Q) : gWP F d mc ms pc ls ((3, (k : Int)) :: st) sh g Q := by
  intro D p l e R s m args below meth c H locs cells slots lsC Qw C hR hS hl h1 h2 K
  obtain ⟨hd, rfl⟩ := hi
  have hOut : gOut D s s.heap := C.2.2.2.2.2.2.2.2.2.2.1.2.2.2.2.2.2.2
  exact vk_getf C.1 C.2.1 (hOut.1.1 k hk).2.1 hS C.2.2.2.2.1 (C.2.2.2.2.2.1 _ hw) (fun _ h => h) hd (kk D p l e R s m args below meth c H locs cells slots lsC Qw C hR hS hl h1 h2 K)
theorem gw_getCS {ix : Nat} (hi : gI F pc (.getstatic ix) 3 npc) (hw : Cond.fieldLink F.1.cls ix "java/lang/String" "COMPACT_STRINGS" "Z" ∈ lw_good) (kk : gWP F d mc ms npc ls ((0, 1) :: st) sh g Q) : gWP F d mc ms pc ls st sh g Q := by
  intro D p l e R s m args below meth c H locs cells slots lsC Qw C hR hS hl h1 h2 K
  obtain ⟨hd, rfl⟩ := hi
  have hOut : gOut D s s.heap := C.2.2.2.2.2.2.2.2.2.2.1.2.2.2.2.2.2.2
  exact va_gets C.1 C.2.1 hOut.2.2.2.2.1 hS C.2.2.2.2.1 (C.2.2.2.2.2.1 _ hw) (fun _ h => h) hd (kk D p l e R s m args below meth c H locs cells slots lsC Qw C hR hS hl h1 h2 K)
theorem gw_getSF {ix : Nat} (hi : gI F pc (.getstatic ix) 3 npc) (hw : Cond.fieldLink F.1.cls ix "jdk/internal/util/Preconditions" "SIOOBE_FORMATTER" "Ljava/util/function/BiFunction;" ∈ lw_good) (kk : gWP F d mc ms npc ls ((6, 0) :: st) sh g Q) : gWP F d mc ms pc ls st sh g Q := by
  intro D p l e R s m args below meth c H locs cells slots lsC Qw C hR hS hl h1 h2 K
  obtain ⟨hd, rfl⟩ := hi
  have hOut : gOut D s s.heap := C.2.2.2.2.2.2.2.2.2.2.1.2.2.2.2.2.2.2
  exact va_gets C.1 C.2.1 hOut.2.2.2.2.2.1 hS C.2.2.2.2.1 (C.2.2.2.2.2.1 _ hw) (fun _ h => h) hd (kk D p l e R s m args below meth c H locs cells slots lsC Qw C hR hS hl h1 h2 K)
theorem gw_alenS {k n : Nat} (hi : gI F pc (.arraylength) 1 npc) (hk : k < 27) (hn : gSl[k]? = some n) (kk : gWP F d mc ms npc ls ((0, (n : Int)) :: st) sh g Q) : gWP F d mc ms pc ls ((5, (k : Int)) :: st) sh g Q := by
  intro D p l e R s m args below meth c H locs cells slots lsC Qw C hR hS hl h1 h2 K
  obtain ⟨hd, rfl⟩ := hi
  have hOut : gOut D s s.heap := C.2.2.2.2.2.2.2.2.2.2.1.2.2.2.2.2.2.2
  refine va_tlen C.1 C.2.1 (hOut.1.1 k hk).2.2.2 hS (v := Int32.ofInt (n : Int)) ?_ hd (kk D p l e R s m args below meth c H locs cells slots lsC Qw C hR hS hl h1 h2 K)
  rw [List.getD_eq_getElem?_getD, hn, Int32.ofInt_eq_ofNat]
  rfl
theorem gw_baldS {k n : Nat} {i : Int} {x : Int32} (hi : gI F pc (.baload) 1 npc) (hk : k < 27) (hn : gSl[k]? = some n) (hx : 0 ≤ i ∧ i < (n : Int) ∧ i ≤ 2147483647) (hv : (gSb.getD k []).getD i.toNat 0 = x) (kk : gWP F d mc ms npc ls ((0, x.toInt) :: st) sh g Q) : gWP F d mc ms pc ls ((0, i) :: (5, (k : Int)) :: st) sh g Q := by
  intro D p l e R s m args below meth c H locs cells slots lsC Qw C hR hS hl h1 h2 K
  obtain ⟨hd, rfl⟩ := hi
  have hOut : gOut D s s.heap := C.2.2.2.2.2.2.2.2.2.2.1.2.2.2.2.2.2.2
  have hx2 := gi_ix hx
  have k2 := kk D p l e R s m args below meth c H locs cells slots lsC Qw C hR hS hl h1 h2 K
  rw [List.map_cons, show gcv D (0, x.toInt) = .int x from congrArg Value.int (Int32.ofInt_toInt x)] at k2
  refine va_tb C.1 C.2.1 (hOut.1.1 k hk).2.2.2 hS (i := Int32.ofInt i) ?_ (v := .int x) ?_ hd k2
  · rw [List.getD_eq_getElem?_getD, hn]; exact hx2.2
  · rw [hx2.1, hv]
/-! Object.<init> -/
theorem gw_objInit {ix : Nat} {a : Int} (hi : gI F pc (.invokespecial ix) 3 npc) (hw : Cond.methodLink F.1.cls ix Lib.objectInit ∈ lw_good) (hw2 : Cond.instanceMethod Lib.objectInit ∈ lw_good) (hw3 : Cond.code Lib.objectInit ⟨#[0xb1]⟩ 1 none ∈ lw_good) (ha : 0 ≤ a) (hcat : Nat.ble (st.map gca).sum 8 = true) (hd1 : Nat.ble 1 d = true) (kk : gWP F d mc ms npc ls st sh g Q) : gWP F d mc ms pc ls ((2, a) :: st) sh g Q := by
  intro D p l e R s m args below meth c H locs cells slots lsC Qw C hR hS hl h1 h2 K
  obtain ⟨hd, rfl⟩ := hi
  have hcat := Nat.le_of_ble_eq_true hcat
  have hd1 := Nat.le_of_ble_eq_true hd1
  have hfr := C.2.2.2.2.2.2.2.2.1
  have hlo := C.2.2.2.2.2.2.2.2.2.1
  have hts := C.2.2.2.2.2.1
  rw [List.map_cons, gcv_r D a ha]
  refine W.objInit C.1 C.2.1 C.2.2.2.2.1 (hts _ hw) (hts _ hw2) (hts _ hw3) rfl (by rw [C.2.2.2.1]; exact hl.1) rfl hd (by omega) ?_ (kk D p l e R s m args below meth c H locs cells slots lsC Qw C hR hS hl h1 h2 K)
  have hr := lv_room (m := m) (pc := pc) (ls := lsC) (rest := .ref (D.2.2.1 + a.toNat) :: st.map (gcv D)) (st := st.map (gcv D)) (by rw [List.map_map]; exact (by simpa [Function.comp_def, gcv_cat] using hcat))
  omega
/-! System.arraycopy of ints -/
theorem gw_copy {ix : Nat} {a b sp dp n : Int} {n0 n1 : Nat} (hi : gI F pc (.invokestatic ix) 3 npc) (hw : Cond.methodLink F.1.cls ix arraycopyName ∈ lw_good) (hw2 : Cond.native arraycopyName ∈ lw_good) (hw3 : Cond.static arraycopyName ∈ lw_good) (hw4 : Cond.initialized "java/lang/System" ∈ lw_good) (hsa : gsz sh a 13 n0) (hsb : gsz sh b 13 n1) (hx : (0 ≤ sp ∧ 0 ≤ dp ∧ 0 ≤ n) ∧ sp + n ≤ (n0 : Int) ∧ dp + n ≤ (n1 : Int) ∧ n0 ≤ 2147483647 ∧ n1 ≤ 2147483647) (hcat : Nat.ble (st.map gca).sum 8 = true) (hd1 : Nat.ble 2 d = true) (kk : gWP F d mc ms npc ls st sh (gfr g b (fun y => if dp ≤ y ∧ y < dp + n then g a (sp + (y - dp)) else g b y)) Q) : gWP F d mc ms pc ls ((0, n) :: (0, dp) :: (2, b) :: (0, sp) :: (2, a) :: st) sh g Q := by
  intro D p l e R s m args below meth c H locs cells slots lsC Qw C hR hS hl h1 h2 K
  obtain ⟨hd, rfl⟩ := hi
  have hcat := Nat.le_of_ble_eq_true hcat
  have hd1 := Nat.le_of_ble_eq_true hd1
  have hfr := C.2.2.2.2.2.2.2.2.1
  have hlo := C.2.2.2.2.2.2.2.2.2.1
  have hts := C.2.2.2.2.2.1
  have hK : va_K D.1 gcl (gtys D) s := C.2.2.2.2.2.2.2.2.2.2.1.1
  have q1 := gi_ix (i := sp) (n := sp.toNat + 1) (by omega)
  have q2 := gi_ix (i := dp) (n := dp.toNat + 1) (by omega)
  have q3 := gi_ix (i := n) (n := n.toNat + 1) (by omega)
  have e1 := gint sp (by omega)
  have e2 := gint dp (by omega)
  have e3 := gint n (by omega)
  have ha := garr hR hsa (by omega)
  have hb := garr hR hsb (by omega)
  rw [List.map_cons, List.map_cons, List.map_cons, List.map_cons, List.map_cons, gcv_r D a hsa.1, gcv_r D b hsb.1]
  intro T hT X
  obtain ⟨-, k0, hk0, cm0, hkk0⟩ := (hK.2 0 _ rfl).1 n0 (fun j => gcv D (gat 13, g a j))
  obtain ⟨-, k1, hk1, cm1, hkk1⟩ := (hK.2 0 _ rfl).1 n1 (fun j => gcv D (gat 13, g b j))
  obtain ⟨vm', X', step⟩ := X.arraycopy C.1 C.2.2.2.2.1 (hts _ hw) (hts _ hw2) (hts _ hw3) (hts _ hw4) (src := D.2.2.1 + a.toNat) (dst := D.2.2.1 + b.toNat) (cs := arrV (D.2.1 13) n0 (fun j => gcv D (gat 13, g a j))) (cd := arrV (D.2.1 13) n1 (fun j => gcv D (gat 13, g b j))) (srcPos := Int32.ofInt sp) (destPos := Int32.ofInt dp) (n := Int32.ofInt n) (by rw [hT]; exact ha) (by rw [hT]; exact hb)
    (fun _ h => by cases h) (fun _ h => by cases h) (fun h => by cases h) (fun h => by cases h) hk0 hk1 hkk0 hkk1 (by simp [refKind]) (fun z => q1.2 (Or.inl z)) (fun z => q2.2 (Or.inl z)) (fun z => q3.2 (Or.inl z))
    (by rw [e1, e3, arrV_size]; omega) (by rw [e2, e3, arrV_size]; omega)
    (fun vm₁ _ i hi => by
      rw [q3.1] at hi
      have e : (arrV (D.2.1 13) n0 (fun j => gcv D (gat 13, g a j))).slots.getD ((Int32.ofInt sp).toNatClampNeg + i) .null = gcv D (gat 13, g a (((Int32.ofInt sp).toNatClampNeg + i : Nat) : Int)) := by
        rw [Array.getD_eq_getD_getElem?, arrV_read _ _ (by rw [q1.1]; omega)]
        rfl
      rw [e]
      exact ⟨rfl, trivial⟩)
    (g := F0 m pc lsC (.int (Int32.ofInt n) :: .int (Int32.ofInt dp) :: .ref (D.2.2.1 + b.toNat) :: .int (Int32.ofInt sp) :: .ref (D.2.2.1 + a.toNat) :: st.map (gcv D))) rfl (by rw [C.2.2.2.1]; exact hl.1) (rest := st.map (gcv D)) rfl (by rw [C.2.1]; exact hd) (by omega)
    (by
      have hc2 : ((st.map (gcv D)).map fun v => v.category).sum ≤ 8 := by rw [List.map_map]; exact (by simpa [Function.comp_def, gcv_cat] using hcat)
      have hnw : nativeFrameWords "java/lang/System" "arraycopy" 5 ≤ 60 := by decide +kernel
      show 2 * 0 + _ + _ ≤ _
      omega)
  have ec : copied (arrV (D.2.1 13) n0 (fun j => gcv D (gat 13, g a j))) (arrV (D.2.1 13) n1 (fun j => gcv D (gat 13, g b j))) (Int32.ofInt sp) (Int32.ofInt dp) (Int32.ofInt n) = arrV (D.2.1 13) n1 (fun j => gcv D (gat 13, va_cpy (fun j => g a (j : Int)) (fun j => g b (j : Int)) (Int32.ofInt sp).toNatClampNeg (Int32.ofInt dp).toNatClampNeg (Int32.ofInt n).toNatClampNeg j)) := va_copied (fun z => gcv D (gat 13, z)) (D.2.1 13) (D.2.1 13) (fun j => g a (j : Int)) (fun j => g b (j : Int)) (by rw [q1.1, q3.1]; omega)
  rw [ec, q1.1, q2.1, q3.1] at X' step
  generalize hC : arrV (D.2.1 13) n1 (fun j => gcv D (gat 13, va_cpy (fun j => g a (j : Int)) (fun j => g b (j : Int)) sp.toNat dp.toNat n.toNat j)) = cell2 at X' step
  have hlt : D.2.2.1 + b.toNat < H.size := (Array.getElem?_eq_some_iff.mp hb).1
  have hheap : ((T.setVm vm').setCell (D.2.2.1 + b.toNat) cell2).heap = H.setIfInBounds (D.2.2.1 + b.toNat) cell2 := by rw [← hT]; rfl
  have oq : ∀ q : Nat, q ≠ D.2.2.1 + b.toNat → (H.setIfInBounds (D.2.2.1 + b.toNat) cell2)[q]? = H[q]? := fun q hq => by simp [Array.getElem?_setIfInBounds, Ne.symm hq]
  have hc2 : (H.setIfInBounds (D.2.2.1 + b.toNat) cell2)[D.2.2.1 + b.toNat]? = some cell2 := by simp [Array.getElem?_setIfInBounds, hlt]
  have hz : (H.setIfInBounds (D.2.2.1 + b.toNat) cell2).size = H.size := by simp
  have hcell : gcell D (13, n1) (fun y => if dp ≤ y ∧ y < dp + n then g a (sp + (y - dp)) else g b y) cell2 := by
    refine ⟨fun h => by have h' : 13 < 13 := h; omega, fun _ => ?_⟩
    rw [← hC]
    refine congrArg (arrV (D.2.1 13) n1) (funext fun j => ?_)
    refine congrArg (fun z => gcv D (gat 13, z)) ?_
    unfold va_cpy
    dsimp only
    by_cases hj : dp.toNat ≤ j ∧ j < dp.toNat + n.toNat
    · rw [if_pos hj, if_pos (by omega)]
      exact congrArg (g a) (by omega)
    · rw [if_neg hj, if_neg (by omega)]
  have hR2 : gRel D sh (gfr g b (fun y => if dp ≤ y ∧ y < dp + n then g a (sp + (y - dp)) else g b y)) (H.setIfInBounds (D.2.2.1 + b.toNat) cell2) := by
    refine ⟨by rw [hz]; exact hR.1, fun j s' hj => ?_⟩
    by_cases e : (j : Int) = b
    · have e2 : b.toNat = j := by omega
      have hk := hsb.2
      rw [e2] at hk hc2
      cases hk.symm.trans hj
      refine ⟨cell2, by rw [← e2] at hc2 ⊢; exact hc2, ?_⟩
      have e3 : gfr g b (fun y => if dp ≤ y ∧ y < dp + n then g a (sp + (y - dp)) else g b y) (j : Int) = fun y => if dp ≤ y ∧ y < dp + n then g a (sp + (y - dp)) else g b y := by
        funext y
        unfold gfr
        rw [if_pos e]
      rw [e3]
      exact hcell
    · obtain ⟨c', r1, r2⟩ := hR.2 j s' hj
      have e3 : gfr g b (fun y => if dp ≤ y ∧ y < dp + n then g a (sp + (y - dp)) else g b y) (j : Int) = g (j : Int) := by
        funext y
        unfold gfr
        rw [if_neg e]
      refine ⟨c', by rw [oq _ (by have := hsb.1; omega)]; exact r1, ?_⟩
      rw [e3]
      exact r2
  generalize hLL : List.map (fun (q : Value × Nat) => ({ base := D.2.2.1 + b.toNat, slot := dp.toNat + q.2 } : Loc)) (((arrV (D.2.1 13) n0 fun j => gcv D (gat 13, g a j)).stretch sp.toNat n.toNat).zipIdx) = LL at X'
  have hS2 : va_S (gA D) s.heap (H.setIfInBounds (D.2.2.1 + b.toNat) cell2) (locs ++ LL) := by
    subst hLL
    refine ⟨by rw [hz]; exact hS.1, fun q g1 g2 => ?_, fun q hq => ?_⟩
    · rw [oq q (fun e => g2 (by rw [e]; exact Nat.le_add_right _ _))]
      exact hS.2.1 q g1 g2
    · rcases List.mem_append.mp hq with h | h
      · exact hS.2.2 q h
      · obtain ⟨z, -, hz⟩ := List.mem_map.mp h
        rw [← hz]
        exact Nat.le_add_right _ _
  obtain ⟨t, a1, b1⟩ := kk D p l e R s m args below meth c _ _ cells slots lsC Qw C hR2 hS2 hl h1 h2 K _ hheap X'
  exact ⟨t, step t a1, b1⟩
/-! a clone of an array of ints, and its cast -/
theorem gw_clone {ix : Nat} {a : Int} {n : Nat} (hi : gI F pc (.invokevirtual ix) 3 npc) (hw : Cond.methodLink F.1.cls ix ⟨"[I", "clone", "()Ljava/lang/Object;"⟩ ∈ lw_good) (hw2 : Cond.sameMethod "[I" "java/lang/Object" "clone" "()Ljava/lang/Object;" ∈ lw_good) (hw3 : Cond.native ⟨"java/lang/Object", "clone", "()Ljava/lang/Object;"⟩ ∈ lw_good) (hw4 : Cond.instanceMethod ⟨"java/lang/Object", "clone", "()Ljava/lang/Object;"⟩ ∈ lw_good) (hw5 : Cond.selects "[I" ⟨"[I", "clone", "()Ljava/lang/Object;"⟩ ⟨"java/lang/Object", "clone", "()Ljava/lang/Object;"⟩ ∈ lw_good)
    (hsa : gsz sh a 13 n) (hcat : Nat.ble (st.map gca).sum 8 = true) (hd1 : Nat.ble 2 d = true) (hmc : 1 ≤ mc ∧ n ≤ ms) (kk : gWP F d (mc - 1) (ms - n) npc ls ((2, (sh.length : Int)) :: st) (sh ++ [(13, n)]) (gfr g (sh.length : Int) (g a)) Q) : gWP F d mc ms pc ls ((2, a) :: st) sh g Q := by
  intro D p l e R s m args below meth c H locs cells slots lsC Qw C hR hS hl h1 h2 K
  obtain ⟨hd, rfl⟩ := hi
  have hcat := Nat.le_of_ble_eq_true hcat
  have hd1 := Nat.le_of_ble_eq_true hd1
  have hfr := C.2.2.2.2.2.2.2.2.1
  have hlo := C.2.2.2.2.2.2.2.2.2.1
  have hts := C.2.2.2.2.2.1
  have hK : va_K D.1 gcl (gtys D) s := C.2.2.2.2.2.2.2.2.2.2.1.1
  have ha := garr hR hsa (by omega)
  rw [List.map_cons, gcv_r D a hsa.1]
  have hnm : s.vm.findClass "[I" = some (D.2.1 13) := (hK.2 0 _ rfl).2
  have hOut : gOut D s s.heap := C.2.2.2.2.2.2.2.2.2.2.1.2.2.2.2.2.2.2
  obtain ⟨c0, t0', f1, f2, f3⟩ := Cond.castable_spec (va_Nw.use (A := args) rfl hOut.2.2.2.2.2.2)
  cases hnm.symm.trans f1
  intro T hT X
  obtain ⟨-, kA, hkA, comp, hkind⟩ := State.isArrayOf_alike X.warmed.alike ((hK.2 0 _ rfl).1 0 (fun _ => .null))
  obtain ⟨-, kS, hkS, compS, hkindS⟩ := (hK.2 0 _ rfl).1 0 (fun _ => .null)
  obtain ⟨vm', X', st'⟩ := X.cloneArray C.1 C.2.2.2.2.1 (hts _ hw) (hts _ hw2) (hts _ hw3) (hts _ hw4) (hts _ hw5) (a := D.2.2.1 + a.toNat) (cell := arrV (D.2.1 13) n (fun j => gcv D (gat 13, g a j))) (by rw [hT]; exact ha) (fun k h => by cases h) (fun h => by cases h) hnm f2 f3
    (fun i v hv => by
      have hk' : T.vm.classes[D.2.1 13]? = some kA := hkA
      have hi9 : i < n := by
        have := (Array.getElem?_eq_some_iff.mp hv).1
        rw [arrV_size] at this
        exact this
      rw [arrV_read _ _ hi9] at hv
      cases hv
      show T.fitsSlot (D.2.1 13) _ i _ = true
      have hkind' : kA.kind = .array comp .int := hkind
      have hfit : fits .int (gcv D (gat 13, g a (i : Int))) = true := rfl
      simpa [State.fitsSlot, State.slotType?, hk', hkind'] using hfit)
    (g := F0 m pc lsC (.ref (D.2.2.1 + a.toNat) :: st.map (gcv D))) rfl (by rw [C.2.2.2.1]; exact hl.1) rfl (by rw [C.2.1]; exact hd) (by omega)
    (by
      have hc2 : ((st.map (gcv D)).map fun v => v.category).sum ≤ 8 := by rw [List.map_map]; exact (by simpa [Function.comp_def, gcv_cat] using hcat)
      show 2 * 0 + _ + 14 ≤ _
      omega) (by omega) (by rw [arrV_size]; omega) (hloader := Vm.clonesLoader_of_array hkS hkindS)
  rw [arrV_size] at X'
  have hcellE : ({ cls := (arrV (D.2.1 13) n (fun j => gcv D (gat 13, g a j))).cls, slots := (arrV (D.2.1 13) n (fun j => gcv D (gat 13, g a j))).slots } : Cell) = arrV (D.2.1 13) n (fun j => gcv D (gat 13, g a j)) := rfl
  rw [hcellE] at X'
  generalize hH2 : H.push (arrV (D.2.1 13) n (fun j => gcv D (gat 13, g a j))) = H2
  have z1 : H2.size = H.size + 1 := by rw [← hH2, Array.size_push]
  have e1 : H2[H.size]? = some (arrV (D.2.1 13) n (fun j => gcv D (gat 13, g a j))) := by rw [← hH2, Array.getElem?_push_size]
  have o1 : ∀ q : Nat, q < H.size → H2[q]? = H[q]? := fun q hq => by rw [← hH2, Array.getElem?_push, if_neg (Nat.ne_of_lt hq)]
  have hR2 := gRel_push (f := g a) (s := (13, n)) hR e1 ⟨fun h => by have h' : 13 < 13 := h; omega, fun _ => rfl⟩ z1 o1
  have e5 : D.2.2.1 + ((sh.length : Nat) : Int).toNat = H.size := by rw [hR.1]; omega
  have k2 := kk D p l e R s m args below meth c H2 locs (cells + 1) (slots + n) lsC Qw C hR2 (gS_push hS (by omega) o1) hl (by omega) (by omega) (fun r3 sh3 g3 H3 locs3 ls3 pc3 c3 s3 q1 q2 q3 q4 q5 q6 => K r3 sh3 g3 H3 locs3 ls3 pc3 c3 s3 q1 q2 q3 q4 (by omega) (by omega))
  rw [List.map_cons, gcv_r D _ (by omega), e5] at k2
  obtain ⟨t, b1, b2⟩ := k2 ((T.setVm vm').pushCell (arrV (D.2.1 13) n (fun j => gcv D (gat 13, g a j)))) (by rw [← hH2, ← hT]; rfl) X'
  refine ⟨t, st' t ?_, b2⟩
  rw [hcellE, hT]
  exact b1
theorem gw_castI {ix : Nat} {a : Int} {n : Nat} (hi : gI F pc (.checkcast ix) 3 npc) (hw : Cond.classLink F.1.cls ix "[I" ∈ lw_good) (hsa : gsz sh a 13 n) (kk : gWP F d mc ms npc ls ((2, a) :: st) sh g Q) : gWP F d mc ms pc ls ((2, a) :: st) sh g Q := by
  intro D p l e R s m args below meth c H locs cells slots lsC Qw C hR hS hl h1 h2 K
  obtain ⟨hd, rfl⟩ := hi
  have hK : va_K D.1 gcl (gtys D) s := C.2.2.2.2.2.2.2.2.2.2.1.1
  have ha := garr hR hsa (by omega)
  have hnm : s.vm.findClass "[I" = some (D.2.1 13) := (hK.2 0 _ rfl).2
  have k2 := kk D p l e R s m args below meth c H locs cells slots lsC Qw C hR hS hl h1 h2 K
  rw [List.map_cons, gcv_r D a hsa.1] at k2 ⊢
  refine va_castE C.1 C.2.1 C.2.2.2.2.1 (C.2.2.2.2.2.1 _ hw) ⟨_, ha, rfl, hnm⟩ hd k2
end GO
