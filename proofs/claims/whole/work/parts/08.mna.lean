/-! ===== new T[n][m] ===== -/
/-- the memory with a new array of N new arrays at a -/
def gmul (g : gM) (a N : Int) : gM := fun x y => if x = a then a + 1 + y else if a < x ∧ x ≤ a + N then 0 else g x y
theorem gouter (c : ClassId) (N h0 : Nat) : ∀ i : Nat, Jvm.Free.Multi.outerC c N h0 i = arrV c N (fun j => if j < i then .ref (h0 + 1 + j) else .null)
  | 0 => by
    show ({ cls := c, slots := Array.replicate N .null, vm := .none } : Cell) = _
    rw [arrV_new]
    refine congrArg (arrV c N) (funext fun j => ?_)
    rw [if_neg (by omega)]
  | i + 1 => by
    show (Jvm.Free.Multi.outerC c N h0 i).setSlot i (.ref (h0 + 1 + i)) = _
    rw [gouter c N h0 i, arrV_store]
    refine congrArg (arrV c N) (funext fun j => ?_)
    by_cases e : j = i
    · subst e
      simp [updV]
    · by_cases h : j < i
      · simp [updV, e, h, Nat.lt_succ_of_lt h]
      · simp [updV, e, h, show ¬ j < i + 1 by omega]
theorem garr_ext {c : ClassId} {N : Nat} {f f' : Nat → Value} (h : ∀ j, j < N → f j = f' j) : arrV c N f = arrV c N f' := by
  unfold arrV
  congr 1
  apply Array.ext
  · simp
  · intro i h1 h2
    simp at h1 ⊢
    exact h i h1
section GN
variable {F : gF} {d mc ms pc npc : Nat} {ls st : List gV} {sh : gS} {g : gM} {Q : gQ}
theorem gmna {ty : FieldType} {qo qi to ti : Nat} {n k : Int} {N M idx : Nat} (hqo : 17 ≤ qo ∧ qo ≤ 20) (hqi : 13 ≤ qi ∧ qi ≤ 16) (hto : ∀ D : gD, (gtys D)[to]? = some (D.2.1 qo, .array ty)) (hti : ∀ D : gD, (gtys D)[ti]? = some (D.2.1 qi, ty)) (hprim : ∀ C, ty ≠ .object C) (hao : ∀ (D : gD) (s : State), gKn D s s.heap → gAOA ty s) (hdv : ∀ D : gD, defaultValue ty = gcv D (gat qi, 0)) (hdf : fits ty (defaultValue ty) = true) (hdd : (defaultValue ty).isDefault = true) (hcb : componentBytes ty ≤ 8)
    (hi : gI F pc (.multianewarray idx 2) 4 npc) (hw : Cond.classLink F.1.cls idx ("[" ++ (FieldType.array ty).toString) ∈ lw_good) (hw2 : Cond.arrayClass ty ∈ lw_good) (hn : 0 ≤ n ∧ n ≤ 1000) (hk : 0 ≤ k ∧ k ≤ 100000) (hN : n.toNat = N) (hM : k.toNat = M) (hmc : 1 + N ≤ mc ∧ N + N * M ≤ ms)
    (kk : gWP F d (mc - (1 + N)) (ms - (N + N * M)) npc ls ((2, (sh.length : Int)) :: st) (sh ++ (qo, N) :: List.replicate N (qi, M)) (gmul g (sh.length : Int) (N : Int)) Q) : gWP F d mc ms pc ls ((0, k) :: (0, n) :: st) sh g Q := by
  intro D p l e R s m args below meth c H locs cells slots lsC Qw C hR hS hl h1 h2 K
  obtain ⟨hd, rfl⟩ := hi
  have hx1 := gi_ix (i := n) (n := n.toNat + 1) (by omega)
  have hx2 := gi_ix (i := k) (n := k.toNat + 1) (by omega)
  have hts := C.2.2.2.2.2.1
  have hKn : gKn D s s.heap := C.2.2.2.2.2.2.2.2.2.2.1
  have hK : va_K D.1 gcl (gtys D) s := hKn.1
  have hb := C.2.1
  rw [List.map_cons, List.map_cons]
  intro T hT Xs
  subst hN
  subst hM
  obtain ⟨vm₁, cA, comp, -, fA, fC, -, -, X', step⟩ := Xs.multianewarray2F C.1 C.2.2.2.2.1 (hts _ hw) (hao D s hKn) (hts _ hw2) (g := F0 m pc lsC (.int (Int32.ofInt k) :: .int (Int32.ofInt n) :: st.map (gcv D))) rfl (by rw [hb]; exact hd) rfl (fun z => hx1.2 (Or.inl z)) (fun z => hx2.2 (Or.inl z)) (by rw [hx1.1]; omega) (by rw [hx2.1]; exact gbytes (by omega) hcb) (by rw [hx2.1]; omega) hdf hdd (by rw [hx1.1]; omega) (by rw [hx1.1, hx2.1]; omega)
  rw [hx1.1, hx2.1] at X' step
  have hcA : cA = D.2.1 qo := by
    have h9 := (hK.2 to _ (hto D)).2
    exact Option.some.inj (fA.symm.trans h9)
  have hco : comp = D.2.1 qi := by
    have h9 := (hK.2 ti _ (hti D)).2
    have h8 : s.vm.findClass ("[" ++ ty.toString) = some (D.2.1 qi) := by
      cases ty with
      | object C => exact absurd rfl (hprim C)
      | _ => exact h9
    have h7 : (FieldType.array ty).toString = "[" ++ ty.toString := rfl
    rw [h7] at fC
    exact Option.some.inj (fC.symm.trans h8)
  subst hcA
  subst hco
  generalize hF : Jvm.Free.Multi.fill (T.setVm vm₁) (D.2.1 qo) (D.2.1 qi) n.toNat k.toNat (defaultValue ty) n.toNat = G at X' step
  have hTh : (T.setVm vm₁).heap = H := hT
  obtain ⟨f1, f2, -, -⟩ := Jvm.Free.Multi.fill_facts (T.setVm vm₁) (D.2.1 qo) (D.2.1 qi) n.toNat k.toNat (defaultValue ty) n.toNat
  rw [hF, hTh] at f1 f2
  have hold : ∀ x : Nat, x < H.size → G.heap[x]? = H[x]? := fun x hx => by
    have := Jvm.Free.Multi.fill_old (T.setVm vm₁) (D.2.1 qo) (D.2.1 qi) n.toNat k.toNat (defaultValue ty) (a := x) (by rw [hTh]; exact hx) n.toNat
    rw [hF, hTh] at this
    exact this
  have hrow : ∀ j : Nat, j < n.toNat → G.heap[H.size + 1 + j]? = some (Jvm.Free.Multi.innerC (D.2.1 qi) k.toNat (defaultValue ty)) := fun j hj => by
    have := Jvm.Free.Multi.fill_inner (T.setVm vm₁) (D.2.1 qo) (D.2.1 qi) n.toNat k.toNat (defaultValue ty) n.toNat j hj
    rw [hF, hTh] at this
    exact this
  have hR2 : gRel D (sh ++ (qo, n.toNat) :: List.replicate n.toNat (qi, k.toNat)) (gmul g (sh.length : Int) ((n.toNat : Nat) : Int)) G.heap := by
    refine ⟨by rw [f1, hR.1, List.length_append, List.length_cons, List.length_replicate]; omega, fun j s' hj => ?_⟩
    by_cases e : j < sh.length
    · rw [List.getElem?_append_left e] at hj
      obtain ⟨c', q1, q2⟩ := hR.2 j s' hj
      refine ⟨c', by rw [hold _ (by rw [hR.1]; omega)]; exact q1, ?_⟩
      have e3 : gmul g (sh.length : Int) ((n.toNat : Nat) : Int) (j : Int) = g (j : Int) := by
        funext y
        unfold gmul
        rw [if_neg (by omega), if_neg (by omega)]
      rw [e3]; exact q2
    · rw [List.getElem?_append_right (by omega)] at hj
      by_cases e0 : j = sh.length
      · subst e0
        rw [Nat.sub_self] at hj
        cases hj
        refine ⟨_, by rw [← hR.1]; exact f2, fun h => by have h' : qo < 13 := h; omega, fun _ => ?_⟩
        rw [gouter]
        refine garr_ext fun i hi9 => ?_
        have hi9' : i < n.toNat := hi9
        rw [if_pos hi9']
        have e3 : gmul g (sh.length : Int) ((n.toNat : Nat) : Int) (sh.length : Int) (i : Int) = (sh.length : Int) + 1 + i := by
          unfold gmul
          rw [if_pos rfl]
        have e4 : gat qo = 2 := by
          unfold gat
          rw [if_neg (by omega), if_neg (by omega)]
        show _ = gcv D (gat qo, _)
        rw [e3, e4, gcv_r D _ (by omega)]
        have e6 : H.size + 1 + i = D.2.2.1 + ((sh.length : Int) + 1 + (i : Int)).toNat := by rw [hR.1]; omega
        exact congrArg Value.ref e6
      · have e1 : j - sh.length = (j - sh.length - 1) + 1 := by omega
        rw [e1, List.getElem?_cons_succ, List.getElem?_replicate] at hj
        split at hj
        · next hlt =>
          cases hj
          have r1 := hrow (j - sh.length - 1) hlt
          rw [hR.1] at r1
          have e5 : D.2.2.1 + sh.length + 1 + (j - sh.length - 1) = D.2.2.1 + j := by omega
          rw [e5] at r1
          refine ⟨_, r1, fun h => by have h' : qi < 13 := h; omega, fun _ => ?_⟩
          show ({ cls := D.2.1 qi, slots := Array.replicate k.toNat (defaultValue ty), vm := .none } : Cell) = _
          rw [arrV_new]
          refine garr_ext fun i _ => ?_
          have e3 : gmul g (sh.length : Int) ((n.toNat : Nat) : Int) (j : Int) (i : Int) = 0 := by
            unfold gmul
            rw [if_neg (by omega), if_pos (by omega)]
          show _ = gcv D (gat qi, _)
          rw [e3]
          exact hdv D
        · cases hj
  have e9 : D.2.2.1 + ((sh.length : Nat) : Int).toNat = H.size := by rw [hR.1]; omega
  have k2 := kk D p l e R s m args below meth c G.heap locs (cells + 1 + n.toNat) (slots + n.toNat + n.toNat * k.toNat) lsC Qw C hR2 (gS_push hS (by omega) hold) hl (by omega) (by omega) (fun r3 sh3 g3 H3 locs3 ls3 pc3 c3 s3 q1 q2 q3 q4 q5 q6 => K r3 sh3 g3 H3 locs3 ls3 pc3 c3 s3 q1 q2 q3 q4 (by omega) (by omega))
  rw [List.map_cons, gcv_r D _ (by omega), e9] at k2
  obtain ⟨t, a1, b1⟩ := k2 G rfl X'
  refine ⟨t, step t ?_, b1⟩
  have e : T.heap.size = H.size := by rw [hT]
  rw [e]
  exact a1
end GN
