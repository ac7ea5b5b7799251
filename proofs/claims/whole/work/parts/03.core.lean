/-! ===== the machine read by whole numbers: values with a tag, a memory, shapes ===== -/
abbrev gV : Type := Nat × Int
abbrev gM : Type := Int → Int → Int
abbrev gS : Type := List (Nat × Nat)
abbrev gF : Type := MethodName × ByteArray × Nat × Option FieldType
abbrev gD : Type := va_G × (Nat → ClassId) × Nat × (Nat → Nat) × (Nat → Nat) × Nat × Option Nat
def gtg (d : String) : Nat := if d = "I" ∨ d = "Z" then 0 else if d = "J" then 1 else 2
def gft (q k : Nat) : Nat := match gcl[q]? with
  | some r => gtg (r.2.1 k).2.2.1
  | none => 0
def gat (q : Nat) : Nat := if q ≤ 15 then 0 else if q = 16 then 1 else 2
def gcv (D : gD) (v : gV) : Value := match v.1 with
  | 0 => .int (Int32.ofInt v.2)
  | 1 => .long (Int64.ofInt v.2)
  | 2 => if v.2 < 0 then .null else .ref (D.2.2.1 + v.2.toNat)
  | 3 => .ref (D.2.2.2.1 v.2.toNat)
  | 5 => .ref (D.2.2.2.2.1 v.2.toNat)
  | 4 => .ref D.2.2.2.2.2.1
  | _ => va_rf D.2.2.2.2.2.2
theorem gcv_i (D : gD) (x : Int) : gcv D (0, x) = .int (Int32.ofInt x) := rfl
theorem gcv_l (D : gD) (x : Int) : gcv D (1, x) = .long (Int64.ofInt x) := rfl
theorem gcv_n (D : gD) (x : Int) (h : x < 0) : gcv D (2, x) = .null := by
  show (if x < 0 then _ else _) = _
  rw [if_pos h]
theorem gcv_r (D : gD) (x : Int) (h : 0 ≤ x) : gcv D (2, x) = .ref (D.2.2.1 + x.toNat) := by
  show (if x < 0 then _ else _) = _
  rw [if_neg (by omega)]
def gca (v : gV) : Nat := if v.1 = 1 then 2 else 1
theorem gcv_cat (D : gD) (v : gV) : (gcv D v).category = gca v := by
  obtain ⟨t, x⟩ := v
  match t with
  | 0 => rfl
  | 1 => rfl
  | 2 => by_cases h : x < 0
         · rw [gcv_n D x h]; rfl
         · rw [gcv_r D x (by omega)]; rfl
  | 3 => rfl
  | 4 => rfl
  | 5 => rfl
  | t + 6 =>
    show (va_rf D.2.2.2.2.2.2).category = gca (t + 6, x)
    have h : gca (t + 6, x) = 1 := by simp [gca]
    rw [h]
    cases D.2.2.2.2.2.2 <;> rfl
def gcell (D : gD) (s : Nat × Nat) (r : Int → Int) (c : Cell) : Prop :=
  (s.1 < 13 → c.cls = D.1.1 s.1 ∧ c.vm = .none ∧ ∀ k : Nat, k < s.2 → c.slots[D.1.2 s.1 k]? = some (gcv D (gft s.1 k, r k))) ∧
  (13 ≤ s.1 → c = arrV (D.2.1 s.1) s.2 (fun j => gcv D (gat s.1, r (j : Int))))
def gRel (D : gD) (sh : gS) (g : gM) (H : Heap) : Prop := H.size = D.2.2.1 + sh.length ∧ ∀ (k : Nat) (s : Nat × Nat), sh[k]? = some s → ∃ c, H[D.2.2.1 + k]? = some c ∧ gcell D s (g (k : Int)) c
def gA (D : gD) : Nat → Prop := fun q => D.2.2.1 ≤ q
/-- at the address a stands something of kind q and size n -/
def gsz (sh : gS) (a : Int) (q n : Nat) : Prop := 0 ≤ a ∧ sh[a.toNat]? = some (q, n)
def gtys (D : gD) : List (ClassId × FieldType) := [(D.2.1 13, .int), (D.2.1 14, .boolean), (D.2.1 15, .byte), (D.2.1 16, .long), (D.2.1 17, .object "CounterDesk$Text"), (D.2.1 18, .object "CounterDesk$Board"), (D.2.1 19, .array .int), (D.2.1 20, .array .long)]
def lw_good : List Cond := lw_tbl.filter goodWord
theorem gm {w : Cond} (i : Nat) (h : lw_tbl[i]? = some w) (hg : goodWord w = true) : w ∈ lw_good := List.mem_filter.mpr ⟨List.mem_of_getElem? h, hg⟩
theorem gok_lays {r : vw_C} (h : gOk r) : ∀ w ∈ u_ws r.1 r.2.1 r.2.2, w ∈ lw_good := by
  intro w hw
  refine List.mem_filter.mpr ⟨h.1 w hw, ?_⟩
  obtain ⟨k, -, rfl⟩ := List.mem_map.mp hw
  unfold u_lay
  split <;> rfl
/-! what is known of the tables beside the good words -/
def gAOA (t : FieldType) (U : State) : Prop := (Cond.arrayOver (.array t)).before #[] U = true
theorem gAOA.moved {t : FieldType} {u U : State} (hvm : u.vm.Alike U.vm) (h : gAOA t u) : gAOA t U := by
  obtain ⟨comp, c, k, h1, h2, h3, h4, h5⟩ := arrayOverA_spec h
  obtain ⟨k', hk', he⟩ := hvm.2.2 _ _ h3
  have hi : (U.vm.classes.findIdx? fun (x : Class) => match x.kind with | .array component _ => component == comp | _ => false) = some c := by
    have e1 := va_idx_bare U.vm comp
    have e2 := va_idx_bare u.vm comp
    rw [hvm.bare_eq] at e1
    exact e1.symm.trans (e2.trans h2)
  have hkind : k'.kind = .array comp (.array t) := by rw [he]; exact h4
  have f1 : U.vm.findClass (FieldType.array t).toString = some comp := by rw [hvm.findClass]; exact h1
  have f2 : U.vm.findClass ("[" ++ (FieldType.array t).toString) = some c := by rw [hvm.findClass]; exact h5
  unfold gAOA Cond.before Cond.holds
  simp only [Cond.value]
  rw [f1, Option.bind_some]
  refine (congrArg (fun o : Option Nat => (o.bind (fun c => (U.vm.classes[c]?).map fun (k : Class) => match k.kind with | .array _ ty => decide (ty = FieldType.array t) && decide (U.vm.findClass ("[" ++ (FieldType.array t).toString) = some c) | _ => false) == some true)) hi).trans ?_
  simp [hk', hkind, f2]
def gNm : List (String × Nat × MethodName × String) := [("CounterDesk", 18, ⟨"CounterDesk$Judge", "<init>", "()V"⟩, "CounterDesk"), ("CounterDesk$Judge", 11, ⟨"CounterDesk$Machine", "<init>", "()V"⟩, "CounterDesk"), ("CounterDesk$Clerk", 11, ⟨"CounterDesk$Trail", "<init>", "()V"⟩, "CounterDesk"), ("CounterDesk$Clerk", 24, ⟨"CounterDesk$Machine", "<init>", "()V"⟩, "CounterDesk"), ("CounterDesk", 43, ⟨"CounterDesk$Draws", "<init>", "()V"⟩, "CounterDesk"), ("CounterDesk", 50, ⟨"CounterDesk$Tape", "<init>", "()V"⟩, "CounterDesk"), ("CounterDesk", 57, ⟨"CounterDesk$Reader", "<init>", "()V"⟩, "CounterDesk"), ("CounterDesk$Board", 56, ⟨"CounterDesk", "isPitch", "(I)Z"⟩, "CounterDesk"), ("CounterDesk$Clerk", 60, ⟨"CounterDesk", "isPitch", "(I)Z"⟩, "CounterDesk"), ("CounterDesk$Judge", 109, ⟨"CounterDesk", "isPitch", "(I)Z"⟩, "CounterDesk")]
def gSt : List (Nat × String) := [(113, "bars"), (121, "costs"), (123, "earns"), (181, "place"), (183, "here"), (185, "under"), (187, "apart"), (189, "ahead"), (191, "leap"), (193, "moves"), (195, "last"), (197, "day"), (199, "mood"), (201, "done"), (203, "latest"), (205, "barred"), (207, "all"), (132, "swap"), (134, "pass"), (136, "set"), (138, "shift"), (140, "to"), (145, "times"), (146, "if"), (167, "not"), (165, "and"), (154, "or")]
def gSl : List Nat := [4, 5, 5, 5, 4, 5, 5, 5, 4, 5, 4, 3, 4, 4, 6, 6, 3, 4, 4, 3, 5, 2, 5, 2, 3, 3, 2]
def gSb : List (List Int32) := [[98, 97, 114, 115], [99, 111, 115, 116, 115], [101, 97, 114, 110, 115], [112, 108, 97, 99, 101], [104, 101, 114, 101], [117, 110, 100, 101, 114], [97, 112, 97, 114, 116], [97, 104, 101, 97, 100], [108, 101, 97, 112], [109, 111, 118, 101, 115], [108, 97, 115, 116], [100, 97, 121], [109, 111, 111, 100], [100, 111, 110, 101], [108, 97, 116, 101, 115, 116], [98, 97, 114, 114, 101, 100], [97, 108, 108], [115, 119, 97, 112], [112, 97, 115, 115], [115, 101, 116], [115, 104, 105, 102, 116], [116, 111], [116, 105, 109, 101, 115], [105, 102], [110, 111, 116], [97, 110, 100], [111, 114]]
/-- MOST_OF_TERM -/
def gTm : List Int := [999, 10, 9, 24, 24]
def gOut (D : gD) (U : State) (H : Heap) : Prop := vk_S 27 gSl gSb D.2.2.2.1 D.2.2.2.2.1 (gA D) U H ∧ (∀ (i : Nat) (q : Nat × String), gSt[i]? = some q → vk_R "CounterDesk$Reader" q.1 q.2 (D.2.2.2.1 i) U) ∧
  va_Z "CounterDesk" "MOST_OF_TERM" "[I" (.ref D.2.2.2.2.2.1) (gA D) U H ∧ va_T .int D.2.2.2.2.2.1 5 (fun j => .int (Int32.ofInt (gTm.getD j 0))) (gA D) U H ∧
  va_Z "java/lang/String" "COMPACT_STRINGS" "Z" (.int 1) (gA D) U H ∧ va_Z "jdk/internal/util/Preconditions" "SIOOBE_FORMATTER" "Ljava/util/function/BiFunction;" (va_rf D.2.2.2.2.2.2) (gA D) U H ∧ va_Nw (.castable "[I" "java/lang/Cloneable") U
theorem gOut.to {D : gD} {s U : State} {H H1 : Heap} (hW : s.WarmedH U.vm) (hq : ∀ a : Nat, a < H.size → ¬ gA D a → H1[a]? = H[a]?) (h : gOut D s H) : gOut D U H1 := by
  obtain ⟨h1, h2, h3, h4, h5, h6, h7⟩ := h
  exact ⟨(h1.moved hW.alike).kept hq, fun i q hi => (h2 i q hi).warm hW, (h3.moved hW.alike).kept hq, (h4.moved hW.alike).kept hq, (h5.moved hW.alike).kept hq, (h6.moved hW.alike).kept hq, va_Nw.warmC hW h7⟩
theorem gOut.same {D : gD} {s U : State} {H : Heap} (hv : U.vm = s.vm) (h : gOut D s H) : gOut D U H := by
  obtain ⟨h1, h2, h3, h4, h5, h6, h7⟩ := h
  have hA : s.vm.Alike U.vm := by rw [hv]; exact Vm.Alike.refl _
  exact ⟨h1.moved hA, fun i q hi => (h2 i q hi).same hv, h3.moved hA, h4.moved hA, h5.moved hA, h6.moved hA, va_Nw.same rfl hv.symm h7⟩
/-- what a frame knows of the machine it runs on -/
def gKn (D : gD) (U : State) (H : Heap) : Prop := va_K D.1 gcl (gtys D) U ∧ va_AO "CounterDesk$Text" U ∧ va_AO "CounterDesk$Board" U ∧ gAOA .int U ∧ gAOA .long U ∧ (∀ q ∈ gNm, va_Nw (.methodLinkNest q.1 q.2.1 q.2.2.1 q.2.2.2) U) ∧ va_Nw (.fieldLinkNest "CounterDesk$Sheet" 76 "CounterDesk" "MOST_OF_TERM" "[I" "CounterDesk") U ∧ gOut D U H
theorem gKn.to {D : gD} {s U : State} {H H1 : Heap} (hW : s.WarmedH U.vm) (hq : ∀ a : Nat, a < H.size → ¬ gA D a → H1[a]? = H[a]?) (h : gKn D s H) : gKn D U H1 := by
  obtain ⟨h1, h2, h3, h4, h5, h6, h7, h8⟩ := h
  exact ⟨va_K.moved hW.alike h1, h2.moved hW.alike, h3.moved hW.alike, h4.moved hW.alike, h5.moved hW.alike, fun q hq => va_Nw.warmM hW (h6 q hq), va_Nw.warmF hW h7, h8.to hW hq⟩
theorem gKn.same {D : gD} {s U : State} {H : Heap} (hv : U.vm = s.vm) (h : gKn D s H) : gKn D U H := by
  obtain ⟨h1, h2, h3, h4, h5, h6, h7, h8⟩ := h
  have hA : s.vm.Alike U.vm := by rw [hv]; exact Vm.Alike.refl _
  exact ⟨va_K.moved hA h1, h2.moved hA, h3.moved hA, h4.moved hA, h5.moved hA, fun q hq => va_Nw.same rfl hv.symm (h6 q hq), va_Nw.same rfl hv.symm h7, h8.same hv⟩
/-- a frame: the machine, its code, its words, its room -/
def gCtx (D : gD) (F : gF) (d : Nat) (p : Program) (R : Room) (s : State) (m : MethodId) (args : Array Value) (meth : Method) (c : Code) : Prop :=
  p.tables.exec = Jvm.exec ∧ c.code = F.2.1 ∧ meth.sig.returnType = F.2.2.2 ∧ c.maxLocals = F.2.2.1 ∧ s.vm.findClass F.1.cls = some m.cls ∧ (∀ w ∈ lw_good, w.before args s = true) ∧ meth.locks = false ∧ meth.name = F.1.name ∧ d ≤ R.frames ∧ 41 * d ≤ R.locals ∧ gKn D s s.heap ∧ D.2.2.1 ≤ s.heap.size
def gls (D : gD) (n : Nat) (lsC : Array Slot) (ls : List gV) : Prop := lsC.size = n ∧ lv_wf lsC ∧ ls.length ≤ n ∧ ∀ (i : Nat) (v : gV), ls[i]? = some v → v.1 ≠ 9 → lsC[i]? = some (.val (gcv D v))
def gRi (F : gF) (pc : Nat) (r : Option gV) : Prop := match r with
  | none => F.2.2.2 = none ∧ decode F.2.1 pc = .ok (.return_, 1)
  | some v => (v.1 = 0 ∧ decode F.2.1 pc = .ok (.ireturn, 1) ∧ ∃ ty, F.2.2.2 = some ty ∧ narrow ty (.int (Int32.ofInt v.2)) = .int (Int32.ofInt v.2))
      ∨ (v.1 = 1 ∧ decode F.2.1 pc = .ok (.lreturn, 1) ∧ F.2.2.2 = some .long)
      ∨ (v.1 = 2 ∧ decode F.2.1 pc = .ok (.areturn, 1) ∧ ∃ rt, F.2.2.2 = some rt ∧ ((∃ n, rt = .object n) ∨ ∃ t, rt = .array t))
abbrev gQ : Type := Option gV → gS → gM → Prop
def gWP (F : gF) (d mc ms pc : Nat) (ls st : List gV) (sh : gS) (g : gM) (Q : gQ) : Prop :=
  ∀ (D : gD) (p : Program) (l : Launch) (e : Env) (R : Room) (s : State) (m : MethodId) (args : Array Value) (below : List Frame) (meth : Method) (c : Code) (H : Heap) (locs : List Loc) (cells slots : Nat) (lsC : Array Slot) (Qw : State → Prop),
    gCtx D F d p R s m args meth c → gRel D sh g H → va_S (gA D) s.heap H locs → gls D F.2.2.1 lsC ls → cells + mc ≤ R.cells → slots + ms ≤ R.slots →
    (∀ (r : Option gV) (sh' : gS) (g' : gM) (H' : Heap) (locs' : List Loc) (lsC' : Array Slot) (pc' cells' slots' : Nat), Q r sh' g' → gRel D sh' g' H' → va_S (gA D) s.heap H' locs' → gRi F pc' r → cells' ≤ cells + mc → slots' ≤ slots + ms → W p l e R s m args below meth c H' locs' cells' slots' Qw (F0 m pc' lsC' (r.toList.map (gcv D)))) →
    W p l e R s m args below meth c H locs cells slots Qw (F0 m pc lsC (st.map (gcv D)))
/-- the instruction at pc, and the place behind it -/
def gI (F : gF) (pc : Nat) (i : Instr) (len npc : Nat) : Prop := decode F.2.1 pc = .ok (i, len) ∧ pc + len = npc
