/-! ===== what is known where the law begins ===== -/
theorem good_tbl {w : Cond} (h : w ∈ lw_good) : w ∈ lw_tbl := (List.mem_filter.mp h).1
theorem arr_known {ty : FieldType} {args : Array Value} {s : State} (h : (Cond.arrayClass ty).before args s = true) : ∃ cA : ClassId, ArrOfT s cA ty ∧ s.vm.findClass ("[" ++ ty.toString) = some cA := by
  obtain ⟨c, k, comp, h1, h2, h3⟩ := Cond.arrayClass_spec h
  exact ⟨c, fun n z => ⟨fun k h => (by cases h), k, h2, comp, h3⟩, h1⟩
theorem arrO_known {nm : String} {args : Array Value} {s : State} (h : (Cond.arrayOver (.object nm)).before args s = true) : ∃ cA : ClassId, ArrOfT s cA (.object nm) ∧ va_RA s cA (.object nm) := by
  obtain ⟨comp, c, k, h1, -, h3, h4, h5⟩ := Cond.arrayOver_spec h
  exact ⟨c, fun n z => ⟨fun k h => (by cases h), k, h3, comp, h4⟩, k, comp, h3, h4, h1, h5⟩
theorem arrA_known {ty : FieldType} {args : Array Value} {s : State} (h : (Cond.arrayOver (.array ty)).before args s = true) : ∃ cA : ClassId, ArrOfT s cA (.array ty) ∧ s.vm.findClass ("[" ++ (FieldType.array ty).toString) = some cA := by
  obtain ⟨comp, c, k, h1, h2, h3, h4, h5⟩ := arrayOverA_spec h
  exact ⟨c, fun n z => ⟨fun k h => (by cases h), k, h3, comp, h4⟩, h5⟩
theorem of_fun {o n d : String} {v1 v2 : Value} {t : Nat} {A : Nat → Prop} {U : State} {H : Heap} (h1 : va_OF o n d v1 t A U H) (h2 : va_OF o n d v2 t A U H) : v1 = v2 := by
  obtain ⟨cf, k, i, f, cell, a1, a2, a3, a4, a5, a6⟩ := h1
  obtain ⟨cf', k', i', f', cell', b1, b2, b3, b4, b5, b6⟩ := h2
  cases a1.symm.trans b1
  cases a3.symm.trans b3
  exact Option.some.inj (a5.symm.trans b5)
theorem t_fun {ty : FieldType} {t N M : Nat} {f f' : Nat → Value} {A : Nat → Prop} {U : State} {H : Heap} (h1 : va_T ty t N f A U H) (h2 : va_T ty t M f' A U H) : Int32.ofNat N = Int32.ofNat M ∧ ∀ j, j < N → j < M → f j = f' j := by
  obtain ⟨cell, a1, -, -, -, a5, a6, -⟩ := h1
  obtain ⟨cell', b1, -, -, -, b5, b6, -⟩ := h2
  cases a1.symm.trans b1
  exact ⟨a5.symm.trans b5, fun j q1 q2 => Option.some.inj ((a6 j q1).symm.trans (b6 j q2))⟩
def stm (i : Nat) : Term := .string "CounterDesk$Reader" (gSt.getD i (0, "")).1
theorem str_len : ∀ i : Nat, i < 27 → gSl.getD i 0 < 2 ^ 31 := by decide +kernel
theorem str_len2 : ∀ i : Nat, i < 27 → ∀ j : Nat, j < 27 → Int32.ofNat (gSl.getD i 0) = Int32.ofNat (gSl.getD j 0) → gSl.getD i 0 = gSl.getD j 0 := by decide +kernel
theorem str_ne : ∀ i : Nat, i < 27 → ∀ j : Nat, j < 27 → gSl.getD i 0 = gSl.getD j 0 → (∀ k : Nat, k < gSl.getD i 0 → (gSb.getD i []).getD k 0 = (gSb.getD j []).getD k 0) → i = j := by decide +kernel
theorem str_known {b : Nat} {s : State} {A : Nat → Prop} (hn : ∀ w ∈ flatC (Jvm.Cond.and given_1 narrow_1), w.before #[Value.ref b] s = true) (hA : ∀ a : Nat, a < s.heap.size → ¬ A a) : ∃ adK adV : Nat → Nat, vk_S 27 gSl gSb adK adV A s s.heap ∧ ∀ i : Nat, i < 27 → (stm i).eval #[Value.ref b] s none [] s = some (.ref (adK i)) := by
  have hex : ∀ i : Nat, i < 27 → (Cond.exactly (stm i) "java/lang/String").before #[Value.ref b] s = true := fun i hi => hn _ ((by decide +kernel : ∀ i : Nat, i < 27 → Cond.exactly (stm i) "java/lang/String" ∈ flatC (Jvm.Cond.and given_1 narrow_1)) i hi)
  have hco : ∀ i : Nat, i < 27 → (Cond.eq (.field (stm i) "java/lang/String" "coder" "B") (.int 0)).before #[Value.ref b] s = true := fun i hi => hn _ ((by decide +kernel : ∀ i : Nat, i < 27 → Cond.eq (.field (stm i) "java/lang/String" "coder" "B") (.int 0) ∈ flatC (Jvm.Cond.and given_1 narrow_1)) i hi)
  have har : ∀ i : Nat, i < 27 → (Cond.arrayOf (.field (stm i) "java/lang/String" "value" "[B") .byte).before #[Value.ref b] s = true := fun i hi => hn _ ((by decide +kernel : ∀ i : Nat, i < 27 → Cond.arrayOf (.field (stm i) "java/lang/String" "value" "[B") .byte ∈ flatC (Jvm.Cond.and given_1 narrow_1)) i hi)
  have hle : ∀ i : Nat, i < 27 → (Cond.eq (.length (.field (stm i) "java/lang/String" "value" "[B")) (.int (Int32.ofNat (gSl.getD i 0)))).before #[Value.ref b] s = true := fun i hi => hn _ ((by decide +kernel : ∀ i : Nat, i < 27 → Cond.eq (.length (.field (stm i) "java/lang/String" "value" "[B")) (.int (Int32.ofNat (gSl.getD i 0))) ∈ flatC (Jvm.Cond.and given_1 narrow_1)) i hi)
  have hel : ∀ i : Nat, i < 27 → ∀ j : Nat, j < gSl.getD i 0 → (Cond.eq (.elem (.field (stm i) "java/lang/String" "value" "[B") (.int (Int32.ofNat j))) (.int ((gSb.getD i []).getD j 0))).before #[Value.ref b] s = true := fun i hi j hj => hn _ ((by decide +kernel : ∀ i : Nat, i < 27 → ∀ j : Nat, j < gSl.getD i 0 → Cond.eq (.elem (.field (stm i) "java/lang/String" "value" "[B") (.int (Int32.ofNat j))) (.int ((gSb.getD i []).getD j 0)) ∈ flatC (Jvm.Cond.and given_1 narrow_1)) i hi j hj)
  have h0 : ∀ i : Nat, ∃ q : Nat × Nat, i < 27 → (stm i).eval #[Value.ref b] s none [] s = some (.ref q.1) ∧ va_O "java/lang/String" q.1 A s s.heap ∧ va_OF "java/lang/String" "coder" "B" (.int 0) q.1 A s s.heap ∧ va_OF "java/lang/String" "value" "[B" (.ref q.2) q.1 A s s.heap ∧ va_T .byte q.2 (gSl.getD i 0) (fun j => .int ((gSb.getD i []).getD j 0)) A s s.heap := by
    intro i
    by_cases hi : i < 27
    · obtain ⟨a, c, cA, kA, q1, q2, q3, q4, q5, q6, -⟩ := Cond.exactly_spec (args := #[Value.ref b]) (first := s) (o := none) (s := s) (idx := []) (t := stm i) (cls := "java/lang/String") (hex i hi)
      obtain ⟨t, ht, hT⟩ := va_Tof (f := fun j => .int ((gSb.getD i []).getD j 0)) (A := A) (str_len i hi) (har i hi) (va_eqt (hle i hi)) (fun j hj => va_eqt (hel i hi j hj)) hA
      exact ⟨(a, t), fun _ => ⟨q1, ⟨cA, q3, q5, by rw [q6]; exact q2, hA a (Array.getElem?_eq_some_iff.mp q3).1⟩, vk_OFof q1 (va_eqt (hco i hi)) hA, vk_OFof q1 ht hA, hT⟩⟩
    · exact ⟨(0, 0), fun h => absurd h hi⟩
  obtain ⟨ad, had⟩ := Classical.axiomOfChoice h0
  refine ⟨fun i => (ad i).1, fun i => (ad i).2, ⟨fun i hi => (had i hi).2, fun i j hi hj e => ?_⟩, fun i hi => (had i hi).1⟩
  have e' : (ad i).1 = (ad j).1 := e
  have v1 := (had i hi).2.2.2.1
  have v2 := (had j hj).2.2.2.1
  rw [e'] at v1
  have ev : (ad i).2 = (ad j).2 := Value.ref.inj (of_fun v1 v2)
  have w1 := (had i hi).2.2.2.2
  have w2 := (had j hj).2.2.2.2
  rw [ev] at w1
  obtain ⟨f1, f2⟩ := t_fun w1 w2
  have hl := str_len2 i hi j hj f1
  exact str_ne i hi j hj hl (fun k hk => Value.int.inj (f2 k hk (by rw [← hl]; exact hk)))
theorem inst_all : ∀ r ∈ gcl.map (fun r => (r.1, r.2.2)), Cond.instantiable r.1 r.2 ∈ lw_tbl := by decide +kernel
theorem nest_all : ∀ q ∈ gNm, Cond.methodLinkNest q.1 q.2.1 q.2.2.1 q.2.2.2 ∈ lw_tbl := by decide +kernel
theorem ref_all : ∀ i : Nat, i < 27 → Cond.stringRef "CounterDesk$Reader" (gSt.getD i (0, "")).1 (gSt.getD i (0, "")).2 ∈ lw_tbl := by decide +kernel
theorem known {b : Nat} {s : State} (hts : ∀ w ∈ lw_tbl, w.before #[Value.ref b] s = true) (hgv : (Jvm.Cond.and given_1 narrow_1).before #[Value.ref b] s = true) : ∃ D : gD, D.2.2.1 = s.heap.size ∧ D.2.2.2.1 27 = b ∧ gKn D s s.heap := by
  have hn := flat_of_before _ hgv
  have hA : ∀ a : Nat, a < s.heap.size → ¬ (fun q => s.heap.size ≤ q) a := fun a h z => by
    have z' : s.heap.size ≤ a := z
    omega
  have hc : ∀ c : Nat, ∃ q : ClassId × (Nat → Nat), ∀ r : vw_C, gcl[c]? = some r → u_Kn s r.1 r.2.1 r.2.2 q.1 q.2 := by
    intro c
    cases h : gcl[c]? with
    | none => exact ⟨(default, fun _ => 0), fun r e => by cases e⟩
    | some r =>
      obtain ⟨cC, iS, hk⟩ := u_known (ws := lw_good) (fun w hw => hts w (good_tbl hw)) (gok_lays (gcl_ok c r h)) (hts _ (inst_all (r.1, r.2.2) (List.mem_map_of_mem (f := fun r : vw_C => (r.1, r.2.2)) (List.mem_of_getElem? h))))
      exact ⟨(cC, iS), fun r2 e => by cases e; exact hk⟩
  obtain ⟨fC, hfC⟩ := Classical.axiomOfChoice hc
  obtain ⟨c13, a13, b13⟩ := arr_known (hts (.arrayClass .int) (by decide +kernel))
  obtain ⟨c14, a14, b14⟩ := arr_known (hts (.arrayClass .boolean) (by decide +kernel))
  obtain ⟨c15, a15, b15⟩ := arr_known (hts (.arrayClass .byte) (by decide +kernel))
  obtain ⟨c16, a16, b16⟩ := arr_known (hts (.arrayClass .long) (by decide +kernel))
  obtain ⟨c17, a17, b17⟩ := arrO_known (hts (.arrayOver (.object "CounterDesk$Text")) (by decide +kernel))
  obtain ⟨c18, a18, b18⟩ := arrO_known (hts (.arrayOver (.object "CounterDesk$Board")) (by decide +kernel))
  obtain ⟨c19, a19, b19⟩ := arrA_known (hts (.arrayOver (.array .int)) (by decide +kernel))
  obtain ⟨c20, a20, b20⟩ := arrA_known (hts (.arrayOver (.array .long)) (by decide +kernel))
  obtain ⟨T, t13, t14, t15, t16, t17, t18, t19, t20⟩ : ∃ T : Nat → ClassId, T 13 = c13 ∧ T 14 = c14 ∧ T 15 = c15 ∧ T 16 = c16 ∧ T 17 = c17 ∧ T 18 = c18 ∧ T 19 = c19 ∧ T 20 = c20 := ⟨fun k => if k = 13 then c13 else if k = 14 then c14 else if k = 15 then c15 else if k = 16 then c16 else if k = 17 then c17 else if k = 18 then c18 else if k = 19 then c19 else c20, rfl, rfl, rfl, rfl, rfl, rfl, rfl, rfl⟩
  subst t13 t14 t15 t16 t17 t18 t19 t20
  obtain ⟨adK, adV, hS, hE⟩ := str_known hn hA
  obtain ⟨adK2, k27, klt⟩ : ∃ f : Nat → Nat, f 27 = b ∧ ∀ i, i < 27 → f i = adK i := ⟨fun i => if i = 27 then b else adK i, if_pos rfl, fun i hi => if_neg (by omega)⟩
  obtain ⟨t, ht, hT⟩ := va_Tof (args := #[Value.ref b]) (s := s) (tm := .static "CounterDesk" "MOST_OF_TERM" "[I") (ty := .int) (N := 5) (f := fun j => .int (Int32.ofInt (gTm.getD j 0))) (A := fun q => s.heap.size ≤ q) (by decide) (hn _ (by decide +kernel)) (va_eqt (hn (.eq (.length (.static "CounterDesk" "MOST_OF_TERM" "[I")) (.int (Int32.ofNat 5))) (by decide +kernel))) (fun j hj => va_eqt (hn _ ((by decide +kernel : ∀ j : Nat, j < 5 → Cond.eq (.elem (.static "CounterDesk" "MOST_OF_TERM" "[I") (.int (Int32.ofNat j))) (.int (Int32.ofInt (gTm.getD j 0))) ∈ flatC (Jvm.Cond.and given_1 narrow_1)) j hj))) hA
  have hZ1 := va_Zof (hts (.laysStatic "CounterDesk" "MOST_OF_TERM" "[I") (by decide +kernel)) (hts (.initialized "CounterDesk") (by decide +kernel)) ht hA
  have hZ2 := va_Zof (hts (.laysStatic "java/lang/String" "COMPACT_STRINGS" "Z") (by decide +kernel)) (hts (.initialized "java/lang/String") (by decide +kernel)) (va_eqi (hn (.eq (.static "java/lang/String" "COMPACT_STRINGS" "Z") (.int 1)) (by decide +kernel))) hA
  have hZ3 := va_Zqof (hts (.laysStatic "jdk/internal/util/Preconditions" "SIOOBE_FORMATTER" "Ljava/util/function/BiFunction;") (by decide +kernel)) (hts (.initialized "jdk/internal/util/Preconditions") (by decide +kernel)) (hn (.isRef (.static "jdk/internal/util/Preconditions" "SIOOBE_FORMATTER" "Ljava/util/function/BiFunction;")) (by decide +kernel)) hA
  obtain ⟨r, hr⟩ : ∃ r : Option Nat, va_Z "jdk/internal/util/Preconditions" "SIOOBE_FORMATTER" "Ljava/util/function/BiFunction;" (va_rf r) (fun q => s.heap.size ≤ q) s s.heap := by
    rcases hZ3 with h | ⟨x, h⟩
    · exact ⟨none, h⟩
    · exact ⟨some x, h⟩
  refine ⟨((fun c => (fC c).1, fun c => (fC c).2), T, s.heap.size, adK2, adV, t, r), rfl, k27, ⟨fun c q hq => hfC c q hq, fun k q hq => ?_⟩, hts (.arrayOver (.object "CounterDesk$Text")) (by decide +kernel), hts (.arrayOver (.object "CounterDesk$Board")) (by decide +kernel), hts (.arrayOver (.array .int)) (by decide +kernel), hts (.arrayOver (.array .long)) (by decide +kernel), fun q hq => hts _ (nest_all q hq), hts (.fieldLinkNest "CounterDesk$Sheet" 76 "CounterDesk" "MOST_OF_TERM" "[I" "CounterDesk") (by decide +kernel), ⟨?_, ?_⟩, fun i q hq => ?_, hZ1, hT, hZ2, hr, hts (.castable "[I" "java/lang/Cloneable") (by decide +kernel)⟩
  · have hm := List.mem_of_getElem? hq
    simp only [gtys, List.mem_cons, List.not_mem_nil, or_false] at hm
    rcases hm with rfl | rfl | rfl | rfl | rfl | rfl | rfl | rfl
    · exact ⟨a13, b13⟩
    · exact ⟨a14, b14⟩
    · exact ⟨a15, b15⟩
    · exact ⟨a16, b16⟩
    · exact ⟨a17, b17⟩
    · exact ⟨a18, b18⟩
    · exact ⟨a19, b19⟩
    · exact ⟨a20, b20⟩
  · intro i hi
    have h1 := hS.1 i hi
    rw [← klt i hi] at h1
    exact h1
  · intro i j hi hj e
    exact hS.2 i j hi hj (by rw [← klt i hi, ← klt j hj]; exact e)
  · have hi : i < 27 := by
      have := (List.getElem?_eq_some_iff.mp hq).1
      exact this
    have e0 : gSt.getD i (0, "") = q := by rw [List.getD_eq_getElem?_getD, hq]; rfl
    have h1 := hts _ (ref_all i hi)
    have h2 := hE i hi
    unfold stm at h2
    rw [e0] at h1 h2
    rw [← klt i hi] at h2
    exact vk_R.of h1 h2
