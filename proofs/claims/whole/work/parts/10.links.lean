/-! ===== the methods, what links to them, fields, constants ===== -/
theorem gm1 {w : Cond} (j : Nat) (e : tables_1_1[j]? = some w) (hg : goodWord w = true) : w ∈ lw_good := by
  have h := List.mem_of_getElem? e
  exact List.mem_filter.mpr ⟨List.mem_append_right _ (List.mem_append_left _ h), hg⟩
theorem gms1 {q : MethodName × Nat} (j : Nat) (e : lw_privs_1[j]? = some q) : Cond.selects q.1.cls q.1 q.1 ∈ lw_good := by
  have h := List.mem_of_getElem? e
  exact List.mem_filter.mpr ⟨List.mem_append_left _ (List.mem_map_of_mem (f := fun q : MethodName × Nat => Cond.selects q.1.cls q.1 q.1) (List.mem_append_left _ h)), rfl⟩
theorem gm2 {w : Cond} (j : Nat) (e : tables_1_2[j]? = some w) (hg : goodWord w = true) : w ∈ lw_good := by
  have h := List.mem_of_getElem? e
  exact List.mem_filter.mpr ⟨List.mem_append_right _ (List.mem_append_right _ (List.mem_append_left _ h)), hg⟩
theorem gms2 {q : MethodName × Nat} (j : Nat) (e : lw_privs_2[j]? = some q) : Cond.selects q.1.cls q.1 q.1 ∈ lw_good := by
  have h := List.mem_of_getElem? e
  exact List.mem_filter.mpr ⟨List.mem_append_left _ (List.mem_map_of_mem (f := fun q : MethodName × Nat => Cond.selects q.1.cls q.1 q.1) (List.mem_append_right _ (List.mem_append_left _ h))), rfl⟩
theorem gm3 {w : Cond} (j : Nat) (e : tables_1_3[j]? = some w) (hg : goodWord w = true) : w ∈ lw_good := by
  have h := List.mem_of_getElem? e
  exact List.mem_filter.mpr ⟨List.mem_append_right _ (List.mem_append_right _ (List.mem_append_right _ (List.mem_append_left _ h))), hg⟩
theorem gms3 {q : MethodName × Nat} (j : Nat) (e : lw_privs_3[j]? = some q) : Cond.selects q.1.cls q.1 q.1 ∈ lw_good := by
  have h := List.mem_of_getElem? e
  exact List.mem_filter.mpr ⟨List.mem_append_left _ (List.mem_map_of_mem (f := fun q : MethodName × Nat => Cond.selects q.1.cls q.1 q.1) (List.mem_append_right _ (List.mem_append_right _ (List.mem_append_left _ h)))), rfl⟩
theorem gm4 {w : Cond} (j : Nat) (e : tables_1_4[j]? = some w) (hg : goodWord w = true) : w ∈ lw_good := by
  have h := List.mem_of_getElem? e
  exact List.mem_filter.mpr ⟨List.mem_append_right _ (List.mem_append_right _ (List.mem_append_right _ (List.mem_append_right _ (List.mem_append_left _ h)))), hg⟩
theorem gms4 {q : MethodName × Nat} (j : Nat) (e : lw_privs_4[j]? = some q) : Cond.selects q.1.cls q.1 q.1 ∈ lw_good := by
  have h := List.mem_of_getElem? e
  exact List.mem_filter.mpr ⟨List.mem_append_left _ (List.mem_map_of_mem (f := fun q : MethodName × Nat => Cond.selects q.1.cls q.1 q.1) (List.mem_append_right _ (List.mem_append_right _ (List.mem_append_right _ (List.mem_append_left _ h))))), rfl⟩
theorem gm5 {w : Cond} (j : Nat) (e : tables_1_5[j]? = some w) (hg : goodWord w = true) : w ∈ lw_good := by
  have h := List.mem_of_getElem? e
  exact List.mem_filter.mpr ⟨List.mem_append_right _ (List.mem_append_right _ (List.mem_append_right _ (List.mem_append_right _ (List.mem_append_right _ (List.mem_append_left _ h))))), hg⟩
theorem gms5 {q : MethodName × Nat} (j : Nat) (e : lw_privs_5[j]? = some q) : Cond.selects q.1.cls q.1 q.1 ∈ lw_good := by
  have h := List.mem_of_getElem? e
  exact List.mem_filter.mpr ⟨List.mem_append_left _ (List.mem_map_of_mem (f := fun q : MethodName × Nat => Cond.selects q.1.cls q.1 q.1) (List.mem_append_right _ (List.mem_append_right _ (List.mem_append_right _ (List.mem_append_right _ (List.mem_append_left _ h)))))), rfl⟩
theorem gm6 {w : Cond} (j : Nat) (e : tables_1_6[j]? = some w) (hg : goodWord w = true) : w ∈ lw_good := by
  have h := List.mem_of_getElem? e
  exact List.mem_filter.mpr ⟨List.mem_append_right _ (List.mem_append_right _ (List.mem_append_right _ (List.mem_append_right _ (List.mem_append_right _ (List.mem_append_right _ (List.mem_append_left _ h)))))), hg⟩
theorem gms6 {q : MethodName × Nat} (j : Nat) (e : lw_privs_6[j]? = some q) : Cond.selects q.1.cls q.1 q.1 ∈ lw_good := by
  have h := List.mem_of_getElem? e
  exact List.mem_filter.mpr ⟨List.mem_append_left _ (List.mem_map_of_mem (f := fun q : MethodName × Nat => Cond.selects q.1.cls q.1 q.1) (List.mem_append_right _ (List.mem_append_right _ (List.mem_append_right _ (List.mem_append_right _ (List.mem_append_right _ (List.mem_append_left _ h))))))), rfl⟩
theorem gm7 {w : Cond} (j : Nat) (e : tables_1_7[j]? = some w) (hg : goodWord w = true) : w ∈ lw_good := by
  have h := List.mem_of_getElem? e
  exact List.mem_filter.mpr ⟨List.mem_append_right _ (List.mem_append_right _ (List.mem_append_right _ (List.mem_append_right _ (List.mem_append_right _ (List.mem_append_right _ (List.mem_append_right _ (List.mem_append_left _ h))))))), hg⟩
theorem gms7 {q : MethodName × Nat} (j : Nat) (e : lw_privs_7[j]? = some q) : Cond.selects q.1.cls q.1 q.1 ∈ lw_good := by
  have h := List.mem_of_getElem? e
  exact List.mem_filter.mpr ⟨List.mem_append_left _ (List.mem_map_of_mem (f := fun q : MethodName × Nat => Cond.selects q.1.cls q.1 q.1) (List.mem_append_right _ (List.mem_append_right _ (List.mem_append_right _ (List.mem_append_right _ (List.mem_append_right _ (List.mem_append_right _ (List.mem_append_left _ h)))))))), rfl⟩
theorem gm8 {w : Cond} (j : Nat) (e : tables_1_8[j]? = some w) (hg : goodWord w = true) : w ∈ lw_good := by
  have h := List.mem_of_getElem? e
  exact List.mem_filter.mpr ⟨List.mem_append_right _ (List.mem_append_right _ (List.mem_append_right _ (List.mem_append_right _ (List.mem_append_right _ (List.mem_append_right _ (List.mem_append_right _ (List.mem_append_right _ (h)))))))), hg⟩
theorem gms8 {q : MethodName × Nat} (j : Nat) (e : lw_privs_8[j]? = some q) : Cond.selects q.1.cls q.1 q.1 ∈ lw_good := by
  have h := List.mem_of_getElem? e
  exact List.mem_filter.mpr ⟨List.mem_append_left _ (List.mem_map_of_mem (f := fun q : MethodName × Nat => Cond.selects q.1.cls q.1 q.1) (List.mem_append_right _ (List.mem_append_right _ (List.mem_append_right _ (List.mem_append_right _ (List.mem_append_right _ (List.mem_append_right _ (List.mem_append_right _ (h))))))))), rfl⟩
theorem pd_0 : (parseMethodDescriptor "()V").map (fun d => d.parameters.length) = some 0 := by decide +kernel
theorem pd_1 : (parseMethodDescriptor "(LCounterDesk$Board;LCounterDesk$Judge;)V").map (fun d => d.parameters.length) = some 2 := by decide +kernel
theorem pd_2 : (parseMethodDescriptor "(LCounterDesk$Judge;)V").map (fun d => d.parameters.length) = some 1 := by decide +kernel
theorem pd_3 : (parseMethodDescriptor "(I)V").map (fun d => d.parameters.length) = some 1 := by decide +kernel
theorem pd_4 : (parseMethodDescriptor "(II)I").map (fun d => d.parameters.length) = some 2 := by decide +kernel
theorem pd_5 : (parseMethodDescriptor "(I)Z").map (fun d => d.parameters.length) = some 1 := by decide +kernel
theorem pd_6 : (parseMethodDescriptor "(I)I").map (fun d => d.parameters.length) = some 1 := by decide +kernel
theorem pd_7 : (parseMethodDescriptor "(II)Z").map (fun d => d.parameters.length) = some 2 := by decide +kernel
theorem pd_8 : (parseMethodDescriptor "(LCounterDesk$Board;II)I").map (fun d => d.parameters.length) = some 3 := by decide +kernel
theorem pd_9 : (parseMethodDescriptor "(LCounterDesk$Board;II)V").map (fun d => d.parameters.length) = some 3 := by decide +kernel
theorem pd_10 : (parseMethodDescriptor "(II)V").map (fun d => d.parameters.length) = some 2 := by decide +kernel
theorem pd_11 : (parseMethodDescriptor "()LCounterDesk$Text;").map (fun d => d.parameters.length) = some 0 := by decide +kernel
theorem pd_12 : (parseMethodDescriptor "(LCounterDesk$Text;I)I").map (fun d => d.parameters.length) = some 2 := by decide +kernel
theorem pd_13 : (parseMethodDescriptor "(LCounterDesk$Text;II[I)I").map (fun d => d.parameters.length) = some 4 := by decide +kernel
theorem pd_14 : (parseMethodDescriptor "(IJJ)I").map (fun d => d.parameters.length) = some 3 := by decide +kernel
theorem pd_15 : (parseMethodDescriptor "(LCounterDesk$Board;I)I").map (fun d => d.parameters.length) = some 2 := by decide +kernel
theorem pd_16 : (parseMethodDescriptor "(IIIII)I").map (fun d => d.parameters.length) = some 5 := by decide +kernel
theorem pd_17 : (parseMethodDescriptor "()I").map (fun d => d.parameters.length) = some 0 := by decide +kernel
theorem pd_18 : (parseMethodDescriptor "(LCounterDesk$Tape;Z)I").map (fun d => d.parameters.length) = some 2 := by decide +kernel
theorem pd_19 : (parseMethodDescriptor "(Ljava/lang/String;)Z").map (fun d => d.parameters.length) = some 1 := by decide +kernel
theorem pd_20 : (parseMethodDescriptor "()B").map (fun d => d.parameters.length) = some 0 := by decide +kernel
theorem pd_21 : (parseMethodDescriptor "(I)C").map (fun d => d.parameters.length) = some 1 := by decide +kernel
theorem pd_22 : (parseMethodDescriptor "()Z").map (fun d => d.parameters.length) = some 0 := by decide +kernel
theorem pd_23 : (parseMethodDescriptor "([BI)C").map (fun d => d.parameters.length) = some 2 := by decide +kernel
theorem pd_24 : (parseMethodDescriptor "(IILjava/util/function/BiFunction;)I").map (fun d => d.parameters.length) = some 3 := by decide +kernel
theorem pd_25 : (parseMethodDescriptor "(I[B)V").map (fun d => d.parameters.length) = some 2 := by decide +kernel
theorem pd_26 : (parseMethodDescriptor "([B)I").map (fun d => d.parameters.length) = some 1 := by decide +kernel
theorem pd_27 : (parseMethodDescriptor "(C)Z").map (fun d => d.parameters.length) = some 1 := by decide +kernel
theorem pd_28 : (parseMethodDescriptor "(LCounterDesk$Text;)V").map (fun d => d.parameters.length) = some 1 := by decide +kernel
theorem pd_29 : (parseMethodDescriptor "([II)[I").map (fun d => d.parameters.length) = some 2 := by decide +kernel
theorem pd_30 : (parseMethodDescriptor "(LCounterDesk$Text;)I").map (fun d => d.parameters.length) = some 1 := by decide +kernel
theorem pd_31 : (parseMethodDescriptor "(LCounterDesk$Board;)V").map (fun d => d.parameters.length) = some 1 := by decide +kernel
theorem pd_32 : (parseMethodDescriptor "(LCounterDesk$Trail;)V").map (fun d => d.parameters.length) = some 1 := by decide +kernel
theorem pd_33 : (parseMethodDescriptor "(LCounterDesk$Text;I)Z").map (fun d => d.parameters.length) = some 2 := by decide +kernel
theorem pd_34 : (parseMethodDescriptor "(III)V").map (fun d => d.parameters.length) = some 3 := by decide +kernel
theorem pd_35 : (parseMethodDescriptor "([IIII)I").map (fun d => d.parameters.length) = some 4 := by decide +kernel
theorem pd_36 : (parseMethodDescriptor "(LCounterDesk$Board;LCounterDesk$Text;)I").map (fun d => d.parameters.length) = some 2 := by decide +kernel
theorem pd_37 : (parseMethodDescriptor "(LCounterDesk$Board;LCounterDesk$Text;I)I").map (fun d => d.parameters.length) = some 3 := by decide +kernel
theorem pd_38 : (parseMethodDescriptor "(LCounterDesk$Board;ILCounterDesk$Text;LCounterDesk$Judge;)V").map (fun d => d.parameters.length) = some 4 := by decide +kernel
theorem pd_39 : (parseMethodDescriptor "(LCounterDesk$Board;I)J").map (fun d => d.parameters.length) = some 2 := by decide +kernel
theorem pd_40 : (parseMethodDescriptor "(LCounterDesk$Board;III)V").map (fun d => d.parameters.length) = some 4 := by decide +kernel
theorem pd_41 : (parseMethodDescriptor "(LCounterDesk$Board;LCounterDesk$Text;II)I").map (fun d => d.parameters.length) = some 4 := by decide +kernel
theorem pd_42 : (parseMethodDescriptor "()J").map (fun d => d.parameters.length) = some 0 := by decide +kernel
theorem pd_43 : (parseMethodDescriptor "(LCounterDesk$Board;LCounterDesk$Text;)J").map (fun d => d.parameters.length) = some 2 := by decide +kernel
theorem pd_44 : (parseMethodDescriptor "(LCounterDesk$Board;LCounterDesk$Text;)V").map (fun d => d.parameters.length) = some 2 := by decide +kernel
theorem pd_45 : (parseMethodDescriptor "(LCounterDesk$Board;II)Z").map (fun d => d.parameters.length) = some 3 := by decide +kernel
theorem pd_46 : (parseMethodDescriptor "(LCounterDesk$Board;)I").map (fun d => d.parameters.length) = some 1 := by decide +kernel
theorem pd_47 : (parseMethodDescriptor "(II)J").map (fun d => d.parameters.length) = some 2 := by decide +kernel
theorem pd_48 : (parseMethodDescriptor "(LCounterDesk$Board;LCounterDesk$Judge;II)I").map (fun d => d.parameters.length) = some 4 := by decide +kernel
theorem pd_49 : (parseMethodDescriptor "(III)Z").map (fun d => d.parameters.length) = some 3 := by decide +kernel
theorem pd_50 : (parseMethodDescriptor "(IIZI)V").map (fun d => d.parameters.length) = some 4 := by decide +kernel
theorem pd_51 : (parseMethodDescriptor "(III)I").map (fun d => d.parameters.length) = some 3 := by decide +kernel
theorem pd_52 : (parseMethodDescriptor "(Z)J").map (fun d => d.parameters.length) = some 1 := by decide +kernel
theorem pd_53 : (parseMethodDescriptor "(C)I").map (fun d => d.parameters.length) = some 1 := by decide +kernel
theorem pd_54 : (parseMethodDescriptor "(JZ)J").map (fun d => d.parameters.length) = some 2 := by decide +kernel
theorem pd_55 : (parseMethodDescriptor "(Z)Z").map (fun d => d.parameters.length) = some 1 := by decide +kernel
theorem pd_56 : (parseMethodDescriptor "(IIII)I").map (fun d => d.parameters.length) = some 4 := by decide +kernel
theorem pd_57 : (parseMethodDescriptor "(IZ)I").map (fun d => d.parameters.length) = some 2 := by decide +kernel
theorem pd_58 : (parseMethodDescriptor "(Z)I").map (fun d => d.parameters.length) = some 1 := by decide +kernel
theorem pd_59 : (parseMethodDescriptor "(IIZ)V").map (fun d => d.parameters.length) = some 3 := by decide +kernel
theorem pd_60 : (parseMethodDescriptor "(IIIIZ)I").map (fun d => d.parameters.length) = some 5 := by decide +kernel
theorem pd_61 : (parseMethodDescriptor "(IIIZ)I").map (fun d => d.parameters.length) = some 4 := by decide +kernel
theorem pd_62 : (parseMethodDescriptor "(IZ)V").map (fun d => d.parameters.length) = some 2 := by decide +kernel
theorem pd_63 : (parseMethodDescriptor "(J)I").map (fun d => d.parameters.length) = some 1 := by decide +kernel
theorem cm_0 : "CounterDesk" ≠ "java/lang/invoke/MethodHandle" ∧ "CounterDesk" ≠ "java/lang/invoke/VarHandle" := by decide +kernel
theorem cm_1 : "CounterDesk$Board" ≠ "java/lang/invoke/MethodHandle" ∧ "CounterDesk$Board" ≠ "java/lang/invoke/VarHandle" := by decide +kernel
theorem cm_2 : "CounterDesk$Judge" ≠ "java/lang/invoke/MethodHandle" ∧ "CounterDesk$Judge" ≠ "java/lang/invoke/VarHandle" := by decide +kernel
theorem cm_3 : "CounterDesk$Machine" ≠ "java/lang/invoke/MethodHandle" ∧ "CounterDesk$Machine" ≠ "java/lang/invoke/VarHandle" := by decide +kernel
theorem cm_4 : "CounterDesk$Clerk" ≠ "java/lang/invoke/MethodHandle" ∧ "CounterDesk$Clerk" ≠ "java/lang/invoke/VarHandle" := by decide +kernel
theorem cm_5 : "CounterDesk$Trail" ≠ "java/lang/invoke/MethodHandle" ∧ "CounterDesk$Trail" ≠ "java/lang/invoke/VarHandle" := by decide +kernel
theorem cm_6 : "CounterDesk$Paper" ≠ "java/lang/invoke/MethodHandle" ∧ "CounterDesk$Paper" ≠ "java/lang/invoke/VarHandle" := by decide +kernel
theorem cm_7 : "CounterDesk$Sheet" ≠ "java/lang/invoke/MethodHandle" ∧ "CounterDesk$Sheet" ≠ "java/lang/invoke/VarHandle" := by decide +kernel
theorem cm_8 : "CounterDesk$Draws" ≠ "java/lang/invoke/MethodHandle" ∧ "CounterDesk$Draws" ≠ "java/lang/invoke/VarHandle" := by decide +kernel
theorem cm_9 : "CounterDesk$Tape" ≠ "java/lang/invoke/MethodHandle" ∧ "CounterDesk$Tape" ≠ "java/lang/invoke/VarHandle" := by decide +kernel
theorem cm_10 : "CounterDesk$Reader" ≠ "java/lang/invoke/MethodHandle" ∧ "CounterDesk$Reader" ≠ "java/lang/invoke/VarHandle" := by decide +kernel
theorem cm_11 : "CounterDesk$Text" ≠ "java/lang/invoke/MethodHandle" ∧ "CounterDesk$Text" ≠ "java/lang/invoke/VarHandle" := by decide +kernel
theorem cm_12 : "java/lang/Math" ≠ "java/lang/invoke/MethodHandle" ∧ "java/lang/Math" ≠ "java/lang/invoke/VarHandle" := by decide +kernel
theorem cm_13 : "java/lang/String" ≠ "java/lang/invoke/MethodHandle" ∧ "java/lang/String" ≠ "java/lang/invoke/VarHandle" := by decide +kernel
theorem cm_14 : "java/lang/StringLatin1" ≠ "java/lang/invoke/MethodHandle" ∧ "java/lang/StringLatin1" ≠ "java/lang/invoke/VarHandle" := by decide +kernel
theorem cm_15 : "jdk/internal/util/Preconditions" ≠ "java/lang/invoke/MethodHandle" ∧ "jdk/internal/util/Preconditions" ≠ "java/lang/invoke/VarHandle" := by decide +kernel
theorem cm_16 : "java/lang/StringUTF16" ≠ "java/lang/invoke/MethodHandle" ∧ "java/lang/StringUTF16" ≠ "java/lang/invoke/VarHandle" := by decide +kernel
theorem cm_17 : "java/util/Arrays" ≠ "java/lang/invoke/MethodHandle" ∧ "java/util/Arrays" ≠ "java/lang/invoke/VarHandle" := by decide +kernel
theorem cm_18 : "CounterDeskModel" ≠ "java/lang/invoke/MethodHandle" ∧ "CounterDeskModel" ≠ "java/lang/invoke/VarHandle" := by decide +kernel
theorem pf_0_0 : parseFieldDescriptor (gF_Desk 0).2.2.1 = some (.object "CounterDesk$Board") := by decide +kernel
theorem ft_0_0 : gft 0 0 = 2 := by decide +kernel
theorem pf_0_1 : parseFieldDescriptor (gF_Desk 1).2.2.1 = some (.object "CounterDesk$Judge") := by decide +kernel
theorem ft_0_1 : gft 0 1 = 2 := by decide +kernel
theorem pf_0_2 : parseFieldDescriptor (gF_Desk 2).2.2.1 = some (.object "CounterDesk$Clerk") := by decide +kernel
theorem ft_0_2 : gft 0 2 = 2 := by decide +kernel
theorem pf_0_3 : parseFieldDescriptor (gF_Desk 3).2.2.1 = some (.object "CounterDesk$Paper") := by decide +kernel
theorem ft_0_3 : gft 0 3 = 2 := by decide +kernel
theorem pf_0_4 : parseFieldDescriptor (gF_Desk 4).2.2.1 = some (.object "CounterDesk$Draws") := by decide +kernel
theorem ft_0_4 : gft 0 4 = 2 := by decide +kernel
theorem pf_0_5 : parseFieldDescriptor (gF_Desk 5).2.2.1 = some (.object "CounterDesk$Tape") := by decide +kernel
theorem ft_0_5 : gft 0 5 = 2 := by decide +kernel
theorem pf_0_6 : parseFieldDescriptor (gF_Desk 6).2.2.1 = some (.object "CounterDesk$Reader") := by decide +kernel
theorem ft_0_6 : gft 0 6 = 2 := by decide +kernel
theorem pf_0_7 : parseFieldDescriptor (gF_Desk 7).2.2.1 = some (.array (.object "CounterDesk$Board")) := by decide +kernel
theorem ft_0_7 : gft 0 7 = 2 := by decide +kernel
theorem pf_0_8 : parseFieldDescriptor (gF_Desk 8).2.2.1 = some (.array .boolean) := by decide +kernel
theorem ft_0_8 : gft 0 8 = 2 := by decide +kernel
theorem pf_0_9 : parseFieldDescriptor (gF_Desk 9).2.2.1 = some (.array .int) := by decide +kernel
theorem ft_0_9 : gft 0 9 = 2 := by decide +kernel
theorem pf_0_10 : parseFieldDescriptor (gF_Desk 10).2.2.1 = some (.array .long) := by decide +kernel
theorem ft_0_10 : gft 0 10 = 2 := by decide +kernel
theorem pf_0_11 : parseFieldDescriptor (gF_Desk 11).2.2.1 = some (.int) := by decide +kernel
theorem ft_0_11 : gft 0 11 = 0 := by decide +kernel
theorem pf_0_12 : parseFieldDescriptor (gF_Desk 12).2.2.1 = some (.int) := by decide +kernel
theorem ft_0_12 : gft 0 12 = 0 := by decide +kernel
theorem pf_0_13 : parseFieldDescriptor (gF_Desk 13).2.2.1 = some (.int) := by decide +kernel
theorem ft_0_13 : gft 0 13 = 0 := by decide +kernel
theorem pf_1_0 : parseFieldDescriptor (gF_Board 0).2.2.1 = some (.int) := by decide +kernel
theorem ft_1_0 : gft 1 0 = 0 := by decide +kernel
theorem pf_1_1 : parseFieldDescriptor (gF_Board 1).2.2.1 = some (.array .int) := by decide +kernel
theorem ft_1_1 : gft 1 1 = 2 := by decide +kernel
theorem pf_1_2 : parseFieldDescriptor (gF_Board 2).2.2.1 = some (.array .int) := by decide +kernel
theorem ft_1_2 : gft 1 2 = 2 := by decide +kernel
theorem pf_1_3 : parseFieldDescriptor (gF_Board 3).2.2.1 = some (.array .int) := by decide +kernel
theorem ft_1_3 : gft 1 3 = 2 := by decide +kernel
theorem pf_1_4 : parseFieldDescriptor (gF_Board 4).2.2.1 = some (.int) := by decide +kernel
theorem ft_1_4 : gft 1 4 = 0 := by decide +kernel
theorem pf_1_5 : parseFieldDescriptor (gF_Board 5).2.2.1 = some (.array .int) := by decide +kernel
theorem ft_1_5 : gft 1 5 = 2 := by decide +kernel
theorem pf_1_6 : parseFieldDescriptor (gF_Board 6).2.2.1 = some (.array .int) := by decide +kernel
theorem ft_1_6 : gft 1 6 = 2 := by decide +kernel
theorem pf_1_7 : parseFieldDescriptor (gF_Board 7).2.2.1 = some (.int) := by decide +kernel
theorem ft_1_7 : gft 1 7 = 0 := by decide +kernel
theorem pf_1_8 : parseFieldDescriptor (gF_Board 8).2.2.1 = some (.array (.object "CounterDesk$Text")) := by decide +kernel
theorem ft_1_8 : gft 1 8 = 2 := by decide +kernel
theorem pf_1_9 : parseFieldDescriptor (gF_Board 9).2.2.1 = some (.int) := by decide +kernel
theorem ft_1_9 : gft 1 9 = 0 := by decide +kernel
theorem pf_2_0 : parseFieldDescriptor (gF_Clerk 0).2.2.1 = some (.object "CounterDesk$Trail") := by decide +kernel
theorem ft_2_0 : gft 2 0 = 2 := by decide +kernel
theorem pf_2_1 : parseFieldDescriptor (gF_Clerk 1).2.2.1 = some (.int) := by decide +kernel
theorem ft_2_1 : gft 2 1 = 0 := by decide +kernel
theorem pf_2_2 : parseFieldDescriptor (gF_Clerk 2).2.2.1 = some (.object "CounterDesk$Board") := by decide +kernel
theorem ft_2_2 : gft 2 2 = 2 := by decide +kernel
theorem pf_2_3 : parseFieldDescriptor (gF_Clerk 3).2.2.1 = some (.object "CounterDesk$Judge") := by decide +kernel
theorem ft_2_3 : gft 2 3 = 2 := by decide +kernel
theorem pf_2_4 : parseFieldDescriptor (gF_Clerk 4).2.2.1 = some (.object "CounterDesk$Machine") := by decide +kernel
theorem ft_2_4 : gft 2 4 = 2 := by decide +kernel
theorem pf_2_5 : parseFieldDescriptor (gF_Clerk 5).2.2.1 = some (.object "CounterDesk$Board") := by decide +kernel
theorem ft_2_5 : gft 2 5 = 2 := by decide +kernel
theorem pf_2_6 : parseFieldDescriptor (gF_Clerk 6).2.2.1 = some (.object "CounterDesk$Trail") := by decide +kernel
theorem ft_2_6 : gft 2 6 = 2 := by decide +kernel
theorem pf_2_7 : parseFieldDescriptor (gF_Clerk 7).2.2.1 = some (.array .int) := by decide +kernel
theorem ft_2_7 : gft 2 7 = 2 := by decide +kernel
theorem pf_2_8 : parseFieldDescriptor (gF_Clerk 8).2.2.1 = some (.int) := by decide +kernel
theorem ft_2_8 : gft 2 8 = 0 := by decide +kernel
theorem pf_2_9 : parseFieldDescriptor (gF_Clerk 9).2.2.1 = some (.int) := by decide +kernel
theorem ft_2_9 : gft 2 9 = 0 := by decide +kernel
theorem pf_3_0 : parseFieldDescriptor (gF_Draws 0).2.2.1 = some (.object "CounterDesk$Board") := by decide +kernel
theorem ft_3_0 : gft 3 0 = 2 := by decide +kernel
theorem pf_3_1 : parseFieldDescriptor (gF_Draws 1).2.2.1 = some (.boolean) := by decide +kernel
theorem ft_3_1 : gft 3 1 = 0 := by decide +kernel
theorem pf_3_2 : parseFieldDescriptor (gF_Draws 2).2.2.1 = some (.long) := by decide +kernel
theorem ft_3_2 : gft 3 2 = 1 := by decide +kernel
theorem pf_4_0 : parseFieldDescriptor (gF_Judge 0).2.2.1 = some (.object "CounterDesk$Machine") := by decide +kernel
theorem ft_4_0 : gft 4 0 = 2 := by decide +kernel
theorem pf_4_1 : parseFieldDescriptor (gF_Judge 1).2.2.1 = some (.array .int) := by decide +kernel
theorem ft_4_1 : gft 4 1 = 2 := by decide +kernel
theorem pf_4_2 : parseFieldDescriptor (gF_Judge 2).2.2.1 = some (.boolean) := by decide +kernel
theorem ft_4_2 : gft 4 2 = 0 := by decide +kernel
theorem pf_4_3 : parseFieldDescriptor (gF_Judge 3).2.2.1 = some (.int) := by decide +kernel
theorem ft_4_3 : gft 4 3 = 0 := by decide +kernel
theorem pf_5_0 : parseFieldDescriptor (gF_Machine 0).2.2.1 = some (.array .int) := by decide +kernel
theorem ft_5_0 : gft 5 0 = 2 := by decide +kernel
theorem pf_6_0 : parseFieldDescriptor (gF_Paper 0).2.2.1 = some (.int) := by decide +kernel
theorem ft_6_0 : gft 6 0 = 0 := by decide +kernel
theorem pf_6_1 : parseFieldDescriptor (gF_Paper 1).2.2.1 = some (.int) := by decide +kernel
theorem ft_6_1 : gft 6 1 = 0 := by decide +kernel
theorem pf_6_2 : parseFieldDescriptor (gF_Paper 2).2.2.1 = some (.object "CounterDesk$Judge") := by decide +kernel
theorem ft_6_2 : gft 6 2 = 2 := by decide +kernel
theorem pf_6_3 : parseFieldDescriptor (gF_Paper 3).2.2.1 = some (.object "CounterDesk$Sheet") := by decide +kernel
theorem ft_6_3 : gft 6 3 = 2 := by decide +kernel
theorem pf_6_4 : parseFieldDescriptor (gF_Paper 4).2.2.1 = some (.object "CounterDesk$Sheet") := by decide +kernel
theorem ft_6_4 : gft 6 4 = 2 := by decide +kernel
theorem pf_6_5 : parseFieldDescriptor (gF_Paper 5).2.2.1 = some (.object "CounterDesk$Sheet") := by decide +kernel
theorem ft_6_5 : gft 6 5 = 2 := by decide +kernel
theorem pf_6_6 : parseFieldDescriptor (gF_Paper 6).2.2.1 = some (.array (.array .int)) := by decide +kernel
theorem ft_6_6 : gft 6 6 = 2 := by decide +kernel
theorem pf_6_7 : parseFieldDescriptor (gF_Paper 7).2.2.1 = some (.array (.array .int)) := by decide +kernel
theorem ft_6_7 : gft 6 7 = 2 := by decide +kernel
theorem pf_6_8 : parseFieldDescriptor (gF_Paper 8).2.2.1 = some (.array (.array .long)) := by decide +kernel
theorem ft_6_8 : gft 6 8 = 2 := by decide +kernel
theorem pf_6_9 : parseFieldDescriptor (gF_Paper 9).2.2.1 = some (.array (.array .int)) := by decide +kernel
theorem ft_6_9 : gft 6 9 = 2 := by decide +kernel
theorem pf_6_10 : parseFieldDescriptor (gF_Paper 10).2.2.1 = some (.array .int) := by decide +kernel
theorem ft_6_10 : gft 6 10 = 2 := by decide +kernel
theorem pf_6_11 : parseFieldDescriptor (gF_Paper 11).2.2.1 = some (.array .int) := by decide +kernel
theorem ft_6_11 : gft 6 11 = 2 := by decide +kernel
theorem pf_6_12 : parseFieldDescriptor (gF_Paper 12).2.2.1 = some (.object "CounterDesk$Board") := by decide +kernel
theorem ft_6_12 : gft 6 12 = 2 := by decide +kernel
theorem pf_7_0 : parseFieldDescriptor (gF_Reader 0).2.2.1 = some (.object "CounterDesk$Text") := by decide +kernel
theorem ft_7_0 : gft 7 0 = 2 := by decide +kernel
theorem pf_7_1 : parseFieldDescriptor (gF_Reader 1).2.2.1 = some (.array .int) := by decide +kernel
theorem ft_7_1 : gft 7 1 = 2 := by decide +kernel
theorem pf_7_2 : parseFieldDescriptor (gF_Reader 2).2.2.1 = some (.int) := by decide +kernel
theorem ft_7_2 : gft 7 2 = 0 := by decide +kernel
theorem pf_7_3 : parseFieldDescriptor (gF_Reader 3).2.2.1 = some (.boolean) := by decide +kernel
theorem ft_7_3 : gft 7 3 = 0 := by decide +kernel
theorem pf_7_4 : parseFieldDescriptor (gF_Reader 4).2.2.1 = some (.int) := by decide +kernel
theorem ft_7_4 : gft 7 4 = 0 := by decide +kernel
theorem pf_7_5 : parseFieldDescriptor (gF_Reader 5).2.2.1 = some (.int) := by decide +kernel
theorem ft_7_5 : gft 7 5 = 0 := by decide +kernel
theorem pf_7_6 : parseFieldDescriptor (gF_Reader 6).2.2.1 = some (.int) := by decide +kernel
theorem ft_7_6 : gft 7 6 = 0 := by decide +kernel
theorem pf_7_7 : parseFieldDescriptor (gF_Reader 7).2.2.1 = some (.int) := by decide +kernel
theorem ft_7_7 : gft 7 7 = 0 := by decide +kernel
theorem pf_7_8 : parseFieldDescriptor (gF_Reader 8).2.2.1 = some (.int) := by decide +kernel
theorem ft_7_8 : gft 7 8 = 0 := by decide +kernel
theorem pf_8_0 : parseFieldDescriptor (gF_Sheet 0).2.2.1 = some (.array (.array .int)) := by decide +kernel
theorem ft_8_0 : gft 8 0 = 2 := by decide +kernel
theorem pf_8_1 : parseFieldDescriptor (gF_Sheet 1).2.2.1 = some (.int) := by decide +kernel
theorem ft_8_1 : gft 8 1 = 0 := by decide +kernel
theorem pf_8_2 : parseFieldDescriptor (gF_Sheet 2).2.2.1 = some (.array .long) := by decide +kernel
theorem ft_8_2 : gft 8 2 = 2 := by decide +kernel
theorem pf_8_3 : parseFieldDescriptor (gF_Sheet 3).2.2.1 = some (.array (.object "CounterDesk$Text")) := by decide +kernel
theorem ft_8_3 : gft 8 3 = 2 := by decide +kernel
theorem pf_9_0 : parseFieldDescriptor (gF_Tape 0).2.2.1 = some (.array .int) := by decide +kernel
theorem ft_9_0 : gft 9 0 = 2 := by decide +kernel
theorem pf_9_1 : parseFieldDescriptor (gF_Tape 1).2.2.1 = some (.int) := by decide +kernel
theorem ft_9_1 : gft 9 1 = 0 := by decide +kernel
theorem pf_10_0 : parseFieldDescriptor (gF_Text 0).2.2.1 = some (.int) := by decide +kernel
theorem ft_10_0 : gft 10 0 = 0 := by decide +kernel
theorem pf_10_1 : parseFieldDescriptor (gF_Text 1).2.2.1 = some (.int) := by decide +kernel
theorem ft_10_1 : gft 10 1 = 0 := by decide +kernel
theorem pf_10_2 : parseFieldDescriptor (gF_Text 2).2.2.1 = some (.boolean) := by decide +kernel
theorem ft_10_2 : gft 10 2 = 0 := by decide +kernel
theorem pf_10_3 : parseFieldDescriptor (gF_Text 3).2.2.1 = some (.array .int) := by decide +kernel
theorem ft_10_3 : gft 10 3 = 2 := by decide +kernel
theorem pf_10_4 : parseFieldDescriptor (gF_Text 4).2.2.1 = some (.array .int) := by decide +kernel
theorem ft_10_4 : gft 10 4 = 2 := by decide +kernel
theorem pf_10_5 : parseFieldDescriptor (gF_Text 5).2.2.1 = some (.array .int) := by decide +kernel
theorem ft_10_5 : gft 10 5 = 2 := by decide +kernel
theorem pf_10_6 : parseFieldDescriptor (gF_Text 6).2.2.1 = some (.array .int) := by decide +kernel
theorem ft_10_6 : gft 10 6 = 2 := by decide +kernel
theorem pf_10_7 : parseFieldDescriptor (gF_Text 7).2.2.1 = some (.array .int) := by decide +kernel
theorem ft_10_7 : gft 10 7 = 2 := by decide +kernel
theorem pf_11_0 : parseFieldDescriptor (gF_Trail 0).2.2.1 = some (.array .int) := by decide +kernel
theorem ft_11_0 : gft 11 0 = 2 := by decide +kernel
theorem pf_11_1 : parseFieldDescriptor (gF_Trail 1).2.2.1 = some (.array .int) := by decide +kernel
theorem ft_11_1 : gft 11 1 = 2 := by decide +kernel
theorem pf_11_2 : parseFieldDescriptor (gF_Trail 2).2.2.1 = some (.array .int) := by decide +kernel
theorem ft_11_2 : gft 11 2 = 2 := by decide +kernel
theorem pf_11_3 : parseFieldDescriptor (gF_Trail 3).2.2.1 = some (.int) := by decide +kernel
theorem ft_11_3 : gft 11 3 = 0 := by decide +kernel
theorem pf_12_0 : parseFieldDescriptor (gF_Model 0).2.2.1 = some (.int) := by decide +kernel
theorem ft_12_0 : gft 12 0 = 0 := by decide +kernel
theorem pf_12_1 : parseFieldDescriptor (gF_Model 1).2.2.1 = some (.array .int) := by decide +kernel
theorem ft_12_1 : gft 12 1 = 2 := by decide +kernel
theorem pf_12_2 : parseFieldDescriptor (gF_Model 2).2.2.1 = some (.array .int) := by decide +kernel
theorem ft_12_2 : gft 12 2 = 2 := by decide +kernel
theorem pf_12_3 : parseFieldDescriptor (gF_Model 3).2.2.1 = some (.array .int) := by decide +kernel
theorem ft_12_3 : gft 12 3 = 2 := by decide +kernel
theorem pf_12_4 : parseFieldDescriptor (gF_Model 4).2.2.1 = some (.array .boolean) := by decide +kernel
theorem ft_12_4 : gft 12 4 = 2 := by decide +kernel
theorem pf_12_5 : parseFieldDescriptor (gF_Model 5).2.2.1 = some (.array .int) := by decide +kernel
theorem ft_12_5 : gft 12 5 = 2 := by decide +kernel
theorem pf_12_6 : parseFieldDescriptor (gF_Model 6).2.2.1 = some (.int) := by decide +kernel
theorem ft_12_6 : gft 12 6 = 0 := by decide +kernel
theorem pf_12_7 : parseFieldDescriptor (gF_Model 7).2.2.1 = some (.array .byte) := by decide +kernel
theorem ft_12_7 : gft 12 7 = 2 := by decide +kernel
theorem pf_12_8 : parseFieldDescriptor (gF_Model 8).2.2.1 = some (.int) := by decide +kernel
theorem ft_12_8 : gft 12 8 = 0 := by decide +kernel
theorem pf_12_9 : parseFieldDescriptor (gF_Model 9).2.2.1 = some (.int) := by decide +kernel
theorem ft_12_9 : gft 12 9 = 0 := by decide +kernel
theorem pf_12_10 : parseFieldDescriptor (gF_Model 10).2.2.1 = some (.boolean) := by decide +kernel
theorem ft_12_10 : gft 12 10 = 0 := by decide +kernel
theorem pf_12_11 : parseFieldDescriptor (gF_Model 11).2.2.1 = some (.array .byte) := by decide +kernel
theorem ft_12_11 : gft 12 11 = 2 := by decide +kernel
theorem pf_12_12 : parseFieldDescriptor (gF_Model 12).2.2.1 = some (.array .int) := by decide +kernel
theorem ft_12_12 : gft 12 12 = 2 := by decide +kernel
theorem pf_12_13 : parseFieldDescriptor (gF_Model 13).2.2.1 = some (.int) := by decide +kernel
theorem ft_12_13 : gft 12 13 = 0 := by decide +kernel
theorem pf_12_14 : parseFieldDescriptor (gF_Model 14).2.2.1 = some (.int) := by decide +kernel
theorem ft_12_14 : gft 12 14 = 0 := by decide +kernel
theorem pf_12_15 : parseFieldDescriptor (gF_Model 15).2.2.1 = some (.array .int) := by decide +kernel
theorem ft_12_15 : gft 12 15 = 2 := by decide +kernel
theorem pf_12_16 : parseFieldDescriptor (gF_Model 16).2.2.1 = some (.array .int) := by decide +kernel
theorem ft_12_16 : gft 12 16 = 2 := by decide +kernel
theorem pf_12_17 : parseFieldDescriptor (gF_Model 17).2.2.1 = some (.array .int) := by decide +kernel
theorem ft_12_17 : gft 12 17 = 2 := by decide +kernel
theorem pf_12_18 : parseFieldDescriptor (gF_Model 18).2.2.1 = some (.int) := by decide +kernel
theorem ft_12_18 : gft 12 18 = 0 := by decide +kernel
theorem pf_12_19 : parseFieldDescriptor (gF_Model 19).2.2.1 = some (.int) := by decide +kernel
theorem ft_12_19 : gft 12 19 = 0 := by decide +kernel
theorem pf_12_20 : parseFieldDescriptor (gF_Model 20).2.2.1 = some (.int) := by decide +kernel
theorem ft_12_20 : gft 12 20 = 0 := by decide +kernel
theorem pf_12_21 : parseFieldDescriptor (gF_Model 21).2.2.1 = some (.int) := by decide +kernel
theorem ft_12_21 : gft 12 21 = 0 := by decide +kernel
theorem pf_12_22 : parseFieldDescriptor (gF_Model 22).2.2.1 = some (.int) := by decide +kernel
theorem ft_12_22 : gft 12 22 = 0 := by decide +kernel
theorem pf_12_23 : parseFieldDescriptor (gF_Model 23).2.2.1 = some (.int) := by decide +kernel
theorem ft_12_23 : gft 12 23 = 0 := by decide +kernel
theorem pf_12_24 : parseFieldDescriptor (gF_Model 24).2.2.1 = some (.boolean) := by decide +kernel
theorem ft_12_24 : gft 12 24 = 0 := by decide +kernel
theorem pf_12_25 : parseFieldDescriptor (gF_Model 25).2.2.1 = some (.boolean) := by decide +kernel
theorem ft_12_25 : gft 12 25 = 0 := by decide +kernel
theorem pf_12_26 : parseFieldDescriptor (gF_Model 26).2.2.1 = some (.array .int) := by decide +kernel
theorem ft_12_26 : gft 12 26 = 2 := by decide +kernel
theorem pf_12_27 : parseFieldDescriptor (gF_Model 27).2.2.1 = some (.int) := by decide +kernel
theorem ft_12_27 : gft 12 27 = 0 := by decide +kernel
theorem pf_12_28 : parseFieldDescriptor (gF_Model 28).2.2.1 = some (.int) := by decide +kernel
theorem ft_12_28 : gft 12 28 = 0 := by decide +kernel
theorem pf_12_29 : parseFieldDescriptor (gF_Model 29).2.2.1 = some (.int) := by decide +kernel
theorem ft_12_29 : gft 12 29 = 0 := by decide +kernel
theorem pf_12_30 : parseFieldDescriptor (gF_Model 30).2.2.1 = some (.int) := by decide +kernel
theorem ft_12_30 : gft 12 30 = 0 := by decide +kernel
theorem pf_12_31 : parseFieldDescriptor (gF_Model 31).2.2.1 = some (.array .int) := by decide +kernel
theorem ft_12_31 : gft 12 31 = 2 := by decide +kernel
theorem pf_12_32 : parseFieldDescriptor (gF_Model 32).2.2.1 = some (.array .int) := by decide +kernel
theorem ft_12_32 : gft 12 32 = 2 := by decide +kernel
theorem pf_12_33 : parseFieldDescriptor (gF_Model 33).2.2.1 = some (.int) := by decide +kernel
theorem ft_12_33 : gft 12 33 = 0 := by decide +kernel
theorem pf_12_34 : parseFieldDescriptor (gF_Model 34).2.2.1 = some (.array .int) := by decide +kernel
theorem ft_12_34 : gft 12 34 = 2 := by decide +kernel
theorem pf_12_35 : parseFieldDescriptor (gF_Model 35).2.2.1 = some (.array .int) := by decide +kernel
theorem ft_12_35 : gft 12 35 = 2 := by decide +kernel
theorem pf_12_36 : parseFieldDescriptor (gF_Model 36).2.2.1 = some (.array .boolean) := by decide +kernel
theorem ft_12_36 : gft 12 36 = 2 := by decide +kernel
theorem pf_12_37 : parseFieldDescriptor (gF_Model 37).2.2.1 = some (.array .int) := by decide +kernel
theorem ft_12_37 : gft 12 37 = 2 := by decide +kernel
theorem pf_12_38 : parseFieldDescriptor (gF_Model 38).2.2.1 = some (.array .long) := by decide +kernel
theorem ft_12_38 : gft 12 38 = 2 := by decide +kernel
theorem pf_12_39 : parseFieldDescriptor (gF_Model 39).2.2.1 = some (.array .int) := by decide +kernel
theorem ft_12_39 : gft 12 39 = 2 := by decide +kernel
theorem pf_12_40 : parseFieldDescriptor (gF_Model 40).2.2.1 = some (.array .long) := by decide +kernel
theorem ft_12_40 : gft 12 40 = 2 := by decide +kernel
theorem pf_12_41 : parseFieldDescriptor (gF_Model 41).2.2.1 = some (.int) := by decide +kernel
theorem ft_12_41 : gft 12 41 = 0 := by decide +kernel
theorem pf_12_42 : parseFieldDescriptor (gF_Model 42).2.2.1 = some (.int) := by decide +kernel
theorem ft_12_42 : gft 12 42 = 0 := by decide +kernel
theorem pf_12_43 : parseFieldDescriptor (gF_Model 43).2.2.1 = some (.int) := by decide +kernel
theorem ft_12_43 : gft 12 43 = 0 := by decide +kernel
theorem pf_12_44 : parseFieldDescriptor (gF_Model 44).2.2.1 = some (.int) := by decide +kernel
theorem ft_12_44 : gft 12 44 = 0 := by decide +kernel
theorem pf_12_45 : parseFieldDescriptor (gF_Model 45).2.2.1 = some (.boolean) := by decide +kernel
theorem ft_12_45 : gft 12 45 = 0 := by decide +kernel
theorem pf_12_46 : parseFieldDescriptor (gF_Model 46).2.2.1 = some (.boolean) := by decide +kernel
theorem ft_12_46 : gft 12 46 = 0 := by decide +kernel
theorem pf_12_47 : parseFieldDescriptor (gF_Model 47).2.2.1 = some (.array .long) := by decide +kernel
theorem ft_12_47 : gft 12 47 = 2 := by decide +kernel
theorem pf_12_48 : parseFieldDescriptor (gF_Model 48).2.2.1 = some (.array .int) := by decide +kernel
theorem ft_12_48 : gft 12 48 = 2 := by decide +kernel
theorem pf_12_49 : parseFieldDescriptor (gF_Model 49).2.2.1 = some (.int) := by decide +kernel
theorem ft_12_49 : gft 12 49 = 0 := by decide +kernel
theorem pf_12_50 : parseFieldDescriptor (gF_Model 50).2.2.1 = some (.int) := by decide +kernel
theorem ft_12_50 : gft 12 50 = 0 := by decide +kernel
def f_Desk_init : gF := (⟨"CounterDesk", "<init>", "()V"⟩, prog_1_method_1_code, 2, none)
def f_Obj_init : gF := (⟨"java/lang/Object", "<init>", "()V"⟩, object_method_1_code, 1, none)
def f_Board_init : gF := (⟨"CounterDesk$Board", "<init>", "()V"⟩, prog_2_method_1_code, 1, none)
def f_Judge_init : gF := (⟨"CounterDesk$Judge", "<init>", "()V"⟩, prog_5_method_1_code, 1, none)
def f_Machine_init : gF := (⟨"CounterDesk$Machine", "<init>", "()V"⟩, prog_6_method_1_code, 1, none)
def f_Clerk_init : gF := (⟨"CounterDesk$Clerk", "<init>", "(LCounterDesk$Board;LCounterDesk$Judge;)V"⟩, prog_3_method_1_code, 3, none)
def f_Trail_init : gF := (⟨"CounterDesk$Trail", "<init>", "()V"⟩, prog_12_method_1_code, 1, none)
def f_Paper_init : gF := (⟨"CounterDesk$Paper", "<init>", "(LCounterDesk$Judge;)V"⟩, prog_7_method_1_code, 2, none)
def f_Sheet_init : gF := (⟨"CounterDesk$Sheet", "<init>", "(I)V"⟩, prog_9_method_1_code, 3, none)
def f_Draws_init : gF := (⟨"CounterDesk$Draws", "<init>", "()V"⟩, prog_4_method_1_code, 1, none)
def f_Tape_init : gF := (⟨"CounterDesk$Tape", "<init>", "()V"⟩, prog_10_method_1_code, 1, none)
def f_Reader_init : gF := (⟨"CounterDesk$Reader", "<init>", "()V"⟩, prog_8_method_1_code, 1, none)
def f_Text_init : gF := (⟨"CounterDesk$Text", "<init>", "()V"⟩, prog_11_method_1_code, 1, none)
def f_Desk_note : gF := (⟨"CounterDesk", "note", "(II)I"⟩, prog_1_method_2_code, 3, (some .int))
def f_Desk_isPitch : gF := (⟨"CounterDesk", "isPitch", "(I)Z"⟩, prog_1_method_44_code, 1, (some .boolean))
def f_Desk_answer : gF := (⟨"CounterDesk", "answer", "(I)I"⟩, prog_1_method_42_code, 3, (some .int))
def f_Board_add : gF := (⟨"CounterDesk$Board", "add", "(II)Z"⟩, prog_2_method_6_code, 3, (some .boolean))
def f_Desk_of : gF := (⟨"CounterDesk", "of", "(II)I"⟩, prog_1_method_3_code, 3, (some .int))
def f_Board_has : gF := (⟨"CounterDesk$Board", "has", "(I)Z"⟩, prog_2_method_3_code, 2, (some .boolean))
def f_Judge_weigh : gF := (⟨"CounterDesk$Judge", "weigh", "(LCounterDesk$Board;II)I"⟩, prog_5_method_6_code, 4, (some .int))
def f_Judge_place : gF := (⟨"CounterDesk$Judge", "place", "(LCounterDesk$Board;II)V"⟩, prog_5_method_2_code, 4, none)
def f_Judge_sound : gF := (⟨"CounterDesk$Judge", "sound", "(II)V"⟩, prog_5_method_3_code, 3, none)
def f_Board_lawInForce : gF := (⟨"CounterDesk$Board", "lawInForce", "()LCounterDesk$Text;"⟩, prog_2_method_5_code, 1, (some (.object "CounterDesk$Text")))
def f_Board_hasLaw : gF := (⟨"CounterDesk$Board", "hasLaw", "(I)Z"⟩, prog_2_method_4_code, 2, (some .boolean))
def f_Judge_told : gF := (⟨"CounterDesk$Judge", "told", "(LCounterDesk$Text;I)I"⟩, prog_5_method_4_code, 5, (some .int))
def f_Text_hasTest : gF := (⟨"CounterDesk$Text", "hasTest", "(I)Z"⟩, prog_11_method_3_code, 3, (some .boolean))
def f_Machine_workOut : gF := (⟨"CounterDesk$Machine", "workOut", "(LCounterDesk$Text;II[I)I"⟩, prog_6_method_2_code, 12, (some .int))
def f_Math_max : gF := (⟨"java/lang/Math", "max", "(II)I"⟩, prog_16_method_65_code, 2, (some .int))
def f_Machine_joined : gF := (⟨"CounterDesk$Machine", "joined", "(IJJ)I"⟩, prog_6_method_3_code, 7, (some .int))
def f_Math_min : gF := (⟨"java/lang/Math", "min", "(II)I"⟩, prog_16_method_69_code, 2, (some .int))
def f_Judge_orElse : gF := (⟨"CounterDesk$Judge", "orElse", "(II)I"⟩, prog_5_method_5_code, 3, (some .int))
def f_Math_abs : gF := (⟨"java/lang/Math", "abs", "(I)I"⟩, prog_16_method_59_code, 1, (some .int))
def f_Desk_at : gF := (⟨"CounterDesk", "at", "(II)I"⟩, prog_1_method_4_code, 3, (some .int))
def f_Judge_fact : gF := (⟨"CounterDesk$Judge", "fact", "(LCounterDesk$Board;II)I"⟩, prog_5_method_8_code, 4, (some .int))
def f_Desk_all : gF := (⟨"CounterDesk", "all", "(I)I"⟩, prog_1_method_5_code, 2, (some .int))
def f_Judge_total : gF := (⟨"CounterDesk$Judge", "total", "(LCounterDesk$Board;I)I"⟩, prog_5_method_7_code, 6, (some .int))
def f_Desk_terms : gF := (⟨"CounterDesk", "terms", "(II)I"⟩, prog_1_method_6_code, 4, (some .int))
def f_Desk_feed : gF := (⟨"CounterDesk", "feed", "(IIIII)I"⟩, prog_1_method_7_code, 6, (some .int))
def f_Tape_take : gF := (⟨"CounterDesk$Tape", "take", "(I)V"⟩, prog_10_method_2_code, 3, none)
def f_Desk_end : gF := (⟨"CounterDesk", "end", "(I)I"⟩, prog_1_method_8_code, 2, (some .int))
def f_Desk_row : gF := (⟨"CounterDesk", "row", "()I"⟩, prog_1_method_9_code, 3, (some .int))
def f_Desk_blots : gF := (⟨"CounterDesk", "blots", "()I"⟩, prog_1_method_10_code, 1, (some .int))
def f_Desk_law : gF := (⟨"CounterDesk", "law", "()I"⟩, prog_1_method_11_code, 1, (some .int))
def f_Reader_read : gF := (⟨"CounterDesk$Reader", "read", "(LCounterDesk$Tape;Z)I"⟩, prog_8_method_2_code, 4, (some .int))
def f_Reader_advance : gF := (⟨"CounterDesk$Reader", "advance", "()V"⟩, prog_8_method_3_code, 2, none)
def f_Reader_isLetter : gF := (⟨"CounterDesk$Reader", "isLetter", "(I)Z"⟩, prog_8_method_4_code, 1, (some .boolean))
def f_Reader_isDigit : gF := (⟨"CounterDesk$Reader", "isDigit", "(I)Z"⟩, prog_8_method_5_code, 1, (some .boolean))
def f_Reader_lawClause : gF := (⟨"CounterDesk$Reader", "lawClause", "(I)Z"⟩, prog_8_method_10_code, 2, (some .boolean))
def f_Reader_takeWord : gF := (⟨"CounterDesk$Reader", "takeWord", "(Ljava/lang/String;)Z"⟩, prog_8_method_8_code, 3, (some .boolean))
def f_Reader_isWord : gF := (⟨"CounterDesk$Reader", "isWord", "(Ljava/lang/String;)Z"⟩, prog_8_method_7_code, 3, (some .boolean))
def f_Str_length : gF := (⟨"java/lang/String", "length", "()I"⟩, prog_17_method_54_code, 1, (some .int))
def f_Str_coder : gF := (⟨"java/lang/String", "coder", "()B"⟩, prog_17_method_152_code, 1, (some .byte))
def f_Str_charAt : gF := (⟨"java/lang/String", "charAt", "(I)C"⟩, prog_17_method_56_code, 2, (some .char))
def f_Str_isLatin1 : gF := (⟨"java/lang/String", "isLatin1", "()Z"⟩, prog_17_method_154_code, 1, (some .boolean))
def f_Lat_charAt : gF := (⟨"java/lang/StringLatin1", "charAt", "([BI)C"⟩, prog_18_method_2_code, 2, (some .char))
def f_Str_checkIndex : gF := (⟨"java/lang/String", "checkIndex", "(II)V"⟩, prog_17_method_155_code, 2, none)
def f_Pre_checkIndex : gF := (⟨"jdk/internal/util/Preconditions", "checkIndex", "(IILjava/util/function/BiFunction;)I"⟩, prog_22_method_11_code, 3, (some .int))
def f_U16_charAt : gF := (⟨"java/lang/StringUTF16", "charAt", "([BI)C"⟩, prog_19_method_83_code, 2, (some .char))
def f_U16_checkIndex : gF := (⟨"java/lang/StringUTF16", "checkIndex", "(I[B)V"⟩, prog_19_method_91_code, 2, none)
def f_U16_length : gF := (⟨"java/lang/StringUTF16", "length", "([B)I"⟩, prog_19_method_6_code, 1, (some .int))
def f_U16_getChar : gF := (⟨"java/lang/StringUTF16", "getChar", "([BI)C"⟩, prog_19_method_5_code, 2, (some .char))
def f_Reader_sum : gF := (⟨"CounterDesk$Reader", "sum", "(I)Z"⟩, prog_8_method_18_code, 4, (some .boolean))
def f_Reader_term : gF := (⟨"CounterDesk$Reader", "term", "(I)Z"⟩, prog_8_method_19_code, 4, (some .boolean))
def f_Reader_part : gF := (⟨"CounterDesk$Reader", "part", "(I)Z"⟩, prog_8_method_20_code, 3, (some .boolean))
def f_Reader_isSign : gF := (⟨"CounterDesk$Reader", "isSign", "(C)Z"⟩, prog_8_method_6_code, 2, (some .boolean))
def f_Reader_takeSign : gF := (⟨"CounterDesk$Reader", "takeSign", "(C)Z"⟩, prog_8_method_9_code, 3, (some .boolean))
def f_Reader_step : gF := (⟨"CounterDesk$Reader", "step", "(II)I"⟩, prog_8_method_23_code, 4, (some .int))
def f_Reader_lawWord : gF := (⟨"CounterDesk$Reader", "lawWord", "()I"⟩, prog_8_method_21_code, 1, (some .int))
def f_Reader_orderWord : gF := (⟨"CounterDesk$Reader", "orderWord", "()I"⟩, prog_8_method_22_code, 1, (some .int))
def f_Reader_endPiece : gF := (⟨"CounterDesk$Reader", "endPiece", "(II)V"⟩, prog_8_method_14_code, 3, none)
def f_Reader_orderClause : gF := (⟨"CounterDesk$Reader", "orderClause", "(I)Z"⟩, prog_8_method_11_code, 2, (some .boolean))
def f_Reader_howOften : gF := (⟨"CounterDesk$Reader", "howOften", "(I)Z"⟩, prog_8_method_12_code, 2, (some .boolean))
def f_Reader_condition : gF := (⟨"CounterDesk$Reader", "condition", "(I)Z"⟩, prog_8_method_13_code, 2, (some .boolean))
def f_Reader_test : gF := (⟨"CounterDesk$Reader", "test", "(I)Z"⟩, prog_8_method_15_code, 4, (some .boolean))
def f_Reader_both : gF := (⟨"CounterDesk$Reader", "both", "(I)Z"⟩, prog_8_method_16_code, 4, (some .boolean))
def f_Reader_plain : gF := (⟨"CounterDesk$Reader", "plain", "(I)Z"⟩, prog_8_method_17_code, 4, (some .boolean))
def f_Text_init2 : gF := (⟨"CounterDesk$Text", "<init>", "(LCounterDesk$Text;)V"⟩, prog_11_method_2_code, 2, none)
def f_Arr_copyOf : gF := (⟨"java/util/Arrays", "copyOf", "([II)[I"⟩, prog_21_method_123_code, 3, (some (.array .int)))
def f_Desk_orders : gF := (⟨"CounterDesk", "orders", "()I"⟩, prog_1_method_12_code, 1, (some .int))
def f_Clerk_carryOut : gF := (⟨"CounterDesk$Clerk", "carryOut", "(LCounterDesk$Text;)I"⟩, prog_3_method_8_code, 4, (some .int))
def f_Board_copyFrom : gF := (⟨"CounterDesk$Board", "copyFrom", "(LCounterDesk$Board;)V"⟩, prog_2_method_2_code, 3, none)
def f_Trail_copyFrom : gF := (⟨"CounterDesk$Trail", "copyFrom", "(LCounterDesk$Trail;)V"⟩, prog_12_method_3_code, 2, none)
def f_Clerk_gatherWords : gF := (⟨"CounterDesk$Clerk", "gatherWords", "()V"⟩, prog_3_method_9_code, 2, none)
def f_Clerk_runOnce : gF := (⟨"CounterDesk$Clerk", "runOnce", "(LCounterDesk$Text;I)Z"⟩, prog_3_method_10_code, 6, (some .boolean))
def f_Clerk_exchange : gF := (⟨"CounterDesk$Clerk", "exchange", "()I"⟩, prog_3_method_5_code, 1, (some .int))
def f_Board_exchangeAll : gF := (⟨"CounterDesk$Board", "exchangeAll", "()V"⟩, prog_2_method_7_code, 3, none)
def f_Trail_keep : gF := (⟨"CounterDesk$Trail", "keep", "(III)V"⟩, prog_12_method_2_code, 4, none)
def f_Trail_dropOldest : gF := (⟨"CounterDesk$Trail", "dropOldest", "()V"⟩, prog_12_method_4_code, 1, none)
def f_Clerk_nextDay : gF := (⟨"CounterDesk$Clerk", "nextDay", "()I"⟩, prog_3_method_6_code, 2, (some .int))
def f_Clerk_moveHere : gF := (⟨"CounterDesk$Clerk", "moveHere", "(II)I"⟩, prog_3_method_2_code, 3, (some .int))
def f_Clerk_move : gF := (⟨"CounterDesk$Clerk", "move", "([IIII)I"⟩, prog_3_method_4_code, 6, (some .int))
def f_Clerk_moveUnder : gF := (⟨"CounterDesk$Clerk", "moveUnder", "(II)I"⟩, prog_3_method_3_code, 3, (some .int))
def f_Desk_fault : gF := (⟨"CounterDesk", "fault", "()I"⟩, prog_1_method_13_code, 1, (some .int))
def f_Desk_stopped : gF := (⟨"CounterDesk", "stopped", "()I"⟩, prog_1_method_14_code, 1, (some .int))
def f_Desk_force : gF := (⟨"CounterDesk", "force", "(I)I"⟩, prog_1_method_15_code, 3, (some .int))
def f_Desk_set : gF := (⟨"CounterDesk", "set", "(II)I"⟩, prog_1_method_16_code, 3, (some .int))
def f_Desk_shift : gF := (⟨"CounterDesk", "shift", "(II)I"⟩, prog_1_method_17_code, 3, (some .int))
def f_Desk_swap : gF := (⟨"CounterDesk", "swap", "()I"⟩, prog_1_method_18_code, 1, (some .int))
def f_Desk_pass : gF := (⟨"CounterDesk", "pass", "()I"⟩, prog_1_method_19_code, 1, (some .int))
def f_Desk_undo : gF := (⟨"CounterDesk", "undo", "()I"⟩, prog_1_method_20_code, 1, (some .int))
def f_Clerk_takeBack : gF := (⟨"CounterDesk$Clerk", "takeBack", "()I"⟩, prog_3_method_7_code, 2, (some .int))
def f_Desk_best : gF := (⟨"CounterDesk", "best", "(I)I"⟩, prog_1_method_21_code, 3, (some .int))
def f_Paper_leastCosts : gF := (⟨"CounterDesk$Paper", "leastCosts", "(LCounterDesk$Board;LCounterDesk$Text;)I"⟩, prog_7_method_2_code, 3, (some .int))
def f_Paper_keepWithin : gF := (⟨"CounterDesk$Paper", "keepWithin", "(LCounterDesk$Board;)V"⟩, prog_7_method_10_code, 3, none)
def f_Paper_leastOf : gF := (⟨"CounterDesk$Paper", "leastOf", "(LCounterDesk$Board;LCounterDesk$Text;I)I"⟩, prog_7_method_13_code, 6, (some .int))
def f_Sheet_renew : gF := (⟨"CounterDesk$Sheet", "renew", "(LCounterDesk$Board;ILCounterDesk$Text;LCounterDesk$Judge;)V"⟩, prog_9_method_2_code, 12, none)
def f_Sheet_keyOf : gF := (⟨"CounterDesk$Sheet", "keyOf", "(LCounterDesk$Board;I)J"⟩, prog_9_method_3_code, 4, (some .long))
def f_Paper_firstAhead : gF := (⟨"CounterDesk$Paper", "firstAhead", "(I)I"⟩, prog_7_method_11_code, 2, (some .int))
def f_Paper_lastAhead : gF := (⟨"CounterDesk$Paper", "lastAhead", "(I)I"⟩, prog_7_method_12_code, 2, (some .int))
def f_Paper_choose : gF := (⟨"CounterDesk$Paper", "choose", "(LCounterDesk$Board;III)V"⟩, prog_7_method_14_code, 10, none)
def f_Paper_voice : gF := (⟨"CounterDesk$Paper", "voice", "(LCounterDesk$Board;I)I"⟩, prog_7_method_6_code, 5, (some .int))
def f_Desk_between : gF := (⟨"CounterDesk", "between", "(II)I"⟩, prog_1_method_22_code, 3, (some .int))
def f_Paper_leastBetween : gF := (⟨"CounterDesk$Paper", "leastBetween", "(LCounterDesk$Board;LCounterDesk$Text;II)I"⟩, prog_7_method_5_code, 6, (some .int))
def f_Desk_richest : gF := (⟨"CounterDesk", "richest", "()I"⟩, prog_1_method_23_code, 1, (some .int))
def f_Paper_mostEarned : gF := (⟨"CounterDesk$Paper", "mostEarned", "(LCounterDesk$Board;LCounterDesk$Text;)I"⟩, prog_7_method_4_code, 4, (some .int))
def f_Desk_ways : gF := (⟨"CounterDesk", "ways", "()J"⟩, prog_1_method_24_code, 1, (some .long))
def f_Paper_howMany : gF := (⟨"CounterDesk$Paper", "howMany", "(LCounterDesk$Board;LCounterDesk$Text;)J"⟩, prog_7_method_7_code, 8, (some .long))
def f_Desk_mend : gF := (⟨"CounterDesk", "mend", "(I)I"⟩, prog_1_method_25_code, 3, (some .int))
def f_Paper_leastMended : gF := (⟨"CounterDesk$Paper", "leastMended", "(LCounterDesk$Board;LCounterDesk$Text;)I"⟩, prog_7_method_3_code, 3, (some .int))
def f_Desk_compass : gF := (⟨"CounterDesk", "compass", "(I)I"⟩, prog_1_method_26_code, 3, (some .int))
def f_Paper_narrowest : gF := (⟨"CounterDesk$Paper", "narrowest", "(LCounterDesk$Board;LCounterDesk$Text;)I"⟩, prog_7_method_8_code, 7, (some .int))
def f_Paper_markOpen : gF := (⟨"CounterDesk$Paper", "markOpen", "(LCounterDesk$Board;LCounterDesk$Text;)V"⟩, prog_7_method_15_code, 7, none)
def f_Paper_hasVoice : gF := (⟨"CounterDesk$Paper", "hasVoice", "(LCounterDesk$Board;II)Z"⟩, prog_7_method_16_code, 9, (some .boolean))
def f_Desk_cheapest : gF := (⟨"CounterDesk", "cheapest", "(II)I"⟩, prog_1_method_27_code, 4, (some .int))
def f_Paper_cheapestUnder : gF := (⟨"CounterDesk$Paper", "cheapestUnder", "(LCounterDesk$Board;I)I"⟩, prog_7_method_9_code, 7, (some .int))
def f_Desk_canon : gF := (⟨"CounterDesk", "canon", "(II)I"⟩, prog_1_method_28_code, 5, (some .int))
def f_Judge_goesWithItself : gF := (⟨"CounterDesk$Judge", "goesWithItself", "(LCounterDesk$Board;II)Z"⟩, prog_5_method_11_code, 8, (some .boolean))
def f_Desk_parallels : gF := (⟨"CounterDesk", "parallels", "(I)I"⟩, prog_1_method_29_code, 5, (some .int))
def f_Board_apart : gF := (⟨"CounterDesk$Board", "apart", "(I)I"⟩, prog_2_method_8_code, 2, (some .int))
def f_Desk_heard : gF := (⟨"CounterDesk", "heard", "(II)I"⟩, prog_1_method_30_code, 3, (some .int))
def f_Desk_forget : gF := (⟨"CounterDesk", "forget", "()I"⟩, prog_1_method_31_code, 2, (some .int))
def f_Desk_canBe : gF := (⟨"CounterDesk", "canBe", "()I"⟩, prog_1_method_32_code, 1, (some .int))
def f_Judge_candidates : gF := (⟨"CounterDesk$Judge", "candidates", "(LCounterDesk$Board;)I"⟩, prog_5_method_9_code, 6, (some .int))
def f_Desk_listen : gF := (⟨"CounterDesk", "listen", "(I)I"⟩, prog_1_method_33_code, 7, (some .int))
def f_Judge_mostAlike : gF := (⟨"CounterDesk$Judge", "mostAlike", "(LCounterDesk$Board;II)I"⟩, prog_5_method_10_code, 9, (some .int))
def f_Desk_few : gF := (⟨"CounterDesk", "few", "(II)J"⟩, prog_1_method_34_code, 8, (some .long))
def f_Desk_compare : gF := (⟨"CounterDesk", "compare", "(I)I"⟩, prog_1_method_35_code, 2, (some .int))
def f_Desk_weeks : gF := (⟨"CounterDesk", "weeks", "(II)I"⟩, prog_1_method_36_code, 3, (some .int))
def f_Draws_live : gF := (⟨"CounterDesk$Draws", "live", "(LCounterDesk$Board;LCounterDesk$Judge;II)I"⟩, prog_4_method_2_code, 10, (some .int))
def f_Draws_draw : gF := (⟨"CounterDesk$Draws", "draw", "(I)I"⟩, prog_4_method_3_code, 2, (some .int))
def f_Desk_drawn : gF := (⟨"CounterDesk", "drawn", "(II)I"⟩, prog_1_method_37_code, 3, (some .int))
def f_Desk_image : gF := (⟨"CounterDesk", "image", "(I)I"⟩, prog_1_method_38_code, 2, (some .int))
def f_Desk_back : gF := (⟨"CounterDesk", "back", "(I)I"⟩, prog_1_method_39_code, 2, (some .int))
def f_Desk_count : gF := (⟨"CounterDesk", "count", "(I)I"⟩, prog_1_method_40_code, 2, (some .int))
def f_Desk_refusedBy : gF := (⟨"CounterDesk", "refusedBy", "(I)I"⟩, prog_1_method_43_code, 3, (some .int))
def f_Desk_status : gF := (⟨"CounterDesk", "status", "()I"⟩, prog_1_method_41_code, 1, (some .int))
def f_Model_init : gF := (⟨"CounterDeskModel", "<init>", "()V"⟩, prog_14_method_11_code, 1, none)
def f_Model_image : gF := (⟨"CounterDeskModel", "image", "(I)I"⟩, prog_14_method_14_code, 3, (some .int))
def f_Model_lies : gF := (⟨"CounterDeskModel", "lies", "(III)Z"⟩, prog_14_method_1_code, 3, (some .boolean))
def f_Model_refuses : gF := (⟨"CounterDeskModel", "refuses", "(I)I"⟩, prog_14_method_5_code, 2, (some .int))
def f_Model_good : gF := (⟨"CounterDeskModel", "good", "(I)I"⟩, prog_14_method_6_code, 2, (some .int))
def f_Model_back : gF := (⟨"CounterDeskModel", "back", "(I)I"⟩, prog_14_method_15_code, 3, (some .int))
def f_Model_settled : gF := (⟨"CounterDeskModel", "settled", "(I)I"⟩, prog_14_method_7_code, 2, (some .int))
def f_Model_note : gF := (⟨"CounterDeskModel", "note", "(II)I"⟩, prog_14_method_19_code, 3, (some .int))
def f_Model_isPitch : gF := (⟨"CounterDeskModel", "isPitch", "(I)Z"⟩, prog_14_method_10_code, 1, (some .boolean))
def f_Model_noteMany : gF := (⟨"CounterDeskModel", "noteMany", "()I"⟩, prog_14_method_16_code, 1, (some .int))
def f_Model_adds : gF := (⟨"CounterDeskModel", "adds", "(II)V"⟩, prog_14_method_18_code, 3, none)
def f_Model_of : gF := (⟨"CounterDeskModel", "of", "(II)I"⟩, prog_14_method_20_code, 3, (some .int))
def f_Model_isNote : gF := (⟨"CounterDeskModel", "isNote", "(I)Z"⟩, prog_14_method_17_code, 2, (some .boolean))
def f_Model_takesNow : gF := (⟨"CounterDeskModel", "takesNow", "(I)V"⟩, prog_14_method_70_code, 2, none)
def f_Model_takesNote : gF := (⟨"CounterDeskModel", "takesNote", "(IIZI)V"⟩, prog_14_method_69_code, 5, none)
def f_Model_costsNow : gF := (⟨"CounterDeskModel", "costsNow", "()I"⟩, prog_14_method_72_code, 1, (some .int))
def f_Model_bare : gF := (⟨"CounterDeskModel", "bare", "(I)I"⟩, prog_14_method_4_code, 1, (some .int))
def f_Model_tells : gF := (⟨"CounterDeskModel", "tells", "(III)I"⟩, prog_14_method_71_code, 11, (some .int))
def f_Model_codeAt : gF := (⟨"CounterDeskModel", "codeAt", "(I)I"⟩, prog_14_method_58_code, 2, (some .int))
def f_Model_sumOf : gF := (⟨"CounterDeskModel", "sumOf", "(Z)J"⟩, prog_14_method_61_code, 7, (some .long))
def f_Model_termOf : gF := (⟨"CounterDeskModel", "termOf", "(Z)J"⟩, prog_14_method_62_code, 7, (some .long))
def f_Model_partOf : gF := (⟨"CounterDeskModel", "partOf", "(Z)J"⟩, prog_14_method_63_code, 4, (some .long))
def f_Model_sign : gF := (⟨"CounterDeskModel", "sign", "(C)I"⟩, prog_14_method_40_code, 1, (some .int))
def f_Model_passes0 : gF := (⟨"CounterDeskModel", "passes0", "(I)Z"⟩, prog_14_method_59_code, 3, (some .boolean))
def f_Model_orderValue : gF := (⟨"CounterDeskModel", "orderValue", "(II)I"⟩, prog_14_method_64_code, 3, (some .int))
def f_Model_bounded : gF := (⟨"CounterDeskModel", "bounded", "(JZ)J"⟩, prog_14_method_60_code, 4, (some .long))
def f_Model_testOf : gF := (⟨"CounterDeskModel", "testOf", "(Z)Z"⟩, prog_14_method_65_code, 4, (some .boolean))
def f_Model_bothOf : gF := (⟨"CounterDeskModel", "bothOf", "(Z)Z"⟩, prog_14_method_66_code, 4, (some .boolean))
def f_Model_plainOf : gF := (⟨"CounterDeskModel", "plainOf", "(Z)Z"⟩, prog_14_method_67_code, 3, (some .boolean))
def f_Model_positiveOf : gF := (⟨"CounterDeskModel", "positiveOf", "(Z)Z"⟩, prog_14_method_68_code, 7, (some .boolean))
def f_Model_earnsNow : gF := (⟨"CounterDeskModel", "earnsNow", "()I"⟩, prog_14_method_73_code, 1, (some .int))
def f_Model_isBarred : gF := (⟨"CounterDeskModel", "isBarred", "()Z"⟩, prog_14_method_74_code, 1, (some .boolean))
def f_Model_at : gF := (⟨"CounterDeskModel", "at", "(II)I"⟩, prog_14_method_23_code, 3, (some .int))
def f_Model_apartOf : gF := (⟨"CounterDeskModel", "apartOf", "(I)I"⟩, prog_14_method_21_code, 2, (some .int))
def f_Model_leapOf : gF := (⟨"CounterDeskModel", "leapOf", "(I)I"⟩, prog_14_method_22_code, 2, (some .int))
def f_Model_terms : gF := (⟨"CounterDeskModel", "terms", "(II)I"⟩, prog_14_method_26_code, 4, (some .int))
def f_Model_isTerm : gF := (⟨"CounterDeskModel", "isTerm", "(II)Z"⟩, prog_14_method_24_code, 2, (some .boolean))
def f_Model_termAt : gF := (⟨"CounterDeskModel", "termAt", "(I)I"⟩, prog_14_method_25_code, 1, (some .int))
def f_Model_row : gF := (⟨"CounterDeskModel", "row", "()I"⟩, prog_14_method_27_code, 5, (some .int))
def f_Model_blots : gF := (⟨"CounterDeskModel", "blots", "()I"⟩, prog_14_method_28_code, 1, (some .int))
def f_Model_feed : gF := (⟨"CounterDeskModel", "feed", "(IIIII)I"⟩, prog_14_method_29_code, 7, (some .int))
def f_Model_end : gF := (⟨"CounterDeskModel", "end", "(I)I"⟩, prog_14_method_30_code, 2, (some .int))
def f_Model_law : gF := (⟨"CounterDeskModel", "law", "()I"⟩, prog_14_method_54_code, 1, (some .int))
def f_Model_readsAs : gF := (⟨"CounterDeskModel", "readsAs", "(Z)Z"⟩, prog_14_method_52_code, 2, (some .boolean))
def f_Model_reads : gF := (⟨"CounterDeskModel", "reads", "()Z"⟩, prog_14_method_51_code, 2, (some .boolean))
def f_Model_splits : gF := (⟨"CounterDeskModel", "splits", "(I)V"⟩, prog_14_method_34_code, 6, none)
def f_Model_isSmall : gF := (⟨"CounterDeskModel", "isSmall", "(I)Z"⟩, prog_14_method_31_code, 1, (some .boolean))
def f_Model_isDigit : gF := (⟨"CounterDeskModel", "isDigit", "(I)Z"⟩, prog_14_method_32_code, 1, (some .boolean))
def f_Model_wordOf : gF := (⟨"CounterDeskModel", "wordOf", "(II)I"⟩, prog_14_method_33_code, 8, (some .int))
def f_Model_readOne : gF := (⟨"CounterDeskModel", "readOne", "()V"⟩, prog_14_method_44_code, 1, none)
def f_Model_readOrder : gF := (⟨"CounterDeskModel", "readOrder", "()V"⟩, prog_14_method_43_code, 1, none)
def f_Model_takes0 : gF := (⟨"CounterDeskModel", "takes0", "(I)Z"⟩, prog_14_method_37_code, 3, (some .boolean))
def f_Model_fine : gF := (⟨"CounterDeskModel", "fine", "()Z"⟩, prog_14_method_35_code, 1, (some .boolean))
def f_Model_readSum : gF := (⟨"CounterDeskModel", "readSum", "(I)V"⟩, prog_14_method_48_code, 2, none)
def f_Model_readTerm : gF := (⟨"CounterDeskModel", "readTerm", "(I)V"⟩, prog_14_method_49_code, 2, none)
def f_Model_readPart : gF := (⟨"CounterDeskModel", "readPart", "(I)V"⟩, prog_14_method_50_code, 3, none)
def f_Model_faults : gF := (⟨"CounterDeskModel", "faults", "()V"⟩, prog_14_method_36_code, 1, none)
def f_Model_must : gF := (⟨"CounterDeskModel", "must", "(I)V"⟩, prog_14_method_38_code, 2, none)
def f_Model_leaf : gF := (⟨"CounterDeskModel", "leaf", "()V"⟩, prog_14_method_39_code, 1, none)
def f_Model_mustNumber : gF := (⟨"CounterDeskModel", "mustNumber", "(II)V"⟩, prog_14_method_41_code, 3, none)
def f_Model_readTest : gF := (⟨"CounterDeskModel", "readTest", "(I)V"⟩, prog_14_method_45_code, 2, none)
def f_Model_readBoth : gF := (⟨"CounterDeskModel", "readBoth", "(I)V"⟩, prog_14_method_46_code, 2, none)
def f_Model_readPlain : gF := (⟨"CounterDeskModel", "readPlain", "(I)V"⟩, prog_14_method_47_code, 4, none)
def f_Model_readClause : gF := (⟨"CounterDeskModel", "readClause", "()V"⟩, prog_14_method_42_code, 1, none)
def f_Model_lays : gF := (⟨"CounterDeskModel", "lays", "(I)V"⟩, prog_14_method_53_code, 3, none)
def f_Model_fault : gF := (⟨"CounterDeskModel", "fault", "()I"⟩, prog_14_method_55_code, 1, (some .int))
def f_Model_force : gF := (⟨"CounterDeskModel", "force", "(I)I"⟩, prog_14_method_57_code, 3, (some .int))
def f_Model_isLaw : gF := (⟨"CounterDeskModel", "isLaw", "(I)Z"⟩, prog_14_method_56_code, 2, (some .boolean))
def f_Model_all : gF := (⟨"CounterDeskModel", "all", "(I)I"⟩, prog_14_method_76_code, 2, (some .int))
def f_Model_allOf : gF := (⟨"CounterDeskModel", "allOf", "(I)I"⟩, prog_14_method_75_code, 4, (some .int))
def f_Model_undo : gF := (⟨"CounterDeskModel", "undo", "()I"⟩, prog_14_method_78_code, 3, (some .int))
def f_Model_set : gF := (⟨"CounterDeskModel", "set", "(II)I"⟩, prog_14_method_84_code, 3, (some .int))
def f_Model_movesKept : gF := (⟨"CounterDeskModel", "movesKept", "(IIII)I"⟩, prog_14_method_80_code, 6, (some .int))
def f_Model_keeps : gF := (⟨"CounterDeskModel", "keeps", "(I)V"⟩, prog_14_method_77_code, 4, none)
def f_Model_goodOr : gF := (⟨"CounterDeskModel", "goodOr", "(I)I"⟩, prog_14_method_79_code, 2, (some .int))
def f_Model_shift : gF := (⟨"CounterDeskModel", "shift", "(II)I"⟩, prog_14_method_85_code, 3, (some .int))
def f_Model_swap : gF := (⟨"CounterDeskModel", "swap", "()I"⟩, prog_14_method_86_code, 1, (some .int))
def f_Model_swapsKept : gF := (⟨"CounterDeskModel", "swapsKept", "()I"⟩, prog_14_method_82_code, 1, (some .int))
def f_Model_exchanges : gF := (⟨"CounterDeskModel", "exchanges", "()V"⟩, prog_14_method_81_code, 3, none)
def f_Model_pass : gF := (⟨"CounterDeskModel", "pass", "()I"⟩, prog_14_method_87_code, 1, (some .int))
def f_Model_passesKept : gF := (⟨"CounterDeskModel", "passesKept", "()I"⟩, prog_14_method_83_code, 2, (some .int))
def f_Model_best : gF := (⟨"CounterDeskModel", "best", "(I)I"⟩, prog_14_method_97_code, 2, (some .int))
def f_Model_voiceOf : gF := (⟨"CounterDeskModel", "voiceOf", "(IZ)I"⟩, prog_14_method_96_code, 4, (some .int))
def f_Model_laysNotes : gF := (⟨"CounterDeskModel", "laysNotes", "()V"⟩, prog_14_method_90_code, 2, none)
def f_Model_laysNote : gF := (⟨"CounterDeskModel", "laysNote", "(I)V"⟩, prog_14_method_89_code, 5, none)
def f_Model_noteAt : gF := (⟨"CounterDeskModel", "noteAt", "(III)I"⟩, prog_14_method_88_code, 3, (some .int))
def f_Model_leastOf : gF := (⟨"CounterDeskModel", "leastOf", "(Z)I"⟩, prog_14_method_94_code, 3, (some .int))
def f_Model_laysRest : gF := (⟨"CounterDeskModel", "laysRest", "(IIZ)V"⟩, prog_14_method_91_code, 6, none)
def f_Model_leastFrom : gF := (⟨"CounterDeskModel", "leastFrom", "(IIIIZ)I"⟩, prog_14_method_93_code, 8, (some .int))
def f_Model_priceOf : gF := (⟨"CounterDeskModel", "priceOf", "(IIIZ)I"⟩, prog_14_method_92_code, 5, (some .int))
def f_Model_lesser : gF := (⟨"CounterDeskModel", "lesser", "(II)I"⟩, prog_14_method_2_code, 2, (some .int))
def f_Model_pitchOf : gF := (⟨"CounterDeskModel", "pitchOf", "(IZ)I"⟩, prog_14_method_95_code, 7, (some .int))
def f_Model_mend : gF := (⟨"CounterDeskModel", "mend", "(I)I"⟩, prog_14_method_98_code, 2, (some .int))
def f_Model_between : gF := (⟨"CounterDeskModel", "between", "(II)I"⟩, prog_14_method_100_code, 6, (some .int))
def f_Model_isWithin : gF := (⟨"CounterDeskModel", "isWithin", "(I)Z"⟩, prog_14_method_99_code, 2, (some .boolean))
def f_Model_richest : gF := (⟨"CounterDeskModel", "richest", "()I"⟩, prog_14_method_101_code, 3, (some .int))
def f_Model_mostFrom : gF := (⟨"CounterDeskModel", "mostFrom", "(II)I"⟩, prog_14_method_102_code, 5, (some .int))
def f_Model_greater : gF := (⟨"CounterDeskModel", "greater", "(II)I"⟩, prog_14_method_3_code, 2, (some .int))
def f_Model_ways : gF := (⟨"CounterDeskModel", "ways", "()J"⟩, prog_14_method_103_code, 3, (some .long))
def f_Model_waysFrom : gF := (⟨"CounterDeskModel", "waysFrom", "(II)J"⟩, prog_14_method_104_code, 6, (some .long))
def f_Model_compass : gF := (⟨"CounterDeskModel", "compass", "(I)I"⟩, prog_14_method_106_code, 4, (some .int))
def f_Model_hasVoice : gF := (⟨"CounterDeskModel", "hasVoice", "(II)Z"⟩, prog_14_method_105_code, 3, (some .boolean))
def f_Model_cheapest : gF := (⟨"CounterDeskModel", "cheapest", "(II)I"⟩, prog_14_method_107_code, 7, (some .int))
def f_Model_leastShifted : gF := (⟨"CounterDeskModel", "leastShifted", "(II)I"⟩, prog_14_method_108_code, 5, (some .int))
def f_Model_compare : gF := (⟨"CounterDeskModel", "compare", "(I)I"⟩, prog_14_method_109_code, 4, (some .int))
def f_Model_canon : gF := (⟨"CounterDeskModel", "canon", "(II)I"⟩, prog_14_method_111_code, 5, (some .int))
def f_Model_isCanon : gF := (⟨"CounterDeskModel", "isCanon", "(II)Z"⟩, prog_14_method_110_code, 6, (some .boolean))
def f_Model_parallels : gF := (⟨"CounterDeskModel", "parallels", "(I)I"⟩, prog_14_method_114_code, 4, (some .int))
def f_Model_isParallel : gF := (⟨"CounterDeskModel", "isParallel", "(II)Z"⟩, prog_14_method_113_code, 3, (some .boolean))
def f_Model_interval : gF := (⟨"CounterDeskModel", "interval", "(I)I"⟩, prog_14_method_112_code, 2, (some .int))
def f_Model_heard : gF := (⟨"CounterDeskModel", "heard", "(II)I"⟩, prog_14_method_115_code, 4, (some .int))
def f_Model_forget : gF := (⟨"CounterDeskModel", "forget", "()I"⟩, prog_14_method_116_code, 2, (some .int))
def f_Model_canBe : gF := (⟨"CounterDeskModel", "canBe", "()I"⟩, prog_14_method_119_code, 3, (some .int))
def f_Model_laysFacts : gF := (⟨"CounterDeskModel", "laysFacts", "()V"⟩, prog_14_method_117_code, 2, none)
def f_Model_isSo : gF := (⟨"CounterDeskModel", "isSo", "(I)Z"⟩, prog_14_method_118_code, 4, (some .boolean))
def f_Model_listen : gF := (⟨"CounterDeskModel", "listen", "(I)I"⟩, prog_14_method_121_code, 7, (some .int))
def f_Model_ones : gF := (⟨"CounterDeskModel", "ones", "(I)I"⟩, prog_14_method_9_code, 3, (some .int))
def f_Model_mostAlike : gF := (⟨"CounterDeskModel", "mostAlike", "(II)I"⟩, prog_14_method_120_code, 7, (some .int))
def f_Model_isIn : gF := (⟨"CounterDeskModel", "isIn", "(II)Z"⟩, prog_14_method_8_code, 2, (some .boolean))
def f_Model_few : gF := (⟨"CounterDeskModel", "few", "(II)J"⟩, prog_14_method_122_code, 6, (some .long))
def f_Model_stopped : gF := (⟨"CounterDeskModel", "stopped", "()I"⟩, prog_14_method_123_code, 1, (some .int))
def f_Model_orders : gF := (⟨"CounterDeskModel", "orders", "()I"⟩, prog_14_method_124_code, 5, (some .int))
def f_Model_laysAside : gF := (⟨"CounterDeskModel", "laysAside", "(I)V"⟩, prog_14_method_12_code, 3, none)
def f_Model_runs : gF := (⟨"CounterDeskModel", "runs", "(I)Z"⟩, prog_14_method_128_code, 5, (some .boolean))
def f_Model_goesAlong : gF := (⟨"CounterDeskModel", "goesAlong", "(IZ)V"⟩, prog_14_method_125_code, 5, none)
def f_Model_obeys : gF := (⟨"CounterDeskModel", "obeys", "()I"⟩, prog_14_method_127_code, 2, (some .int))
def f_Model_small : gF := (⟨"CounterDeskModel", "small", "(J)I"⟩, prog_14_method_126_code, 2, (some .int))
def f_Model_takesBack : gF := (⟨"CounterDeskModel", "takesBack", "(I)V"⟩, prog_14_method_13_code, 3, none)
def f_Model_weeks : gF := (⟨"CounterDeskModel", "weeks", "(II)I"⟩, prog_14_method_131_code, 5, (some .int))
def f_Model_drawnAct : gF := (⟨"CounterDeskModel", "drawnAct", "()V"⟩, prog_14_method_130_code, 4, none)
def f_Model_draws : gF := (⟨"CounterDeskModel", "draws", "(I)I"⟩, prog_14_method_129_code, 2, (some .int))
def f_Model_drawn : gF := (⟨"CounterDeskModel", "drawn", "(II)I"⟩, prog_14_method_132_code, 3, (some .int))
def f_Model_count : gF := (⟨"CounterDeskModel", "count", "(I)I"⟩, prog_14_method_134_code, 2, (some .int))
def f_Model_refusals : gF := (⟨"CounterDeskModel", "refusals", "(I)I"⟩, prog_14_method_133_code, 2, (some .int))
def f_Model_status : gF := (⟨"CounterDeskModel", "status", "()I"⟩, prog_14_method_135_code, 1, (some .int))
theorem yy_Desk_init : gY f_Desk_init 0 := ⟨gm1 25 rfl rfl, gm1 1 rfl rfl, ⟨cm_0.1, cm_0.2, pd_0⟩, by decide⟩
theorem y_Desk_init : gYi f_Desk_init 0 := ⟨yy_Desk_init, gm1 24 rfl rfl, rfl, rfl⟩
theorem yy_Board_init : gY f_Board_init 0 := ⟨gm1 33 rfl rfl, gm1 2 rfl rfl, ⟨cm_1.1, cm_1.2, pd_0⟩, by decide⟩
theorem y_Board_init : gYi f_Board_init 0 := ⟨yy_Board_init, gm1 32 rfl rfl, rfl, rfl⟩
theorem yy_Judge_init : gY f_Judge_init 0 := ⟨gm1 105 rfl rfl, gm1 3 rfl rfl, ⟨cm_2.1, cm_2.2, pd_0⟩, by decide⟩
theorem y_Judge_init : gYi f_Judge_init 0 := ⟨yy_Judge_init, gm1 104 rfl rfl, rfl, rfl⟩
theorem yy_Machine_init : gY f_Machine_init 0 := ⟨gm1 111 rfl rfl, gm1 4 rfl rfl, ⟨cm_3.1, cm_3.2, pd_0⟩, by decide⟩
theorem y_Machine_init : gYi f_Machine_init 0 := ⟨yy_Machine_init, gm1 110 rfl rfl, rfl, rfl⟩
theorem yy_Clerk_init : gY f_Clerk_init 2 := ⟨gm1 134 rfl rfl, gm1 5 rfl rfl, ⟨cm_4.1, cm_4.2, pd_1⟩, by decide⟩
theorem y_Clerk_init : gYi f_Clerk_init 2 := ⟨yy_Clerk_init, gm1 133 rfl rfl, rfl, rfl⟩
theorem yy_Trail_init : gY f_Trail_init 0 := ⟨gm1 140 rfl rfl, gm1 6 rfl rfl, ⟨cm_5.1, cm_5.2, pd_0⟩, by decide⟩
theorem y_Trail_init : gYi f_Trail_init 0 := ⟨yy_Trail_init, gm1 139 rfl rfl, rfl, rfl⟩
theorem yy_Paper_init : gY f_Paper_init 1 := ⟨gm1 201 rfl rfl, gm1 7 rfl rfl, ⟨cm_6.1, cm_6.2, pd_2⟩, by decide⟩
theorem y_Paper_init : gYi f_Paper_init 1 := ⟨yy_Paper_init, gm1 200 rfl rfl, rfl, rfl⟩
theorem yy_Sheet_init : gY f_Sheet_init 1 := ⟨gm1 207 rfl rfl, gm1 8 rfl rfl, ⟨cm_7.1, cm_7.2, pd_3⟩, by decide⟩
theorem y_Sheet_init : gYi f_Sheet_init 1 := ⟨yy_Sheet_init, gm1 206 rfl rfl, rfl, rfl⟩
theorem yy_Draws_init : gY f_Draws_init 0 := ⟨gm2 39 rfl rfl, gm1 9 rfl rfl, ⟨cm_8.1, cm_8.2, pd_0⟩, by decide⟩
theorem y_Draws_init : gYi f_Draws_init 0 := ⟨yy_Draws_init, gm2 38 rfl rfl, rfl, rfl⟩
theorem yy_Tape_init : gY f_Tape_init 0 := ⟨gm2 59 rfl rfl, gm1 10 rfl rfl, ⟨cm_9.1, cm_9.2, pd_0⟩, by decide⟩
theorem y_Tape_init : gYi f_Tape_init 0 := ⟨yy_Tape_init, gm2 58 rfl rfl, rfl, rfl⟩
theorem yy_Reader_init : gY f_Reader_init 0 := ⟨gm2 76 rfl rfl, gm1 11 rfl rfl, ⟨cm_10.1, cm_10.2, pd_0⟩, by decide⟩
theorem y_Reader_init : gYi f_Reader_init 0 := ⟨yy_Reader_init, gm2 75 rfl rfl, rfl, rfl⟩
theorem yy_Text_init : gY f_Text_init 0 := ⟨gm2 82 rfl rfl, gm1 12 rfl rfl, ⟨cm_11.1, cm_11.2, pd_0⟩, by decide⟩
theorem y_Text_init : gYi f_Text_init 0 := ⟨yy_Text_init, gm2 81 rfl rfl, rfl, rfl⟩
theorem yy_Desk_note : gY f_Desk_note 2 := ⟨gm2 203 rfl rfl, gm1 1 rfl rfl, ⟨cm_0.1, cm_0.2, pd_4⟩, by decide⟩
theorem y_Desk_note : gYv f_Desk_note 2 0 := ⟨yy_Desk_note, gm2 201 rfl rfl, gm2 202 rfl rfl, by decide, rfl⟩
theorem yy_Desk_isPitch : gY f_Desk_isPitch 1 := ⟨gm2 206 rfl rfl, gm1 1 rfl rfl, ⟨cm_0.1, cm_0.2, pd_5⟩, by decide⟩
theorem y_Desk_isPitch : gYs f_Desk_isPitch 1 := ⟨yy_Desk_isPitch, gm2 205 rfl rfl⟩
theorem yy_Desk_answer : gY f_Desk_answer 1 := ⟨gm2 210 rfl rfl, gm1 1 rfl rfl, ⟨cm_0.1, cm_0.2, pd_6⟩, by decide⟩
theorem y_Desk_answer : gYv f_Desk_answer 1 0 := ⟨yy_Desk_answer, gm2 209 rfl rfl, gms1 0 rfl, by decide, rfl⟩
theorem yy_Board_add : gY f_Board_add 2 := ⟨gm2 214 rfl rfl, gm1 2 rfl rfl, ⟨cm_1.1, cm_1.2, pd_7⟩, by decide⟩
theorem y_Board_add : gYv f_Board_add 2 1 := ⟨yy_Board_add, gm2 212 rfl rfl, gm2 213 rfl rfl, by decide, rfl⟩
theorem yy_Desk_of : gY f_Desk_of 2 := ⟨gm2 219 rfl rfl, gm1 1 rfl rfl, ⟨cm_0.1, cm_0.2, pd_4⟩, by decide⟩
theorem y_Desk_of : gYv f_Desk_of 2 0 := ⟨yy_Desk_of, gm2 217 rfl rfl, gm2 218 rfl rfl, by decide, rfl⟩
theorem yy_Board_has : gY f_Board_has 1 := ⟨gm2 223 rfl rfl, gm1 2 rfl rfl, ⟨cm_1.1, cm_1.2, pd_5⟩, by decide⟩
theorem y_Board_has : gYv f_Board_has 1 1 := ⟨yy_Board_has, gm2 221 rfl rfl, gm2 222 rfl rfl, by decide, rfl⟩
theorem yy_Judge_weigh : gY f_Judge_weigh 3 := ⟨gm2 227 rfl rfl, gm1 3 rfl rfl, ⟨cm_2.1, cm_2.2, pd_8⟩, by decide⟩
theorem y_Judge_weigh : gYv f_Judge_weigh 3 4 := ⟨yy_Judge_weigh, gm2 225 rfl rfl, gm2 226 rfl rfl, by decide, rfl⟩
theorem yy_Judge_place : gY f_Judge_place 3 := ⟨gm2 231 rfl rfl, gm1 3 rfl rfl, ⟨cm_2.1, cm_2.2, pd_9⟩, by decide⟩
theorem y_Judge_place : gYv f_Judge_place 3 4 := ⟨yy_Judge_place, gm2 229 rfl rfl, gm2 230 rfl rfl, by decide, rfl⟩
theorem yy_Judge_sound : gY f_Judge_sound 2 := ⟨gm2 235 rfl rfl, gm1 3 rfl rfl, ⟨cm_2.1, cm_2.2, pd_10⟩, by decide⟩
theorem y_Judge_sound : gYv f_Judge_sound 2 4 := ⟨yy_Judge_sound, gm2 233 rfl rfl, gm2 234 rfl rfl, by decide, rfl⟩
theorem yy_Board_lawInForce : gY f_Board_lawInForce 0 := ⟨gm2 239 rfl rfl, gm1 2 rfl rfl, ⟨cm_1.1, cm_1.2, pd_11⟩, by decide⟩
theorem y_Board_lawInForce : gYv f_Board_lawInForce 0 1 := ⟨yy_Board_lawInForce, gm2 237 rfl rfl, gm2 238 rfl rfl, by decide, rfl⟩
theorem yy_Board_hasLaw : gY f_Board_hasLaw 1 := ⟨gm3 3 rfl rfl, gm1 2 rfl rfl, ⟨cm_1.1, cm_1.2, pd_5⟩, by decide⟩
theorem y_Board_hasLaw : gYv f_Board_hasLaw 1 1 := ⟨yy_Board_hasLaw, gm3 1 rfl rfl, gm3 2 rfl rfl, by decide, rfl⟩
theorem yy_Judge_told : gY f_Judge_told 2 := ⟨gm3 7 rfl rfl, gm1 3 rfl rfl, ⟨cm_2.1, cm_2.2, pd_12⟩, by decide⟩
theorem y_Judge_told : gYv f_Judge_told 2 4 := ⟨yy_Judge_told, gm3 5 rfl rfl, gm3 6 rfl rfl, by decide, rfl⟩
theorem yy_Text_hasTest : gY f_Text_hasTest 1 := ⟨gm3 11 rfl rfl, gm1 12 rfl rfl, ⟨cm_11.1, cm_11.2, pd_5⟩, by decide⟩
theorem y_Text_hasTest : gYv f_Text_hasTest 1 10 := ⟨yy_Text_hasTest, gm3 9 rfl rfl, gm3 10 rfl rfl, by decide, rfl⟩
theorem yy_Machine_workOut : gY f_Machine_workOut 4 := ⟨gm3 15 rfl rfl, gm1 4 rfl rfl, ⟨cm_3.1, cm_3.2, pd_13⟩, by decide⟩
theorem y_Machine_workOut : gYv f_Machine_workOut 4 5 := ⟨yy_Machine_workOut, gm3 13 rfl rfl, gm3 14 rfl rfl, by decide, rfl⟩
theorem yy_Math_max : gY f_Math_max 2 := ⟨gm3 19 rfl rfl, gm1 14 rfl rfl, ⟨cm_12.1, cm_12.2, pd_4⟩, by decide⟩
theorem y_Math_max : gYs f_Math_max 2 := ⟨yy_Math_max, gm3 18 rfl rfl⟩
theorem yy_Machine_joined : gY f_Machine_joined 3 := ⟨gm3 22 rfl rfl, gm1 4 rfl rfl, ⟨cm_3.1, cm_3.2, pd_14⟩, by decide⟩
theorem y_Machine_joined : gYs f_Machine_joined 3 := ⟨yy_Machine_joined, gm3 21 rfl rfl⟩
theorem yy_Math_min : gY f_Math_min 2 := ⟨gm3 28 rfl rfl, gm1 14 rfl rfl, ⟨cm_12.1, cm_12.2, pd_4⟩, by decide⟩
theorem y_Math_min : gYs f_Math_min 2 := ⟨yy_Math_min, gm3 27 rfl rfl⟩
theorem yy_Judge_orElse : gY f_Judge_orElse 2 := ⟨gm3 33 rfl rfl, gm1 3 rfl rfl, ⟨cm_2.1, cm_2.2, pd_4⟩, by decide⟩
theorem y_Judge_orElse : gYv f_Judge_orElse 2 4 := ⟨yy_Judge_orElse, gm3 31 rfl rfl, gm3 32 rfl rfl, by decide, rfl⟩
theorem yy_Math_abs : gY f_Math_abs 1 := ⟨gm3 36 rfl rfl, gm1 14 rfl rfl, ⟨cm_12.1, cm_12.2, pd_6⟩, by decide⟩
theorem y_Math_abs : gYs f_Math_abs 1 := ⟨yy_Math_abs, gm3 35 rfl rfl⟩
theorem yy_Desk_at : gY f_Desk_at 2 := ⟨gm3 40 rfl rfl, gm1 1 rfl rfl, ⟨cm_0.1, cm_0.2, pd_4⟩, by decide⟩
theorem y_Desk_at : gYv f_Desk_at 2 0 := ⟨yy_Desk_at, gm3 38 rfl rfl, gm3 39 rfl rfl, by decide, rfl⟩
theorem yy_Judge_fact : gY f_Judge_fact 3 := ⟨gm3 44 rfl rfl, gm1 3 rfl rfl, ⟨cm_2.1, cm_2.2, pd_8⟩, by decide⟩
theorem y_Judge_fact : gYv f_Judge_fact 3 4 := ⟨yy_Judge_fact, gm3 42 rfl rfl, gm3 43 rfl rfl, by decide, rfl⟩
theorem yy_Desk_all : gY f_Desk_all 1 := ⟨gm3 49 rfl rfl, gm1 1 rfl rfl, ⟨cm_0.1, cm_0.2, pd_6⟩, by decide⟩
theorem y_Desk_all : gYv f_Desk_all 1 0 := ⟨yy_Desk_all, gm3 47 rfl rfl, gm3 48 rfl rfl, by decide, rfl⟩
theorem yy_Judge_total : gY f_Judge_total 2 := ⟨gm3 53 rfl rfl, gm1 3 rfl rfl, ⟨cm_2.1, cm_2.2, pd_15⟩, by decide⟩
theorem y_Judge_total : gYv f_Judge_total 2 4 := ⟨yy_Judge_total, gm3 51 rfl rfl, gm3 52 rfl rfl, by decide, rfl⟩
theorem yy_Desk_terms : gY f_Desk_terms 2 := ⟨gm3 57 rfl rfl, gm1 1 rfl rfl, ⟨cm_0.1, cm_0.2, pd_4⟩, by decide⟩
theorem y_Desk_terms : gYv f_Desk_terms 2 0 := ⟨yy_Desk_terms, gm3 55 rfl rfl, gm3 56 rfl rfl, by decide, rfl⟩
theorem yy_Desk_feed : gY f_Desk_feed 5 := ⟨gm3 63 rfl rfl, gm1 1 rfl rfl, ⟨cm_0.1, cm_0.2, pd_16⟩, by decide⟩
theorem y_Desk_feed : gYv f_Desk_feed 5 0 := ⟨yy_Desk_feed, gm3 61 rfl rfl, gm3 62 rfl rfl, by decide, rfl⟩
theorem yy_Tape_take : gY f_Tape_take 1 := ⟨gm3 67 rfl rfl, gm1 10 rfl rfl, ⟨cm_9.1, cm_9.2, pd_3⟩, by decide⟩
theorem y_Tape_take : gYv f_Tape_take 1 9 := ⟨yy_Tape_take, gm3 65 rfl rfl, gm3 66 rfl rfl, by decide, rfl⟩
theorem yy_Desk_end : gY f_Desk_end 1 := ⟨gm3 71 rfl rfl, gm1 1 rfl rfl, ⟨cm_0.1, cm_0.2, pd_6⟩, by decide⟩
theorem y_Desk_end : gYv f_Desk_end 1 0 := ⟨yy_Desk_end, gm3 69 rfl rfl, gm3 70 rfl rfl, by decide, rfl⟩
theorem yy_Desk_row : gY f_Desk_row 0 := ⟨gm3 75 rfl rfl, gm1 1 rfl rfl, ⟨cm_0.1, cm_0.2, pd_17⟩, by decide⟩
theorem y_Desk_row : gYv f_Desk_row 0 0 := ⟨yy_Desk_row, gm3 73 rfl rfl, gm3 74 rfl rfl, by decide, rfl⟩
theorem yy_Desk_blots : gY f_Desk_blots 0 := ⟨gm3 79 rfl rfl, gm1 1 rfl rfl, ⟨cm_0.1, cm_0.2, pd_17⟩, by decide⟩
theorem y_Desk_blots : gYv f_Desk_blots 0 0 := ⟨yy_Desk_blots, gm3 77 rfl rfl, gm3 78 rfl rfl, by decide, rfl⟩
theorem yy_Desk_law : gY f_Desk_law 0 := ⟨gm3 83 rfl rfl, gm1 1 rfl rfl, ⟨cm_0.1, cm_0.2, pd_17⟩, by decide⟩
theorem y_Desk_law : gYv f_Desk_law 0 0 := ⟨yy_Desk_law, gm3 81 rfl rfl, gm3 82 rfl rfl, by decide, rfl⟩
theorem yy_Reader_read : gY f_Reader_read 2 := ⟨gm3 87 rfl rfl, gm1 11 rfl rfl, ⟨cm_10.1, cm_10.2, pd_18⟩, by decide⟩
theorem y_Reader_read : gYv f_Reader_read 2 7 := ⟨yy_Reader_read, gm3 85 rfl rfl, gm3 86 rfl rfl, by decide, rfl⟩
theorem yy_Reader_advance : gY f_Reader_advance 0 := ⟨gm3 94 rfl rfl, gm1 11 rfl rfl, ⟨cm_10.1, cm_10.2, pd_0⟩, by decide⟩
theorem y_Reader_advance : gYv f_Reader_advance 0 7 := ⟨yy_Reader_advance, gm3 93 rfl rfl, gms1 1 rfl, by decide, rfl⟩
theorem yy_Reader_isLetter : gY f_Reader_isLetter 1 := ⟨gm3 97 rfl rfl, gm1 11 rfl rfl, ⟨cm_10.1, cm_10.2, pd_5⟩, by decide⟩
theorem y_Reader_isLetter : gYs f_Reader_isLetter 1 := ⟨yy_Reader_isLetter, gm3 96 rfl rfl⟩
theorem yy_Reader_isDigit : gY f_Reader_isDigit 1 := ⟨gm3 100 rfl rfl, gm1 11 rfl rfl, ⟨cm_10.1, cm_10.2, pd_5⟩, by decide⟩
theorem y_Reader_isDigit : gYs f_Reader_isDigit 1 := ⟨yy_Reader_isDigit, gm3 99 rfl rfl⟩
theorem yy_Reader_lawClause : gY f_Reader_lawClause 1 := ⟨gm3 105 rfl rfl, gm1 11 rfl rfl, ⟨cm_10.1, cm_10.2, pd_5⟩, by decide⟩
theorem y_Reader_lawClause : gYv f_Reader_lawClause 1 7 := ⟨yy_Reader_lawClause, gm3 104 rfl rfl, gms1 2 rfl, by decide, rfl⟩
theorem yy_Reader_takeWord : gY f_Reader_takeWord 1 := ⟨gm3 110 rfl rfl, gm1 11 rfl rfl, ⟨cm_10.1, cm_10.2, pd_19⟩, by decide⟩
theorem y_Reader_takeWord : gYv f_Reader_takeWord 1 7 := ⟨yy_Reader_takeWord, gm3 109 rfl rfl, gms1 3 rfl, by decide, rfl⟩
theorem yy_Reader_isWord : gY f_Reader_isWord 1 := ⟨gm3 114 rfl rfl, gm1 11 rfl rfl, ⟨cm_10.1, cm_10.2, pd_19⟩, by decide⟩
theorem y_Reader_isWord : gYv f_Reader_isWord 1 7 := ⟨yy_Reader_isWord, gm3 113 rfl rfl, gms1 4 rfl, by decide, rfl⟩
theorem yy_Str_length : gY f_Str_length 0 := ⟨gm3 118 rfl rfl, gm1 16 rfl rfl, ⟨cm_13.1, cm_13.2, pd_17⟩, by decide⟩
theorem y_Str_length : gY f_Str_length 0 ∧ Cond.instanceMethod f_Str_length.1 ∈ lw_good ∧ Cond.selects f_Str_length.1.cls f_Str_length.1 f_Str_length.1 ∈ lw_good := ⟨yy_Str_length, gm3 116 rfl rfl, gm3 117 rfl rfl⟩
theorem yy_Str_coder : gY f_Str_coder 0 := ⟨gm3 122 rfl rfl, gm1 16 rfl rfl, ⟨cm_13.1, cm_13.2, pd_20⟩, by decide⟩
theorem y_Str_coder : gY f_Str_coder 0 ∧ Cond.instanceMethod f_Str_coder.1 ∈ lw_good ∧ Cond.selects f_Str_coder.1.cls f_Str_coder.1 f_Str_coder.1 ∈ lw_good := ⟨yy_Str_coder, gm3 120 rfl rfl, gm3 121 rfl rfl⟩
theorem yy_Str_charAt : gY f_Str_charAt 1 := ⟨gm3 128 rfl rfl, gm1 16 rfl rfl, ⟨cm_13.1, cm_13.2, pd_21⟩, by decide⟩
theorem y_Str_charAt : gY f_Str_charAt 1 ∧ Cond.instanceMethod f_Str_charAt.1 ∈ lw_good ∧ Cond.selects f_Str_charAt.1.cls f_Str_charAt.1 f_Str_charAt.1 ∈ lw_good := ⟨yy_Str_charAt, gm3 126 rfl rfl, gm3 127 rfl rfl⟩
theorem yy_Str_isLatin1 : gY f_Str_isLatin1 0 := ⟨gm3 132 rfl rfl, gm1 16 rfl rfl, ⟨cm_13.1, cm_13.2, pd_22⟩, by decide⟩
theorem y_Str_isLatin1 : gY f_Str_isLatin1 0 ∧ Cond.instanceMethod f_Str_isLatin1.1 ∈ lw_good ∧ Cond.selects f_Str_isLatin1.1.cls f_Str_isLatin1.1 f_Str_isLatin1.1 ∈ lw_good := ⟨yy_Str_isLatin1, gm3 130 rfl rfl, gm3 131 rfl rfl⟩
theorem yy_Lat_charAt : gY f_Lat_charAt 2 := ⟨gm3 135 rfl rfl, gm1 17 rfl rfl, ⟨cm_14.1, cm_14.2, pd_23⟩, by decide⟩
theorem y_Lat_charAt : gYs f_Lat_charAt 2 := ⟨yy_Lat_charAt, gm3 134 rfl rfl⟩
theorem yy_Str_checkIndex : gY f_Str_checkIndex 2 := ⟨gm3 138 rfl rfl, gm1 16 rfl rfl, ⟨cm_13.1, cm_13.2, pd_10⟩, by decide⟩
theorem y_Str_checkIndex : gYs f_Str_checkIndex 2 := ⟨yy_Str_checkIndex, gm3 137 rfl rfl⟩
theorem yy_Pre_checkIndex : gY f_Pre_checkIndex 3 := ⟨gm3 143 rfl rfl, gm1 18 rfl rfl, ⟨cm_15.1, cm_15.2, pd_24⟩, by decide⟩
theorem y_Pre_checkIndex : gYs f_Pre_checkIndex 3 := ⟨yy_Pre_checkIndex, gm3 142 rfl rfl⟩
theorem yy_U16_charAt : gY f_U16_charAt 2 := ⟨gm3 146 rfl rfl, gm1 19 rfl rfl, ⟨cm_16.1, cm_16.2, pd_23⟩, by decide⟩
theorem y_U16_charAt : gYs f_U16_charAt 2 := ⟨yy_U16_charAt, gm3 145 rfl rfl⟩
theorem yy_U16_checkIndex : gY f_U16_checkIndex 2 := ⟨gm3 149 rfl rfl, gm1 19 rfl rfl, ⟨cm_16.1, cm_16.2, pd_25⟩, by decide⟩
theorem y_U16_checkIndex : gYs f_U16_checkIndex 2 := ⟨yy_U16_checkIndex, gm3 148 rfl rfl⟩
theorem yy_U16_length : gY f_U16_length 1 := ⟨gm3 152 rfl rfl, gm1 19 rfl rfl, ⟨cm_16.1, cm_16.2, pd_26⟩, by decide⟩
theorem y_U16_length : gYs f_U16_length 1 := ⟨yy_U16_length, gm3 151 rfl rfl⟩
theorem yy_U16_getChar : gY f_U16_getChar 2 := ⟨gm3 156 rfl rfl, gm1 19 rfl rfl, ⟨cm_16.1, cm_16.2, pd_23⟩, by decide⟩
theorem y_U16_getChar : gYs f_U16_getChar 2 := ⟨yy_U16_getChar, gm3 155 rfl rfl⟩
theorem yy_Reader_sum : gY f_Reader_sum 1 := ⟨gm3 168 rfl rfl, gm1 11 rfl rfl, ⟨cm_10.1, cm_10.2, pd_5⟩, by decide⟩
theorem y_Reader_sum : gYv f_Reader_sum 1 7 := ⟨yy_Reader_sum, gm3 167 rfl rfl, gms1 5 rfl, by decide, rfl⟩
theorem yy_Reader_term : gY f_Reader_term 1 := ⟨gm3 172 rfl rfl, gm1 11 rfl rfl, ⟨cm_10.1, cm_10.2, pd_5⟩, by decide⟩
theorem y_Reader_term : gYv f_Reader_term 1 7 := ⟨yy_Reader_term, gm3 171 rfl rfl, gms1 6 rfl, by decide, rfl⟩
theorem yy_Reader_part : gY f_Reader_part 1 := ⟨gm3 176 rfl rfl, gm1 11 rfl rfl, ⟨cm_10.1, cm_10.2, pd_5⟩, by decide⟩
theorem y_Reader_part : gYv f_Reader_part 1 7 := ⟨yy_Reader_part, gm3 175 rfl rfl, gms1 7 rfl, by decide, rfl⟩
theorem yy_Reader_isSign : gY f_Reader_isSign 1 := ⟨gm3 180 rfl rfl, gm1 11 rfl rfl, ⟨cm_10.1, cm_10.2, pd_27⟩, by decide⟩
theorem y_Reader_isSign : gYv f_Reader_isSign 1 7 := ⟨yy_Reader_isSign, gm3 179 rfl rfl, gms1 8 rfl, by decide, rfl⟩
theorem yy_Reader_takeSign : gY f_Reader_takeSign 1 := ⟨gm3 184 rfl rfl, gm1 11 rfl rfl, ⟨cm_10.1, cm_10.2, pd_27⟩, by decide⟩
theorem y_Reader_takeSign : gYv f_Reader_takeSign 1 7 := ⟨yy_Reader_takeSign, gm3 183 rfl rfl, gms1 9 rfl, by decide, rfl⟩
theorem yy_Reader_step : gY f_Reader_step 2 := ⟨gm3 188 rfl rfl, gm1 11 rfl rfl, ⟨cm_10.1, cm_10.2, pd_4⟩, by decide⟩
theorem y_Reader_step : gYv f_Reader_step 2 7 := ⟨yy_Reader_step, gm3 187 rfl rfl, gms1 10 rfl, by decide, rfl⟩
theorem yy_Reader_lawWord : gY f_Reader_lawWord 0 := ⟨gm3 192 rfl rfl, gm1 11 rfl rfl, ⟨cm_10.1, cm_10.2, pd_17⟩, by decide⟩
theorem y_Reader_lawWord : gYv f_Reader_lawWord 0 7 := ⟨yy_Reader_lawWord, gm3 191 rfl rfl, gms1 11 rfl, by decide, rfl⟩
theorem yy_Reader_orderWord : gY f_Reader_orderWord 0 := ⟨gm3 206 rfl rfl, gm1 11 rfl rfl, ⟨cm_10.1, cm_10.2, pd_17⟩, by decide⟩
theorem y_Reader_orderWord : gYv f_Reader_orderWord 0 7 := ⟨yy_Reader_orderWord, gm3 205 rfl rfl, gms1 12 rfl, by decide, rfl⟩
theorem yy_Reader_endPiece : gY f_Reader_endPiece 2 := ⟨gm3 214 rfl rfl, gm1 11 rfl rfl, ⟨cm_10.1, cm_10.2, pd_10⟩, by decide⟩
theorem y_Reader_endPiece : gYv f_Reader_endPiece 2 7 := ⟨yy_Reader_endPiece, gm3 213 rfl rfl, gms1 13 rfl, by decide, rfl⟩
theorem yy_Reader_orderClause : gY f_Reader_orderClause 1 := ⟨gm3 218 rfl rfl, gm1 11 rfl rfl, ⟨cm_10.1, cm_10.2, pd_5⟩, by decide⟩
theorem y_Reader_orderClause : gYv f_Reader_orderClause 1 7 := ⟨yy_Reader_orderClause, gm3 217 rfl rfl, gms1 14 rfl, by decide, rfl⟩
theorem yy_Reader_howOften : gY f_Reader_howOften 1 := ⟨gm3 227 rfl rfl, gm1 11 rfl rfl, ⟨cm_10.1, cm_10.2, pd_5⟩, by decide⟩
theorem y_Reader_howOften : gYv f_Reader_howOften 1 7 := ⟨yy_Reader_howOften, gm3 226 rfl rfl, gms1 15 rfl, by decide, rfl⟩
theorem yy_Reader_condition : gY f_Reader_condition 1 := ⟨gm3 232 rfl rfl, gm1 11 rfl rfl, ⟨cm_10.1, cm_10.2, pd_5⟩, by decide⟩
theorem y_Reader_condition : gYv f_Reader_condition 1 7 := ⟨yy_Reader_condition, gm3 231 rfl rfl, gms2 0 rfl, by decide, rfl⟩
theorem yy_Reader_test : gY f_Reader_test 1 := ⟨gm3 237 rfl rfl, gm1 11 rfl rfl, ⟨cm_10.1, cm_10.2, pd_5⟩, by decide⟩
theorem y_Reader_test : gYv f_Reader_test 1 7 := ⟨yy_Reader_test, gm3 236 rfl rfl, gms2 1 rfl, by decide, rfl⟩
theorem yy_Reader_both : gY f_Reader_both 1 := ⟨gm4 1 rfl rfl, gm1 11 rfl rfl, ⟨cm_10.1, cm_10.2, pd_5⟩, by decide⟩
theorem y_Reader_both : gYv f_Reader_both 1 7 := ⟨yy_Reader_both, gm4 0 rfl rfl, gms2 2 rfl, by decide, rfl⟩
theorem yy_Reader_plain : gY f_Reader_plain 1 := ⟨gm4 5 rfl rfl, gm1 11 rfl rfl, ⟨cm_10.1, cm_10.2, pd_5⟩, by decide⟩
theorem y_Reader_plain : gYv f_Reader_plain 1 7 := ⟨yy_Reader_plain, gm4 4 rfl rfl, gms2 3 rfl, by decide, rfl⟩
theorem yy_Text_init2 : gY f_Text_init2 1 := ⟨gm4 12 rfl rfl, gm1 12 rfl rfl, ⟨cm_11.1, cm_11.2, pd_28⟩, by decide⟩
theorem y_Text_init2 : gYi f_Text_init2 1 := ⟨yy_Text_init2, gm4 11 rfl rfl, rfl, rfl⟩
theorem yy_Arr_copyOf : gY f_Arr_copyOf 2 := ⟨gm4 15 rfl rfl, gm1 20 rfl rfl, ⟨cm_17.1, cm_17.2, pd_29⟩, by decide⟩
theorem y_Arr_copyOf : gYs f_Arr_copyOf 2 := ⟨yy_Arr_copyOf, gm4 14 rfl rfl⟩
theorem yy_Desk_orders : gY f_Desk_orders 0 := ⟨gm4 29 rfl rfl, gm1 1 rfl rfl, ⟨cm_0.1, cm_0.2, pd_17⟩, by decide⟩
theorem y_Desk_orders : gYv f_Desk_orders 0 0 := ⟨yy_Desk_orders, gm4 27 rfl rfl, gm4 28 rfl rfl, by decide, rfl⟩
theorem yy_Clerk_carryOut : gY f_Clerk_carryOut 1 := ⟨gm4 33 rfl rfl, gm1 5 rfl rfl, ⟨cm_4.1, cm_4.2, pd_30⟩, by decide⟩
theorem y_Clerk_carryOut : gYv f_Clerk_carryOut 1 2 := ⟨yy_Clerk_carryOut, gm4 31 rfl rfl, gm4 32 rfl rfl, by decide, rfl⟩
theorem yy_Board_copyFrom : gY f_Board_copyFrom 1 := ⟨gm4 37 rfl rfl, gm1 2 rfl rfl, ⟨cm_1.1, cm_1.2, pd_31⟩, by decide⟩
theorem y_Board_copyFrom : gYv f_Board_copyFrom 1 1 := ⟨yy_Board_copyFrom, gm4 35 rfl rfl, gm4 36 rfl rfl, by decide, rfl⟩
theorem yy_Trail_copyFrom : gY f_Trail_copyFrom 1 := ⟨gm4 42 rfl rfl, gm1 6 rfl rfl, ⟨cm_5.1, cm_5.2, pd_32⟩, by decide⟩
theorem y_Trail_copyFrom : gYv f_Trail_copyFrom 1 11 := ⟨yy_Trail_copyFrom, gm4 40 rfl rfl, gm4 41 rfl rfl, by decide, rfl⟩
theorem yy_Clerk_gatherWords : gY f_Clerk_gatherWords 0 := ⟨gm4 47 rfl rfl, gm1 5 rfl rfl, ⟨cm_4.1, cm_4.2, pd_0⟩, by decide⟩
theorem y_Clerk_gatherWords : gYv f_Clerk_gatherWords 0 2 := ⟨yy_Clerk_gatherWords, gm4 46 rfl rfl, gms2 4 rfl, by decide, rfl⟩
theorem yy_Clerk_runOnce : gY f_Clerk_runOnce 2 := ⟨gm4 55 rfl rfl, gm1 5 rfl rfl, ⟨cm_4.1, cm_4.2, pd_33⟩, by decide⟩
theorem y_Clerk_runOnce : gYv f_Clerk_runOnce 2 2 := ⟨yy_Clerk_runOnce, gm4 54 rfl rfl, gms2 5 rfl, by decide, rfl⟩
theorem yy_Clerk_exchange : gY f_Clerk_exchange 0 := ⟨gm4 59 rfl rfl, gm1 5 rfl rfl, ⟨cm_4.1, cm_4.2, pd_17⟩, by decide⟩
theorem y_Clerk_exchange : gYv f_Clerk_exchange 0 2 := ⟨yy_Clerk_exchange, gm4 57 rfl rfl, gm4 58 rfl rfl, by decide, rfl⟩
theorem yy_Board_exchangeAll : gY f_Board_exchangeAll 0 := ⟨gm4 63 rfl rfl, gm1 2 rfl rfl, ⟨cm_1.1, cm_1.2, pd_0⟩, by decide⟩
theorem y_Board_exchangeAll : gYv f_Board_exchangeAll 0 1 := ⟨yy_Board_exchangeAll, gm4 61 rfl rfl, gm4 62 rfl rfl, by decide, rfl⟩
theorem yy_Trail_keep : gY f_Trail_keep 3 := ⟨gm4 67 rfl rfl, gm1 6 rfl rfl, ⟨cm_5.1, cm_5.2, pd_34⟩, by decide⟩
theorem y_Trail_keep : gYv f_Trail_keep 3 11 := ⟨yy_Trail_keep, gm4 65 rfl rfl, gm4 66 rfl rfl, by decide, rfl⟩
theorem yy_Trail_dropOldest : gY f_Trail_dropOldest 0 := ⟨gm4 71 rfl rfl, gm1 6 rfl rfl, ⟨cm_5.1, cm_5.2, pd_0⟩, by decide⟩
theorem y_Trail_dropOldest : gYv f_Trail_dropOldest 0 11 := ⟨yy_Trail_dropOldest, gm4 70 rfl rfl, gms2 6 rfl, by decide, rfl⟩
theorem yy_Clerk_nextDay : gY f_Clerk_nextDay 0 := ⟨gm4 75 rfl rfl, gm1 5 rfl rfl, ⟨cm_4.1, cm_4.2, pd_17⟩, by decide⟩
theorem y_Clerk_nextDay : gYv f_Clerk_nextDay 0 2 := ⟨yy_Clerk_nextDay, gm4 73 rfl rfl, gm4 74 rfl rfl, by decide, rfl⟩
theorem yy_Clerk_moveHere : gY f_Clerk_moveHere 2 := ⟨gm4 80 rfl rfl, gm1 5 rfl rfl, ⟨cm_4.1, cm_4.2, pd_4⟩, by decide⟩
theorem y_Clerk_moveHere : gYv f_Clerk_moveHere 2 2 := ⟨yy_Clerk_moveHere, gm4 78 rfl rfl, gm4 79 rfl rfl, by decide, rfl⟩
theorem yy_Clerk_move : gY f_Clerk_move 4 := ⟨gm4 84 rfl rfl, gm1 5 rfl rfl, ⟨cm_4.1, cm_4.2, pd_35⟩, by decide⟩
theorem y_Clerk_move : gYv f_Clerk_move 4 2 := ⟨yy_Clerk_move, gm4 83 rfl rfl, gms2 7 rfl, by decide, rfl⟩
theorem yy_Clerk_moveUnder : gY f_Clerk_moveUnder 2 := ⟨gm4 89 rfl rfl, gm1 5 rfl rfl, ⟨cm_4.1, cm_4.2, pd_4⟩, by decide⟩
theorem y_Clerk_moveUnder : gYv f_Clerk_moveUnder 2 2 := ⟨yy_Clerk_moveUnder, gm4 87 rfl rfl, gm4 88 rfl rfl, by decide, rfl⟩
theorem yy_Desk_fault : gY f_Desk_fault 0 := ⟨gm4 93 rfl rfl, gm1 1 rfl rfl, ⟨cm_0.1, cm_0.2, pd_17⟩, by decide⟩
theorem y_Desk_fault : gYv f_Desk_fault 0 0 := ⟨yy_Desk_fault, gm4 91 rfl rfl, gm4 92 rfl rfl, by decide, rfl⟩
theorem yy_Desk_stopped : gY f_Desk_stopped 0 := ⟨gm4 97 rfl rfl, gm1 1 rfl rfl, ⟨cm_0.1, cm_0.2, pd_17⟩, by decide⟩
theorem y_Desk_stopped : gYv f_Desk_stopped 0 0 := ⟨yy_Desk_stopped, gm4 95 rfl rfl, gm4 96 rfl rfl, by decide, rfl⟩
theorem yy_Desk_force : gY f_Desk_force 1 := ⟨gm4 101 rfl rfl, gm1 1 rfl rfl, ⟨cm_0.1, cm_0.2, pd_6⟩, by decide⟩
theorem y_Desk_force : gYv f_Desk_force 1 0 := ⟨yy_Desk_force, gm4 99 rfl rfl, gm4 100 rfl rfl, by decide, rfl⟩
theorem yy_Desk_set : gY f_Desk_set 2 := ⟨gm4 106 rfl rfl, gm1 1 rfl rfl, ⟨cm_0.1, cm_0.2, pd_4⟩, by decide⟩
theorem y_Desk_set : gYv f_Desk_set 2 0 := ⟨yy_Desk_set, gm4 104 rfl rfl, gm4 105 rfl rfl, by decide, rfl⟩
theorem yy_Desk_shift : gY f_Desk_shift 2 := ⟨gm4 111 rfl rfl, gm1 1 rfl rfl, ⟨cm_0.1, cm_0.2, pd_4⟩, by decide⟩
theorem y_Desk_shift : gYv f_Desk_shift 2 0 := ⟨yy_Desk_shift, gm4 109 rfl rfl, gm4 110 rfl rfl, by decide, rfl⟩
theorem yy_Desk_swap : gY f_Desk_swap 0 := ⟨gm4 116 rfl rfl, gm1 1 rfl rfl, ⟨cm_0.1, cm_0.2, pd_17⟩, by decide⟩
theorem y_Desk_swap : gYv f_Desk_swap 0 0 := ⟨yy_Desk_swap, gm4 114 rfl rfl, gm4 115 rfl rfl, by decide, rfl⟩
theorem yy_Desk_pass : gY f_Desk_pass 0 := ⟨gm4 121 rfl rfl, gm1 1 rfl rfl, ⟨cm_0.1, cm_0.2, pd_17⟩, by decide⟩
theorem y_Desk_pass : gYv f_Desk_pass 0 0 := ⟨yy_Desk_pass, gm4 119 rfl rfl, gm4 120 rfl rfl, by decide, rfl⟩
theorem yy_Desk_undo : gY f_Desk_undo 0 := ⟨gm4 126 rfl rfl, gm1 1 rfl rfl, ⟨cm_0.1, cm_0.2, pd_17⟩, by decide⟩
theorem y_Desk_undo : gYv f_Desk_undo 0 0 := ⟨yy_Desk_undo, gm4 124 rfl rfl, gm4 125 rfl rfl, by decide, rfl⟩
theorem yy_Clerk_takeBack : gY f_Clerk_takeBack 0 := ⟨gm4 130 rfl rfl, gm1 5 rfl rfl, ⟨cm_4.1, cm_4.2, pd_17⟩, by decide⟩
theorem y_Clerk_takeBack : gYv f_Clerk_takeBack 0 2 := ⟨yy_Clerk_takeBack, gm4 128 rfl rfl, gm4 129 rfl rfl, by decide, rfl⟩
theorem yy_Desk_best : gY f_Desk_best 1 := ⟨gm4 134 rfl rfl, gm1 1 rfl rfl, ⟨cm_0.1, cm_0.2, pd_6⟩, by decide⟩
theorem y_Desk_best : gYv f_Desk_best 1 0 := ⟨yy_Desk_best, gm4 132 rfl rfl, gm4 133 rfl rfl, by decide, rfl⟩
theorem yy_Paper_leastCosts : gY f_Paper_leastCosts 2 := ⟨gm4 139 rfl rfl, gm1 7 rfl rfl, ⟨cm_6.1, cm_6.2, pd_36⟩, by decide⟩
theorem y_Paper_leastCosts : gYv f_Paper_leastCosts 2 6 := ⟨yy_Paper_leastCosts, gm4 137 rfl rfl, gm4 138 rfl rfl, by decide, rfl⟩
theorem yy_Paper_keepWithin : gY f_Paper_keepWithin 1 := ⟨gm4 143 rfl rfl, gm1 7 rfl rfl, ⟨cm_6.1, cm_6.2, pd_31⟩, by decide⟩
theorem y_Paper_keepWithin : gYv f_Paper_keepWithin 1 6 := ⟨yy_Paper_keepWithin, gm4 142 rfl rfl, gms2 8 rfl, by decide, rfl⟩
theorem yy_Paper_leastOf : gY f_Paper_leastOf 3 := ⟨gm4 147 rfl rfl, gm1 7 rfl rfl, ⟨cm_6.1, cm_6.2, pd_37⟩, by decide⟩
theorem y_Paper_leastOf : gYv f_Paper_leastOf 3 6 := ⟨yy_Paper_leastOf, gm4 146 rfl rfl, gms2 9 rfl, by decide, rfl⟩
theorem yy_Sheet_renew : gY f_Sheet_renew 4 := ⟨gm4 151 rfl rfl, gm1 8 rfl rfl, ⟨cm_7.1, cm_7.2, pd_38⟩, by decide⟩
theorem y_Sheet_renew : gYv f_Sheet_renew 4 8 := ⟨yy_Sheet_renew, gm4 149 rfl rfl, gm4 150 rfl rfl, by decide, rfl⟩
theorem yy_Sheet_keyOf : gY f_Sheet_keyOf 2 := ⟨gm4 154 rfl rfl, gm1 8 rfl rfl, ⟨cm_7.1, cm_7.2, pd_39⟩, by decide⟩
theorem y_Sheet_keyOf : gYs f_Sheet_keyOf 2 := ⟨yy_Sheet_keyOf, gm4 153 rfl rfl⟩
theorem yy_Paper_firstAhead : gY f_Paper_firstAhead 1 := ⟨gm4 166 rfl rfl, gm1 7 rfl rfl, ⟨cm_6.1, cm_6.2, pd_6⟩, by decide⟩
theorem y_Paper_firstAhead : gYv f_Paper_firstAhead 1 6 := ⟨yy_Paper_firstAhead, gm4 165 rfl rfl, gms2 10 rfl, by decide, rfl⟩
theorem yy_Paper_lastAhead : gY f_Paper_lastAhead 1 := ⟨gm4 170 rfl rfl, gm1 7 rfl rfl, ⟨cm_6.1, cm_6.2, pd_6⟩, by decide⟩
theorem y_Paper_lastAhead : gYv f_Paper_lastAhead 1 6 := ⟨yy_Paper_lastAhead, gm4 169 rfl rfl, gms2 11 rfl, by decide, rfl⟩
theorem yy_Paper_choose : gY f_Paper_choose 4 := ⟨gm4 174 rfl rfl, gm1 7 rfl rfl, ⟨cm_6.1, cm_6.2, pd_40⟩, by decide⟩
theorem y_Paper_choose : gYv f_Paper_choose 4 6 := ⟨yy_Paper_choose, gm4 173 rfl rfl, gms2 12 rfl, by decide, rfl⟩
theorem yy_Paper_voice : gY f_Paper_voice 2 := ⟨gm4 179 rfl rfl, gm1 7 rfl rfl, ⟨cm_6.1, cm_6.2, pd_15⟩, by decide⟩
theorem y_Paper_voice : gYv f_Paper_voice 2 6 := ⟨yy_Paper_voice, gm4 177 rfl rfl, gm4 178 rfl rfl, by decide, rfl⟩
theorem yy_Desk_between : gY f_Desk_between 2 := ⟨gm4 183 rfl rfl, gm1 1 rfl rfl, ⟨cm_0.1, cm_0.2, pd_4⟩, by decide⟩
theorem y_Desk_between : gYv f_Desk_between 2 0 := ⟨yy_Desk_between, gm4 181 rfl rfl, gm4 182 rfl rfl, by decide, rfl⟩
theorem yy_Paper_leastBetween : gY f_Paper_leastBetween 4 := ⟨gm4 187 rfl rfl, gm1 7 rfl rfl, ⟨cm_6.1, cm_6.2, pd_41⟩, by decide⟩
theorem y_Paper_leastBetween : gYv f_Paper_leastBetween 4 6 := ⟨yy_Paper_leastBetween, gm4 185 rfl rfl, gm4 186 rfl rfl, by decide, rfl⟩
theorem yy_Desk_richest : gY f_Desk_richest 0 := ⟨gm4 193 rfl rfl, gm1 1 rfl rfl, ⟨cm_0.1, cm_0.2, pd_17⟩, by decide⟩
theorem y_Desk_richest : gYv f_Desk_richest 0 0 := ⟨yy_Desk_richest, gm4 191 rfl rfl, gm4 192 rfl rfl, by decide, rfl⟩
theorem yy_Paper_mostEarned : gY f_Paper_mostEarned 2 := ⟨gm4 197 rfl rfl, gm1 7 rfl rfl, ⟨cm_6.1, cm_6.2, pd_36⟩, by decide⟩
theorem y_Paper_mostEarned : gYv f_Paper_mostEarned 2 6 := ⟨yy_Paper_mostEarned, gm4 195 rfl rfl, gm4 196 rfl rfl, by decide, rfl⟩
theorem yy_Desk_ways : gY f_Desk_ways 0 := ⟨gm4 201 rfl rfl, gm1 1 rfl rfl, ⟨cm_0.1, cm_0.2, pd_42⟩, by decide⟩
theorem y_Desk_ways : gYv f_Desk_ways 0 0 := ⟨yy_Desk_ways, gm4 199 rfl rfl, gm4 200 rfl rfl, by decide, rfl⟩
theorem yy_Paper_howMany : gY f_Paper_howMany 2 := ⟨gm4 205 rfl rfl, gm1 7 rfl rfl, ⟨cm_6.1, cm_6.2, pd_43⟩, by decide⟩
theorem y_Paper_howMany : gYv f_Paper_howMany 2 6 := ⟨yy_Paper_howMany, gm4 203 rfl rfl, gm4 204 rfl rfl, by decide, rfl⟩
theorem yy_Desk_mend : gY f_Desk_mend 1 := ⟨gm4 209 rfl rfl, gm1 1 rfl rfl, ⟨cm_0.1, cm_0.2, pd_6⟩, by decide⟩
theorem y_Desk_mend : gYv f_Desk_mend 1 0 := ⟨yy_Desk_mend, gm4 207 rfl rfl, gm4 208 rfl rfl, by decide, rfl⟩
theorem yy_Paper_leastMended : gY f_Paper_leastMended 2 := ⟨gm4 213 rfl rfl, gm1 7 rfl rfl, ⟨cm_6.1, cm_6.2, pd_36⟩, by decide⟩
theorem y_Paper_leastMended : gYv f_Paper_leastMended 2 6 := ⟨yy_Paper_leastMended, gm4 211 rfl rfl, gm4 212 rfl rfl, by decide, rfl⟩
theorem yy_Desk_compass : gY f_Desk_compass 1 := ⟨gm4 217 rfl rfl, gm1 1 rfl rfl, ⟨cm_0.1, cm_0.2, pd_6⟩, by decide⟩
theorem y_Desk_compass : gYv f_Desk_compass 1 0 := ⟨yy_Desk_compass, gm4 215 rfl rfl, gm4 216 rfl rfl, by decide, rfl⟩
theorem yy_Paper_narrowest : gY f_Paper_narrowest 2 := ⟨gm4 221 rfl rfl, gm1 7 rfl rfl, ⟨cm_6.1, cm_6.2, pd_36⟩, by decide⟩
theorem y_Paper_narrowest : gYv f_Paper_narrowest 2 6 := ⟨yy_Paper_narrowest, gm4 219 rfl rfl, gm4 220 rfl rfl, by decide, rfl⟩
theorem yy_Paper_markOpen : gY f_Paper_markOpen 2 := ⟨gm4 225 rfl rfl, gm1 7 rfl rfl, ⟨cm_6.1, cm_6.2, pd_44⟩, by decide⟩
theorem y_Paper_markOpen : gYv f_Paper_markOpen 2 6 := ⟨yy_Paper_markOpen, gm4 224 rfl rfl, gms2 13 rfl, by decide, rfl⟩
theorem yy_Paper_hasVoice : gY f_Paper_hasVoice 3 := ⟨gm4 229 rfl rfl, gm1 7 rfl rfl, ⟨cm_6.1, cm_6.2, pd_45⟩, by decide⟩
theorem y_Paper_hasVoice : gYv f_Paper_hasVoice 3 6 := ⟨yy_Paper_hasVoice, gm4 228 rfl rfl, gms2 14 rfl, by decide, rfl⟩
theorem yy_Desk_cheapest : gY f_Desk_cheapest 2 := ⟨gm4 233 rfl rfl, gm1 1 rfl rfl, ⟨cm_0.1, cm_0.2, pd_4⟩, by decide⟩
theorem y_Desk_cheapest : gYv f_Desk_cheapest 2 0 := ⟨yy_Desk_cheapest, gm4 231 rfl rfl, gm4 232 rfl rfl, by decide, rfl⟩
theorem yy_Paper_cheapestUnder : gY f_Paper_cheapestUnder 2 := ⟨gm4 237 rfl rfl, gm1 7 rfl rfl, ⟨cm_6.1, cm_6.2, pd_15⟩, by decide⟩
theorem y_Paper_cheapestUnder : gYv f_Paper_cheapestUnder 2 6 := ⟨yy_Paper_cheapestUnder, gm4 235 rfl rfl, gm4 236 rfl rfl, by decide, rfl⟩
theorem yy_Desk_canon : gY f_Desk_canon 2 := ⟨gm5 4 rfl rfl, gm1 1 rfl rfl, ⟨cm_0.1, cm_0.2, pd_4⟩, by decide⟩
theorem y_Desk_canon : gYv f_Desk_canon 2 0 := ⟨yy_Desk_canon, gm5 2 rfl rfl, gm5 3 rfl rfl, by decide, rfl⟩
theorem yy_Judge_goesWithItself : gY f_Judge_goesWithItself 3 := ⟨gm5 8 rfl rfl, gm1 3 rfl rfl, ⟨cm_2.1, cm_2.2, pd_45⟩, by decide⟩
theorem y_Judge_goesWithItself : gYv f_Judge_goesWithItself 3 4 := ⟨yy_Judge_goesWithItself, gm5 6 rfl rfl, gm5 7 rfl rfl, by decide, rfl⟩
theorem yy_Desk_parallels : gY f_Desk_parallels 1 := ⟨gm5 13 rfl rfl, gm1 1 rfl rfl, ⟨cm_0.1, cm_0.2, pd_6⟩, by decide⟩
theorem y_Desk_parallels : gYv f_Desk_parallels 1 0 := ⟨yy_Desk_parallels, gm5 11 rfl rfl, gm5 12 rfl rfl, by decide, rfl⟩
theorem yy_Board_apart : gY f_Board_apart 1 := ⟨gm5 17 rfl rfl, gm1 2 rfl rfl, ⟨cm_1.1, cm_1.2, pd_6⟩, by decide⟩
theorem y_Board_apart : gYv f_Board_apart 1 1 := ⟨yy_Board_apart, gm5 15 rfl rfl, gm5 16 rfl rfl, by decide, rfl⟩
theorem yy_Desk_heard : gY f_Desk_heard 2 := ⟨gm5 22 rfl rfl, gm1 1 rfl rfl, ⟨cm_0.1, cm_0.2, pd_4⟩, by decide⟩
theorem y_Desk_heard : gYv f_Desk_heard 2 0 := ⟨yy_Desk_heard, gm5 20 rfl rfl, gm5 21 rfl rfl, by decide, rfl⟩
theorem yy_Desk_forget : gY f_Desk_forget 0 := ⟨gm5 26 rfl rfl, gm1 1 rfl rfl, ⟨cm_0.1, cm_0.2, pd_17⟩, by decide⟩
theorem y_Desk_forget : gYv f_Desk_forget 0 0 := ⟨yy_Desk_forget, gm5 24 rfl rfl, gm5 25 rfl rfl, by decide, rfl⟩
theorem yy_Desk_canBe : gY f_Desk_canBe 0 := ⟨gm5 30 rfl rfl, gm1 1 rfl rfl, ⟨cm_0.1, cm_0.2, pd_17⟩, by decide⟩
theorem y_Desk_canBe : gYv f_Desk_canBe 0 0 := ⟨yy_Desk_canBe, gm5 28 rfl rfl, gm5 29 rfl rfl, by decide, rfl⟩
theorem yy_Judge_candidates : gY f_Judge_candidates 1 := ⟨gm5 34 rfl rfl, gm1 3 rfl rfl, ⟨cm_2.1, cm_2.2, pd_46⟩, by decide⟩
theorem y_Judge_candidates : gYv f_Judge_candidates 1 4 := ⟨yy_Judge_candidates, gm5 32 rfl rfl, gm5 33 rfl rfl, by decide, rfl⟩
theorem yy_Desk_listen : gY f_Desk_listen 1 := ⟨gm5 39 rfl rfl, gm1 1 rfl rfl, ⟨cm_0.1, cm_0.2, pd_6⟩, by decide⟩
theorem y_Desk_listen : gYv f_Desk_listen 1 0 := ⟨yy_Desk_listen, gm5 37 rfl rfl, gm5 38 rfl rfl, by decide, rfl⟩
theorem yy_Judge_mostAlike : gY f_Judge_mostAlike 3 := ⟨gm5 43 rfl rfl, gm1 3 rfl rfl, ⟨cm_2.1, cm_2.2, pd_8⟩, by decide⟩
theorem y_Judge_mostAlike : gYv f_Judge_mostAlike 3 4 := ⟨yy_Judge_mostAlike, gm5 41 rfl rfl, gm5 42 rfl rfl, by decide, rfl⟩
theorem yy_Desk_few : gY f_Desk_few 2 := ⟨gm5 47 rfl rfl, gm1 1 rfl rfl, ⟨cm_0.1, cm_0.2, pd_47⟩, by decide⟩
theorem y_Desk_few : gYv f_Desk_few 2 0 := ⟨yy_Desk_few, gm5 45 rfl rfl, gm5 46 rfl rfl, by decide, rfl⟩
theorem yy_Desk_compare : gY f_Desk_compare 1 := ⟨gm5 54 rfl rfl, gm1 1 rfl rfl, ⟨cm_0.1, cm_0.2, pd_6⟩, by decide⟩
theorem y_Desk_compare : gYv f_Desk_compare 1 0 := ⟨yy_Desk_compare, gm5 52 rfl rfl, gm5 53 rfl rfl, by decide, rfl⟩
theorem yy_Desk_weeks : gY f_Desk_weeks 2 := ⟨gm5 58 rfl rfl, gm1 1 rfl rfl, ⟨cm_0.1, cm_0.2, pd_4⟩, by decide⟩
theorem y_Desk_weeks : gYv f_Desk_weeks 2 0 := ⟨yy_Desk_weeks, gm5 56 rfl rfl, gm5 57 rfl rfl, by decide, rfl⟩
theorem yy_Draws_live : gY f_Draws_live 4 := ⟨gm5 63 rfl rfl, gm1 9 rfl rfl, ⟨cm_8.1, cm_8.2, pd_48⟩, by decide⟩
theorem y_Draws_live : gYv f_Draws_live 4 3 := ⟨yy_Draws_live, gm5 61 rfl rfl, gm5 62 rfl rfl, by decide, rfl⟩
theorem yy_Draws_draw : gY f_Draws_draw 1 := ⟨gm5 68 rfl rfl, gm1 9 rfl rfl, ⟨cm_8.1, cm_8.2, pd_6⟩, by decide⟩
theorem y_Draws_draw : gYv f_Draws_draw 1 3 := ⟨yy_Draws_draw, gm5 67 rfl rfl, gms2 15 rfl, by decide, rfl⟩
theorem yy_Desk_drawn : gY f_Desk_drawn 2 := ⟨gm5 78 rfl rfl, gm1 1 rfl rfl, ⟨cm_0.1, cm_0.2, pd_4⟩, by decide⟩
theorem y_Desk_drawn : gYv f_Desk_drawn 2 0 := ⟨yy_Desk_drawn, gm5 76 rfl rfl, gm5 77 rfl rfl, by decide, rfl⟩
theorem yy_Desk_image : gY f_Desk_image 1 := ⟨gm5 82 rfl rfl, gm1 1 rfl rfl, ⟨cm_0.1, cm_0.2, pd_6⟩, by decide⟩
theorem y_Desk_image : gYv f_Desk_image 1 0 := ⟨yy_Desk_image, gm5 80 rfl rfl, gm5 81 rfl rfl, by decide, rfl⟩
theorem yy_Desk_back : gY f_Desk_back 1 := ⟨gm5 87 rfl rfl, gm1 1 rfl rfl, ⟨cm_0.1, cm_0.2, pd_6⟩, by decide⟩
theorem y_Desk_back : gYv f_Desk_back 1 0 := ⟨yy_Desk_back, gm5 85 rfl rfl, gm5 86 rfl rfl, by decide, rfl⟩
theorem yy_Desk_count : gY f_Desk_count 1 := ⟨gm5 91 rfl rfl, gm1 1 rfl rfl, ⟨cm_0.1, cm_0.2, pd_6⟩, by decide⟩
theorem y_Desk_count : gYv f_Desk_count 1 0 := ⟨yy_Desk_count, gm5 89 rfl rfl, gm5 90 rfl rfl, by decide, rfl⟩
theorem yy_Desk_refusedBy : gY f_Desk_refusedBy 1 := ⟨gm5 95 rfl rfl, gm1 1 rfl rfl, ⟨cm_0.1, cm_0.2, pd_6⟩, by decide⟩
theorem y_Desk_refusedBy : gYv f_Desk_refusedBy 1 0 := ⟨yy_Desk_refusedBy, gm5 94 rfl rfl, gms3 0 rfl, by decide, rfl⟩
theorem yy_Desk_status : gY f_Desk_status 0 := ⟨gm5 99 rfl rfl, gm1 1 rfl rfl, ⟨cm_0.1, cm_0.2, pd_17⟩, by decide⟩
theorem y_Desk_status : gYv f_Desk_status 0 0 := ⟨yy_Desk_status, gm5 97 rfl rfl, gm5 98 rfl rfl, by decide, rfl⟩
theorem yy_Model_init : gY f_Model_init 0 := ⟨gm5 104 rfl rfl, gm1 13 rfl rfl, ⟨cm_18.1, cm_18.2, pd_0⟩, by decide⟩
theorem y_Model_init : gYi f_Model_init 0 := ⟨yy_Model_init, gm5 103 rfl rfl, rfl, rfl⟩
theorem yy_Model_image : gY f_Model_image 1 := ⟨gm6 23 rfl rfl, gm1 13 rfl rfl, ⟨cm_18.1, cm_18.2, pd_6⟩, by decide⟩
theorem y_Model_image : gYv f_Model_image 1 12 := ⟨yy_Model_image, gm6 21 rfl rfl, gm6 22 rfl rfl, by decide, rfl⟩
theorem yy_Model_lies : gY f_Model_lies 3 := ⟨gm6 26 rfl rfl, gm1 13 rfl rfl, ⟨cm_18.1, cm_18.2, pd_49⟩, by decide⟩
theorem y_Model_lies : gYs f_Model_lies 3 := ⟨yy_Model_lies, gm6 25 rfl rfl⟩
theorem yy_Model_refuses : gY f_Model_refuses 1 := ⟨gm6 30 rfl rfl, gm1 13 rfl rfl, ⟨cm_18.1, cm_18.2, pd_6⟩, by decide⟩
theorem y_Model_refuses : gYv f_Model_refuses 1 12 := ⟨yy_Model_refuses, gm6 29 rfl rfl, gms3 1 rfl, by decide, rfl⟩
theorem yy_Model_good : gY f_Model_good 1 := ⟨gm6 34 rfl rfl, gm1 13 rfl rfl, ⟨cm_18.1, cm_18.2, pd_6⟩, by decide⟩
theorem y_Model_good : gYv f_Model_good 1 12 := ⟨yy_Model_good, gm6 33 rfl rfl, gms3 2 rfl, by decide, rfl⟩
theorem yy_Model_back : gY f_Model_back 1 := ⟨gm6 38 rfl rfl, gm1 13 rfl rfl, ⟨cm_18.1, cm_18.2, pd_6⟩, by decide⟩
theorem y_Model_back : gYv f_Model_back 1 12 := ⟨yy_Model_back, gm6 36 rfl rfl, gm6 37 rfl rfl, by decide, rfl⟩
theorem yy_Model_settled : gY f_Model_settled 1 := ⟨gm6 42 rfl rfl, gm1 13 rfl rfl, ⟨cm_18.1, cm_18.2, pd_6⟩, by decide⟩
theorem y_Model_settled : gYv f_Model_settled 1 12 := ⟨yy_Model_settled, gm6 41 rfl rfl, gms3 3 rfl, by decide, rfl⟩
theorem yy_Model_note : gY f_Model_note 2 := ⟨gm6 46 rfl rfl, gm1 13 rfl rfl, ⟨cm_18.1, cm_18.2, pd_4⟩, by decide⟩
theorem y_Model_note : gYv f_Model_note 2 12 := ⟨yy_Model_note, gm6 44 rfl rfl, gm6 45 rfl rfl, by decide, rfl⟩
theorem yy_Model_isPitch : gY f_Model_isPitch 1 := ⟨gm6 49 rfl rfl, gm1 13 rfl rfl, ⟨cm_18.1, cm_18.2, pd_5⟩, by decide⟩
theorem y_Model_isPitch : gYs f_Model_isPitch 1 := ⟨yy_Model_isPitch, gm6 48 rfl rfl⟩
theorem yy_Model_noteMany : gY f_Model_noteMany 0 := ⟨gm6 53 rfl rfl, gm1 13 rfl rfl, ⟨cm_18.1, cm_18.2, pd_17⟩, by decide⟩
theorem y_Model_noteMany : gYv f_Model_noteMany 0 12 := ⟨yy_Model_noteMany, gm6 52 rfl rfl, gms3 4 rfl, by decide, rfl⟩
theorem yy_Model_adds : gY f_Model_adds 2 := ⟨gm6 57 rfl rfl, gm1 13 rfl rfl, ⟨cm_18.1, cm_18.2, pd_10⟩, by decide⟩
theorem y_Model_adds : gYv f_Model_adds 2 12 := ⟨yy_Model_adds, gm6 56 rfl rfl, gms3 5 rfl, by decide, rfl⟩
theorem yy_Model_of : gY f_Model_of 2 := ⟨gm6 61 rfl rfl, gm1 13 rfl rfl, ⟨cm_18.1, cm_18.2, pd_4⟩, by decide⟩
theorem y_Model_of : gYv f_Model_of 2 12 := ⟨yy_Model_of, gm6 59 rfl rfl, gm6 60 rfl rfl, by decide, rfl⟩
theorem yy_Model_isNote : gY f_Model_isNote 1 := ⟨gm6 65 rfl rfl, gm1 13 rfl rfl, ⟨cm_18.1, cm_18.2, pd_5⟩, by decide⟩
theorem y_Model_isNote : gYv f_Model_isNote 1 12 := ⟨yy_Model_isNote, gm6 64 rfl rfl, gms3 6 rfl, by decide, rfl⟩
theorem yy_Model_takesNow : gY f_Model_takesNow 1 := ⟨gm6 69 rfl rfl, gm1 13 rfl rfl, ⟨cm_18.1, cm_18.2, pd_3⟩, by decide⟩
theorem y_Model_takesNow : gYv f_Model_takesNow 1 12 := ⟨yy_Model_takesNow, gm6 68 rfl rfl, gms3 7 rfl, by decide, rfl⟩
theorem yy_Model_takesNote : gY f_Model_takesNote 4 := ⟨gm6 73 rfl rfl, gm1 13 rfl rfl, ⟨cm_18.1, cm_18.2, pd_50⟩, by decide⟩
theorem y_Model_takesNote : gYv f_Model_takesNote 4 12 := ⟨yy_Model_takesNote, gm6 72 rfl rfl, gms3 8 rfl, by decide, rfl⟩
theorem yy_Model_costsNow : gY f_Model_costsNow 0 := ⟨gm6 77 rfl rfl, gm1 13 rfl rfl, ⟨cm_18.1, cm_18.2, pd_17⟩, by decide⟩
theorem y_Model_costsNow : gYv f_Model_costsNow 0 12 := ⟨yy_Model_costsNow, gm6 76 rfl rfl, gms3 9 rfl, by decide, rfl⟩
theorem yy_Model_bare : gY f_Model_bare 1 := ⟨gm6 80 rfl rfl, gm1 13 rfl rfl, ⟨cm_18.1, cm_18.2, pd_6⟩, by decide⟩
theorem y_Model_bare : gYs f_Model_bare 1 := ⟨yy_Model_bare, gm6 79 rfl rfl⟩
theorem yy_Model_tells : gY f_Model_tells 3 := ⟨gm6 84 rfl rfl, gm1 13 rfl rfl, ⟨cm_18.1, cm_18.2, pd_51⟩, by decide⟩
theorem y_Model_tells : gYv f_Model_tells 3 12 := ⟨yy_Model_tells, gm6 83 rfl rfl, gms3 10 rfl, by decide, rfl⟩
theorem yy_Model_codeAt : gY f_Model_codeAt 1 := ⟨gm6 88 rfl rfl, gm1 13 rfl rfl, ⟨cm_18.1, cm_18.2, pd_6⟩, by decide⟩
theorem y_Model_codeAt : gYv f_Model_codeAt 1 12 := ⟨yy_Model_codeAt, gm6 87 rfl rfl, gms3 11 rfl, by decide, rfl⟩
theorem yy_Model_sumOf : gY f_Model_sumOf 1 := ⟨gm6 92 rfl rfl, gm1 13 rfl rfl, ⟨cm_18.1, cm_18.2, pd_52⟩, by decide⟩
theorem y_Model_sumOf : gYv f_Model_sumOf 1 12 := ⟨yy_Model_sumOf, gm6 91 rfl rfl, gms3 12 rfl, by decide, rfl⟩
theorem yy_Model_termOf : gY f_Model_termOf 1 := ⟨gm6 96 rfl rfl, gm1 13 rfl rfl, ⟨cm_18.1, cm_18.2, pd_52⟩, by decide⟩
theorem y_Model_termOf : gYv f_Model_termOf 1 12 := ⟨yy_Model_termOf, gm6 95 rfl rfl, gms3 13 rfl, by decide, rfl⟩
theorem yy_Model_partOf : gY f_Model_partOf 1 := ⟨gm6 100 rfl rfl, gm1 13 rfl rfl, ⟨cm_18.1, cm_18.2, pd_52⟩, by decide⟩
theorem y_Model_partOf : gYv f_Model_partOf 1 12 := ⟨yy_Model_partOf, gm6 99 rfl rfl, gms3 14 rfl, by decide, rfl⟩
theorem yy_Model_sign : gY f_Model_sign 1 := ⟨gm6 103 rfl rfl, gm1 13 rfl rfl, ⟨cm_18.1, cm_18.2, pd_53⟩, by decide⟩
theorem y_Model_sign : gYs f_Model_sign 1 := ⟨yy_Model_sign, gm6 102 rfl rfl⟩
theorem yy_Model_passes0 : gY f_Model_passes0 1 := ⟨gm6 107 rfl rfl, gm1 13 rfl rfl, ⟨cm_18.1, cm_18.2, pd_5⟩, by decide⟩
theorem y_Model_passes0 : gYv f_Model_passes0 1 12 := ⟨yy_Model_passes0, gm6 106 rfl rfl, gms3 15 rfl, by decide, rfl⟩
theorem yy_Model_orderValue : gY f_Model_orderValue 2 := ⟨gm6 111 rfl rfl, gm1 13 rfl rfl, ⟨cm_18.1, cm_18.2, pd_4⟩, by decide⟩
theorem y_Model_orderValue : gYv f_Model_orderValue 2 12 := ⟨yy_Model_orderValue, gm6 110 rfl rfl, gms4 0 rfl, by decide, rfl⟩
theorem yy_Model_bounded : gY f_Model_bounded 2 := ⟨gm6 115 rfl rfl, gm1 13 rfl rfl, ⟨cm_18.1, cm_18.2, pd_54⟩, by decide⟩
theorem y_Model_bounded : gYv f_Model_bounded 2 12 := ⟨yy_Model_bounded, gm6 114 rfl rfl, gms4 1 rfl, by decide, rfl⟩
theorem yy_Model_testOf : gY f_Model_testOf 1 := ⟨gm6 121 rfl rfl, gm1 13 rfl rfl, ⟨cm_18.1, cm_18.2, pd_55⟩, by decide⟩
theorem y_Model_testOf : gYv f_Model_testOf 1 12 := ⟨yy_Model_testOf, gm6 120 rfl rfl, gms4 2 rfl, by decide, rfl⟩
theorem yy_Model_bothOf : gY f_Model_bothOf 1 := ⟨gm6 125 rfl rfl, gm1 13 rfl rfl, ⟨cm_18.1, cm_18.2, pd_55⟩, by decide⟩
theorem y_Model_bothOf : gYv f_Model_bothOf 1 12 := ⟨yy_Model_bothOf, gm6 124 rfl rfl, gms4 3 rfl, by decide, rfl⟩
theorem yy_Model_plainOf : gY f_Model_plainOf 1 := ⟨gm6 129 rfl rfl, gm1 13 rfl rfl, ⟨cm_18.1, cm_18.2, pd_55⟩, by decide⟩
theorem y_Model_plainOf : gYv f_Model_plainOf 1 12 := ⟨yy_Model_plainOf, gm6 128 rfl rfl, gms4 4 rfl, by decide, rfl⟩
theorem yy_Model_positiveOf : gY f_Model_positiveOf 1 := ⟨gm6 133 rfl rfl, gm1 13 rfl rfl, ⟨cm_18.1, cm_18.2, pd_55⟩, by decide⟩
theorem y_Model_positiveOf : gYv f_Model_positiveOf 1 12 := ⟨yy_Model_positiveOf, gm6 132 rfl rfl, gms4 5 rfl, by decide, rfl⟩
theorem yy_Model_earnsNow : gY f_Model_earnsNow 0 := ⟨gm6 137 rfl rfl, gm1 13 rfl rfl, ⟨cm_18.1, cm_18.2, pd_17⟩, by decide⟩
theorem y_Model_earnsNow : gYv f_Model_earnsNow 0 12 := ⟨yy_Model_earnsNow, gm6 136 rfl rfl, gms4 6 rfl, by decide, rfl⟩
theorem yy_Model_isBarred : gY f_Model_isBarred 0 := ⟨gm6 141 rfl rfl, gm1 13 rfl rfl, ⟨cm_18.1, cm_18.2, pd_22⟩, by decide⟩
theorem y_Model_isBarred : gYv f_Model_isBarred 0 12 := ⟨yy_Model_isBarred, gm6 140 rfl rfl, gms4 7 rfl, by decide, rfl⟩
theorem yy_Model_at : gY f_Model_at 2 := ⟨gm6 145 rfl rfl, gm1 13 rfl rfl, ⟨cm_18.1, cm_18.2, pd_4⟩, by decide⟩
theorem y_Model_at : gYv f_Model_at 2 12 := ⟨yy_Model_at, gm6 143 rfl rfl, gm6 144 rfl rfl, by decide, rfl⟩
theorem yy_Model_apartOf : gY f_Model_apartOf 1 := ⟨gm6 149 rfl rfl, gm1 13 rfl rfl, ⟨cm_18.1, cm_18.2, pd_6⟩, by decide⟩
theorem y_Model_apartOf : gYv f_Model_apartOf 1 12 := ⟨yy_Model_apartOf, gm6 148 rfl rfl, gms4 8 rfl, by decide, rfl⟩
theorem yy_Model_leapOf : gY f_Model_leapOf 1 := ⟨gm6 153 rfl rfl, gm1 13 rfl rfl, ⟨cm_18.1, cm_18.2, pd_6⟩, by decide⟩
theorem y_Model_leapOf : gYv f_Model_leapOf 1 12 := ⟨yy_Model_leapOf, gm6 152 rfl rfl, gms4 9 rfl, by decide, rfl⟩
theorem yy_Model_terms : gY f_Model_terms 2 := ⟨gm6 157 rfl rfl, gm1 13 rfl rfl, ⟨cm_18.1, cm_18.2, pd_4⟩, by decide⟩
theorem y_Model_terms : gYv f_Model_terms 2 12 := ⟨yy_Model_terms, gm6 155 rfl rfl, gm6 156 rfl rfl, by decide, rfl⟩
theorem yy_Model_isTerm : gY f_Model_isTerm 2 := ⟨gm6 160 rfl rfl, gm1 13 rfl rfl, ⟨cm_18.1, cm_18.2, pd_7⟩, by decide⟩
theorem y_Model_isTerm : gYs f_Model_isTerm 2 := ⟨yy_Model_isTerm, gm6 159 rfl rfl⟩
theorem yy_Model_termAt : gY f_Model_termAt 1 := ⟨gm6 163 rfl rfl, gm1 13 rfl rfl, ⟨cm_18.1, cm_18.2, pd_6⟩, by decide⟩
theorem y_Model_termAt : gYs f_Model_termAt 1 := ⟨yy_Model_termAt, gm6 162 rfl rfl⟩
theorem yy_Model_row : gY f_Model_row 0 := ⟨gm6 167 rfl rfl, gm1 13 rfl rfl, ⟨cm_18.1, cm_18.2, pd_17⟩, by decide⟩
theorem y_Model_row : gYv f_Model_row 0 12 := ⟨yy_Model_row, gm6 165 rfl rfl, gm6 166 rfl rfl, by decide, rfl⟩
theorem yy_Model_blots : gY f_Model_blots 0 := ⟨gm6 171 rfl rfl, gm1 13 rfl rfl, ⟨cm_18.1, cm_18.2, pd_17⟩, by decide⟩
theorem y_Model_blots : gYv f_Model_blots 0 12 := ⟨yy_Model_blots, gm6 169 rfl rfl, gm6 170 rfl rfl, by decide, rfl⟩
theorem yy_Model_feed : gY f_Model_feed 5 := ⟨gm6 175 rfl rfl, gm1 13 rfl rfl, ⟨cm_18.1, cm_18.2, pd_16⟩, by decide⟩
theorem y_Model_feed : gYv f_Model_feed 5 12 := ⟨yy_Model_feed, gm6 173 rfl rfl, gm6 174 rfl rfl, by decide, rfl⟩
theorem yy_Model_end : gY f_Model_end 1 := ⟨gm6 179 rfl rfl, gm1 13 rfl rfl, ⟨cm_18.1, cm_18.2, pd_6⟩, by decide⟩
theorem y_Model_end : gYv f_Model_end 1 12 := ⟨yy_Model_end, gm6 177 rfl rfl, gm6 178 rfl rfl, by decide, rfl⟩
theorem yy_Model_law : gY f_Model_law 0 := ⟨gm6 183 rfl rfl, gm1 13 rfl rfl, ⟨cm_18.1, cm_18.2, pd_17⟩, by decide⟩
theorem y_Model_law : gYv f_Model_law 0 12 := ⟨yy_Model_law, gm6 181 rfl rfl, gm6 182 rfl rfl, by decide, rfl⟩
theorem yy_Model_readsAs : gY f_Model_readsAs 1 := ⟨gm6 187 rfl rfl, gm1 13 rfl rfl, ⟨cm_18.1, cm_18.2, pd_55⟩, by decide⟩
theorem y_Model_readsAs : gYv f_Model_readsAs 1 12 := ⟨yy_Model_readsAs, gm6 186 rfl rfl, gms4 10 rfl, by decide, rfl⟩
theorem yy_Model_reads : gY f_Model_reads 0 := ⟨gm6 191 rfl rfl, gm1 13 rfl rfl, ⟨cm_18.1, cm_18.2, pd_22⟩, by decide⟩
theorem y_Model_reads : gYv f_Model_reads 0 12 := ⟨yy_Model_reads, gm6 190 rfl rfl, gms4 11 rfl, by decide, rfl⟩
theorem yy_Model_splits : gY f_Model_splits 1 := ⟨gm6 195 rfl rfl, gm1 13 rfl rfl, ⟨cm_18.1, cm_18.2, pd_3⟩, by decide⟩
theorem y_Model_splits : gYv f_Model_splits 1 12 := ⟨yy_Model_splits, gm6 194 rfl rfl, gms4 12 rfl, by decide, rfl⟩
theorem yy_Model_isSmall : gY f_Model_isSmall 1 := ⟨gm6 198 rfl rfl, gm1 13 rfl rfl, ⟨cm_18.1, cm_18.2, pd_5⟩, by decide⟩
theorem y_Model_isSmall : gYs f_Model_isSmall 1 := ⟨yy_Model_isSmall, gm6 197 rfl rfl⟩
theorem yy_Model_isDigit : gY f_Model_isDigit 1 := ⟨gm6 201 rfl rfl, gm1 13 rfl rfl, ⟨cm_18.1, cm_18.2, pd_5⟩, by decide⟩
theorem y_Model_isDigit : gYs f_Model_isDigit 1 := ⟨yy_Model_isDigit, gm6 200 rfl rfl⟩
theorem yy_Model_wordOf : gY f_Model_wordOf 2 := ⟨gm6 205 rfl rfl, gm1 13 rfl rfl, ⟨cm_18.1, cm_18.2, pd_4⟩, by decide⟩
theorem y_Model_wordOf : gYv f_Model_wordOf 2 12 := ⟨yy_Model_wordOf, gm6 204 rfl rfl, gms4 13 rfl, by decide, rfl⟩
theorem yy_Model_readOne : gY f_Model_readOne 0 := ⟨gm6 210 rfl rfl, gm1 13 rfl rfl, ⟨cm_18.1, cm_18.2, pd_0⟩, by decide⟩
theorem y_Model_readOne : gYv f_Model_readOne 0 12 := ⟨yy_Model_readOne, gm6 209 rfl rfl, gms4 14 rfl, by decide, rfl⟩
theorem yy_Model_readOrder : gY f_Model_readOrder 0 := ⟨gm6 214 rfl rfl, gm1 13 rfl rfl, ⟨cm_18.1, cm_18.2, pd_0⟩, by decide⟩
theorem y_Model_readOrder : gYv f_Model_readOrder 0 12 := ⟨yy_Model_readOrder, gm6 213 rfl rfl, gms4 15 rfl, by decide, rfl⟩
theorem yy_Model_takes0 : gY f_Model_takes0 1 := ⟨gm6 218 rfl rfl, gm1 13 rfl rfl, ⟨cm_18.1, cm_18.2, pd_5⟩, by decide⟩
theorem y_Model_takes0 : gYv f_Model_takes0 1 12 := ⟨yy_Model_takes0, gm6 217 rfl rfl, gms5 0 rfl, by decide, rfl⟩
theorem yy_Model_fine : gY f_Model_fine 0 := ⟨gm6 222 rfl rfl, gm1 13 rfl rfl, ⟨cm_18.1, cm_18.2, pd_22⟩, by decide⟩
theorem y_Model_fine : gYv f_Model_fine 0 12 := ⟨yy_Model_fine, gm6 221 rfl rfl, gms5 1 rfl, by decide, rfl⟩
theorem yy_Model_readSum : gY f_Model_readSum 1 := ⟨gm6 226 rfl rfl, gm1 13 rfl rfl, ⟨cm_18.1, cm_18.2, pd_3⟩, by decide⟩
theorem y_Model_readSum : gYv f_Model_readSum 1 12 := ⟨yy_Model_readSum, gm6 225 rfl rfl, gms5 2 rfl, by decide, rfl⟩
theorem yy_Model_readTerm : gY f_Model_readTerm 1 := ⟨gm6 230 rfl rfl, gm1 13 rfl rfl, ⟨cm_18.1, cm_18.2, pd_3⟩, by decide⟩
theorem y_Model_readTerm : gYv f_Model_readTerm 1 12 := ⟨yy_Model_readTerm, gm6 229 rfl rfl, gms5 3 rfl, by decide, rfl⟩
theorem yy_Model_readPart : gY f_Model_readPart 1 := ⟨gm6 234 rfl rfl, gm1 13 rfl rfl, ⟨cm_18.1, cm_18.2, pd_3⟩, by decide⟩
theorem y_Model_readPart : gYv f_Model_readPart 1 12 := ⟨yy_Model_readPart, gm6 233 rfl rfl, gms5 4 rfl, by decide, rfl⟩
theorem yy_Model_faults : gY f_Model_faults 0 := ⟨gm6 238 rfl rfl, gm1 13 rfl rfl, ⟨cm_18.1, cm_18.2, pd_0⟩, by decide⟩
theorem y_Model_faults : gYv f_Model_faults 0 12 := ⟨yy_Model_faults, gm6 237 rfl rfl, gms5 5 rfl, by decide, rfl⟩
theorem yy_Model_must : gY f_Model_must 1 := ⟨gm7 2 rfl rfl, gm1 13 rfl rfl, ⟨cm_18.1, cm_18.2, pd_3⟩, by decide⟩
theorem y_Model_must : gYv f_Model_must 1 12 := ⟨yy_Model_must, gm7 1 rfl rfl, gms5 6 rfl, by decide, rfl⟩
theorem yy_Model_leaf : gY f_Model_leaf 0 := ⟨gm7 6 rfl rfl, gm1 13 rfl rfl, ⟨cm_18.1, cm_18.2, pd_0⟩, by decide⟩
theorem y_Model_leaf : gYv f_Model_leaf 0 12 := ⟨yy_Model_leaf, gm7 5 rfl rfl, gms5 7 rfl, by decide, rfl⟩
theorem yy_Model_mustNumber : gY f_Model_mustNumber 2 := ⟨gm7 10 rfl rfl, gm1 13 rfl rfl, ⟨cm_18.1, cm_18.2, pd_10⟩, by decide⟩
theorem y_Model_mustNumber : gYv f_Model_mustNumber 2 12 := ⟨yy_Model_mustNumber, gm7 9 rfl rfl, gms5 8 rfl, by decide, rfl⟩
theorem yy_Model_readTest : gY f_Model_readTest 1 := ⟨gm7 14 rfl rfl, gm1 13 rfl rfl, ⟨cm_18.1, cm_18.2, pd_3⟩, by decide⟩
theorem y_Model_readTest : gYv f_Model_readTest 1 12 := ⟨yy_Model_readTest, gm7 13 rfl rfl, gms5 9 rfl, by decide, rfl⟩
theorem yy_Model_readBoth : gY f_Model_readBoth 1 := ⟨gm7 18 rfl rfl, gm1 13 rfl rfl, ⟨cm_18.1, cm_18.2, pd_3⟩, by decide⟩
theorem y_Model_readBoth : gYv f_Model_readBoth 1 12 := ⟨yy_Model_readBoth, gm7 17 rfl rfl, gms5 10 rfl, by decide, rfl⟩
theorem yy_Model_readPlain : gY f_Model_readPlain 1 := ⟨gm7 22 rfl rfl, gm1 13 rfl rfl, ⟨cm_18.1, cm_18.2, pd_3⟩, by decide⟩
theorem y_Model_readPlain : gYv f_Model_readPlain 1 12 := ⟨yy_Model_readPlain, gm7 21 rfl rfl, gms5 11 rfl, by decide, rfl⟩
theorem yy_Model_readClause : gY f_Model_readClause 0 := ⟨gm7 26 rfl rfl, gm1 13 rfl rfl, ⟨cm_18.1, cm_18.2, pd_0⟩, by decide⟩
theorem y_Model_readClause : gYv f_Model_readClause 0 12 := ⟨yy_Model_readClause, gm7 25 rfl rfl, gms5 12 rfl, by decide, rfl⟩
theorem yy_Model_lays : gY f_Model_lays 1 := ⟨gm7 30 rfl rfl, gm1 13 rfl rfl, ⟨cm_18.1, cm_18.2, pd_3⟩, by decide⟩
theorem y_Model_lays : gYv f_Model_lays 1 12 := ⟨yy_Model_lays, gm7 29 rfl rfl, gms5 13 rfl, by decide, rfl⟩
theorem yy_Model_fault : gY f_Model_fault 0 := ⟨gm7 34 rfl rfl, gm1 13 rfl rfl, ⟨cm_18.1, cm_18.2, pd_17⟩, by decide⟩
theorem y_Model_fault : gYv f_Model_fault 0 12 := ⟨yy_Model_fault, gm7 32 rfl rfl, gm7 33 rfl rfl, by decide, rfl⟩
theorem yy_Model_force : gY f_Model_force 1 := ⟨gm7 38 rfl rfl, gm1 13 rfl rfl, ⟨cm_18.1, cm_18.2, pd_6⟩, by decide⟩
theorem y_Model_force : gYv f_Model_force 1 12 := ⟨yy_Model_force, gm7 36 rfl rfl, gm7 37 rfl rfl, by decide, rfl⟩
theorem yy_Model_isLaw : gY f_Model_isLaw 1 := ⟨gm7 42 rfl rfl, gm1 13 rfl rfl, ⟨cm_18.1, cm_18.2, pd_5⟩, by decide⟩
theorem y_Model_isLaw : gYv f_Model_isLaw 1 12 := ⟨yy_Model_isLaw, gm7 41 rfl rfl, gms5 14 rfl, by decide, rfl⟩
theorem yy_Model_all : gY f_Model_all 1 := ⟨gm7 46 rfl rfl, gm1 13 rfl rfl, ⟨cm_18.1, cm_18.2, pd_6⟩, by decide⟩
theorem y_Model_all : gYv f_Model_all 1 12 := ⟨yy_Model_all, gm7 44 rfl rfl, gm7 45 rfl rfl, by decide, rfl⟩
theorem yy_Model_allOf : gY f_Model_allOf 1 := ⟨gm7 50 rfl rfl, gm1 13 rfl rfl, ⟨cm_18.1, cm_18.2, pd_6⟩, by decide⟩
theorem y_Model_allOf : gYv f_Model_allOf 1 12 := ⟨yy_Model_allOf, gm7 49 rfl rfl, gms5 15 rfl, by decide, rfl⟩
theorem yy_Model_undo : gY f_Model_undo 0 := ⟨gm7 54 rfl rfl, gm1 13 rfl rfl, ⟨cm_18.1, cm_18.2, pd_17⟩, by decide⟩
theorem y_Model_undo : gYv f_Model_undo 0 12 := ⟨yy_Model_undo, gm7 52 rfl rfl, gm7 53 rfl rfl, by decide, rfl⟩
theorem yy_Model_set : gY f_Model_set 2 := ⟨gm7 58 rfl rfl, gm1 13 rfl rfl, ⟨cm_18.1, cm_18.2, pd_4⟩, by decide⟩
theorem y_Model_set : gYv f_Model_set 2 12 := ⟨yy_Model_set, gm7 56 rfl rfl, gm7 57 rfl rfl, by decide, rfl⟩
theorem yy_Model_movesKept : gY f_Model_movesKept 4 := ⟨gm7 62 rfl rfl, gm1 13 rfl rfl, ⟨cm_18.1, cm_18.2, pd_56⟩, by decide⟩
theorem y_Model_movesKept : gYv f_Model_movesKept 4 12 := ⟨yy_Model_movesKept, gm7 61 rfl rfl, gms6 0 rfl, by decide, rfl⟩
theorem yy_Model_keeps : gY f_Model_keeps 1 := ⟨gm7 66 rfl rfl, gm1 13 rfl rfl, ⟨cm_18.1, cm_18.2, pd_3⟩, by decide⟩
theorem y_Model_keeps : gYv f_Model_keeps 1 12 := ⟨yy_Model_keeps, gm7 65 rfl rfl, gms6 1 rfl, by decide, rfl⟩
theorem yy_Model_goodOr : gY f_Model_goodOr 1 := ⟨gm7 70 rfl rfl, gm1 13 rfl rfl, ⟨cm_18.1, cm_18.2, pd_6⟩, by decide⟩
theorem y_Model_goodOr : gYv f_Model_goodOr 1 12 := ⟨yy_Model_goodOr, gm7 69 rfl rfl, gms6 2 rfl, by decide, rfl⟩
theorem yy_Model_shift : gY f_Model_shift 2 := ⟨gm7 74 rfl rfl, gm1 13 rfl rfl, ⟨cm_18.1, cm_18.2, pd_4⟩, by decide⟩
theorem y_Model_shift : gYv f_Model_shift 2 12 := ⟨yy_Model_shift, gm7 72 rfl rfl, gm7 73 rfl rfl, by decide, rfl⟩
theorem yy_Model_swap : gY f_Model_swap 0 := ⟨gm7 78 rfl rfl, gm1 13 rfl rfl, ⟨cm_18.1, cm_18.2, pd_17⟩, by decide⟩
theorem y_Model_swap : gYv f_Model_swap 0 12 := ⟨yy_Model_swap, gm7 76 rfl rfl, gm7 77 rfl rfl, by decide, rfl⟩
theorem yy_Model_swapsKept : gY f_Model_swapsKept 0 := ⟨gm7 82 rfl rfl, gm1 13 rfl rfl, ⟨cm_18.1, cm_18.2, pd_17⟩, by decide⟩
theorem y_Model_swapsKept : gYv f_Model_swapsKept 0 12 := ⟨yy_Model_swapsKept, gm7 81 rfl rfl, gms6 3 rfl, by decide, rfl⟩
theorem yy_Model_exchanges : gY f_Model_exchanges 0 := ⟨gm7 86 rfl rfl, gm1 13 rfl rfl, ⟨cm_18.1, cm_18.2, pd_0⟩, by decide⟩
theorem y_Model_exchanges : gYv f_Model_exchanges 0 12 := ⟨yy_Model_exchanges, gm7 85 rfl rfl, gms6 4 rfl, by decide, rfl⟩
theorem yy_Model_pass : gY f_Model_pass 0 := ⟨gm7 90 rfl rfl, gm1 13 rfl rfl, ⟨cm_18.1, cm_18.2, pd_17⟩, by decide⟩
theorem y_Model_pass : gYv f_Model_pass 0 12 := ⟨yy_Model_pass, gm7 88 rfl rfl, gm7 89 rfl rfl, by decide, rfl⟩
theorem yy_Model_passesKept : gY f_Model_passesKept 0 := ⟨gm7 94 rfl rfl, gm1 13 rfl rfl, ⟨cm_18.1, cm_18.2, pd_17⟩, by decide⟩
theorem y_Model_passesKept : gYv f_Model_passesKept 0 12 := ⟨yy_Model_passesKept, gm7 93 rfl rfl, gms6 5 rfl, by decide, rfl⟩
theorem yy_Model_best : gY f_Model_best 1 := ⟨gm7 98 rfl rfl, gm1 13 rfl rfl, ⟨cm_18.1, cm_18.2, pd_6⟩, by decide⟩
theorem y_Model_best : gYv f_Model_best 1 12 := ⟨yy_Model_best, gm7 96 rfl rfl, gm7 97 rfl rfl, by decide, rfl⟩
theorem yy_Model_voiceOf : gY f_Model_voiceOf 2 := ⟨gm7 102 rfl rfl, gm1 13 rfl rfl, ⟨cm_18.1, cm_18.2, pd_57⟩, by decide⟩
theorem y_Model_voiceOf : gYv f_Model_voiceOf 2 12 := ⟨yy_Model_voiceOf, gm7 101 rfl rfl, gms6 6 rfl, by decide, rfl⟩
theorem yy_Model_laysNotes : gY f_Model_laysNotes 0 := ⟨gm7 106 rfl rfl, gm1 13 rfl rfl, ⟨cm_18.1, cm_18.2, pd_0⟩, by decide⟩
theorem y_Model_laysNotes : gYv f_Model_laysNotes 0 12 := ⟨yy_Model_laysNotes, gm7 105 rfl rfl, gms6 7 rfl, by decide, rfl⟩
theorem yy_Model_laysNote : gY f_Model_laysNote 1 := ⟨gm7 110 rfl rfl, gm1 13 rfl rfl, ⟨cm_18.1, cm_18.2, pd_3⟩, by decide⟩
theorem y_Model_laysNote : gYv f_Model_laysNote 1 12 := ⟨yy_Model_laysNote, gm7 109 rfl rfl, gms6 8 rfl, by decide, rfl⟩
theorem yy_Model_noteAt : gY f_Model_noteAt 3 := ⟨gm7 113 rfl rfl, gm1 13 rfl rfl, ⟨cm_18.1, cm_18.2, pd_51⟩, by decide⟩
theorem y_Model_noteAt : gYs f_Model_noteAt 3 := ⟨yy_Model_noteAt, gm7 112 rfl rfl⟩
theorem yy_Model_leastOf : gY f_Model_leastOf 1 := ⟨gm7 117 rfl rfl, gm1 13 rfl rfl, ⟨cm_18.1, cm_18.2, pd_58⟩, by decide⟩
theorem y_Model_leastOf : gYv f_Model_leastOf 1 12 := ⟨yy_Model_leastOf, gm7 116 rfl rfl, gms6 9 rfl, by decide, rfl⟩
theorem yy_Model_laysRest : gY f_Model_laysRest 3 := ⟨gm7 121 rfl rfl, gm1 13 rfl rfl, ⟨cm_18.1, cm_18.2, pd_59⟩, by decide⟩
theorem y_Model_laysRest : gYv f_Model_laysRest 3 12 := ⟨yy_Model_laysRest, gm7 120 rfl rfl, gms6 10 rfl, by decide, rfl⟩
theorem yy_Model_leastFrom : gY f_Model_leastFrom 5 := ⟨gm7 125 rfl rfl, gm1 13 rfl rfl, ⟨cm_18.1, cm_18.2, pd_60⟩, by decide⟩
theorem y_Model_leastFrom : gYv f_Model_leastFrom 5 12 := ⟨yy_Model_leastFrom, gm7 124 rfl rfl, gms6 11 rfl, by decide, rfl⟩
theorem yy_Model_priceOf : gY f_Model_priceOf 4 := ⟨gm7 130 rfl rfl, gm1 13 rfl rfl, ⟨cm_18.1, cm_18.2, pd_61⟩, by decide⟩
theorem y_Model_priceOf : gYv f_Model_priceOf 4 12 := ⟨yy_Model_priceOf, gm7 129 rfl rfl, gms6 12 rfl, by decide, rfl⟩
theorem yy_Model_lesser : gY f_Model_lesser 2 := ⟨gm7 133 rfl rfl, gm1 13 rfl rfl, ⟨cm_18.1, cm_18.2, pd_4⟩, by decide⟩
theorem y_Model_lesser : gYs f_Model_lesser 2 := ⟨yy_Model_lesser, gm7 132 rfl rfl⟩
theorem yy_Model_pitchOf : gY f_Model_pitchOf 2 := ⟨gm7 137 rfl rfl, gm1 13 rfl rfl, ⟨cm_18.1, cm_18.2, pd_57⟩, by decide⟩
theorem y_Model_pitchOf : gYv f_Model_pitchOf 2 12 := ⟨yy_Model_pitchOf, gm7 136 rfl rfl, gms6 13 rfl, by decide, rfl⟩
theorem yy_Model_mend : gY f_Model_mend 1 := ⟨gm7 141 rfl rfl, gm1 13 rfl rfl, ⟨cm_18.1, cm_18.2, pd_6⟩, by decide⟩
theorem y_Model_mend : gYv f_Model_mend 1 12 := ⟨yy_Model_mend, gm7 139 rfl rfl, gm7 140 rfl rfl, by decide, rfl⟩
theorem yy_Model_between : gY f_Model_between 2 := ⟨gm7 145 rfl rfl, gm1 13 rfl rfl, ⟨cm_18.1, cm_18.2, pd_4⟩, by decide⟩
theorem y_Model_between : gYv f_Model_between 2 12 := ⟨yy_Model_between, gm7 143 rfl rfl, gm7 144 rfl rfl, by decide, rfl⟩
theorem yy_Model_isWithin : gY f_Model_isWithin 1 := ⟨gm7 149 rfl rfl, gm1 13 rfl rfl, ⟨cm_18.1, cm_18.2, pd_5⟩, by decide⟩
theorem y_Model_isWithin : gYv f_Model_isWithin 1 12 := ⟨yy_Model_isWithin, gm7 148 rfl rfl, gms6 14 rfl, by decide, rfl⟩
theorem yy_Model_richest : gY f_Model_richest 0 := ⟨gm7 153 rfl rfl, gm1 13 rfl rfl, ⟨cm_18.1, cm_18.2, pd_17⟩, by decide⟩
theorem y_Model_richest : gYv f_Model_richest 0 12 := ⟨yy_Model_richest, gm7 151 rfl rfl, gm7 152 rfl rfl, by decide, rfl⟩
theorem yy_Model_mostFrom : gY f_Model_mostFrom 2 := ⟨gm7 157 rfl rfl, gm1 13 rfl rfl, ⟨cm_18.1, cm_18.2, pd_4⟩, by decide⟩
theorem y_Model_mostFrom : gYv f_Model_mostFrom 2 12 := ⟨yy_Model_mostFrom, gm7 156 rfl rfl, gms6 15 rfl, by decide, rfl⟩
theorem yy_Model_greater : gY f_Model_greater 2 := ⟨gm7 161 rfl rfl, gm1 13 rfl rfl, ⟨cm_18.1, cm_18.2, pd_4⟩, by decide⟩
theorem y_Model_greater : gYs f_Model_greater 2 := ⟨yy_Model_greater, gm7 160 rfl rfl⟩
theorem yy_Model_ways : gY f_Model_ways 0 := ⟨gm7 165 rfl rfl, gm1 13 rfl rfl, ⟨cm_18.1, cm_18.2, pd_42⟩, by decide⟩
theorem y_Model_ways : gYv f_Model_ways 0 12 := ⟨yy_Model_ways, gm7 163 rfl rfl, gm7 164 rfl rfl, by decide, rfl⟩
theorem yy_Model_waysFrom : gY f_Model_waysFrom 2 := ⟨gm7 169 rfl rfl, gm1 13 rfl rfl, ⟨cm_18.1, cm_18.2, pd_47⟩, by decide⟩
theorem y_Model_waysFrom : gYv f_Model_waysFrom 2 12 := ⟨yy_Model_waysFrom, gm7 168 rfl rfl, gms7 0 rfl, by decide, rfl⟩
theorem yy_Model_compass : gY f_Model_compass 1 := ⟨gm7 173 rfl rfl, gm1 13 rfl rfl, ⟨cm_18.1, cm_18.2, pd_6⟩, by decide⟩
theorem y_Model_compass : gYv f_Model_compass 1 12 := ⟨yy_Model_compass, gm7 171 rfl rfl, gm7 172 rfl rfl, by decide, rfl⟩
theorem yy_Model_hasVoice : gY f_Model_hasVoice 2 := ⟨gm7 177 rfl rfl, gm1 13 rfl rfl, ⟨cm_18.1, cm_18.2, pd_7⟩, by decide⟩
theorem y_Model_hasVoice : gYv f_Model_hasVoice 2 12 := ⟨yy_Model_hasVoice, gm7 176 rfl rfl, gms7 1 rfl, by decide, rfl⟩
theorem yy_Model_cheapest : gY f_Model_cheapest 2 := ⟨gm7 181 rfl rfl, gm1 13 rfl rfl, ⟨cm_18.1, cm_18.2, pd_4⟩, by decide⟩
theorem y_Model_cheapest : gYv f_Model_cheapest 2 12 := ⟨yy_Model_cheapest, gm7 179 rfl rfl, gm7 180 rfl rfl, by decide, rfl⟩
theorem yy_Model_leastShifted : gY f_Model_leastShifted 2 := ⟨gm7 185 rfl rfl, gm1 13 rfl rfl, ⟨cm_18.1, cm_18.2, pd_4⟩, by decide⟩
theorem y_Model_leastShifted : gYv f_Model_leastShifted 2 12 := ⟨yy_Model_leastShifted, gm7 184 rfl rfl, gms7 2 rfl, by decide, rfl⟩
theorem yy_Model_compare : gY f_Model_compare 1 := ⟨gm7 189 rfl rfl, gm1 13 rfl rfl, ⟨cm_18.1, cm_18.2, pd_6⟩, by decide⟩
theorem y_Model_compare : gYv f_Model_compare 1 12 := ⟨yy_Model_compare, gm7 187 rfl rfl, gm7 188 rfl rfl, by decide, rfl⟩
theorem yy_Model_canon : gY f_Model_canon 2 := ⟨gm7 193 rfl rfl, gm1 13 rfl rfl, ⟨cm_18.1, cm_18.2, pd_4⟩, by decide⟩
theorem y_Model_canon : gYv f_Model_canon 2 12 := ⟨yy_Model_canon, gm7 191 rfl rfl, gm7 192 rfl rfl, by decide, rfl⟩
theorem yy_Model_isCanon : gY f_Model_isCanon 2 := ⟨gm7 197 rfl rfl, gm1 13 rfl rfl, ⟨cm_18.1, cm_18.2, pd_7⟩, by decide⟩
theorem y_Model_isCanon : gYv f_Model_isCanon 2 12 := ⟨yy_Model_isCanon, gm7 196 rfl rfl, gms7 3 rfl, by decide, rfl⟩
theorem yy_Model_parallels : gY f_Model_parallels 1 := ⟨gm7 201 rfl rfl, gm1 13 rfl rfl, ⟨cm_18.1, cm_18.2, pd_6⟩, by decide⟩
theorem y_Model_parallels : gYv f_Model_parallels 1 12 := ⟨yy_Model_parallels, gm7 199 rfl rfl, gm7 200 rfl rfl, by decide, rfl⟩
theorem yy_Model_isParallel : gY f_Model_isParallel 2 := ⟨gm7 205 rfl rfl, gm1 13 rfl rfl, ⟨cm_18.1, cm_18.2, pd_7⟩, by decide⟩
theorem y_Model_isParallel : gYv f_Model_isParallel 2 12 := ⟨yy_Model_isParallel, gm7 204 rfl rfl, gms7 4 rfl, by decide, rfl⟩
theorem yy_Model_interval : gY f_Model_interval 1 := ⟨gm7 209 rfl rfl, gm1 13 rfl rfl, ⟨cm_18.1, cm_18.2, pd_6⟩, by decide⟩
theorem y_Model_interval : gYv f_Model_interval 1 12 := ⟨yy_Model_interval, gm7 208 rfl rfl, gms7 5 rfl, by decide, rfl⟩
theorem yy_Model_heard : gY f_Model_heard 2 := ⟨gm7 213 rfl rfl, gm1 13 rfl rfl, ⟨cm_18.1, cm_18.2, pd_4⟩, by decide⟩
theorem y_Model_heard : gYv f_Model_heard 2 12 := ⟨yy_Model_heard, gm7 211 rfl rfl, gm7 212 rfl rfl, by decide, rfl⟩
theorem yy_Model_forget : gY f_Model_forget 0 := ⟨gm7 217 rfl rfl, gm1 13 rfl rfl, ⟨cm_18.1, cm_18.2, pd_17⟩, by decide⟩
theorem y_Model_forget : gYv f_Model_forget 0 12 := ⟨yy_Model_forget, gm7 215 rfl rfl, gm7 216 rfl rfl, by decide, rfl⟩
theorem yy_Model_canBe : gY f_Model_canBe 0 := ⟨gm7 221 rfl rfl, gm1 13 rfl rfl, ⟨cm_18.1, cm_18.2, pd_17⟩, by decide⟩
theorem y_Model_canBe : gYv f_Model_canBe 0 12 := ⟨yy_Model_canBe, gm7 219 rfl rfl, gm7 220 rfl rfl, by decide, rfl⟩
theorem yy_Model_laysFacts : gY f_Model_laysFacts 0 := ⟨gm7 225 rfl rfl, gm1 13 rfl rfl, ⟨cm_18.1, cm_18.2, pd_0⟩, by decide⟩
theorem y_Model_laysFacts : gYv f_Model_laysFacts 0 12 := ⟨yy_Model_laysFacts, gm7 224 rfl rfl, gms7 6 rfl, by decide, rfl⟩
theorem yy_Model_isSo : gY f_Model_isSo 1 := ⟨gm7 229 rfl rfl, gm1 13 rfl rfl, ⟨cm_18.1, cm_18.2, pd_5⟩, by decide⟩
theorem y_Model_isSo : gYv f_Model_isSo 1 12 := ⟨yy_Model_isSo, gm7 228 rfl rfl, gms7 7 rfl, by decide, rfl⟩
theorem yy_Model_listen : gY f_Model_listen 1 := ⟨gm7 233 rfl rfl, gm1 13 rfl rfl, ⟨cm_18.1, cm_18.2, pd_6⟩, by decide⟩
theorem y_Model_listen : gYv f_Model_listen 1 12 := ⟨yy_Model_listen, gm7 231 rfl rfl, gm7 232 rfl rfl, by decide, rfl⟩
theorem yy_Model_ones : gY f_Model_ones 1 := ⟨gm7 237 rfl rfl, gm1 13 rfl rfl, ⟨cm_18.1, cm_18.2, pd_6⟩, by decide⟩
theorem y_Model_ones : gYs f_Model_ones 1 := ⟨yy_Model_ones, gm7 236 rfl rfl⟩
theorem yy_Model_mostAlike : gY f_Model_mostAlike 2 := ⟨gm8 1 rfl rfl, gm1 13 rfl rfl, ⟨cm_18.1, cm_18.2, pd_4⟩, by decide⟩
theorem y_Model_mostAlike : gYv f_Model_mostAlike 2 12 := ⟨yy_Model_mostAlike, gm8 0 rfl rfl, gms7 8 rfl, by decide, rfl⟩
theorem yy_Model_isIn : gY f_Model_isIn 2 := ⟨gm8 4 rfl rfl, gm1 13 rfl rfl, ⟨cm_18.1, cm_18.2, pd_7⟩, by decide⟩
theorem y_Model_isIn : gYs f_Model_isIn 2 := ⟨yy_Model_isIn, gm8 3 rfl rfl⟩
theorem yy_Model_few : gY f_Model_few 2 := ⟨gm8 8 rfl rfl, gm1 13 rfl rfl, ⟨cm_18.1, cm_18.2, pd_47⟩, by decide⟩
theorem y_Model_few : gYv f_Model_few 2 12 := ⟨yy_Model_few, gm8 6 rfl rfl, gm8 7 rfl rfl, by decide, rfl⟩
theorem yy_Model_stopped : gY f_Model_stopped 0 := ⟨gm8 15 rfl rfl, gm1 13 rfl rfl, ⟨cm_18.1, cm_18.2, pd_17⟩, by decide⟩
theorem y_Model_stopped : gYv f_Model_stopped 0 12 := ⟨yy_Model_stopped, gm8 13 rfl rfl, gm8 14 rfl rfl, by decide, rfl⟩
theorem yy_Model_orders : gY f_Model_orders 0 := ⟨gm8 19 rfl rfl, gm1 13 rfl rfl, ⟨cm_18.1, cm_18.2, pd_17⟩, by decide⟩
theorem y_Model_orders : gYv f_Model_orders 0 12 := ⟨yy_Model_orders, gm8 17 rfl rfl, gm8 18 rfl rfl, by decide, rfl⟩
theorem yy_Model_laysAside : gY f_Model_laysAside 1 := ⟨gm8 23 rfl rfl, gm1 13 rfl rfl, ⟨cm_18.1, cm_18.2, pd_3⟩, by decide⟩
theorem y_Model_laysAside : gYv f_Model_laysAside 1 12 := ⟨yy_Model_laysAside, gm8 22 rfl rfl, gms7 9 rfl, by decide, rfl⟩
theorem yy_Model_runs : gY f_Model_runs 1 := ⟨gm8 27 rfl rfl, gm1 13 rfl rfl, ⟨cm_18.1, cm_18.2, pd_5⟩, by decide⟩
theorem y_Model_runs : gYv f_Model_runs 1 12 := ⟨yy_Model_runs, gm8 26 rfl rfl, gms7 10 rfl, by decide, rfl⟩
theorem yy_Model_goesAlong : gY f_Model_goesAlong 2 := ⟨gm8 31 rfl rfl, gm1 13 rfl rfl, ⟨cm_18.1, cm_18.2, pd_62⟩, by decide⟩
theorem y_Model_goesAlong : gYv f_Model_goesAlong 2 12 := ⟨yy_Model_goesAlong, gm8 30 rfl rfl, gms7 11 rfl, by decide, rfl⟩
theorem yy_Model_obeys : gY f_Model_obeys 0 := ⟨gm8 35 rfl rfl, gm1 13 rfl rfl, ⟨cm_18.1, cm_18.2, pd_17⟩, by decide⟩
theorem y_Model_obeys : gYv f_Model_obeys 0 12 := ⟨yy_Model_obeys, gm8 34 rfl rfl, gms7 12 rfl, by decide, rfl⟩
theorem yy_Model_small : gY f_Model_small 1 := ⟨gm8 38 rfl rfl, gm1 13 rfl rfl, ⟨cm_18.1, cm_18.2, pd_63⟩, by decide⟩
theorem y_Model_small : gYs f_Model_small 1 := ⟨yy_Model_small, gm8 37 rfl rfl⟩
theorem yy_Model_takesBack : gY f_Model_takesBack 1 := ⟨gm8 43 rfl rfl, gm1 13 rfl rfl, ⟨cm_18.1, cm_18.2, pd_3⟩, by decide⟩
theorem y_Model_takesBack : gYv f_Model_takesBack 1 12 := ⟨yy_Model_takesBack, gm8 42 rfl rfl, gms7 13 rfl, by decide, rfl⟩
theorem yy_Model_weeks : gY f_Model_weeks 2 := ⟨gm8 47 rfl rfl, gm1 13 rfl rfl, ⟨cm_18.1, cm_18.2, pd_4⟩, by decide⟩
theorem y_Model_weeks : gYv f_Model_weeks 2 12 := ⟨yy_Model_weeks, gm8 45 rfl rfl, gm8 46 rfl rfl, by decide, rfl⟩
theorem yy_Model_drawnAct : gY f_Model_drawnAct 0 := ⟨gm8 51 rfl rfl, gm1 13 rfl rfl, ⟨cm_18.1, cm_18.2, pd_0⟩, by decide⟩
theorem y_Model_drawnAct : gYv f_Model_drawnAct 0 12 := ⟨yy_Model_drawnAct, gm8 50 rfl rfl, gms7 14 rfl, by decide, rfl⟩
theorem yy_Model_draws : gY f_Model_draws 1 := ⟨gm8 55 rfl rfl, gm1 13 rfl rfl, ⟨cm_18.1, cm_18.2, pd_6⟩, by decide⟩
theorem y_Model_draws : gYv f_Model_draws 1 12 := ⟨yy_Model_draws, gm8 54 rfl rfl, gms7 15 rfl, by decide, rfl⟩
theorem yy_Model_drawn : gY f_Model_drawn 2 := ⟨gm8 62 rfl rfl, gm1 13 rfl rfl, ⟨cm_18.1, cm_18.2, pd_4⟩, by decide⟩
theorem y_Model_drawn : gYv f_Model_drawn 2 12 := ⟨yy_Model_drawn, gm8 60 rfl rfl, gm8 61 rfl rfl, by decide, rfl⟩
theorem yy_Model_count : gY f_Model_count 1 := ⟨gm8 66 rfl rfl, gm1 13 rfl rfl, ⟨cm_18.1, cm_18.2, pd_6⟩, by decide⟩
theorem y_Model_count : gYv f_Model_count 1 12 := ⟨yy_Model_count, gm8 64 rfl rfl, gm8 65 rfl rfl, by decide, rfl⟩
theorem yy_Model_refusals : gY f_Model_refusals 1 := ⟨gm8 70 rfl rfl, gm1 13 rfl rfl, ⟨cm_18.1, cm_18.2, pd_6⟩, by decide⟩
theorem y_Model_refusals : gYv f_Model_refusals 1 12 := ⟨yy_Model_refusals, gm8 69 rfl rfl, gms8 0 rfl, by decide, rfl⟩
theorem yy_Model_status : gY f_Model_status 0 := ⟨gm8 74 rfl rfl, gm1 13 rfl rfl, ⟨cm_18.1, cm_18.2, pd_17⟩, by decide⟩
theorem y_Model_status : gYv f_Model_status 0 12 := ⟨yy_Model_status, gm8 72 rfl rfl, gm8 73 rfl rfl, by decide, rfl⟩
theorem cl_Law_7 : Cond.classLink "CounterDeskLaw" 7 "CounterDesk" ∈ lw_good := gm1 21 rfl rfl
theorem ln_Law_9 : Cond.methodLink "CounterDeskLaw" 9 f_Desk_init.1 ∈ lw_good := gm1 23 rfl rfl
theorem ln_Desk_3 : Cond.methodLink "CounterDesk" 3 f_Obj_init.1 ∈ lw_good := gm1 26 rfl rfl
theorem cl_Desk_9 : Cond.classLink "CounterDesk" 9 "CounterDesk$Board" ∈ lw_good := gm1 29 rfl rfl
theorem ln_Desk_11 : Cond.methodLink "CounterDesk" 11 f_Board_init.1 ∈ lw_good := gm1 31 rfl rfl
theorem ln_Board_3 : Cond.methodLink "CounterDesk$Board" 3 f_Obj_init.1 ∈ lw_good := gm1 34 rfl rfl
theorem cl_Board_27 : Cond.classLink "CounterDesk$Board" 27 "CounterDesk$Text" ∈ lw_good := gm1 35 rfl rfl
theorem fl_Board_37 : gFL "CounterDesk$Board" 37 1 0 10 0 (.int) false := ⟨("CounterDesk$Board", gF_Board, 10), rfl, rfl, by decide, gm1 37 rfl rfl, pf_1_0, rfl, rfl, ft_1_0, by decide⟩
theorem fl_Draws_34 : gFL "CounterDesk$Draws" 34 1 0 10 0 (.int) false := ⟨("CounterDesk$Board", gF_Board, 10), rfl, rfl, by decide, gm1 38 rfl rfl, pf_1_0, rfl, rfl, ft_1_0, by decide⟩
theorem fl_Desk_103 : gFL "CounterDesk" 103 1 0 10 0 (.int) false := ⟨("CounterDesk$Board", gF_Board, 10), rfl, rfl, by decide, gm1 39 rfl rfl, pf_1_0, rfl, rfl, ft_1_0, by decide⟩
theorem fl_Judge_35 : gFL "CounterDesk$Judge" 35 1 0 10 0 (.int) false := ⟨("CounterDesk$Board", gF_Board, 10), rfl, rfl, by decide, gm1 40 rfl rfl, pf_1_0, rfl, rfl, ft_1_0, by decide⟩
theorem fl_Sheet_68 : gFL "CounterDesk$Sheet" 68 1 0 10 0 (.int) false := ⟨("CounterDesk$Board", gF_Board, 10), rfl, rfl, by decide, gm1 41 rfl rfl, pf_1_0, rfl, rfl, ft_1_0, by decide⟩
theorem fl_Paper_68 : gFL "CounterDesk$Paper" 68 1 0 10 0 (.int) false := ⟨("CounterDesk$Board", gF_Board, 10), rfl, rfl, by decide, gm1 42 rfl rfl, pf_1_0, rfl, rfl, ft_1_0, by decide⟩
theorem fl_Clerk_71 : gFL "CounterDesk$Clerk" 71 1 0 10 0 (.int) false := ⟨("CounterDesk$Board", gF_Board, 10), rfl, rfl, by decide, gm1 43 rfl rfl, pf_1_0, rfl, rfl, ft_1_0, by decide⟩
theorem fl_Board_9 : gFL "CounterDesk$Board" 9 1 1 10 2 (.array .int) true := ⟨("CounterDesk$Board", gF_Board, 10), rfl, rfl, by decide, gm1 44 rfl rfl, pf_1_1, rfl, rfl, ft_1_1, by decide⟩
theorem fl_Judge_26 : gFL "CounterDesk$Judge" 26 1 1 10 2 (.array .int) true := ⟨("CounterDesk$Board", gF_Board, 10), rfl, rfl, by decide, gm1 45 rfl rfl, pf_1_1, rfl, rfl, ft_1_1, by decide⟩
theorem fl_Draws_49 : gFL "CounterDesk$Draws" 49 1 1 10 2 (.array .int) true := ⟨("CounterDesk$Board", gF_Board, 10), rfl, rfl, by decide, gm1 46 rfl rfl, pf_1_1, rfl, rfl, ft_1_1, by decide⟩
theorem fl_Sheet_58 : gFL "CounterDesk$Sheet" 58 1 1 10 2 (.array .int) true := ⟨("CounterDesk$Board", gF_Board, 10), rfl, rfl, by decide, gm1 47 rfl rfl, pf_1_1, rfl, rfl, ft_1_1, by decide⟩
theorem fl_Clerk_57 : gFL "CounterDesk$Clerk" 57 1 1 10 2 (.array .int) true := ⟨("CounterDesk$Board", gF_Board, 10), rfl, rfl, by decide, gm1 48 rfl rfl, pf_1_1, rfl, rfl, ft_1_1, by decide⟩
theorem fl_Desk_109 : gFL "CounterDesk" 109 1 1 10 2 (.array .int) true := ⟨("CounterDesk$Board", gF_Board, 10), rfl, rfl, by decide, gm1 49 rfl rfl, pf_1_1, rfl, rfl, ft_1_1, by decide⟩
theorem fl_Paper_116 : gFL "CounterDesk$Paper" 116 1 1 10 2 (.array .int) true := ⟨("CounterDesk$Board", gF_Board, 10), rfl, rfl, by decide, gm1 50 rfl rfl, pf_1_1, rfl, rfl, ft_1_1, by decide⟩
theorem fl_Board_15 : gFL "CounterDesk$Board" 15 1 2 10 2 (.array .int) true := ⟨("CounterDesk$Board", gF_Board, 10), rfl, rfl, by decide, gm1 51 rfl rfl, pf_1_2, rfl, rfl, ft_1_2, by decide⟩
theorem fl_Clerk_50 : gFL "CounterDesk$Clerk" 50 1 2 10 2 (.array .int) true := ⟨("CounterDesk$Board", gF_Board, 10), rfl, rfl, by decide, gm1 52 rfl rfl, pf_1_2, rfl, rfl, ft_1_2, by decide⟩
theorem fl_Draws_52 : gFL "CounterDesk$Draws" 52 1 2 10 2 (.array .int) true := ⟨("CounterDesk$Board", gF_Board, 10), rfl, rfl, by decide, gm1 53 rfl rfl, pf_1_2, rfl, rfl, ft_1_2, by decide⟩
theorem fl_Desk_112 : gFL "CounterDesk" 112 1 2 10 2 (.array .int) true := ⟨("CounterDesk$Board", gF_Board, 10), rfl, rfl, by decide, gm1 54 rfl rfl, pf_1_2, rfl, rfl, ft_1_2, by decide⟩
theorem fl_Judge_75 : gFL "CounterDesk$Judge" 75 1 2 10 2 (.array .int) true := ⟨("CounterDesk$Board", gF_Board, 10), rfl, rfl, by decide, gm1 55 rfl rfl, pf_1_2, rfl, rfl, ft_1_2, by decide⟩
theorem fl_Paper_131 : gFL "CounterDesk$Paper" 131 1 2 10 2 (.array .int) true := ⟨("CounterDesk$Board", gF_Board, 10), rfl, rfl, by decide, gm1 56 rfl rfl, pf_1_2, rfl, rfl, ft_1_2, by decide⟩
theorem fl_Board_18 : gFL "CounterDesk$Board" 18 1 3 10 2 (.array .int) true := ⟨("CounterDesk$Board", gF_Board, 10), rfl, rfl, by decide, gm1 57 rfl rfl, pf_1_3, rfl, rfl, ft_1_3, by decide⟩
theorem fl_Draws_30 : gFL "CounterDesk$Draws" 30 1 3 10 2 (.array .int) true := ⟨("CounterDesk$Board", gF_Board, 10), rfl, rfl, by decide, gm1 58 rfl rfl, pf_1_3, rfl, rfl, ft_1_3, by decide⟩
theorem fl_Judge_38 : gFL "CounterDesk$Judge" 38 1 3 10 2 (.array .int) true := ⟨("CounterDesk$Board", gF_Board, 10), rfl, rfl, by decide, gm1 59 rfl rfl, pf_1_3, rfl, rfl, ft_1_3, by decide⟩
theorem fl_Sheet_73 : gFL "CounterDesk$Sheet" 73 1 3 10 2 (.array .int) true := ⟨("CounterDesk$Board", gF_Board, 10), rfl, rfl, by decide, gm1 60 rfl rfl, pf_1_3, rfl, rfl, ft_1_3, by decide⟩
theorem fl_Paper_78 : gFL "CounterDesk$Paper" 78 1 3 10 2 (.array .int) true := ⟨("CounterDesk$Board", gF_Board, 10), rfl, rfl, by decide, gm1 61 rfl rfl, pf_1_3, rfl, rfl, ft_1_3, by decide⟩
theorem fl_Clerk_77 : gFL "CounterDesk$Clerk" 77 1 3 10 2 (.array .int) true := ⟨("CounterDesk$Board", gF_Board, 10), rfl, rfl, by decide, gm1 62 rfl rfl, pf_1_3, rfl, rfl, ft_1_3, by decide⟩
theorem fl_Desk_129 : gFL "CounterDesk" 129 1 3 10 2 (.array .int) true := ⟨("CounterDesk$Board", gF_Board, 10), rfl, rfl, by decide, gm1 63 rfl rfl, pf_1_3, rfl, rfl, ft_1_3, by decide⟩
theorem fl_Board_40 : gFL "CounterDesk$Board" 40 1 4 10 0 (.int) false := ⟨("CounterDesk$Board", gF_Board, 10), rfl, rfl, by decide, gm1 64 rfl rfl, pf_1_4, rfl, rfl, ft_1_4, by decide⟩
theorem fl_Judge_97 : gFL "CounterDesk$Judge" 97 1 4 10 0 (.int) false := ⟨("CounterDesk$Board", gF_Board, 10), rfl, rfl, by decide, gm1 65 rfl rfl, pf_1_4, rfl, rfl, ft_1_4, by decide⟩
theorem fl_Desk_237 : gFL "CounterDesk" 237 1 4 10 0 (.int) false := ⟨("CounterDesk$Board", gF_Board, 10), rfl, rfl, by decide, gm1 66 rfl rfl, pf_1_4, rfl, rfl, ft_1_4, by decide⟩
theorem fl_Board_21 : gFL "CounterDesk$Board" 21 1 5 10 2 (.array .int) true := ⟨("CounterDesk$Board", gF_Board, 10), rfl, rfl, by decide, gm1 67 rfl rfl, pf_1_5, rfl, rfl, ft_1_5, by decide⟩
theorem fl_Judge_100 : gFL "CounterDesk$Judge" 100 1 5 10 2 (.array .int) true := ⟨("CounterDesk$Board", gF_Board, 10), rfl, rfl, by decide, gm1 68 rfl rfl, pf_1_5, rfl, rfl, ft_1_5, by decide⟩
theorem fl_Desk_240 : gFL "CounterDesk" 240 1 5 10 2 (.array .int) true := ⟨("CounterDesk$Board", gF_Board, 10), rfl, rfl, by decide, gm1 69 rfl rfl, pf_1_5, rfl, rfl, ft_1_5, by decide⟩
theorem fl_Board_24 : gFL "CounterDesk$Board" 24 1 6 10 2 (.array .int) true := ⟨("CounterDesk$Board", gF_Board, 10), rfl, rfl, by decide, gm1 70 rfl rfl, pf_1_6, rfl, rfl, ft_1_6, by decide⟩
theorem fl_Judge_106 : gFL "CounterDesk$Judge" 106 1 6 10 2 (.array .int) true := ⟨("CounterDesk$Board", gF_Board, 10), rfl, rfl, by decide, gm1 71 rfl rfl, pf_1_6, rfl, rfl, ft_1_6, by decide⟩
theorem fl_Desk_243 : gFL "CounterDesk" 243 1 6 10 2 (.array .int) true := ⟨("CounterDesk$Board", gF_Board, 10), rfl, rfl, by decide, gm1 72 rfl rfl, pf_1_6, rfl, rfl, ft_1_6, by decide⟩
theorem fl_Board_43 : gFL "CounterDesk$Board" 43 1 7 10 0 (.int) false := ⟨("CounterDesk$Board", gF_Board, 10), rfl, rfl, by decide, gm1 73 rfl rfl, pf_1_7, rfl, rfl, ft_1_7, by decide⟩
theorem fl_Desk_143 : gFL "CounterDesk" 143 1 7 10 0 (.int) false := ⟨("CounterDesk$Board", gF_Board, 10), rfl, rfl, by decide, gm1 74 rfl rfl, pf_1_7, rfl, rfl, ft_1_7, by decide⟩
theorem fl_Board_29 : gFL "CounterDesk$Board" 29 1 8 10 2 (.array (.object "CounterDesk$Text")) true := ⟨("CounterDesk$Board", gF_Board, 10), rfl, rfl, by decide, gm1 75 rfl rfl, pf_1_8, rfl, rfl, ft_1_8, by decide⟩
theorem fl_Desk_150 : gFL "CounterDesk" 150 1 8 10 2 (.array (.object "CounterDesk$Text")) true := ⟨("CounterDesk$Board", gF_Board, 10), rfl, rfl, by decide, gm1 76 rfl rfl, pf_1_8, rfl, rfl, ft_1_8, by decide⟩
theorem fl_Board_33 : gFL "CounterDesk$Board" 33 1 9 10 0 (.int) false := ⟨("CounterDesk$Board", gF_Board, 10), rfl, rfl, by decide, gm1 77 rfl rfl, pf_1_9, rfl, rfl, ft_1_9, by decide⟩
theorem fl_Desk_173 : gFL "CounterDesk" 173 1 9 10 0 (.int) false := ⟨("CounterDesk$Board", gF_Board, 10), rfl, rfl, by decide, gm1 78 rfl rfl, pf_1_9, rfl, rfl, ft_1_9, by decide⟩
theorem cl_Desk_16 : Cond.classLink "CounterDesk" 16 "CounterDesk$Judge" ∈ lw_good := gm1 101 rfl rfl
theorem ln_Desk_18 : ∃ h, ("CounterDesk", 18, f_Judge_init.1, h) ∈ gNm := ⟨"CounterDesk", by decide +kernel⟩
theorem ln_Judge_3 : Cond.methodLink "CounterDesk$Judge" 3 f_Obj_init.1 ∈ lw_good := gm1 106 rfl rfl
theorem cl_Judge_9 : Cond.classLink "CounterDesk$Judge" 9 "CounterDesk$Machine" ∈ lw_good := gm1 107 rfl rfl
theorem ln_Judge_11 : ∃ h, ("CounterDesk$Judge", 11, f_Machine_init.1, h) ∈ gNm := ⟨"CounterDesk", by decide +kernel⟩
theorem ln_Machine_3 : Cond.methodLink "CounterDesk$Machine" 3 f_Obj_init.1 ∈ lw_good := gm1 112 rfl rfl
theorem fl_Machine_9 : gFL "CounterDesk$Machine" 9 5 0 1 2 (.array .int) true := ⟨("CounterDesk$Machine", gF_Machine, 1), rfl, rfl, by decide, gm1 113 rfl rfl, pf_5_0, rfl, rfl, ft_5_0, by decide⟩
theorem fl_Judge_12 : gFL "CounterDesk$Judge" 12 4 0 4 2 (.object "CounterDesk$Machine") true := ⟨("CounterDesk$Judge", gF_Judge, 4), rfl, rfl, by decide, gm1 117 rfl rfl, pf_4_0, rfl, rfl, ft_4_0, by decide⟩
theorem fl_Judge_18 : gFL "CounterDesk$Judge" 18 4 1 4 2 (.array .int) true := ⟨("CounterDesk$Judge", gF_Judge, 4), rfl, rfl, by decide, gm1 118 rfl rfl, pf_4_1, rfl, rfl, ft_4_1, by decide⟩
theorem fl_Judge_22 : gFL "CounterDesk$Judge" 22 4 2 4 0 (.boolean) false := ⟨("CounterDesk$Judge", gF_Judge, 4), rfl, rfl, by decide, gm1 119 rfl rfl, pf_4_2, rfl, rfl, ft_4_2, by decide⟩
theorem fl_Judge_31 : gFL "CounterDesk$Judge" 31 4 3 4 0 (.int) false := ⟨("CounterDesk$Judge", gF_Judge, 4), rfl, rfl, by decide, gm1 120 rfl rfl, pf_4_3, rfl, rfl, ft_4_3, by decide⟩
theorem cl_Desk_23 : Cond.classLink "CounterDesk" 23 "CounterDesk$Clerk" ∈ lw_good := gm1 130 rfl rfl
theorem ln_Desk_25 : Cond.methodLink "CounterDesk" 25 f_Clerk_init.1 ∈ lw_good := gm1 132 rfl rfl
theorem ln_Clerk_3 : Cond.methodLink "CounterDesk$Clerk" 3 f_Obj_init.1 ∈ lw_good := gm1 135 rfl rfl
theorem cl_Clerk_9 : Cond.classLink "CounterDesk$Clerk" 9 "CounterDesk$Trail" ∈ lw_good := gm1 136 rfl rfl
theorem ln_Clerk_11 : ∃ h, ("CounterDesk$Clerk", 11, f_Trail_init.1, h) ∈ gNm := ⟨"CounterDesk", by decide +kernel⟩
theorem ln_Trail_3 : Cond.methodLink "CounterDesk$Trail" 3 f_Obj_init.1 ∈ lw_good := gm1 141 rfl rfl
theorem fl_Trail_9 : gFL "CounterDesk$Trail" 9 11 0 4 2 (.array .int) true := ⟨("CounterDesk$Trail", gF_Trail, 4), rfl, rfl, by decide, gm1 142 rfl rfl, pf_11_0, rfl, rfl, ft_11_0, by decide⟩
theorem fl_Clerk_89 : gFL "CounterDesk$Clerk" 89 11 0 4 2 (.array .int) true := ⟨("CounterDesk$Trail", gF_Trail, 4), rfl, rfl, by decide, gm1 143 rfl rfl, pf_11_0, rfl, rfl, ft_11_0, by decide⟩
theorem fl_Trail_15 : gFL "CounterDesk$Trail" 15 11 1 4 2 (.array .int) true := ⟨("CounterDesk$Trail", gF_Trail, 4), rfl, rfl, by decide, gm1 144 rfl rfl, pf_11_1, rfl, rfl, ft_11_1, by decide⟩
theorem fl_Clerk_92 : gFL "CounterDesk$Clerk" 92 11 1 4 2 (.array .int) true := ⟨("CounterDesk$Trail", gF_Trail, 4), rfl, rfl, by decide, gm1 145 rfl rfl, pf_11_1, rfl, rfl, ft_11_1, by decide⟩
theorem fl_Trail_18 : gFL "CounterDesk$Trail" 18 11 2 4 2 (.array .int) true := ⟨("CounterDesk$Trail", gF_Trail, 4), rfl, rfl, by decide, gm1 146 rfl rfl, pf_11_2, rfl, rfl, ft_11_2, by decide⟩
theorem fl_Clerk_94 : gFL "CounterDesk$Clerk" 94 11 2 4 2 (.array .int) true := ⟨("CounterDesk$Trail", gF_Trail, 4), rfl, rfl, by decide, gm1 147 rfl rfl, pf_11_2, rfl, rfl, ft_11_2, by decide⟩
theorem fl_Trail_21 : gFL "CounterDesk$Trail" 21 11 3 4 0 (.int) false := ⟨("CounterDesk$Trail", gF_Trail, 4), rfl, rfl, by decide, gm1 148 rfl rfl, pf_11_3, rfl, rfl, ft_11_3, by decide⟩
theorem fl_Desk_98 : gFL "CounterDesk" 98 11 3 4 0 (.int) false := ⟨("CounterDesk$Trail", gF_Trail, 4), rfl, rfl, by decide, gm1 149 rfl rfl, pf_11_3, rfl, rfl, ft_11_3, by decide⟩
theorem fl_Clerk_86 : gFL "CounterDesk$Clerk" 86 11 3 4 0 (.int) false := ⟨("CounterDesk$Trail", gF_Trail, 4), rfl, rfl, by decide, gm1 150 rfl rfl, pf_11_3, rfl, rfl, ft_11_3, by decide⟩
theorem cl_Clerk_22 : Cond.classLink "CounterDesk$Clerk" 22 "CounterDesk$Machine" ∈ lw_good := gm1 160 rfl rfl
theorem ln_Clerk_24 : ∃ h, ("CounterDesk$Clerk", 24, f_Machine_init.1, h) ∈ gNm := ⟨"CounterDesk", by decide +kernel⟩
theorem cl_Clerk_29 : Cond.classLink "CounterDesk$Clerk" 29 "CounterDesk$Board" ∈ lw_good := gm1 162 rfl rfl
theorem ln_Clerk_31 : Cond.methodLink "CounterDesk$Clerk" 31 f_Board_init.1 ∈ lw_good := gm1 163 rfl rfl
theorem fl_Clerk_12 : gFL "CounterDesk$Clerk" 12 2 0 10 2 (.object "CounterDesk$Trail") true := ⟨("CounterDesk$Clerk", gF_Clerk, 10), rfl, rfl, by decide, gm1 164 rfl rfl, pf_2_0, rfl, rfl, ft_2_0, by decide⟩
theorem fl_Desk_94 : gFL "CounterDesk" 94 2 0 10 2 (.object "CounterDesk$Trail") true := ⟨("CounterDesk$Clerk", gF_Clerk, 10), rfl, rfl, by decide, gm1 165 rfl rfl, pf_2_0, rfl, rfl, ft_2_0, by decide⟩
theorem fl_Clerk_18 : gFL "CounterDesk$Clerk" 18 2 1 10 0 (.int) false := ⟨("CounterDesk$Clerk", gF_Clerk, 10), rfl, rfl, by decide, gm1 166 rfl rfl, pf_2_1, rfl, rfl, ft_2_1, by decide⟩
theorem fl_Desk_163 : gFL "CounterDesk" 163 2 1 10 0 (.int) false := ⟨("CounterDesk$Clerk", gF_Clerk, 10), rfl, rfl, by decide, gm1 167 rfl rfl, pf_2_1, rfl, rfl, ft_2_1, by decide⟩
theorem fl_Clerk_43 : gFL "CounterDesk$Clerk" 43 2 2 10 2 (.object "CounterDesk$Board") true := ⟨("CounterDesk$Clerk", gF_Clerk, 10), rfl, rfl, by decide, gm1 168 rfl rfl, pf_2_2, rfl, rfl, ft_2_2, by decide⟩
theorem fl_Clerk_46 : gFL "CounterDesk$Clerk" 46 2 3 10 2 (.object "CounterDesk$Judge") true := ⟨("CounterDesk$Clerk", gF_Clerk, 10), rfl, rfl, by decide, gm1 169 rfl rfl, pf_2_3, rfl, rfl, ft_2_3, by decide⟩
theorem fl_Clerk_25 : gFL "CounterDesk$Clerk" 25 2 4 10 2 (.object "CounterDesk$Machine") true := ⟨("CounterDesk$Clerk", gF_Clerk, 10), rfl, rfl, by decide, gm1 170 rfl rfl, pf_2_4, rfl, rfl, ft_2_4, by decide⟩
theorem fl_Clerk_32 : gFL "CounterDesk$Clerk" 32 2 5 10 2 (.object "CounterDesk$Board") true := ⟨("CounterDesk$Clerk", gF_Clerk, 10), rfl, rfl, by decide, gm1 171 rfl rfl, pf_2_5, rfl, rfl, ft_2_5, by decide⟩
theorem fl_Clerk_36 : gFL "CounterDesk$Clerk" 36 2 6 10 2 (.object "CounterDesk$Trail") true := ⟨("CounterDesk$Clerk", gF_Clerk, 10), rfl, rfl, by decide, gm1 172 rfl rfl, pf_2_6, rfl, rfl, ft_2_6, by decide⟩
theorem fl_Clerk_39 : gFL "CounterDesk$Clerk" 39 2 7 10 2 (.array .int) true := ⟨("CounterDesk$Clerk", gF_Clerk, 10), rfl, rfl, by decide, gm1 173 rfl rfl, pf_2_7, rfl, rfl, ft_2_7, by decide⟩
theorem fl_Clerk_104 : gFL "CounterDesk$Clerk" 104 2 8 10 0 (.int) false := ⟨("CounterDesk$Clerk", gF_Clerk, 10), rfl, rfl, by decide, gm1 174 rfl rfl, pf_2_8, rfl, rfl, ft_2_8, by decide⟩
theorem fl_Clerk_107 : gFL "CounterDesk$Clerk" 107 2 9 10 0 (.int) false := ⟨("CounterDesk$Clerk", gF_Clerk, 10), rfl, rfl, by decide, gm1 175 rfl rfl, pf_2_9, rfl, rfl, ft_2_9, by decide⟩
theorem cl_Desk_32 : Cond.classLink "CounterDesk" 32 "CounterDesk$Paper" ∈ lw_good := gm1 197 rfl rfl
theorem ln_Desk_34 : Cond.methodLink "CounterDesk" 34 f_Paper_init.1 ∈ lw_good := gm1 199 rfl rfl
theorem ln_Paper_3 : Cond.methodLink "CounterDesk$Paper" 3 f_Obj_init.1 ∈ lw_good := gm1 202 rfl rfl
theorem cl_Paper_9 : Cond.classLink "CounterDesk$Paper" 9 "CounterDesk$Sheet" ∈ lw_good := gm1 203 rfl rfl
theorem ln_Paper_11 : Cond.methodLink "CounterDesk$Paper" 11 f_Sheet_init.1 ∈ lw_good := gm1 205 rfl rfl
theorem ln_Sheet_3 : Cond.methodLink "CounterDesk$Sheet" 3 f_Obj_init.1 ∈ lw_good := gm1 208 rfl rfl
theorem cl_Sheet_9 : Cond.classLink "CounterDesk$Sheet" 9 "[[I" ∈ lw_good := gm1 209 rfl rfl
theorem cl_Sheet_20 : Cond.classLink "CounterDesk$Sheet" 20 "CounterDesk$Text" ∈ lw_good := gm1 211 rfl rfl
theorem cn_Sheet_30 : Cond.constantLong "CounterDesk$Sheet" 30 (Int64.ofInt (-1)) ∈ lw_good := gm1 212 rfl rfl
theorem fl_Sheet_11 : gFL "CounterDesk$Sheet" 11 8 0 4 2 (.array (.array .int)) true := ⟨("CounterDesk$Sheet", gF_Sheet, 4), rfl, rfl, by decide, gm1 213 rfl rfl, pf_8_0, rfl, rfl, ft_8_0, by decide⟩
theorem fl_Paper_95 : gFL "CounterDesk$Paper" 95 8 0 4 2 (.array (.array .int)) true := ⟨("CounterDesk$Sheet", gF_Sheet, 4), rfl, rfl, by decide, gm1 214 rfl rfl, pf_8_0, rfl, rfl, ft_8_0, by decide⟩
theorem fl_Sheet_26 : gFL "CounterDesk$Sheet" 26 8 1 4 0 (.int) true := ⟨("CounterDesk$Sheet", gF_Sheet, 4), rfl, rfl, by decide, gm1 215 rfl rfl, pf_8_1, rfl, rfl, ft_8_1, by decide⟩
theorem fl_Sheet_16 : gFL "CounterDesk$Sheet" 16 8 2 4 2 (.array .long) true := ⟨("CounterDesk$Sheet", gF_Sheet, 4), rfl, rfl, by decide, gm1 216 rfl rfl, pf_8_2, rfl, rfl, ft_8_2, by decide⟩
theorem fl_Sheet_22 : gFL "CounterDesk$Sheet" 22 8 3 4 2 (.array (.object "CounterDesk$Text")) true := ⟨("CounterDesk$Sheet", gF_Sheet, 4), rfl, rfl, by decide, gm1 217 rfl rfl, pf_8_3, rfl, rfl, ft_8_3, by decide⟩
theorem cl_Paper_26 : Cond.classLink "CounterDesk$Paper" 26 "[[I" ∈ lw_good := gm1 228 rfl rfl
theorem cl_Paper_34 : Cond.classLink "CounterDesk$Paper" 34 "[[J" ∈ lw_good := gm1 229 rfl rfl
theorem cl_Paper_49 : Cond.classLink "CounterDesk$Paper" 49 "CounterDesk$Board" ∈ lw_good := gm1 231 rfl rfl
theorem ln_Paper_51 : Cond.methodLink "CounterDesk$Paper" 51 f_Board_init.1 ∈ lw_good := gm1 232 rfl rfl
theorem fl_Paper_106 : gFL "CounterDesk$Paper" 106 6 0 13 0 (.int) false := ⟨("CounterDesk$Paper", gF_Paper, 13), rfl, rfl, by decide, gm1 233 rfl rfl, pf_6_0, rfl, rfl, ft_6_0, by decide⟩
theorem fl_Desk_221 : gFL "CounterDesk" 221 6 0 13 0 (.int) false := ⟨("CounterDesk$Paper", gF_Paper, 13), rfl, rfl, by decide, gm1 234 rfl rfl, pf_6_0, rfl, rfl, ft_6_0, by decide⟩
theorem fl_Paper_123 : gFL "CounterDesk$Paper" 123 6 1 13 0 (.int) false := ⟨("CounterDesk$Paper", gF_Paper, 13), rfl, rfl, by decide, gm1 235 rfl rfl, pf_6_1, rfl, rfl, ft_6_1, by decide⟩
theorem fl_Desk_227 : gFL "CounterDesk" 227 6 1 13 0 (.int) false := ⟨("CounterDesk$Paper", gF_Paper, 13), rfl, rfl, by decide, gm1 236 rfl rfl, pf_6_1, rfl, rfl, ft_6_1, by decide⟩
theorem fl_Paper_56 : gFL "CounterDesk$Paper" 56 6 2 13 2 (.object "CounterDesk$Judge") true := ⟨("CounterDesk$Paper", gF_Paper, 13), rfl, rfl, by decide, gm1 237 rfl rfl, pf_6_2, rfl, rfl, ft_6_2, by decide⟩
theorem fl_Paper_14 : gFL "CounterDesk$Paper" 14 6 3 13 2 (.object "CounterDesk$Sheet") true := ⟨("CounterDesk$Paper", gF_Paper, 13), rfl, rfl, by decide, gm1 238 rfl rfl, pf_6_3, rfl, rfl, ft_6_3, by decide⟩
theorem fl_Paper_20 : gFL "CounterDesk$Paper" 20 6 4 13 2 (.object "CounterDesk$Sheet") true := ⟨("CounterDesk$Paper", gF_Paper, 13), rfl, rfl, by decide, gm1 239 rfl rfl, pf_6_4, rfl, rfl, ft_6_4, by decide⟩
theorem fl_Paper_23 : gFL "CounterDesk$Paper" 23 6 5 13 2 (.object "CounterDesk$Sheet") true := ⟨("CounterDesk$Paper", gF_Paper, 13), rfl, rfl, by decide, gm2 0 rfl rfl, pf_6_5, rfl, rfl, ft_6_5, by decide⟩
theorem fl_Paper_28 : gFL "CounterDesk$Paper" 28 6 6 13 2 (.array (.array .int)) true := ⟨("CounterDesk$Paper", gF_Paper, 13), rfl, rfl, by decide, gm2 1 rfl rfl, pf_6_6, rfl, rfl, ft_6_6, by decide⟩
theorem fl_Paper_31 : gFL "CounterDesk$Paper" 31 6 7 13 2 (.array (.array .int)) true := ⟨("CounterDesk$Paper", gF_Paper, 13), rfl, rfl, by decide, gm2 2 rfl rfl, pf_6_7, rfl, rfl, ft_6_7, by decide⟩
theorem fl_Paper_36 : gFL "CounterDesk$Paper" 36 6 8 13 2 (.array (.array .long)) true := ⟨("CounterDesk$Paper", gF_Paper, 13), rfl, rfl, by decide, gm2 3 rfl rfl, pf_6_8, rfl, rfl, ft_6_8, by decide⟩
theorem fl_Paper_39 : gFL "CounterDesk$Paper" 39 6 9 13 2 (.array (.array .int)) true := ⟨("CounterDesk$Paper", gF_Paper, 13), rfl, rfl, by decide, gm2 4 rfl rfl, pf_6_9, rfl, rfl, ft_6_9, by decide⟩
theorem fl_Paper_42 : gFL "CounterDesk$Paper" 42 6 10 13 2 (.array .int) true := ⟨("CounterDesk$Paper", gF_Paper, 13), rfl, rfl, by decide, gm2 5 rfl rfl, pf_6_10, rfl, rfl, ft_6_10, by decide⟩
theorem fl_Paper_46 : gFL "CounterDesk$Paper" 46 6 11 13 2 (.array .int) true := ⟨("CounterDesk$Paper", gF_Paper, 13), rfl, rfl, by decide, gm2 6 rfl rfl, pf_6_11, rfl, rfl, ft_6_11, by decide⟩
theorem fl_Paper_52 : gFL "CounterDesk$Paper" 52 6 12 13 2 (.object "CounterDesk$Board") true := ⟨("CounterDesk$Paper", gF_Paper, 13), rfl, rfl, by decide, gm2 7 rfl rfl, pf_6_12, rfl, rfl, ft_6_12, by decide⟩
theorem cl_Desk_41 : Cond.classLink "CounterDesk" 41 "CounterDesk$Draws" ∈ lw_good := gm2 35 rfl rfl
theorem ln_Desk_43 : ∃ h, ("CounterDesk", 43, f_Draws_init.1, h) ∈ gNm := ⟨"CounterDesk", by decide +kernel⟩
theorem ln_Draws_3 : Cond.methodLink "CounterDesk$Draws" 3 f_Obj_init.1 ∈ lw_good := gm2 40 rfl rfl
theorem cl_Draws_9 : Cond.classLink "CounterDesk$Draws" 9 "CounterDesk$Board" ∈ lw_good := gm2 41 rfl rfl
theorem ln_Draws_11 : Cond.methodLink "CounterDesk$Draws" 11 f_Board_init.1 ∈ lw_good := gm2 42 rfl rfl
theorem fl_Draws_12 : gFL "CounterDesk$Draws" 12 3 0 3 2 (.object "CounterDesk$Board") true := ⟨("CounterDesk$Draws", gF_Draws, 3), rfl, rfl, by decide, gm2 43 rfl rfl, pf_3_0, rfl, rfl, ft_3_0, by decide⟩
theorem fl_Desk_268 : gFL "CounterDesk" 268 3 0 3 2 (.object "CounterDesk$Board") true := ⟨("CounterDesk$Draws", gF_Draws, 3), rfl, rfl, by decide, gm2 44 rfl rfl, pf_3_0, rfl, rfl, ft_3_0, by decide⟩
theorem fl_Draws_22 : gFL "CounterDesk$Draws" 22 3 1 3 0 (.boolean) false := ⟨("CounterDesk$Draws", gF_Draws, 3), rfl, rfl, by decide, gm2 45 rfl rfl, pf_3_1, rfl, rfl, ft_3_1, by decide⟩
theorem fl_Desk_264 : gFL "CounterDesk" 264 3 1 3 0 (.boolean) false := ⟨("CounterDesk$Draws", gF_Draws, 3), rfl, rfl, by decide, gm2 46 rfl rfl, pf_3_1, rfl, rfl, ft_3_1, by decide⟩
theorem fl_Draws_26 : gFL "CounterDesk$Draws" 26 3 2 3 1 (.long) false := ⟨("CounterDesk$Draws", gF_Draws, 3), rfl, rfl, by decide, gm2 47 rfl rfl, pf_3_2, rfl, rfl, ft_3_2, by decide⟩
theorem cl_Desk_48 : Cond.classLink "CounterDesk" 48 "CounterDesk$Tape" ∈ lw_good := gm2 55 rfl rfl
theorem ln_Desk_50 : ∃ h, ("CounterDesk", 50, f_Tape_init.1, h) ∈ gNm := ⟨"CounterDesk", by decide +kernel⟩
theorem ln_Tape_3 : Cond.methodLink "CounterDesk$Tape" 3 f_Obj_init.1 ∈ lw_good := gm2 60 rfl rfl
theorem fl_Tape_9 : gFL "CounterDesk$Tape" 9 9 0 2 2 (.array .int) true := ⟨("CounterDesk$Tape", gF_Tape, 2), rfl, rfl, by decide, gm2 61 rfl rfl, pf_9_0, rfl, rfl, ft_9_0, by decide⟩
theorem fl_Reader_22 : gFL "CounterDesk$Reader" 22 9 0 2 2 (.array .int) true := ⟨("CounterDesk$Tape", gF_Tape, 2), rfl, rfl, by decide, gm2 62 rfl rfl, pf_9_0, rfl, rfl, ft_9_0, by decide⟩
theorem fl_Desk_140 : gFL "CounterDesk" 140 9 0 2 2 (.array .int) true := ⟨("CounterDesk$Tape", gF_Tape, 2), rfl, rfl, by decide, gm2 63 rfl rfl, pf_9_0, rfl, rfl, ft_9_0, by decide⟩
theorem fl_Tape_15 : gFL "CounterDesk$Tape" 15 9 1 2 0 (.int) false := ⟨("CounterDesk$Tape", gF_Tape, 2), rfl, rfl, by decide, gm2 64 rfl rfl, pf_9_1, rfl, rfl, ft_9_1, by decide⟩
theorem fl_Reader_31 : gFL "CounterDesk$Reader" 31 9 1 2 0 (.int) false := ⟨("CounterDesk$Tape", gF_Tape, 2), rfl, rfl, by decide, gm2 65 rfl rfl, pf_9_1, rfl, rfl, ft_9_1, by decide⟩
theorem fl_Desk_132 : gFL "CounterDesk" 132 9 1 2 0 (.int) false := ⟨("CounterDesk$Tape", gF_Tape, 2), rfl, rfl, by decide, gm2 66 rfl rfl, pf_9_1, rfl, rfl, ft_9_1, by decide⟩
theorem cl_Desk_55 : Cond.classLink "CounterDesk" 55 "CounterDesk$Reader" ∈ lw_good := gm2 72 rfl rfl
theorem ln_Desk_57 : ∃ h, ("CounterDesk", 57, f_Reader_init.1, h) ∈ gNm := ⟨"CounterDesk", by decide +kernel⟩
theorem ln_Reader_3 : Cond.methodLink "CounterDesk$Reader" 3 f_Obj_init.1 ∈ lw_good := gm2 77 rfl rfl
theorem cl_Reader_9 : Cond.classLink "CounterDesk$Reader" 9 "CounterDesk$Text" ∈ lw_good := gm2 78 rfl rfl
theorem ln_Reader_11 : Cond.methodLink "CounterDesk$Reader" 11 f_Text_init.1 ∈ lw_good := gm2 80 rfl rfl
theorem ln_Text_3 : Cond.methodLink "CounterDesk$Text" 3 f_Obj_init.1 ∈ lw_good := gm2 83 rfl rfl
theorem fl_Text_27 : gFL "CounterDesk$Text" 27 10 0 8 0 (.int) false := ⟨("CounterDesk$Text", gF_Text, 8), rfl, rfl, by decide, gm2 84 rfl rfl, pf_10_0, rfl, rfl, ft_10_0, by decide⟩
theorem fl_Reader_46 : gFL "CounterDesk$Reader" 46 10 0 8 0 (.int) false := ⟨("CounterDesk$Text", gF_Text, 8), rfl, rfl, by decide, gm2 85 rfl rfl, pf_10_0, rfl, rfl, ft_10_0, by decide⟩
theorem fl_Judge_41 : gFL "CounterDesk$Judge" 41 10 0 8 0 (.int) false := ⟨("CounterDesk$Text", gF_Text, 8), rfl, rfl, by decide, gm2 86 rfl rfl, pf_10_0, rfl, rfl, ft_10_0, by decide⟩
theorem fl_Clerk_110 : gFL "CounterDesk$Clerk" 110 10 0 8 0 (.int) false := ⟨("CounterDesk$Text", gF_Text, 8), rfl, rfl, by decide, gm2 87 rfl rfl, pf_10_0, rfl, rfl, ft_10_0, by decide⟩
theorem fl_Text_31 : gFL "CounterDesk$Text" 31 10 1 8 0 (.int) false := ⟨("CounterDesk$Text", gF_Text, 8), rfl, rfl, by decide, gm2 88 rfl rfl, pf_10_1, rfl, rfl, ft_10_1, by decide⟩
theorem fl_Reader_49 : gFL "CounterDesk$Reader" 49 10 1 8 0 (.int) false := ⟨("CounterDesk$Text", gF_Text, 8), rfl, rfl, by decide, gm2 89 rfl rfl, pf_10_1, rfl, rfl, ft_10_1, by decide⟩
theorem fl_Text_34 : gFL "CounterDesk$Text" 34 10 2 8 0 (.boolean) false := ⟨("CounterDesk$Text", gF_Text, 8), rfl, rfl, by decide, gm2 90 rfl rfl, pf_10_2, rfl, rfl, ft_10_2, by decide⟩
theorem fl_Reader_50 : gFL "CounterDesk$Reader" 50 10 2 8 0 (.boolean) false := ⟨("CounterDesk$Text", gF_Text, 8), rfl, rfl, by decide, gm2 91 rfl rfl, pf_10_2, rfl, rfl, ft_10_2, by decide⟩
theorem fl_Sheet_46 : gFL "CounterDesk$Sheet" 46 10 2 8 0 (.boolean) false := ⟨("CounterDesk$Text", gF_Text, 8), rfl, rfl, by decide, gm2 92 rfl rfl, pf_10_2, rfl, rfl, ft_10_2, by decide⟩
theorem fl_Text_9 : gFL "CounterDesk$Text" 9 10 3 8 2 (.array .int) true := ⟨("CounterDesk$Text", gF_Text, 8), rfl, rfl, by decide, gm2 93 rfl rfl, pf_10_3, rfl, rfl, ft_10_3, by decide⟩
theorem fl_Judge_46 : gFL "CounterDesk$Judge" 46 10 3 8 2 (.array .int) true := ⟨("CounterDesk$Text", gF_Text, 8), rfl, rfl, by decide, gm2 94 rfl rfl, pf_10_3, rfl, rfl, ft_10_3, by decide⟩
theorem fl_Clerk_132 : gFL "CounterDesk$Clerk" 132 10 3 8 2 (.array .int) true := ⟨("CounterDesk$Text", gF_Text, 8), rfl, rfl, by decide, gm2 95 rfl rfl, pf_10_3, rfl, rfl, ft_10_3, by decide⟩
theorem fl_Reader_118 : gFL "CounterDesk$Reader" 118 10 3 8 2 (.array .int) true := ⟨("CounterDesk$Text", gF_Text, 8), rfl, rfl, by decide, gm2 96 rfl rfl, pf_10_3, rfl, rfl, ft_10_3, by decide⟩
theorem fl_Text_15 : gFL "CounterDesk$Text" 15 10 4 8 2 (.array .int) true := ⟨("CounterDesk$Text", gF_Text, 8), rfl, rfl, by decide, gm2 97 rfl rfl, pf_10_4, rfl, rfl, ft_10_4, by decide⟩
theorem fl_Reader_59 : gFL "CounterDesk$Reader" 59 10 4 8 2 (.array .int) true := ⟨("CounterDesk$Text", gF_Text, 8), rfl, rfl, by decide, gm2 98 rfl rfl, pf_10_4, rfl, rfl, ft_10_4, by decide⟩
theorem fl_Clerk_115 : gFL "CounterDesk$Clerk" 115 10 4 8 2 (.array .int) true := ⟨("CounterDesk$Text", gF_Text, 8), rfl, rfl, by decide, gm2 99 rfl rfl, pf_10_4, rfl, rfl, ft_10_4, by decide⟩
theorem fl_Text_18 : gFL "CounterDesk$Text" 18 10 5 8 2 (.array .int) true := ⟨("CounterDesk$Text", gF_Text, 8), rfl, rfl, by decide, gm2 100 rfl rfl, pf_10_5, rfl, rfl, ft_10_5, by decide⟩
theorem fl_Machine_15 : gFL "CounterDesk$Machine" 15 10 5 8 2 (.array .int) true := ⟨("CounterDesk$Text", gF_Text, 8), rfl, rfl, by decide, gm2 101 rfl rfl, pf_10_5, rfl, rfl, ft_10_5, by decide⟩
theorem fl_Reader_53 : gFL "CounterDesk$Reader" 53 10 5 8 2 (.array .int) true := ⟨("CounterDesk$Text", gF_Text, 8), rfl, rfl, by decide, gm2 102 rfl rfl, pf_10_5, rfl, rfl, ft_10_5, by decide⟩
theorem fl_Text_21 : gFL "CounterDesk$Text" 21 10 6 8 2 (.array .int) true := ⟨("CounterDesk$Text", gF_Text, 8), rfl, rfl, by decide, gm2 103 rfl rfl, pf_10_6, rfl, rfl, ft_10_6, by decide⟩
theorem fl_Machine_20 : gFL "CounterDesk$Machine" 20 10 6 8 2 (.array .int) true := ⟨("CounterDesk$Text", gF_Text, 8), rfl, rfl, by decide, gm2 104 rfl rfl, pf_10_6, rfl, rfl, ft_10_6, by decide⟩
theorem fl_Reader_209 : gFL "CounterDesk$Reader" 209 10 6 8 2 (.array .int) true := ⟨("CounterDesk$Text", gF_Text, 8), rfl, rfl, by decide, gm2 105 rfl rfl, pf_10_6, rfl, rfl, ft_10_6, by decide⟩
theorem fl_Text_24 : gFL "CounterDesk$Text" 24 10 7 8 2 (.array .int) true := ⟨("CounterDesk$Text", gF_Text, 8), rfl, rfl, by decide, gm2 106 rfl rfl, pf_10_7, rfl, rfl, ft_10_7, by decide⟩
theorem fl_Machine_23 : gFL "CounterDesk$Machine" 23 10 7 8 2 (.array .int) true := ⟨("CounterDesk$Text", gF_Text, 8), rfl, rfl, by decide, gm2 107 rfl rfl, pf_10_7, rfl, rfl, ft_10_7, by decide⟩
theorem fl_Reader_159 : gFL "CounterDesk$Reader" 159 10 7 8 2 (.array .int) true := ⟨("CounterDesk$Text", gF_Text, 8), rfl, rfl, by decide, gm2 108 rfl rfl, pf_10_7, rfl, rfl, ft_10_7, by decide⟩
theorem fl_Reader_12 : gFL "CounterDesk$Reader" 12 7 0 9 2 (.object "CounterDesk$Text") true := ⟨("CounterDesk$Reader", gF_Reader, 9), rfl, rfl, by decide, gm2 126 rfl rfl, pf_7_0, rfl, rfl, ft_7_0, by decide⟩
theorem fl_Desk_156 : gFL "CounterDesk" 156 7 0 9 2 (.object "CounterDesk$Text") true := ⟨("CounterDesk$Reader", gF_Reader, 9), rfl, rfl, by decide, gm2 127 rfl rfl, pf_7_0, rfl, rfl, ft_7_0, by decide⟩
theorem fl_Reader_18 : gFL "CounterDesk$Reader" 18 7 1 9 2 (.array .int) true := ⟨("CounterDesk$Reader", gF_Reader, 9), rfl, rfl, by decide, gm2 128 rfl rfl, pf_7_1, rfl, rfl, ft_7_1, by decide⟩
theorem fl_Reader_35 : gFL "CounterDesk$Reader" 35 7 2 9 0 (.int) false := ⟨("CounterDesk$Reader", gF_Reader, 9), rfl, rfl, by decide, gm2 129 rfl rfl, pf_7_2, rfl, rfl, ft_7_2, by decide⟩
theorem fl_Reader_36 : gFL "CounterDesk$Reader" 36 7 3 9 0 (.boolean) false := ⟨("CounterDesk$Reader", gF_Reader, 9), rfl, rfl, by decide, gm2 130 rfl rfl, pf_7_3, rfl, rfl, ft_7_3, by decide⟩
theorem fl_Reader_75 : gFL "CounterDesk$Reader" 75 7 4 9 0 (.int) false := ⟨("CounterDesk$Reader", gF_Reader, 9), rfl, rfl, by decide, gm2 131 rfl rfl, pf_7_4, rfl, rfl, ft_7_4, by decide⟩
theorem fl_Reader_72 : gFL "CounterDesk$Reader" 72 7 5 9 0 (.int) false := ⟨("CounterDesk$Reader", gF_Reader, 9), rfl, rfl, by decide, gm2 132 rfl rfl, pf_7_5, rfl, rfl, ft_7_5, by decide⟩
theorem fl_Reader_40 : gFL "CounterDesk$Reader" 40 7 6 9 0 (.int) false := ⟨("CounterDesk$Reader", gF_Reader, 9), rfl, rfl, by decide, gm2 133 rfl rfl, pf_7_6, rfl, rfl, ft_7_6, by decide⟩
theorem fl_Reader_82 : gFL "CounterDesk$Reader" 82 7 7 9 0 (.int) false := ⟨("CounterDesk$Reader", gF_Reader, 9), rfl, rfl, by decide, gm2 134 rfl rfl, pf_7_7, rfl, rfl, ft_7_7, by decide⟩
theorem fl_Reader_43 : gFL "CounterDesk$Reader" 43 7 8 9 0 (.int) false := ⟨("CounterDesk$Reader", gF_Reader, 9), rfl, rfl, by decide, gm2 135 rfl rfl, pf_7_8, rfl, rfl, ft_7_8, by decide⟩
theorem fl_Desk_12 : gFL "CounterDesk" 12 0 0 14 2 (.object "CounterDesk$Board") true := ⟨("CounterDesk", gF_Desk, 14), rfl, rfl, by decide, gm2 156 rfl rfl, pf_0_0, rfl, rfl, ft_0_0, by decide⟩
theorem fl_Desk_19 : gFL "CounterDesk" 19 0 1 14 2 (.object "CounterDesk$Judge") true := ⟨("CounterDesk", gF_Desk, 14), rfl, rfl, by decide, gm2 157 rfl rfl, pf_0_1, rfl, rfl, ft_0_1, by decide⟩
theorem fl_Desk_28 : gFL "CounterDesk" 28 0 2 14 2 (.object "CounterDesk$Clerk") true := ⟨("CounterDesk", gF_Desk, 14), rfl, rfl, by decide, gm2 158 rfl rfl, pf_0_2, rfl, rfl, ft_0_2, by decide⟩
theorem fl_Desk_37 : gFL "CounterDesk" 37 0 3 14 2 (.object "CounterDesk$Paper") true := ⟨("CounterDesk", gF_Desk, 14), rfl, rfl, by decide, gm2 159 rfl rfl, pf_0_3, rfl, rfl, ft_0_3, by decide⟩
theorem fl_Desk_44 : gFL "CounterDesk" 44 0 4 14 2 (.object "CounterDesk$Draws") true := ⟨("CounterDesk", gF_Desk, 14), rfl, rfl, by decide, gm2 160 rfl rfl, pf_0_4, rfl, rfl, ft_0_4, by decide⟩
theorem fl_Desk_51 : gFL "CounterDesk" 51 0 5 14 2 (.object "CounterDesk$Tape") true := ⟨("CounterDesk", gF_Desk, 14), rfl, rfl, by decide, gm2 161 rfl rfl, pf_0_5, rfl, rfl, ft_0_5, by decide⟩
theorem fl_Desk_58 : gFL "CounterDesk" 58 0 6 14 2 (.object "CounterDesk$Reader") true := ⟨("CounterDesk", gF_Desk, 14), rfl, rfl, by decide, gm2 162 rfl rfl, pf_0_6, rfl, rfl, ft_0_6, by decide⟩
theorem fl_Desk_62 : gFL "CounterDesk" 62 0 7 14 2 (.array (.object "CounterDesk$Board")) true := ⟨("CounterDesk", gF_Desk, 14), rfl, rfl, by decide, gm2 163 rfl rfl, pf_0_7, rfl, rfl, ft_0_7, by decide⟩
theorem fl_Desk_66 : gFL "CounterDesk" 66 0 8 14 2 (.array .boolean) true := ⟨("CounterDesk", gF_Desk, 14), rfl, rfl, by decide, gm2 164 rfl rfl, pf_0_8, rfl, rfl, ft_0_8, by decide⟩
theorem fl_Desk_70 : gFL "CounterDesk" 70 0 9 14 2 (.array .int) true := ⟨("CounterDesk", gF_Desk, 14), rfl, rfl, by decide, gm2 165 rfl rfl, pf_0_9, rfl, rfl, ft_0_9, by decide⟩
theorem fl_Desk_74 : gFL "CounterDesk" 74 0 10 14 2 (.array .long) true := ⟨("CounterDesk", gF_Desk, 14), rfl, rfl, by decide, gm2 166 rfl rfl, pf_0_10, rfl, rfl, ft_0_10, by decide⟩
theorem fl_Desk_137 : gFL "CounterDesk" 137 0 11 14 0 (.int) false := ⟨("CounterDesk", gF_Desk, 14), rfl, rfl, by decide, gm2 167 rfl rfl, pf_0_11, rfl, rfl, ft_0_11, by decide⟩
theorem fl_Desk_78 : gFL "CounterDesk" 78 0 12 14 0 (.int) false := ⟨("CounterDesk", gF_Desk, 14), rfl, rfl, by decide, gm2 168 rfl rfl, pf_0_12, rfl, rfl, ft_0_12, by decide⟩
theorem fl_Desk_277 : gFL "CounterDesk" 277 0 13 14 0 (.int) false := ⟨("CounterDesk", gF_Desk, 14), rfl, rfl, by decide, gm2 169 rfl rfl, pf_0_13, rfl, rfl, ft_0_13, by decide⟩
theorem ln_Law_13 : Cond.methodLink "CounterDeskLaw" 13 f_Desk_note.1 ∈ lw_good := gm2 200 rfl rfl
theorem ln_Desk_82 : Cond.methodLink "CounterDesk" 82 f_Desk_isPitch.1 ∈ lw_good := gm2 204 rfl rfl
theorem ln_Desk_86 : Cond.methodLink "CounterDesk" 86 f_Desk_answer.1 ∈ lw_good := gm2 207 rfl rfl
theorem ln_Desk_90 : Cond.methodLink "CounterDesk" 90 f_Board_add.1 ∈ lw_good := gm2 211 rfl rfl
theorem ln_Board_56 : ∃ h, ("CounterDesk$Board", 56, f_Desk_isPitch.1, h) ∈ gNm := ⟨"CounterDesk", by decide +kernel⟩
theorem ln_Law_18 : Cond.methodLink "CounterDeskLaw" 18 f_Desk_of.1 ∈ lw_good := gm2 216 rfl rfl
theorem ln_Desk_106 : Cond.methodLink "CounterDesk" 106 f_Board_has.1 ∈ lw_good := gm2 220 rfl rfl
theorem ln_Desk_115 : Cond.methodLink "CounterDesk" 115 f_Judge_weigh.1 ∈ lw_good := gm2 224 rfl rfl
theorem ln_Judge_71 : Cond.methodLink "CounterDesk$Judge" 71 f_Judge_place.1 ∈ lw_good := gm2 228 rfl rfl
theorem ln_Judge_78 : Cond.methodLink "CounterDesk$Judge" 78 f_Judge_sound.1 ∈ lw_good := gm2 232 rfl rfl
theorem ln_Judge_82 : Cond.methodLink "CounterDesk$Judge" 82 f_Board_lawInForce.1 ∈ lw_good := gm2 236 rfl rfl
theorem ln_Board_52 : Cond.methodLink "CounterDesk$Board" 52 f_Board_hasLaw.1 ∈ lw_good := gm3 0 rfl rfl
theorem ln_Judge_86 : Cond.methodLink "CounterDesk$Judge" 86 f_Judge_told.1 ∈ lw_good := gm3 4 rfl rfl
theorem ln_Judge_49 : Cond.methodLink "CounterDesk$Judge" 49 f_Text_hasTest.1 ∈ lw_good := gm3 8 rfl rfl
theorem ln_Judge_53 : Cond.methodLink "CounterDesk$Judge" 53 f_Machine_workOut.1 ∈ lw_good := gm3 12 rfl rfl
theorem cn_Machine_26 : Cond.constant "CounterDesk$Machine" 26 (Int32.ofInt (-2000000000)) ∈ lw_good := gm3 16 rfl rfl
theorem ln_Machine_27 : Cond.methodLink "CounterDesk$Machine" 27 f_Math_max.1 ∈ lw_good := gm3 17 rfl rfl
theorem ln_Machine_33 : Cond.methodLink "CounterDesk$Machine" 33 f_Machine_joined.1 ∈ lw_good := gm3 20 rfl rfl
theorem cn_Machine_37 : Cond.constantLong "CounterDesk$Machine" 37 (Int64.ofInt (1000000000)) ∈ lw_good := gm3 23 rfl rfl
theorem cn_Machine_39 : Cond.constantLong "CounterDesk$Machine" 39 (Int64.ofInt (-1000000000)) ∈ lw_good := gm3 24 rfl rfl
theorem cn_Judge_57 : Cond.constant "CounterDesk$Judge" 57 (Int32.ofInt (-2000000000)) ∈ lw_good := gm3 25 rfl rfl
theorem ln_Judge_58 : Cond.methodLink "CounterDesk$Judge" 58 f_Math_min.1 ∈ lw_good := gm3 26 rfl rfl
theorem ln_Judge_64 : Cond.methodLink "CounterDesk$Judge" 64 f_Math_max.1 ∈ lw_good := gm3 29 rfl rfl
theorem ln_Judge_90 : Cond.methodLink "CounterDesk$Judge" 90 f_Judge_orElse.1 ∈ lw_good := gm3 30 rfl rfl
theorem ln_Judge_67 : Cond.methodLink "CounterDesk$Judge" 67 f_Math_abs.1 ∈ lw_good := gm3 34 rfl rfl
theorem ln_Law_22 : Cond.methodLink "CounterDeskLaw" 22 f_Desk_at.1 ∈ lw_good := gm3 37 rfl rfl
theorem ln_Desk_119 : Cond.methodLink "CounterDesk" 119 f_Judge_fact.1 ∈ lw_good := gm3 41 rfl rfl
theorem ln_Judge_93 : Cond.methodLink "CounterDesk$Judge" 93 f_Judge_weigh.1 ∈ lw_good := gm3 45 rfl rfl
theorem ln_Law_26 : Cond.methodLink "CounterDeskLaw" 26 f_Desk_all.1 ∈ lw_good := gm3 46 rfl rfl
theorem ln_Desk_122 : Cond.methodLink "CounterDesk" 122 f_Judge_total.1 ∈ lw_good := gm3 50 rfl rfl
theorem ln_Law_31 : Cond.methodLink "CounterDeskLaw" 31 f_Desk_terms.1 ∈ lw_good := gm3 54 rfl rfl
theorem fl_Desk_126 : Cond.fieldLink "CounterDesk" 126 "CounterDesk" "MOST_OF_TERM" "[I" ∈ lw_good := gm3 58 rfl rfl
theorem ln_Law_35 : Cond.methodLink "CounterDeskLaw" 35 f_Desk_feed.1 ∈ lw_good := gm3 60 rfl rfl
theorem ln_Desk_133 : Cond.methodLink "CounterDesk" 133 f_Tape_take.1 ∈ lw_good := gm3 64 rfl rfl
theorem ln_Law_40 : Cond.methodLink "CounterDeskLaw" 40 f_Desk_end.1 ∈ lw_good := gm3 68 rfl rfl
theorem ln_Law_44 : Cond.methodLink "CounterDeskLaw" 44 f_Desk_row.1 ∈ lw_good := gm3 72 rfl rfl
theorem ln_Law_49 : Cond.methodLink "CounterDeskLaw" 49 f_Desk_blots.1 ∈ lw_good := gm3 76 rfl rfl
theorem ln_Law_53 : Cond.methodLink "CounterDeskLaw" 53 f_Desk_law.1 ∈ lw_good := gm3 80 rfl rfl
theorem ln_Desk_146 : Cond.methodLink "CounterDesk" 146 f_Reader_read.1 ∈ lw_good := gm3 84 rfl rfl
theorem ln_Reader_25 : Cond.methodLink "CounterDesk$Reader" 25 ⟨"java/lang/System", "arraycopy", "(Ljava/lang/Object;ILjava/lang/Object;II)V"⟩ ∈ lw_good := gm3 88 rfl rfl
theorem ln_Reader_56 : Cond.methodLink "CounterDesk$Reader" 56 f_Reader_advance.1 ∈ lw_good := gm3 91 rfl rfl
theorem ln_Reader_85 : Cond.methodLink "CounterDesk$Reader" 85 f_Reader_isLetter.1 ∈ lw_good := gm3 95 rfl rfl
theorem ln_Reader_88 : Cond.methodLink "CounterDesk$Reader" 88 f_Reader_isDigit.1 ∈ lw_good := gm3 98 rfl rfl
theorem ln_Reader_91 : Cond.methodLink "CounterDesk$Reader" 91 f_Math_min.1 ∈ lw_good := gm3 101 rfl rfl
theorem ln_Reader_62 : Cond.methodLink "CounterDesk$Reader" 62 f_Reader_lawClause.1 ∈ lw_good := gm3 102 rfl rfl
theorem ln_Reader_115 : Cond.methodLink "CounterDesk$Reader" 115 f_Reader_takeWord.1 ∈ lw_good := gm3 107 rfl rfl
theorem ln_Reader_106 : Cond.methodLink "CounterDesk$Reader" 106 f_Reader_isWord.1 ∈ lw_good := gm3 111 rfl rfl
theorem ln_Reader_97 : Cond.methodLink "CounterDesk$Reader" 97 f_Str_length.1 ∈ lw_good := gm3 115 rfl rfl
theorem ln_Str_335 : Cond.methodLink "java/lang/String" 335 f_Str_coder.1 ∈ lw_good := gm3 119 rfl rfl
theorem fl_Str_38 : Cond.fieldLink "java/lang/String" 38 "java/lang/String" "COMPACT_STRINGS" "Z" ∈ lw_good := gm3 123 rfl rfl
theorem ln_Reader_102 : Cond.methodLink "CounterDesk$Reader" 102 f_Str_charAt.1 ∈ lw_good := gm3 125 rfl rfl
theorem ln_Str_492 : Cond.methodLink "java/lang/String" 492 f_Str_isLatin1.1 ∈ lw_good := gm3 129 rfl rfl
theorem ln_Str_495 : Cond.methodLink "java/lang/String" 495 f_Lat_charAt.1 ∈ lw_good := gm3 133 rfl rfl
theorem ln_Lat_9 : Cond.methodLink "java/lang/StringLatin1" 9 f_Str_checkIndex.1 ∈ lw_good := gm3 136 rfl rfl
theorem fl_Str_1053 : Cond.fieldLink "java/lang/String" 1053 "jdk/internal/util/Preconditions" "SIOOBE_FORMATTER" "Ljava/util/function/BiFunction;" ∈ lw_good := gm3 139 rfl rfl
theorem ln_Str_1059 : Cond.methodLink "java/lang/String" 1059 f_Pre_checkIndex.1 ∈ lw_good := gm3 141 rfl rfl
theorem ln_Str_498 : Cond.methodLink "java/lang/String" 498 f_U16_charAt.1 ∈ lw_good := gm3 144 rfl rfl
theorem ln_U16_67 : Cond.methodLink "java/lang/StringUTF16" 67 f_U16_checkIndex.1 ∈ lw_good := gm3 147 rfl rfl
theorem ln_U16_48 : Cond.methodLink "java/lang/StringUTF16" 48 f_U16_length.1 ∈ lw_good := gm3 150 rfl rfl
theorem ln_U16_414 : Cond.methodLink "java/lang/StringUTF16" 414 f_Str_checkIndex.1 ∈ lw_good := gm3 153 rfl rfl
theorem ln_U16_71 : Cond.methodLink "java/lang/StringUTF16" 71 f_U16_getChar.1 ∈ lw_good := gm3 154 rfl rfl
theorem fl_U16_44 : Cond.fieldLink "java/lang/StringUTF16" 44 "java/lang/StringUTF16" "$assertionsDisabled" "Z" ∈ lw_good := gm3 157 rfl rfl
theorem fl_U16_59 : Cond.fieldLink "java/lang/StringUTF16" 59 "java/lang/StringUTF16" "HI_BYTE_SHIFT" "I" ∈ lw_good := gm3 159 rfl rfl
theorem fl_U16_63 : Cond.fieldLink "java/lang/StringUTF16" 63 "java/lang/StringUTF16" "LO_BYTE_SHIFT" "I" ∈ lw_good := gm3 161 rfl rfl
theorem ln_Reader_125 : Cond.methodLink "CounterDesk$Reader" 125 f_Reader_sum.1 ∈ lw_good := gm3 165 rfl rfl
theorem ln_Reader_169 : Cond.methodLink "CounterDesk$Reader" 169 f_Reader_term.1 ∈ lw_good := gm3 169 rfl rfl
theorem ln_Reader_172 : Cond.methodLink "CounterDesk$Reader" 172 f_Reader_part.1 ∈ lw_good := gm3 173 rfl rfl
theorem ln_Reader_110 : Cond.methodLink "CounterDesk$Reader" 110 f_Reader_isSign.1 ∈ lw_good := gm3 177 rfl rfl
theorem ln_Reader_78 : Cond.methodLink "CounterDesk$Reader" 78 f_Reader_takeSign.1 ∈ lw_good := gm3 181 rfl rfl
theorem ln_Reader_156 : Cond.methodLink "CounterDesk$Reader" 156 f_Reader_step.1 ∈ lw_good := gm3 185 rfl rfl
theorem ln_Reader_175 : Cond.methodLink "CounterDesk$Reader" 175 f_Reader_lawWord.1 ∈ lw_good := gm3 189 rfl rfl
theorem ln_Reader_178 : Cond.methodLink "CounterDesk$Reader" 178 f_Reader_orderWord.1 ∈ lw_good := gm3 203 rfl rfl
theorem ln_Reader_128 : Cond.methodLink "CounterDesk$Reader" 128 f_Reader_endPiece.1 ∈ lw_good := gm3 211 rfl rfl
theorem ln_Reader_66 : Cond.methodLink "CounterDesk$Reader" 66 f_Reader_orderClause.1 ∈ lw_good := gm3 215 rfl rfl
theorem ln_Reader_142 : Cond.methodLink "CounterDesk$Reader" 142 f_Reader_howOften.1 ∈ lw_good := gm3 224 rfl rfl
theorem ln_Reader_69 : Cond.methodLink "CounterDesk$Reader" 69 f_Reader_condition.1 ∈ lw_good := gm3 229 rfl rfl
theorem ln_Reader_148 : Cond.methodLink "CounterDesk$Reader" 148 f_Reader_test.1 ∈ lw_good := gm3 234 rfl rfl
theorem ln_Reader_151 : Cond.methodLink "CounterDesk$Reader" 151 f_Reader_both.1 ∈ lw_good := gm3 238 rfl rfl
theorem ln_Reader_162 : Cond.methodLink "CounterDesk$Reader" 162 f_Reader_plain.1 ∈ lw_good := gm4 2 rfl rfl
theorem cl_Desk_154 : Cond.classLink "CounterDesk" 154 "CounterDesk$Text" ∈ lw_good := gm4 9 rfl rfl
theorem ln_Desk_160 : Cond.methodLink "CounterDesk" 160 f_Text_init2.1 ∈ lw_good := gm4 10 rfl rfl
theorem ln_Text_38 : Cond.methodLink "CounterDesk$Text" 38 f_Arr_copyOf.1 ∈ lw_good := gm4 13 rfl rfl
theorem ln_Arr_316 : Cond.methodLink "java/util/Arrays" 316 ⟨"[I", "clone", "()Ljava/lang/Object;"⟩ ∈ lw_good := gm4 16 rfl rfl
theorem cl_Arr_317 : Cond.classLink "java/util/Arrays" 317 "[I" ∈ lw_good := gm4 22 rfl rfl
theorem ln_Arr_304 : Cond.methodLink "java/util/Arrays" 304 f_Math_min.1 ∈ lw_good := gm4 23 rfl rfl
theorem ln_Arr_150 : Cond.methodLink "java/util/Arrays" 150 ⟨"java/lang/System", "arraycopy", "(Ljava/lang/Object;ILjava/lang/Object;II)V"⟩ ∈ lw_good := gm4 24 rfl rfl
theorem ln_Law_57 : Cond.methodLink "CounterDeskLaw" 57 f_Desk_orders.1 ∈ lw_good := gm4 26 rfl rfl
theorem ln_Desk_166 : Cond.methodLink "CounterDesk" 166 f_Clerk_carryOut.1 ∈ lw_good := gm4 30 rfl rfl
theorem ln_Clerk_97 : Cond.methodLink "CounterDesk$Clerk" 97 f_Board_copyFrom.1 ∈ lw_good := gm4 34 rfl rfl
theorem ln_Board_46 : Cond.methodLink "CounterDesk$Board" 46 ⟨"java/lang/System", "arraycopy", "(Ljava/lang/Object;ILjava/lang/Object;II)V"⟩ ∈ lw_good := gm4 38 rfl rfl
theorem ln_Clerk_101 : Cond.methodLink "CounterDesk$Clerk" 101 f_Trail_copyFrom.1 ∈ lw_good := gm4 39 rfl rfl
theorem ln_Trail_28 : Cond.methodLink "CounterDesk$Trail" 28 ⟨"java/lang/System", "arraycopy", "(Ljava/lang/Object;ILjava/lang/Object;II)V"⟩ ∈ lw_good := gm4 43 rfl rfl
theorem ln_Clerk_118 : Cond.methodLink "CounterDesk$Clerk" 118 f_Clerk_gatherWords.1 ∈ lw_good := gm4 44 rfl rfl
theorem ln_Clerk_80 : Cond.methodLink "CounterDesk$Clerk" 80 f_Judge_total.1 ∈ lw_good := gm4 48 rfl rfl
theorem ln_Clerk_64 : Cond.methodLink "CounterDesk$Clerk" 64 f_Board_has.1 ∈ lw_good := gm4 49 rfl rfl
theorem ln_Clerk_121 : Cond.methodLink "CounterDesk$Clerk" 121 f_Text_hasTest.1 ∈ lw_good := gm4 50 rfl rfl
theorem ln_Clerk_124 : Cond.methodLink "CounterDesk$Clerk" 124 f_Machine_workOut.1 ∈ lw_good := gm4 51 rfl rfl
theorem ln_Clerk_128 : Cond.methodLink "CounterDesk$Clerk" 128 f_Clerk_runOnce.1 ∈ lw_good := gm4 52 rfl rfl
theorem ln_Clerk_133 : Cond.methodLink "CounterDesk$Clerk" 133 f_Clerk_exchange.1 ∈ lw_good := gm4 56 rfl rfl
theorem ln_Clerk_74 : Cond.methodLink "CounterDesk$Clerk" 74 f_Board_exchangeAll.1 ∈ lw_good := gm4 60 rfl rfl
theorem ln_Clerk_67 : Cond.methodLink "CounterDesk$Clerk" 67 f_Trail_keep.1 ∈ lw_good := gm4 64 rfl rfl
theorem ln_Trail_25 : Cond.methodLink "CounterDesk$Trail" 25 f_Trail_dropOldest.1 ∈ lw_good := gm4 68 rfl rfl
theorem ln_Clerk_137 : Cond.methodLink "CounterDesk$Clerk" 137 f_Clerk_nextDay.1 ∈ lw_good := gm4 72 rfl rfl
theorem cn_Clerk_140 : Cond.constant "CounterDesk$Clerk" 140 (Int32.ofInt (-2000000000)) ∈ lw_good := gm4 76 rfl rfl
theorem ln_Clerk_141 : Cond.methodLink "CounterDesk$Clerk" 141 f_Clerk_moveHere.1 ∈ lw_good := gm4 77 rfl rfl
theorem ln_Clerk_53 : Cond.methodLink "CounterDesk$Clerk" 53 f_Clerk_move.1 ∈ lw_good := gm4 81 rfl rfl
theorem ln_Clerk_60 : ∃ h, ("CounterDesk$Clerk", 60, f_Desk_isPitch.1, h) ∈ gNm := ⟨"CounterDesk", by decide +kernel⟩
theorem ln_Clerk_145 : Cond.methodLink "CounterDesk$Clerk" 145 f_Clerk_moveUnder.1 ∈ lw_good := gm4 86 rfl rfl
theorem ln_Law_61 : Cond.methodLink "CounterDeskLaw" 61 f_Desk_fault.1 ∈ lw_good := gm4 90 rfl rfl
theorem ln_Law_65 : Cond.methodLink "CounterDeskLaw" 65 f_Desk_stopped.1 ∈ lw_good := gm4 94 rfl rfl
theorem ln_Law_69 : Cond.methodLink "CounterDeskLaw" 69 f_Desk_force.1 ∈ lw_good := gm4 98 rfl rfl
theorem ln_Desk_170 : Cond.methodLink "CounterDesk" 170 f_Board_hasLaw.1 ∈ lw_good := gm4 102 rfl rfl
theorem ln_Law_73 : Cond.methodLink "CounterDeskLaw" 73 f_Desk_set.1 ∈ lw_good := gm4 103 rfl rfl
theorem ln_Desk_176 : Cond.methodLink "CounterDesk" 176 f_Clerk_moveHere.1 ∈ lw_good := gm4 107 rfl rfl
theorem ln_Law_77 : Cond.methodLink "CounterDeskLaw" 77 f_Desk_shift.1 ∈ lw_good := gm4 108 rfl rfl
theorem ln_Desk_180 : Cond.methodLink "CounterDesk" 180 f_Clerk_moveUnder.1 ∈ lw_good := gm4 112 rfl rfl
theorem ln_Law_81 : Cond.methodLink "CounterDeskLaw" 81 f_Desk_swap.1 ∈ lw_good := gm4 113 rfl rfl
theorem ln_Desk_183 : Cond.methodLink "CounterDesk" 183 f_Clerk_exchange.1 ∈ lw_good := gm4 117 rfl rfl
theorem ln_Law_85 : Cond.methodLink "CounterDeskLaw" 85 f_Desk_pass.1 ∈ lw_good := gm4 118 rfl rfl
theorem ln_Desk_187 : Cond.methodLink "CounterDesk" 187 f_Clerk_nextDay.1 ∈ lw_good := gm4 122 rfl rfl
theorem ln_Law_89 : Cond.methodLink "CounterDeskLaw" 89 f_Desk_undo.1 ∈ lw_good := gm4 123 rfl rfl
theorem ln_Desk_190 : Cond.methodLink "CounterDesk" 190 f_Clerk_takeBack.1 ∈ lw_good := gm4 127 rfl rfl
theorem ln_Law_93 : Cond.methodLink "CounterDeskLaw" 93 f_Desk_best.1 ∈ lw_good := gm4 131 rfl rfl
theorem ln_Desk_193 : Cond.methodLink "CounterDesk" 193 f_Board_lawInForce.1 ∈ lw_good := gm4 135 rfl rfl
theorem ln_Desk_197 : Cond.methodLink "CounterDesk" 197 f_Paper_leastCosts.1 ∈ lw_good := gm4 136 rfl rfl
theorem ln_Paper_60 : Cond.methodLink "CounterDesk$Paper" 60 f_Paper_keepWithin.1 ∈ lw_good := gm4 140 rfl rfl
theorem ln_Paper_64 : Cond.methodLink "CounterDesk$Paper" 64 f_Paper_leastOf.1 ∈ lw_good := gm4 144 rfl rfl
theorem ln_Paper_84 : Cond.methodLink "CounterDesk$Paper" 84 f_Sheet_renew.1 ∈ lw_good := gm4 148 rfl rfl
theorem ln_Sheet_32 : Cond.methodLink "CounterDesk$Sheet" 32 f_Sheet_keyOf.1 ∈ lw_good := gm4 152 rfl rfl
theorem cn_Sheet_64 : Cond.constantLong "CounterDesk$Sheet" 64 (Int64.ofInt (25)) ∈ lw_good := gm4 155 rfl rfl
theorem cn_Sheet_66 : Cond.constantLong "CounterDesk$Sheet" 66 (Int64.ofInt (2)) ∈ lw_good := gm4 156 rfl rfl
theorem cn_Sheet_71 : Cond.constantLong "CounterDesk$Sheet" 71 (Int64.ofInt (1000)) ∈ lw_good := gm4 157 rfl rfl
theorem ln_Sheet_36 : Cond.methodLink "CounterDesk$Sheet" 36 f_Judge_place.1 ∈ lw_good := gm4 159 rfl rfl
theorem ln_Sheet_42 : Cond.methodLink "CounterDesk$Sheet" 42 f_Judge_sound.1 ∈ lw_good := gm4 160 rfl rfl
theorem ln_Sheet_50 : Cond.methodLink "CounterDesk$Sheet" 50 f_Judge_told.1 ∈ lw_good := gm4 161 rfl rfl
theorem ln_Sheet_54 : Cond.methodLink "CounterDesk$Sheet" 54 f_Judge_orElse.1 ∈ lw_good := gm4 162 rfl rfl
theorem ln_Paper_88 : Cond.methodLink "CounterDesk$Paper" 88 f_Paper_firstAhead.1 ∈ lw_good := gm4 163 rfl rfl
theorem ln_Paper_92 : Cond.methodLink "CounterDesk$Paper" 92 f_Paper_lastAhead.1 ∈ lw_good := gm4 167 rfl rfl
theorem ln_Paper_126 : Cond.methodLink "CounterDesk$Paper" 126 f_Paper_choose.1 ∈ lw_good := gm4 171 rfl rfl
theorem cn_Paper_130 : Cond.constant "CounterDesk$Paper" 130 (Int32.ofInt (1000000)) ∈ lw_good := gm4 175 rfl rfl
theorem ln_Desk_201 : Cond.methodLink "CounterDesk" 201 f_Paper_voice.1 ∈ lw_good := gm4 176 rfl rfl
theorem ln_Law_97 : Cond.methodLink "CounterDeskLaw" 97 f_Desk_between.1 ∈ lw_good := gm4 180 rfl rfl
theorem ln_Desk_204 : Cond.methodLink "CounterDesk" 204 f_Paper_leastBetween.1 ∈ lw_good := gm4 184 rfl rfl
theorem ln_Paper_72 : Cond.methodLink "CounterDesk$Paper" 72 f_Math_min.1 ∈ lw_good := gm4 188 rfl rfl
theorem ln_Paper_81 : Cond.methodLink "CounterDesk$Paper" 81 f_Math_max.1 ∈ lw_good := gm4 189 rfl rfl
theorem ln_Law_101 : Cond.methodLink "CounterDeskLaw" 101 f_Desk_richest.1 ∈ lw_good := gm4 190 rfl rfl
theorem ln_Desk_208 : Cond.methodLink "CounterDesk" 208 f_Paper_mostEarned.1 ∈ lw_good := gm4 194 rfl rfl
theorem ln_Law_105 : Cond.methodLink "CounterDeskLaw" 105 f_Desk_ways.1 ∈ lw_good := gm4 198 rfl rfl
theorem ln_Desk_211 : Cond.methodLink "CounterDesk" 211 f_Paper_howMany.1 ∈ lw_good := gm4 202 rfl rfl
theorem ln_Law_110 : Cond.methodLink "CounterDeskLaw" 110 f_Desk_mend.1 ∈ lw_good := gm4 206 rfl rfl
theorem ln_Desk_215 : Cond.methodLink "CounterDesk" 215 f_Paper_leastMended.1 ∈ lw_good := gm4 210 rfl rfl
theorem ln_Law_114 : Cond.methodLink "CounterDeskLaw" 114 f_Desk_compass.1 ∈ lw_good := gm4 214 rfl rfl
theorem ln_Desk_218 : Cond.methodLink "CounterDesk" 218 f_Paper_narrowest.1 ∈ lw_good := gm4 218 rfl rfl
theorem ln_Paper_98 : Cond.methodLink "CounterDesk$Paper" 98 f_Paper_markOpen.1 ∈ lw_good := gm4 222 rfl rfl
theorem ln_Paper_102 : Cond.methodLink "CounterDesk$Paper" 102 f_Paper_hasVoice.1 ∈ lw_good := gm4 226 rfl rfl
theorem ln_Law_118 : Cond.methodLink "CounterDeskLaw" 118 f_Desk_cheapest.1 ∈ lw_good := gm4 230 rfl rfl
theorem ln_Desk_224 : Cond.methodLink "CounterDesk" 224 f_Paper_cheapestUnder.1 ∈ lw_good := gm4 234 rfl rfl
theorem ln_Paper_109 : Cond.methodLink "CounterDesk$Paper" 109 f_Board_lawInForce.1 ∈ lw_good := gm4 238 rfl rfl
theorem ln_Paper_113 : Cond.methodLink "CounterDesk$Paper" 113 f_Board_copyFrom.1 ∈ lw_good := gm4 239 rfl rfl
theorem ln_Paper_119 : Cond.methodLink "CounterDesk$Paper" 119 f_Paper_leastCosts.1 ∈ lw_good := gm5 0 rfl rfl
theorem ln_Law_122 : Cond.methodLink "CounterDeskLaw" 122 f_Desk_canon.1 ∈ lw_good := gm5 1 rfl rfl
theorem ln_Desk_230 : Cond.methodLink "CounterDesk" 230 f_Judge_goesWithItself.1 ∈ lw_good := gm5 5 rfl rfl
theorem ln_Judge_109 : ∃ h, ("CounterDesk$Judge", 109, f_Desk_isPitch.1, h) ∈ gNm := ⟨"CounterDesk", by decide +kernel⟩
theorem ln_Law_126 : Cond.methodLink "CounterDeskLaw" 126 f_Desk_parallels.1 ∈ lw_good := gm5 10 rfl rfl
theorem ln_Desk_234 : Cond.methodLink "CounterDesk" 234 f_Board_apart.1 ∈ lw_good := gm5 14 rfl rfl
theorem ln_Board_59 : Cond.methodLink "CounterDesk$Board" 59 f_Math_abs.1 ∈ lw_good := gm5 18 rfl rfl
theorem ln_Law_130 : Cond.methodLink "CounterDeskLaw" 130 f_Desk_heard.1 ∈ lw_good := gm5 19 rfl rfl
theorem ln_Law_134 : Cond.methodLink "CounterDeskLaw" 134 f_Desk_forget.1 ∈ lw_good := gm5 23 rfl rfl
theorem ln_Law_138 : Cond.methodLink "CounterDeskLaw" 138 f_Desk_canBe.1 ∈ lw_good := gm5 27 rfl rfl
theorem ln_Desk_246 : Cond.methodLink "CounterDesk" 246 f_Judge_candidates.1 ∈ lw_good := gm5 31 rfl rfl
theorem ln_Judge_103 : Cond.methodLink "CounterDesk$Judge" 103 f_Judge_fact.1 ∈ lw_good := gm5 35 rfl rfl
theorem ln_Law_142 : Cond.methodLink "CounterDeskLaw" 142 f_Desk_listen.1 ∈ lw_good := gm5 36 rfl rfl
theorem ln_Desk_250 : Cond.methodLink "CounterDesk" 250 f_Judge_mostAlike.1 ∈ lw_good := gm5 40 rfl rfl
theorem ln_Law_146 : Cond.methodLink "CounterDeskLaw" 146 f_Desk_few.1 ∈ lw_good := gm5 44 rfl rfl
theorem cn_Desk_253 : Cond.constantLong "CounterDesk" 253 (Int64.ofInt (-1)) ∈ lw_good := gm5 48 rfl rfl
theorem cn_Desk_255 : Cond.constantLong "CounterDesk" 255 (Int64.ofInt (1000000000000)) ∈ lw_good := gm5 49 rfl rfl
theorem cn_Desk_257 : Cond.constantLong "CounterDesk" 257 (Int64.ofInt (10)) ∈ lw_good := gm5 50 rfl rfl
theorem ln_Law_151 : Cond.methodLink "CounterDeskLaw" 151 f_Desk_compare.1 ∈ lw_good := gm5 51 rfl rfl
theorem ln_Law_155 : Cond.methodLink "CounterDeskLaw" 155 f_Desk_weeks.1 ∈ lw_good := gm5 55 rfl rfl
theorem cn_Desk_259 : Cond.constant "CounterDesk" 259 (Int32.ofInt (1000000)) ∈ lw_good := gm5 59 rfl rfl
theorem ln_Desk_260 : Cond.methodLink "CounterDesk" 260 f_Draws_live.1 ∈ lw_good := gm5 60 rfl rfl
theorem ln_Draws_18 : Cond.methodLink "CounterDesk$Draws" 18 f_Board_copyFrom.1 ∈ lw_good := gm5 64 rfl rfl
theorem ln_Draws_38 : Cond.methodLink "CounterDesk$Draws" 38 f_Draws_draw.1 ∈ lw_good := gm5 65 rfl rfl
theorem cn_Draws_61 : Cond.constantLong "CounterDesk$Draws" 61 (Int64.ofInt (1103)) ∈ lw_good := gm5 69 rfl rfl
theorem cn_Draws_63 : Cond.constantLong "CounterDesk$Draws" 63 (Int64.ofInt (12345)) ∈ lw_good := gm5 70 rfl rfl
theorem cn_Draws_65 : Cond.constantLong "CounterDesk$Draws" 65 (Int64.ofInt (1000003)) ∈ lw_good := gm5 71 rfl rfl
theorem ln_Draws_42 : Cond.methodLink "CounterDesk$Draws" 42 f_Board_exchangeAll.1 ∈ lw_good := gm5 72 rfl rfl
theorem ln_Draws_45 : Cond.methodLink "CounterDesk$Draws" 45 f_Board_has.1 ∈ lw_good := gm5 73 rfl rfl
theorem ln_Draws_55 : Cond.methodLink "CounterDesk$Draws" 55 f_Judge_total.1 ∈ lw_good := gm5 74 rfl rfl
theorem ln_Law_159 : Cond.methodLink "CounterDeskLaw" 159 f_Desk_drawn.1 ∈ lw_good := gm5 75 rfl rfl
theorem ln_Law_163 : Cond.methodLink "CounterDeskLaw" 163 f_Desk_image.1 ∈ lw_good := gm5 79 rfl rfl
theorem ln_Desk_270 : Cond.methodLink "CounterDesk" 270 f_Board_copyFrom.1 ∈ lw_good := gm5 83 rfl rfl
theorem ln_Law_167 : Cond.methodLink "CounterDeskLaw" 167 f_Desk_back.1 ∈ lw_good := gm5 84 rfl rfl
theorem ln_Law_171 : Cond.methodLink "CounterDeskLaw" 171 f_Desk_count.1 ∈ lw_good := gm5 88 rfl rfl
theorem ln_Desk_274 : Cond.methodLink "CounterDesk" 274 f_Desk_refusedBy.1 ∈ lw_good := gm5 92 rfl rfl
theorem ln_Law_175 : Cond.methodLink "CounterDeskLaw" 175 f_Desk_status.1 ∈ lw_good := gm5 96 rfl rfl
theorem cl_Law_10 : Cond.classLink "CounterDeskLaw" 10 "CounterDeskModel" ∈ lw_good := gm5 100 rfl rfl
theorem ln_Law_12 : Cond.methodLink "CounterDeskLaw" 12 f_Model_init.1 ∈ lw_good := gm5 102 rfl rfl
theorem ln_Model_22 : Cond.methodLink "CounterDeskModel" 22 f_Obj_init.1 ∈ lw_good := gm5 105 rfl rfl
theorem fl_Model_3 : gFL "CounterDeskModel" 3 12 0 51 0 (.int) false := ⟨("CounterDeskModel", gF_Model, 51), rfl, rfl, by decide, gm5 106 rfl rfl, pf_12_0, rfl, rfl, ft_12_0, by decide⟩
theorem fl_Model_7 : gFL "CounterDeskModel" 7 12 1 51 2 (.array .int) true := ⟨("CounterDeskModel", gF_Model, 51), rfl, rfl, by decide, gm5 107 rfl rfl, pf_12_1, rfl, rfl, ft_12_1, by decide⟩
theorem fl_Model_28 : gFL "CounterDeskModel" 28 12 2 51 2 (.array .int) true := ⟨("CounterDeskModel", gF_Model, 51), rfl, rfl, by decide, gm5 108 rfl rfl, pf_12_2, rfl, rfl, ft_12_2, by decide⟩
theorem fl_Model_31 : gFL "CounterDeskModel" 31 12 3 51 2 (.array .int) true := ⟨("CounterDeskModel", gF_Model, 51), rfl, rfl, by decide, gm5 109 rfl rfl, pf_12_3, rfl, rfl, ft_12_3, by decide⟩
theorem fl_Model_34 : gFL "CounterDeskModel" 34 12 4 51 2 (.array .boolean) true := ⟨("CounterDeskModel", gF_Model, 51), rfl, rfl, by decide, gm5 110 rfl rfl, pf_12_4, rfl, rfl, ft_12_4, by decide⟩
theorem fl_Model_38 : gFL "CounterDeskModel" 38 12 5 51 2 (.array .int) true := ⟨("CounterDeskModel", gF_Model, 51), rfl, rfl, by decide, gm5 111 rfl rfl, pf_12_5, rfl, rfl, ft_12_5, by decide⟩
theorem fl_Model_157 : gFL "CounterDeskModel" 157 12 6 51 0 (.int) false := ⟨("CounterDeskModel", gF_Model, 51), rfl, rfl, by decide, gm5 112 rfl rfl, pf_12_6, rfl, rfl, ft_12_6, by decide⟩
theorem fl_Model_41 : gFL "CounterDeskModel" 41 12 7 51 2 (.array .byte) true := ⟨("CounterDeskModel", gF_Model, 51), rfl, rfl, by decide, gm5 113 rfl rfl, pf_12_7, rfl, rfl, ft_12_7, by decide⟩
theorem fl_Model_230 : gFL "CounterDeskModel" 230 12 8 51 0 (.int) false := ⟨("CounterDeskModel", gF_Model, 51), rfl, rfl, by decide, gm5 114 rfl rfl, pf_12_8, rfl, rfl, ft_12_8, by decide⟩
theorem fl_Model_233 : gFL "CounterDeskModel" 233 12 9 51 0 (.int) false := ⟨("CounterDeskModel", gF_Model, 51), rfl, rfl, by decide, gm5 115 rfl rfl, pf_12_9, rfl, rfl, ft_12_9, by decide⟩
theorem fl_Model_204 : gFL "CounterDeskModel" 204 12 10 51 0 (.boolean) false := ⟨("CounterDeskModel", gF_Model, 51), rfl, rfl, by decide, gm5 116 rfl rfl, pf_12_10, rfl, rfl, ft_12_10, by decide⟩
theorem fl_Model_45 : gFL "CounterDeskModel" 45 12 11 51 2 (.array .byte) true := ⟨("CounterDeskModel", gF_Model, 51), rfl, rfl, by decide, gm5 117 rfl rfl, pf_12_11, rfl, rfl, ft_12_11, by decide⟩
theorem fl_Model_48 : gFL "CounterDeskModel" 48 12 12 51 2 (.array .int) true := ⟨("CounterDeskModel", gF_Model, 51), rfl, rfl, by decide, gm5 118 rfl rfl, pf_12_12, rfl, rfl, ft_12_12, by decide⟩
theorem fl_Model_154 : gFL "CounterDeskModel" 154 12 13 51 0 (.int) false := ⟨("CounterDeskModel", gF_Model, 51), rfl, rfl, by decide, gm5 119 rfl rfl, pf_12_13, rfl, rfl, ft_12_13, by decide⟩
theorem fl_Model_51 : gFL "CounterDeskModel" 51 12 14 51 0 (.int) false := ⟨("CounterDeskModel", gF_Model, 51), rfl, rfl, by decide, gm5 120 rfl rfl, pf_12_14, rfl, rfl, ft_12_14, by decide⟩
theorem fl_Model_54 : gFL "CounterDeskModel" 54 12 15 51 2 (.array .int) true := ⟨("CounterDeskModel", gF_Model, 51), rfl, rfl, by decide, gm5 121 rfl rfl, pf_12_15, rfl, rfl, ft_12_15, by decide⟩
theorem fl_Model_57 : gFL "CounterDeskModel" 57 12 16 51 2 (.array .int) true := ⟨("CounterDeskModel", gF_Model, 51), rfl, rfl, by decide, gm5 122 rfl rfl, pf_12_16, rfl, rfl, ft_12_16, by decide⟩
theorem fl_Model_60 : gFL "CounterDeskModel" 60 12 17 51 2 (.array .int) true := ⟨("CounterDeskModel", gF_Model, 51), rfl, rfl, by decide, gm5 123 rfl rfl, pf_12_17, rfl, rfl, ft_12_17, by decide⟩
theorem fl_Model_160 : gFL "CounterDeskModel" 160 12 18 51 0 (.int) false := ⟨("CounterDeskModel", gF_Model, 51), rfl, rfl, by decide, gm5 124 rfl rfl, pf_12_18, rfl, rfl, ft_12_18, by decide⟩
theorem fl_Model_180 : gFL "CounterDeskModel" 180 12 19 51 0 (.int) false := ⟨("CounterDeskModel", gF_Model, 51), rfl, rfl, by decide, gm5 125 rfl rfl, pf_12_19, rfl, rfl, ft_12_19, by decide⟩
theorem fl_Model_189 : gFL "CounterDeskModel" 189 12 20 51 0 (.int) false := ⟨("CounterDeskModel", gF_Model, 51), rfl, rfl, by decide, gm5 126 rfl rfl, pf_12_20, rfl, rfl, ft_12_20, by decide⟩
theorem fl_Model_174 : gFL "CounterDeskModel" 174 12 21 51 0 (.int) false := ⟨("CounterDeskModel", gF_Model, 51), rfl, rfl, by decide, gm5 127 rfl rfl, pf_12_21, rfl, rfl, ft_12_21, by decide⟩
theorem fl_Model_261 : gFL "CounterDeskModel" 261 12 22 51 0 (.int) false := ⟨("CounterDeskModel", gF_Model, 51), rfl, rfl, by decide, gm5 128 rfl rfl, pf_12_22, rfl, rfl, ft_12_22, by decide⟩
theorem fl_Model_258 : gFL "CounterDeskModel" 258 12 23 51 0 (.int) false := ⟨("CounterDeskModel", gF_Model, 51), rfl, rfl, by decide, gm5 129 rfl rfl, pf_12_23, rfl, rfl, ft_12_23, by decide⟩
theorem fl_Model_271 : gFL "CounterDeskModel" 271 12 24 51 0 (.boolean) false := ⟨("CounterDeskModel", gF_Model, 51), rfl, rfl, by decide, gm5 130 rfl rfl, pf_12_24, rfl, rfl, ft_12_24, by decide⟩
theorem fl_Model_291 : gFL "CounterDeskModel" 291 12 25 51 0 (.boolean) false := ⟨("CounterDeskModel", gF_Model, 51), rfl, rfl, by decide, gm5 131 rfl rfl, pf_12_25, rfl, rfl, ft_12_25, by decide⟩
theorem fl_Model_63 : gFL "CounterDeskModel" 63 12 26 51 2 (.array .int) true := ⟨("CounterDeskModel", gF_Model, 51), rfl, rfl, by decide, gm5 132 rfl rfl, pf_12_26, rfl, rfl, ft_12_26, by decide⟩
theorem fl_Model_297 : gFL "CounterDeskModel" 297 12 27 51 0 (.int) false := ⟨("CounterDeskModel", gF_Model, 51), rfl, rfl, by decide, gm5 133 rfl rfl, pf_12_27, rfl, rfl, ft_12_27, by decide⟩
theorem fl_Model_300 : gFL "CounterDeskModel" 300 12 28 51 0 (.int) false := ⟨("CounterDeskModel", gF_Model, 51), rfl, rfl, by decide, gm5 134 rfl rfl, pf_12_28, rfl, rfl, ft_12_28, by decide⟩
theorem fl_Model_303 : gFL "CounterDeskModel" 303 12 29 51 0 (.int) false := ⟨("CounterDeskModel", gF_Model, 51), rfl, rfl, by decide, gm5 135 rfl rfl, pf_12_29, rfl, rfl, ft_12_29, by decide⟩
theorem fl_Model_306 : gFL "CounterDeskModel" 306 12 30 51 0 (.int) false := ⟨("CounterDeskModel", gF_Model, 51), rfl, rfl, by decide, gm5 136 rfl rfl, pf_12_30, rfl, rfl, ft_12_30, by decide⟩
theorem fl_Model_66 : gFL "CounterDeskModel" 66 12 31 51 2 (.array .int) true := ⟨("CounterDeskModel", gF_Model, 51), rfl, rfl, by decide, gm5 137 rfl rfl, pf_12_31, rfl, rfl, ft_12_31, by decide⟩
theorem fl_Model_69 : gFL "CounterDeskModel" 69 12 32 51 2 (.array .int) true := ⟨("CounterDeskModel", gF_Model, 51), rfl, rfl, by decide, gm5 138 rfl rfl, pf_12_32, rfl, rfl, ft_12_32, by decide⟩
theorem fl_Model_11 : gFL "CounterDeskModel" 11 12 33 51 0 (.int) false := ⟨("CounterDeskModel", gF_Model, 51), rfl, rfl, by decide, gm5 139 rfl rfl, pf_12_33, rfl, rfl, ft_12_33, by decide⟩
theorem fl_Model_72 : gFL "CounterDeskModel" 72 12 34 51 2 (.array .int) true := ⟨("CounterDeskModel", gF_Model, 51), rfl, rfl, by decide, gm5 140 rfl rfl, pf_12_34, rfl, rfl, ft_12_34, by decide⟩
theorem fl_Model_75 : gFL "CounterDeskModel" 75 12 35 51 2 (.array .int) true := ⟨("CounterDeskModel", gF_Model, 51), rfl, rfl, by decide, gm5 141 rfl rfl, pf_12_35, rfl, rfl, ft_12_35, by decide⟩
theorem fl_Model_78 : gFL "CounterDeskModel" 78 12 36 51 2 (.array .boolean) true := ⟨("CounterDeskModel", gF_Model, 51), rfl, rfl, by decide, gm5 142 rfl rfl, pf_12_36, rfl, rfl, ft_12_36, by decide⟩
theorem fl_Model_81 : gFL "CounterDeskModel" 81 12 37 51 2 (.array .int) true := ⟨("CounterDeskModel", gF_Model, 51), rfl, rfl, by decide, gm5 143 rfl rfl, pf_12_37, rfl, rfl, ft_12_37, by decide⟩
theorem fl_Model_84 : gFL "CounterDeskModel" 84 12 38 51 2 (.array .long) true := ⟨("CounterDeskModel", gF_Model, 51), rfl, rfl, by decide, gm5 144 rfl rfl, pf_12_38, rfl, rfl, ft_12_38, by decide⟩
theorem fl_Model_88 : gFL "CounterDeskModel" 88 12 39 51 2 (.array .int) true := ⟨("CounterDeskModel", gF_Model, 51), rfl, rfl, by decide, gm5 145 rfl rfl, pf_12_39, rfl, rfl, ft_12_39, by decide⟩
theorem fl_Model_91 : gFL "CounterDeskModel" 91 12 40 51 2 (.array .long) true := ⟨("CounterDeskModel", gF_Model, 51), rfl, rfl, by decide, gm5 146 rfl rfl, pf_12_40, rfl, rfl, ft_12_40, by decide⟩
theorem fl_Model_94 : gFL "CounterDeskModel" 94 12 41 51 0 (.int) false := ⟨("CounterDeskModel", gF_Model, 51), rfl, rfl, by decide, gm5 147 rfl rfl, pf_12_41, rfl, rfl, ft_12_41, by decide⟩
theorem fl_Model_446 : gFL "CounterDeskModel" 446 12 42 51 0 (.int) false := ⟨("CounterDeskModel", gF_Model, 51), rfl, rfl, by decide, gm5 148 rfl rfl, pf_12_42, rfl, rfl, ft_12_42, by decide⟩
theorem fl_Model_461 : gFL "CounterDeskModel" 461 12 43 51 0 (.int) false := ⟨("CounterDeskModel", gF_Model, 51), rfl, rfl, by decide, gm5 149 rfl rfl, pf_12_43, rfl, rfl, ft_12_43, by decide⟩
theorem fl_Model_455 : gFL "CounterDeskModel" 455 12 44 51 0 (.int) false := ⟨("CounterDeskModel", gF_Model, 51), rfl, rfl, by decide, gm5 150 rfl rfl, pf_12_44, rfl, rfl, ft_12_44, by decide⟩
theorem fl_Model_458 : gFL "CounterDeskModel" 458 12 45 51 0 (.boolean) false := ⟨("CounterDeskModel", gF_Model, 51), rfl, rfl, by decide, gm5 151 rfl rfl, pf_12_45, rfl, rfl, ft_12_45, by decide⟩
theorem fl_Model_464 : gFL "CounterDeskModel" 464 12 46 51 0 (.boolean) false := ⟨("CounterDeskModel", gF_Model, 51), rfl, rfl, by decide, gm5 152 rfl rfl, pf_12_46, rfl, rfl, ft_12_46, by decide⟩
theorem fl_Model_97 : gFL "CounterDeskModel" 97 12 47 51 2 (.array .long) true := ⟨("CounterDeskModel", gF_Model, 51), rfl, rfl, by decide, gm5 153 rfl rfl, pf_12_47, rfl, rfl, ft_12_47, by decide⟩
theorem fl_Model_100 : gFL "CounterDeskModel" 100 12 48 51 2 (.array .int) true := ⟨("CounterDeskModel", gF_Model, 51), rfl, rfl, by decide, gm5 154 rfl rfl, pf_12_48, rfl, rfl, ft_12_48, by decide⟩
theorem fl_Model_103 : gFL "CounterDeskModel" 103 12 49 51 0 (.int) false := ⟨("CounterDeskModel", gF_Model, 51), rfl, rfl, by decide, gm5 155 rfl rfl, pf_12_49, rfl, rfl, ft_12_49, by decide⟩
theorem fl_Model_482 : gFL "CounterDeskModel" 482 12 50 51 0 (.int) false := ⟨("CounterDeskModel", gF_Model, 51), rfl, rfl, by decide, gm5 156 rfl rfl, pf_12_50, rfl, rfl, ft_12_50, by decide⟩
theorem ln_Law_166 : Cond.methodLink "CounterDeskLaw" 166 f_Model_image.1 ∈ lw_good := gm6 20 rfl rfl
theorem ln_Model_18 : Cond.methodLink "CounterDeskModel" 18 f_Model_lies.1 ∈ lw_good := gm6 24 rfl rfl
theorem ln_Model_106 : Cond.methodLink "CounterDeskModel" 106 f_Model_refuses.1 ∈ lw_good := gm6 27 rfl rfl
theorem ln_Model_14 : Cond.methodLink "CounterDeskModel" 14 f_Model_good.1 ∈ lw_good := gm6 31 rfl rfl
theorem ln_Law_170 : Cond.methodLink "CounterDeskLaw" 170 f_Model_back.1 ∈ lw_good := gm6 35 rfl rfl
theorem ln_Model_109 : Cond.methodLink "CounterDeskModel" 109 f_Model_settled.1 ∈ lw_good := gm6 39 rfl rfl
theorem ln_Law_17 : Cond.methodLink "CounterDeskLaw" 17 f_Model_note.1 ∈ lw_good := gm6 43 rfl rfl
theorem ln_Model_116 : Cond.methodLink "CounterDeskModel" 116 f_Model_isPitch.1 ∈ lw_good := gm6 47 rfl rfl
theorem ln_Model_112 : Cond.methodLink "CounterDeskModel" 112 f_Model_noteMany.1 ∈ lw_good := gm6 50 rfl rfl
theorem ln_Model_120 : Cond.methodLink "CounterDeskModel" 120 f_Model_adds.1 ∈ lw_good := gm6 54 rfl rfl
theorem ln_Law_21 : Cond.methodLink "CounterDeskLaw" 21 f_Model_of.1 ∈ lw_good := gm6 58 rfl rfl
theorem ln_Model_124 : Cond.methodLink "CounterDeskModel" 124 f_Model_isNote.1 ∈ lw_good := gm6 62 rfl rfl
theorem ln_Model_127 : Cond.methodLink "CounterDeskModel" 127 f_Model_takesNow.1 ∈ lw_good := gm6 66 rfl rfl
theorem ln_Model_321 : Cond.methodLink "CounterDeskModel" 321 f_Model_takesNote.1 ∈ lw_good := gm6 70 rfl rfl
theorem ln_Model_131 : Cond.methodLink "CounterDeskModel" 131 f_Model_costsNow.1 ∈ lw_good := gm6 74 rfl rfl
theorem ln_Model_325 : Cond.methodLink "CounterDeskModel" 325 f_Model_bare.1 ∈ lw_good := gm6 78 rfl rfl
theorem ln_Model_328 : Cond.methodLink "CounterDeskModel" 328 f_Model_tells.1 ∈ lw_good := gm6 81 rfl rfl
theorem ln_Model_264 : Cond.methodLink "CounterDeskModel" 264 f_Model_codeAt.1 ∈ lw_good := gm6 85 rfl rfl
theorem ln_Model_288 : Cond.methodLink "CounterDeskModel" 288 f_Model_sumOf.1 ∈ lw_good := gm6 89 rfl rfl
theorem ln_Model_274 : Cond.methodLink "CounterDeskModel" 274 f_Model_termOf.1 ∈ lw_good := gm6 93 rfl rfl
theorem ln_Model_282 : Cond.methodLink "CounterDeskModel" 282 f_Model_partOf.1 ∈ lw_good := gm6 97 rfl rfl
theorem ln_Model_220 : Cond.methodLink "CounterDeskModel" 220 f_Model_sign.1 ∈ lw_good := gm6 101 rfl rfl
theorem ln_Model_285 : Cond.methodLink "CounterDeskModel" 285 f_Model_passes0.1 ∈ lw_good := gm6 104 rfl rfl
theorem ln_Model_294 : Cond.methodLink "CounterDeskModel" 294 f_Model_orderValue.1 ∈ lw_good := gm6 108 rfl rfl
theorem ln_Model_278 : Cond.methodLink "CounterDeskModel" 278 f_Model_bounded.1 ∈ lw_good := gm6 112 rfl rfl
theorem cn_Model_267 : Cond.constantLong "CounterDeskModel" 267 (Int64.ofInt (1000000000)) ∈ lw_good := gm6 116 rfl rfl
theorem cn_Model_269 : Cond.constantLong "CounterDeskModel" 269 (Int64.ofInt (-1000000000)) ∈ lw_good := gm6 117 rfl rfl
theorem ln_Model_318 : Cond.methodLink "CounterDeskModel" 318 f_Model_testOf.1 ∈ lw_good := gm6 118 rfl rfl
theorem ln_Model_309 : Cond.methodLink "CounterDeskModel" 309 f_Model_bothOf.1 ∈ lw_good := gm6 122 rfl rfl
theorem ln_Model_312 : Cond.methodLink "CounterDeskModel" 312 f_Model_plainOf.1 ∈ lw_good := gm6 126 rfl rfl
theorem ln_Model_315 : Cond.methodLink "CounterDeskModel" 315 f_Model_positiveOf.1 ∈ lw_good := gm6 130 rfl rfl
theorem ln_Model_134 : Cond.methodLink "CounterDeskModel" 134 f_Model_earnsNow.1 ∈ lw_good := gm6 134 rfl rfl
theorem ln_Model_137 : Cond.methodLink "CounterDeskModel" 137 f_Model_isBarred.1 ∈ lw_good := gm6 138 rfl rfl
theorem ln_Law_25 : Cond.methodLink "CounterDeskLaw" 25 f_Model_at.1 ∈ lw_good := gm6 142 rfl rfl
theorem ln_Model_141 : Cond.methodLink "CounterDeskModel" 141 f_Model_apartOf.1 ∈ lw_good := gm6 146 rfl rfl
theorem ln_Model_144 : Cond.methodLink "CounterDeskModel" 144 f_Model_leapOf.1 ∈ lw_good := gm6 150 rfl rfl
theorem ln_Law_34 : Cond.methodLink "CounterDeskLaw" 34 f_Model_terms.1 ∈ lw_good := gm6 154 rfl rfl
theorem ln_Model_147 : Cond.methodLink "CounterDeskModel" 147 f_Model_isTerm.1 ∈ lw_good := gm6 158 rfl rfl
theorem ln_Model_151 : Cond.methodLink "CounterDeskModel" 151 f_Model_termAt.1 ∈ lw_good := gm6 161 rfl rfl
theorem ln_Law_48 : Cond.methodLink "CounterDeskLaw" 48 f_Model_row.1 ∈ lw_good := gm6 164 rfl rfl
theorem ln_Law_52 : Cond.methodLink "CounterDeskLaw" 52 f_Model_blots.1 ∈ lw_good := gm6 168 rfl rfl
theorem ln_Law_39 : Cond.methodLink "CounterDeskLaw" 39 f_Model_feed.1 ∈ lw_good := gm6 172 rfl rfl
theorem ln_Law_43 : Cond.methodLink "CounterDeskLaw" 43 f_Model_end.1 ∈ lw_good := gm6 176 rfl rfl
theorem ln_Law_56 : Cond.methodLink "CounterDeskLaw" 56 f_Model_law.1 ∈ lw_good := gm6 180 rfl rfl
theorem ln_Model_248 : Cond.methodLink "CounterDeskModel" 248 f_Model_readsAs.1 ∈ lw_good := gm6 184 rfl rfl
theorem ln_Model_245 : Cond.methodLink "CounterDeskModel" 245 f_Model_reads.1 ∈ lw_good := gm6 188 rfl rfl
theorem ln_Model_239 : Cond.methodLink "CounterDeskModel" 239 f_Model_splits.1 ∈ lw_good := gm6 192 rfl rfl
theorem ln_Model_163 : Cond.methodLink "CounterDeskModel" 163 f_Model_isSmall.1 ∈ lw_good := gm6 196 rfl rfl
theorem ln_Model_166 : Cond.methodLink "CounterDeskModel" 166 f_Model_isDigit.1 ∈ lw_good := gm6 199 rfl rfl
theorem ln_Model_169 : Cond.methodLink "CounterDeskModel" 169 f_Model_wordOf.1 ∈ lw_good := gm6 202 rfl rfl
theorem cn_Model_173 : Cond.constant "CounterDeskModel" 173 (Int32.ofInt (1000000)) ∈ lw_good := gm6 206 rfl rfl
theorem ln_Model_242 : Cond.methodLink "CounterDeskModel" 242 f_Model_readOne.1 ∈ lw_good := gm6 207 rfl rfl
theorem ln_Model_208 : Cond.methodLink "CounterDeskModel" 208 f_Model_readOrder.1 ∈ lw_good := gm6 211 rfl rfl
theorem ln_Model_183 : Cond.methodLink "CounterDeskModel" 183 f_Model_takes0.1 ∈ lw_good := gm6 215 rfl rfl
theorem ln_Model_177 : Cond.methodLink "CounterDeskModel" 177 f_Model_fine.1 ∈ lw_good := gm6 219 rfl rfl
theorem ln_Model_192 : Cond.methodLink "CounterDeskModel" 192 f_Model_readSum.1 ∈ lw_good := gm6 223 rfl rfl
theorem ln_Model_224 : Cond.methodLink "CounterDeskModel" 224 f_Model_readTerm.1 ∈ lw_good := gm6 227 rfl rfl
theorem ln_Model_227 : Cond.methodLink "CounterDeskModel" 227 f_Model_readPart.1 ∈ lw_good := gm6 231 rfl rfl
theorem ln_Model_186 : Cond.methodLink "CounterDeskModel" 186 f_Model_faults.1 ∈ lw_good := gm6 235 rfl rfl
theorem ln_Model_195 : Cond.methodLink "CounterDeskModel" 195 f_Model_must.1 ∈ lw_good := gm6 239 rfl rfl
theorem ln_Model_236 : Cond.methodLink "CounterDeskModel" 236 f_Model_leaf.1 ∈ lw_good := gm7 3 rfl rfl
theorem ln_Model_201 : Cond.methodLink "CounterDeskModel" 201 f_Model_mustNumber.1 ∈ lw_good := gm7 7 rfl rfl
theorem ln_Model_198 : Cond.methodLink "CounterDeskModel" 198 f_Model_readTest.1 ∈ lw_good := gm7 11 rfl rfl
theorem ln_Model_214 : Cond.methodLink "CounterDeskModel" 214 f_Model_readBoth.1 ∈ lw_good := gm7 15 rfl rfl
theorem ln_Model_217 : Cond.methodLink "CounterDeskModel" 217 f_Model_readPlain.1 ∈ lw_good := gm7 19 rfl rfl
theorem ln_Model_211 : Cond.methodLink "CounterDeskModel" 211 f_Model_readClause.1 ∈ lw_good := gm7 23 rfl rfl
theorem ln_Model_252 : Cond.methodLink "CounterDeskModel" 252 f_Model_lays.1 ∈ lw_good := gm7 27 rfl rfl
theorem ln_Law_64 : Cond.methodLink "CounterDeskLaw" 64 f_Model_fault.1 ∈ lw_good := gm7 31 rfl rfl
theorem ln_Law_72 : Cond.methodLink "CounterDeskLaw" 72 f_Model_force.1 ∈ lw_good := gm7 35 rfl rfl
theorem ln_Model_255 : Cond.methodLink "CounterDeskModel" 255 f_Model_isLaw.1 ∈ lw_good := gm7 39 rfl rfl
theorem ln_Law_30 : Cond.methodLink "CounterDeskLaw" 30 f_Model_all.1 ∈ lw_good := gm7 43 rfl rfl
theorem ln_Model_332 : Cond.methodLink "CounterDeskModel" 332 f_Model_allOf.1 ∈ lw_good := gm7 47 rfl rfl
theorem ln_Law_92 : Cond.methodLink "CounterDeskLaw" 92 f_Model_undo.1 ∈ lw_good := gm7 51 rfl rfl
theorem ln_Law_76 : Cond.methodLink "CounterDeskLaw" 76 f_Model_set.1 ∈ lw_good := gm7 55 rfl rfl
theorem ln_Model_341 : Cond.methodLink "CounterDeskModel" 341 f_Model_movesKept.1 ∈ lw_good := gm7 59 rfl rfl
theorem ln_Model_335 : Cond.methodLink "CounterDeskModel" 335 f_Model_keeps.1 ∈ lw_good := gm7 63 rfl rfl
theorem ln_Model_345 : Cond.methodLink "CounterDeskModel" 345 f_Model_goodOr.1 ∈ lw_good := gm7 67 rfl rfl
theorem ln_Law_80 : Cond.methodLink "CounterDeskLaw" 80 f_Model_shift.1 ∈ lw_good := gm7 71 rfl rfl
theorem ln_Law_84 : Cond.methodLink "CounterDeskLaw" 84 f_Model_swap.1 ∈ lw_good := gm7 75 rfl rfl
theorem ln_Model_348 : Cond.methodLink "CounterDeskModel" 348 f_Model_swapsKept.1 ∈ lw_good := gm7 79 rfl rfl
theorem ln_Model_338 : Cond.methodLink "CounterDeskModel" 338 f_Model_exchanges.1 ∈ lw_good := gm7 83 rfl rfl
theorem ln_Law_88 : Cond.methodLink "CounterDeskLaw" 88 f_Model_pass.1 ∈ lw_good := gm7 87 rfl rfl
theorem ln_Model_351 : Cond.methodLink "CounterDeskModel" 351 f_Model_passesKept.1 ∈ lw_good := gm7 91 rfl rfl
theorem ln_Law_96 : Cond.methodLink "CounterDeskLaw" 96 f_Model_best.1 ∈ lw_good := gm7 95 rfl rfl
theorem ln_Model_387 : Cond.methodLink "CounterDeskModel" 387 f_Model_voiceOf.1 ∈ lw_good := gm7 99 rfl rfl
theorem ln_Model_376 : Cond.methodLink "CounterDeskModel" 376 f_Model_laysNotes.1 ∈ lw_good := gm7 103 rfl rfl
theorem ln_Model_357 : Cond.methodLink "CounterDeskModel" 357 f_Model_laysNote.1 ∈ lw_good := gm7 107 rfl rfl
theorem ln_Model_354 : Cond.methodLink "CounterDeskModel" 354 f_Model_noteAt.1 ∈ lw_good := gm7 111 rfl rfl
theorem ln_Model_379 : Cond.methodLink "CounterDeskModel" 379 f_Model_leastOf.1 ∈ lw_good := gm7 114 rfl rfl
theorem ln_Model_372 : Cond.methodLink "CounterDeskModel" 372 f_Model_laysRest.1 ∈ lw_good := gm7 118 rfl rfl
theorem ln_Model_360 : Cond.methodLink "CounterDeskModel" 360 f_Model_leastFrom.1 ∈ lw_good := gm7 122 rfl rfl
theorem cn_Model_364 : Cond.constant "CounterDeskModel" 364 (Int32.ofInt (100000000)) ∈ lw_good := gm7 126 rfl rfl
theorem ln_Model_365 : Cond.methodLink "CounterDeskModel" 365 f_Model_priceOf.1 ∈ lw_good := gm7 127 rfl rfl
theorem ln_Model_369 : Cond.methodLink "CounterDeskModel" 369 f_Model_lesser.1 ∈ lw_good := gm7 131 rfl rfl
theorem ln_Model_383 : Cond.methodLink "CounterDeskModel" 383 f_Model_pitchOf.1 ∈ lw_good := gm7 134 rfl rfl
theorem ln_Law_113 : Cond.methodLink "CounterDeskLaw" 113 f_Model_mend.1 ∈ lw_good := gm7 138 rfl rfl
theorem ln_Law_100 : Cond.methodLink "CounterDeskLaw" 100 f_Model_between.1 ∈ lw_good := gm7 142 rfl rfl
theorem ln_Model_390 : Cond.methodLink "CounterDeskModel" 390 f_Model_isWithin.1 ∈ lw_good := gm7 146 rfl rfl
theorem ln_Law_104 : Cond.methodLink "CounterDeskLaw" 104 f_Model_richest.1 ∈ lw_good := gm7 150 rfl rfl
theorem ln_Model_393 : Cond.methodLink "CounterDeskModel" 393 f_Model_mostFrom.1 ∈ lw_good := gm7 154 rfl rfl
theorem cn_Model_396 : Cond.constant "CounterDeskModel" 396 (Int32.ofInt (-100000000)) ∈ lw_good := gm7 158 rfl rfl
theorem ln_Model_397 : Cond.methodLink "CounterDeskModel" 397 f_Model_greater.1 ∈ lw_good := gm7 159 rfl rfl
theorem ln_Law_109 : Cond.methodLink "CounterDeskLaw" 109 f_Model_ways.1 ∈ lw_good := gm7 162 rfl rfl
theorem ln_Model_400 : Cond.methodLink "CounterDeskModel" 400 f_Model_waysFrom.1 ∈ lw_good := gm7 166 rfl rfl
theorem ln_Law_117 : Cond.methodLink "CounterDeskLaw" 117 f_Model_compass.1 ∈ lw_good := gm7 170 rfl rfl
theorem ln_Model_404 : Cond.methodLink "CounterDeskModel" 404 f_Model_hasVoice.1 ∈ lw_good := gm7 174 rfl rfl
theorem ln_Law_121 : Cond.methodLink "CounterDeskLaw" 121 f_Model_cheapest.1 ∈ lw_good := gm7 178 rfl rfl
theorem ln_Model_407 : Cond.methodLink "CounterDeskModel" 407 f_Model_leastShifted.1 ∈ lw_good := gm7 182 rfl rfl
theorem ln_Law_154 : Cond.methodLink "CounterDeskLaw" 154 f_Model_compare.1 ∈ lw_good := gm7 186 rfl rfl
theorem ln_Law_125 : Cond.methodLink "CounterDeskLaw" 125 f_Model_canon.1 ∈ lw_good := gm7 190 rfl rfl
theorem ln_Model_410 : Cond.methodLink "CounterDeskModel" 410 f_Model_isCanon.1 ∈ lw_good := gm7 194 rfl rfl
theorem ln_Law_129 : Cond.methodLink "CounterDeskLaw" 129 f_Model_parallels.1 ∈ lw_good := gm7 198 rfl rfl
theorem ln_Model_416 : Cond.methodLink "CounterDeskModel" 416 f_Model_isParallel.1 ∈ lw_good := gm7 202 rfl rfl
theorem ln_Model_413 : Cond.methodLink "CounterDeskModel" 413 f_Model_interval.1 ∈ lw_good := gm7 206 rfl rfl
theorem ln_Law_133 : Cond.methodLink "CounterDeskLaw" 133 f_Model_heard.1 ∈ lw_good := gm7 210 rfl rfl
theorem ln_Law_137 : Cond.methodLink "CounterDeskLaw" 137 f_Model_forget.1 ∈ lw_good := gm7 214 rfl rfl
theorem ln_Law_141 : Cond.methodLink "CounterDeskLaw" 141 f_Model_canBe.1 ∈ lw_good := gm7 218 rfl rfl
theorem ln_Model_419 : Cond.methodLink "CounterDeskModel" 419 f_Model_laysFacts.1 ∈ lw_good := gm7 222 rfl rfl
theorem ln_Model_422 : Cond.methodLink "CounterDeskModel" 422 f_Model_isSo.1 ∈ lw_good := gm7 226 rfl rfl
theorem ln_Law_145 : Cond.methodLink "CounterDeskLaw" 145 f_Model_listen.1 ∈ lw_good := gm7 230 rfl rfl
theorem ln_Model_428 : Cond.methodLink "CounterDeskModel" 428 f_Model_canBe.1 ∈ lw_good := gm7 234 rfl rfl
theorem ln_Model_431 : Cond.methodLink "CounterDeskModel" 431 f_Model_ones.1 ∈ lw_good := gm7 235 rfl rfl
theorem ln_Model_434 : Cond.methodLink "CounterDeskModel" 434 f_Model_mostAlike.1 ∈ lw_good := gm7 238 rfl rfl
theorem ln_Model_425 : Cond.methodLink "CounterDeskModel" 425 f_Model_isIn.1 ∈ lw_good := gm8 2 rfl rfl
theorem ln_Law_150 : Cond.methodLink "CounterDeskLaw" 150 f_Model_few.1 ∈ lw_good := gm8 5 rfl rfl
theorem cn_Model_437 : Cond.constantLong "CounterDeskModel" 437 (Int64.ofInt (-1)) ∈ lw_good := gm8 9 rfl rfl
theorem cn_Model_439 : Cond.constantLong "CounterDeskModel" 439 (Int64.ofInt (1000000000000)) ∈ lw_good := gm8 10 rfl rfl
theorem cn_Model_441 : Cond.constantLong "CounterDeskModel" 441 (Int64.ofInt (10)) ∈ lw_good := gm8 11 rfl rfl
theorem ln_Law_68 : Cond.methodLink "CounterDeskLaw" 68 f_Model_stopped.1 ∈ lw_good := gm8 12 rfl rfl
theorem ln_Law_60 : Cond.methodLink "CounterDeskLaw" 60 f_Model_orders.1 ∈ lw_good := gm8 16 rfl rfl
theorem ln_Model_443 : Cond.methodLink "CounterDeskModel" 443 f_Model_laysAside.1 ∈ lw_good := gm8 20 rfl rfl
theorem ln_Model_449 : Cond.methodLink "CounterDeskModel" 449 f_Model_runs.1 ∈ lw_good := gm8 24 rfl rfl
theorem ln_Model_473 : Cond.methodLink "CounterDeskModel" 473 f_Model_goesAlong.1 ∈ lw_good := gm8 28 rfl rfl
theorem ln_Model_477 : Cond.methodLink "CounterDeskModel" 477 f_Model_obeys.1 ∈ lw_good := gm8 32 rfl rfl
theorem ln_Model_469 : Cond.methodLink "CounterDeskModel" 469 f_Model_small.1 ∈ lw_good := gm8 36 rfl rfl
theorem cn_Model_467 : Cond.constantLong "CounterDeskModel" 467 (Int64.ofInt (1000000)) ∈ lw_good := gm8 39 rfl rfl
theorem ln_Model_452 : Cond.methodLink "CounterDeskModel" 452 f_Model_takesBack.1 ∈ lw_good := gm8 40 rfl rfl
theorem ln_Law_158 : Cond.methodLink "CounterDeskLaw" 158 f_Model_weeks.1 ∈ lw_good := gm8 44 rfl rfl
theorem ln_Model_492 : Cond.methodLink "CounterDeskModel" 492 f_Model_drawnAct.1 ∈ lw_good := gm8 48 rfl rfl
theorem ln_Model_489 : Cond.methodLink "CounterDeskModel" 489 f_Model_draws.1 ∈ lw_good := gm8 52 rfl rfl
theorem cn_Model_480 : Cond.constantLong "CounterDeskModel" 480 (Int64.ofInt (1103)) ∈ lw_good := gm8 56 rfl rfl
theorem cn_Model_485 : Cond.constantLong "CounterDeskModel" 485 (Int64.ofInt (12345)) ∈ lw_good := gm8 57 rfl rfl
theorem cn_Model_487 : Cond.constantLong "CounterDeskModel" 487 (Int64.ofInt (1000003)) ∈ lw_good := gm8 58 rfl rfl
theorem ln_Law_162 : Cond.methodLink "CounterDeskLaw" 162 f_Model_drawn.1 ∈ lw_good := gm8 59 rfl rfl
theorem ln_Law_174 : Cond.methodLink "CounterDeskLaw" 174 f_Model_count.1 ∈ lw_good := gm8 63 rfl rfl
theorem ln_Model_495 : Cond.methodLink "CounterDeskModel" 495 f_Model_refusals.1 ∈ lw_good := gm8 67 rfl rfl
theorem ln_Law_178 : Cond.methodLink "CounterDeskLaw" 178 f_Model_status.1 ∈ lw_good := gm8 71 rfl rfl
theorem fl_Str_9 : Cond.fieldLink "java/lang/String" 9 "java/lang/String" "value" "[B" ∈ lw_good := gm8 75 rfl rfl
theorem fl_Str_15 : Cond.fieldLink "java/lang/String" 15 "java/lang/String" "coder" "B" ∈ lw_good := gm8 76 rfl rfl
theorem wd_native : Cond.native arraycopyName ∈ lw_good := gm3 90 rfl rfl
theorem wd_static : Cond.static arraycopyName ∈ lw_good := gm3 89 rfl rfl
theorem wd_system : Cond.initialized "java/lang/System" ∈ lw_good := gm1 15 rfl rfl
theorem wd_same : Cond.sameMethod "[I" "java/lang/Object" "clone" "()Ljava/lang/Object;" ∈ lw_good := gm4 17 rfl rfl
theorem wd_cnat : Cond.native ⟨"java/lang/Object", "clone", "()Ljava/lang/Object;"⟩ ∈ lw_good := gm4 18 rfl rfl
theorem wd_cins : Cond.instanceMethod ⟨"java/lang/Object", "clone", "()Ljava/lang/Object;"⟩ ∈ lw_good := gm4 19 rfl rfl
theorem wd_csel : Cond.selects "[I" ⟨"[I", "clone", "()Ljava/lang/Object;"⟩ ⟨"java/lang/Object", "clone", "()Ljava/lang/Object;"⟩ ∈ lw_good := gm4 20 rfl rfl
theorem wd_oins : Cond.instanceMethod Lib.objectInit ∈ lw_good := gm1 27 rfl rfl
theorem wd_ocode : Cond.code Lib.objectInit ⟨#[0xb1]⟩ 1 none ∈ lw_good := gm1 28 rfl rfl
theorem wd_aint : Cond.arrayClass .int ∈ lw_good := gm1 100 rfl rfl
theorem wd_aboolean : Cond.arrayClass .boolean ∈ lw_good := gm2 199 rfl rfl
theorem wd_abyte : Cond.arrayClass .byte ∈ lw_good := gm4 25 rfl rfl
theorem wd_along : Cond.arrayClass .long ∈ lw_good := gm1 227 rfl rfl
theorem gnw_Desk : ∀ k, k < 14 → ∃ ty, parseFieldDescriptor (gF_Desk k).2.2.1 = some ty ∧ ((gft 0 k = 0 ∧ (ty = .int ∨ ty = .boolean)) ∨ (gft 0 k = 1 ∧ ty = .long) ∨ (gft 0 k = 2 ∧ ((∃ n, ty = .object n) ∨ ∃ t, ty = .array t))) := by
  intro k hk
  match k, hk with
  | 0, _ => exact ⟨.object "CounterDesk$Board", pf_0_0, Or.inr (Or.inr ⟨ft_0_0, Or.inl ⟨_, rfl⟩⟩)⟩
  | 1, _ => exact ⟨.object "CounterDesk$Judge", pf_0_1, Or.inr (Or.inr ⟨ft_0_1, Or.inl ⟨_, rfl⟩⟩)⟩
  | 2, _ => exact ⟨.object "CounterDesk$Clerk", pf_0_2, Or.inr (Or.inr ⟨ft_0_2, Or.inl ⟨_, rfl⟩⟩)⟩
  | 3, _ => exact ⟨.object "CounterDesk$Paper", pf_0_3, Or.inr (Or.inr ⟨ft_0_3, Or.inl ⟨_, rfl⟩⟩)⟩
  | 4, _ => exact ⟨.object "CounterDesk$Draws", pf_0_4, Or.inr (Or.inr ⟨ft_0_4, Or.inl ⟨_, rfl⟩⟩)⟩
  | 5, _ => exact ⟨.object "CounterDesk$Tape", pf_0_5, Or.inr (Or.inr ⟨ft_0_5, Or.inl ⟨_, rfl⟩⟩)⟩
  | 6, _ => exact ⟨.object "CounterDesk$Reader", pf_0_6, Or.inr (Or.inr ⟨ft_0_6, Or.inl ⟨_, rfl⟩⟩)⟩
  | 7, _ => exact ⟨.array (.object "CounterDesk$Board"), pf_0_7, Or.inr (Or.inr ⟨ft_0_7, Or.inr ⟨_, rfl⟩⟩)⟩
  | 8, _ => exact ⟨.array .boolean, pf_0_8, Or.inr (Or.inr ⟨ft_0_8, Or.inr ⟨_, rfl⟩⟩)⟩
  | 9, _ => exact ⟨.array .int, pf_0_9, Or.inr (Or.inr ⟨ft_0_9, Or.inr ⟨_, rfl⟩⟩)⟩
  | 10, _ => exact ⟨.array .long, pf_0_10, Or.inr (Or.inr ⟨ft_0_10, Or.inr ⟨_, rfl⟩⟩)⟩
  | 11, _ => exact ⟨.int, pf_0_11, Or.inl ⟨ft_0_11, Or.inl rfl⟩⟩
  | 12, _ => exact ⟨.int, pf_0_12, Or.inl ⟨ft_0_12, Or.inl rfl⟩⟩
  | 13, _ => exact ⟨.int, pf_0_13, Or.inl ⟨ft_0_13, Or.inl rfl⟩⟩
  | k + 14, h => exact absurd h (by omega)
theorem gnw_Board : ∀ k, k < 10 → ∃ ty, parseFieldDescriptor (gF_Board k).2.2.1 = some ty ∧ ((gft 1 k = 0 ∧ (ty = .int ∨ ty = .boolean)) ∨ (gft 1 k = 1 ∧ ty = .long) ∨ (gft 1 k = 2 ∧ ((∃ n, ty = .object n) ∨ ∃ t, ty = .array t))) := by
  intro k hk
  match k, hk with
  | 0, _ => exact ⟨.int, pf_1_0, Or.inl ⟨ft_1_0, Or.inl rfl⟩⟩
  | 1, _ => exact ⟨.array .int, pf_1_1, Or.inr (Or.inr ⟨ft_1_1, Or.inr ⟨_, rfl⟩⟩)⟩
  | 2, _ => exact ⟨.array .int, pf_1_2, Or.inr (Or.inr ⟨ft_1_2, Or.inr ⟨_, rfl⟩⟩)⟩
  | 3, _ => exact ⟨.array .int, pf_1_3, Or.inr (Or.inr ⟨ft_1_3, Or.inr ⟨_, rfl⟩⟩)⟩
  | 4, _ => exact ⟨.int, pf_1_4, Or.inl ⟨ft_1_4, Or.inl rfl⟩⟩
  | 5, _ => exact ⟨.array .int, pf_1_5, Or.inr (Or.inr ⟨ft_1_5, Or.inr ⟨_, rfl⟩⟩)⟩
  | 6, _ => exact ⟨.array .int, pf_1_6, Or.inr (Or.inr ⟨ft_1_6, Or.inr ⟨_, rfl⟩⟩)⟩
  | 7, _ => exact ⟨.int, pf_1_7, Or.inl ⟨ft_1_7, Or.inl rfl⟩⟩
  | 8, _ => exact ⟨.array (.object "CounterDesk$Text"), pf_1_8, Or.inr (Or.inr ⟨ft_1_8, Or.inr ⟨_, rfl⟩⟩)⟩
  | 9, _ => exact ⟨.int, pf_1_9, Or.inl ⟨ft_1_9, Or.inl rfl⟩⟩
  | k + 10, h => exact absurd h (by omega)
theorem gnw_Clerk : ∀ k, k < 10 → ∃ ty, parseFieldDescriptor (gF_Clerk k).2.2.1 = some ty ∧ ((gft 2 k = 0 ∧ (ty = .int ∨ ty = .boolean)) ∨ (gft 2 k = 1 ∧ ty = .long) ∨ (gft 2 k = 2 ∧ ((∃ n, ty = .object n) ∨ ∃ t, ty = .array t))) := by
  intro k hk
  match k, hk with
  | 0, _ => exact ⟨.object "CounterDesk$Trail", pf_2_0, Or.inr (Or.inr ⟨ft_2_0, Or.inl ⟨_, rfl⟩⟩)⟩
  | 1, _ => exact ⟨.int, pf_2_1, Or.inl ⟨ft_2_1, Or.inl rfl⟩⟩
  | 2, _ => exact ⟨.object "CounterDesk$Board", pf_2_2, Or.inr (Or.inr ⟨ft_2_2, Or.inl ⟨_, rfl⟩⟩)⟩
  | 3, _ => exact ⟨.object "CounterDesk$Judge", pf_2_3, Or.inr (Or.inr ⟨ft_2_3, Or.inl ⟨_, rfl⟩⟩)⟩
  | 4, _ => exact ⟨.object "CounterDesk$Machine", pf_2_4, Or.inr (Or.inr ⟨ft_2_4, Or.inl ⟨_, rfl⟩⟩)⟩
  | 5, _ => exact ⟨.object "CounterDesk$Board", pf_2_5, Or.inr (Or.inr ⟨ft_2_5, Or.inl ⟨_, rfl⟩⟩)⟩
  | 6, _ => exact ⟨.object "CounterDesk$Trail", pf_2_6, Or.inr (Or.inr ⟨ft_2_6, Or.inl ⟨_, rfl⟩⟩)⟩
  | 7, _ => exact ⟨.array .int, pf_2_7, Or.inr (Or.inr ⟨ft_2_7, Or.inr ⟨_, rfl⟩⟩)⟩
  | 8, _ => exact ⟨.int, pf_2_8, Or.inl ⟨ft_2_8, Or.inl rfl⟩⟩
  | 9, _ => exact ⟨.int, pf_2_9, Or.inl ⟨ft_2_9, Or.inl rfl⟩⟩
  | k + 10, h => exact absurd h (by omega)
theorem gnw_Draws : ∀ k, k < 3 → ∃ ty, parseFieldDescriptor (gF_Draws k).2.2.1 = some ty ∧ ((gft 3 k = 0 ∧ (ty = .int ∨ ty = .boolean)) ∨ (gft 3 k = 1 ∧ ty = .long) ∨ (gft 3 k = 2 ∧ ((∃ n, ty = .object n) ∨ ∃ t, ty = .array t))) := by
  intro k hk
  match k, hk with
  | 0, _ => exact ⟨.object "CounterDesk$Board", pf_3_0, Or.inr (Or.inr ⟨ft_3_0, Or.inl ⟨_, rfl⟩⟩)⟩
  | 1, _ => exact ⟨.boolean, pf_3_1, Or.inl ⟨ft_3_1, Or.inr rfl⟩⟩
  | 2, _ => exact ⟨.long, pf_3_2, Or.inr (Or.inl ⟨ft_3_2, rfl⟩)⟩
  | k + 3, h => exact absurd h (by omega)
theorem gnw_Judge : ∀ k, k < 4 → ∃ ty, parseFieldDescriptor (gF_Judge k).2.2.1 = some ty ∧ ((gft 4 k = 0 ∧ (ty = .int ∨ ty = .boolean)) ∨ (gft 4 k = 1 ∧ ty = .long) ∨ (gft 4 k = 2 ∧ ((∃ n, ty = .object n) ∨ ∃ t, ty = .array t))) := by
  intro k hk
  match k, hk with
  | 0, _ => exact ⟨.object "CounterDesk$Machine", pf_4_0, Or.inr (Or.inr ⟨ft_4_0, Or.inl ⟨_, rfl⟩⟩)⟩
  | 1, _ => exact ⟨.array .int, pf_4_1, Or.inr (Or.inr ⟨ft_4_1, Or.inr ⟨_, rfl⟩⟩)⟩
  | 2, _ => exact ⟨.boolean, pf_4_2, Or.inl ⟨ft_4_2, Or.inr rfl⟩⟩
  | 3, _ => exact ⟨.int, pf_4_3, Or.inl ⟨ft_4_3, Or.inl rfl⟩⟩
  | k + 4, h => exact absurd h (by omega)
theorem gnw_Machine : ∀ k, k < 1 → ∃ ty, parseFieldDescriptor (gF_Machine k).2.2.1 = some ty ∧ ((gft 5 k = 0 ∧ (ty = .int ∨ ty = .boolean)) ∨ (gft 5 k = 1 ∧ ty = .long) ∨ (gft 5 k = 2 ∧ ((∃ n, ty = .object n) ∨ ∃ t, ty = .array t))) := by
  intro k hk
  match k, hk with
  | 0, _ => exact ⟨.array .int, pf_5_0, Or.inr (Or.inr ⟨ft_5_0, Or.inr ⟨_, rfl⟩⟩)⟩
  | k + 1, h => exact absurd h (by omega)
theorem gnw_Paper : ∀ k, k < 13 → ∃ ty, parseFieldDescriptor (gF_Paper k).2.2.1 = some ty ∧ ((gft 6 k = 0 ∧ (ty = .int ∨ ty = .boolean)) ∨ (gft 6 k = 1 ∧ ty = .long) ∨ (gft 6 k = 2 ∧ ((∃ n, ty = .object n) ∨ ∃ t, ty = .array t))) := by
  intro k hk
  match k, hk with
  | 0, _ => exact ⟨.int, pf_6_0, Or.inl ⟨ft_6_0, Or.inl rfl⟩⟩
  | 1, _ => exact ⟨.int, pf_6_1, Or.inl ⟨ft_6_1, Or.inl rfl⟩⟩
  | 2, _ => exact ⟨.object "CounterDesk$Judge", pf_6_2, Or.inr (Or.inr ⟨ft_6_2, Or.inl ⟨_, rfl⟩⟩)⟩
  | 3, _ => exact ⟨.object "CounterDesk$Sheet", pf_6_3, Or.inr (Or.inr ⟨ft_6_3, Or.inl ⟨_, rfl⟩⟩)⟩
  | 4, _ => exact ⟨.object "CounterDesk$Sheet", pf_6_4, Or.inr (Or.inr ⟨ft_6_4, Or.inl ⟨_, rfl⟩⟩)⟩
  | 5, _ => exact ⟨.object "CounterDesk$Sheet", pf_6_5, Or.inr (Or.inr ⟨ft_6_5, Or.inl ⟨_, rfl⟩⟩)⟩
  | 6, _ => exact ⟨.array (.array .int), pf_6_6, Or.inr (Or.inr ⟨ft_6_6, Or.inr ⟨_, rfl⟩⟩)⟩
  | 7, _ => exact ⟨.array (.array .int), pf_6_7, Or.inr (Or.inr ⟨ft_6_7, Or.inr ⟨_, rfl⟩⟩)⟩
  | 8, _ => exact ⟨.array (.array .long), pf_6_8, Or.inr (Or.inr ⟨ft_6_8, Or.inr ⟨_, rfl⟩⟩)⟩
  | 9, _ => exact ⟨.array (.array .int), pf_6_9, Or.inr (Or.inr ⟨ft_6_9, Or.inr ⟨_, rfl⟩⟩)⟩
  | 10, _ => exact ⟨.array .int, pf_6_10, Or.inr (Or.inr ⟨ft_6_10, Or.inr ⟨_, rfl⟩⟩)⟩
  | 11, _ => exact ⟨.array .int, pf_6_11, Or.inr (Or.inr ⟨ft_6_11, Or.inr ⟨_, rfl⟩⟩)⟩
  | 12, _ => exact ⟨.object "CounterDesk$Board", pf_6_12, Or.inr (Or.inr ⟨ft_6_12, Or.inl ⟨_, rfl⟩⟩)⟩
  | k + 13, h => exact absurd h (by omega)
theorem gnw_Reader : ∀ k, k < 9 → ∃ ty, parseFieldDescriptor (gF_Reader k).2.2.1 = some ty ∧ ((gft 7 k = 0 ∧ (ty = .int ∨ ty = .boolean)) ∨ (gft 7 k = 1 ∧ ty = .long) ∨ (gft 7 k = 2 ∧ ((∃ n, ty = .object n) ∨ ∃ t, ty = .array t))) := by
  intro k hk
  match k, hk with
  | 0, _ => exact ⟨.object "CounterDesk$Text", pf_7_0, Or.inr (Or.inr ⟨ft_7_0, Or.inl ⟨_, rfl⟩⟩)⟩
  | 1, _ => exact ⟨.array .int, pf_7_1, Or.inr (Or.inr ⟨ft_7_1, Or.inr ⟨_, rfl⟩⟩)⟩
  | 2, _ => exact ⟨.int, pf_7_2, Or.inl ⟨ft_7_2, Or.inl rfl⟩⟩
  | 3, _ => exact ⟨.boolean, pf_7_3, Or.inl ⟨ft_7_3, Or.inr rfl⟩⟩
  | 4, _ => exact ⟨.int, pf_7_4, Or.inl ⟨ft_7_4, Or.inl rfl⟩⟩
  | 5, _ => exact ⟨.int, pf_7_5, Or.inl ⟨ft_7_5, Or.inl rfl⟩⟩
  | 6, _ => exact ⟨.int, pf_7_6, Or.inl ⟨ft_7_6, Or.inl rfl⟩⟩
  | 7, _ => exact ⟨.int, pf_7_7, Or.inl ⟨ft_7_7, Or.inl rfl⟩⟩
  | 8, _ => exact ⟨.int, pf_7_8, Or.inl ⟨ft_7_8, Or.inl rfl⟩⟩
  | k + 9, h => exact absurd h (by omega)
theorem gnw_Sheet : ∀ k, k < 4 → ∃ ty, parseFieldDescriptor (gF_Sheet k).2.2.1 = some ty ∧ ((gft 8 k = 0 ∧ (ty = .int ∨ ty = .boolean)) ∨ (gft 8 k = 1 ∧ ty = .long) ∨ (gft 8 k = 2 ∧ ((∃ n, ty = .object n) ∨ ∃ t, ty = .array t))) := by
  intro k hk
  match k, hk with
  | 0, _ => exact ⟨.array (.array .int), pf_8_0, Or.inr (Or.inr ⟨ft_8_0, Or.inr ⟨_, rfl⟩⟩)⟩
  | 1, _ => exact ⟨.int, pf_8_1, Or.inl ⟨ft_8_1, Or.inl rfl⟩⟩
  | 2, _ => exact ⟨.array .long, pf_8_2, Or.inr (Or.inr ⟨ft_8_2, Or.inr ⟨_, rfl⟩⟩)⟩
  | 3, _ => exact ⟨.array (.object "CounterDesk$Text"), pf_8_3, Or.inr (Or.inr ⟨ft_8_3, Or.inr ⟨_, rfl⟩⟩)⟩
  | k + 4, h => exact absurd h (by omega)
theorem gnw_Tape : ∀ k, k < 2 → ∃ ty, parseFieldDescriptor (gF_Tape k).2.2.1 = some ty ∧ ((gft 9 k = 0 ∧ (ty = .int ∨ ty = .boolean)) ∨ (gft 9 k = 1 ∧ ty = .long) ∨ (gft 9 k = 2 ∧ ((∃ n, ty = .object n) ∨ ∃ t, ty = .array t))) := by
  intro k hk
  match k, hk with
  | 0, _ => exact ⟨.array .int, pf_9_0, Or.inr (Or.inr ⟨ft_9_0, Or.inr ⟨_, rfl⟩⟩)⟩
  | 1, _ => exact ⟨.int, pf_9_1, Or.inl ⟨ft_9_1, Or.inl rfl⟩⟩
  | k + 2, h => exact absurd h (by omega)
theorem gnw_Text : ∀ k, k < 8 → ∃ ty, parseFieldDescriptor (gF_Text k).2.2.1 = some ty ∧ ((gft 10 k = 0 ∧ (ty = .int ∨ ty = .boolean)) ∨ (gft 10 k = 1 ∧ ty = .long) ∨ (gft 10 k = 2 ∧ ((∃ n, ty = .object n) ∨ ∃ t, ty = .array t))) := by
  intro k hk
  match k, hk with
  | 0, _ => exact ⟨.int, pf_10_0, Or.inl ⟨ft_10_0, Or.inl rfl⟩⟩
  | 1, _ => exact ⟨.int, pf_10_1, Or.inl ⟨ft_10_1, Or.inl rfl⟩⟩
  | 2, _ => exact ⟨.boolean, pf_10_2, Or.inl ⟨ft_10_2, Or.inr rfl⟩⟩
  | 3, _ => exact ⟨.array .int, pf_10_3, Or.inr (Or.inr ⟨ft_10_3, Or.inr ⟨_, rfl⟩⟩)⟩
  | 4, _ => exact ⟨.array .int, pf_10_4, Or.inr (Or.inr ⟨ft_10_4, Or.inr ⟨_, rfl⟩⟩)⟩
  | 5, _ => exact ⟨.array .int, pf_10_5, Or.inr (Or.inr ⟨ft_10_5, Or.inr ⟨_, rfl⟩⟩)⟩
  | 6, _ => exact ⟨.array .int, pf_10_6, Or.inr (Or.inr ⟨ft_10_6, Or.inr ⟨_, rfl⟩⟩)⟩
  | 7, _ => exact ⟨.array .int, pf_10_7, Or.inr (Or.inr ⟨ft_10_7, Or.inr ⟨_, rfl⟩⟩)⟩
  | k + 8, h => exact absurd h (by omega)
theorem gnw_Trail : ∀ k, k < 4 → ∃ ty, parseFieldDescriptor (gF_Trail k).2.2.1 = some ty ∧ ((gft 11 k = 0 ∧ (ty = .int ∨ ty = .boolean)) ∨ (gft 11 k = 1 ∧ ty = .long) ∨ (gft 11 k = 2 ∧ ((∃ n, ty = .object n) ∨ ∃ t, ty = .array t))) := by
  intro k hk
  match k, hk with
  | 0, _ => exact ⟨.array .int, pf_11_0, Or.inr (Or.inr ⟨ft_11_0, Or.inr ⟨_, rfl⟩⟩)⟩
  | 1, _ => exact ⟨.array .int, pf_11_1, Or.inr (Or.inr ⟨ft_11_1, Or.inr ⟨_, rfl⟩⟩)⟩
  | 2, _ => exact ⟨.array .int, pf_11_2, Or.inr (Or.inr ⟨ft_11_2, Or.inr ⟨_, rfl⟩⟩)⟩
  | 3, _ => exact ⟨.int, pf_11_3, Or.inl ⟨ft_11_3, Or.inl rfl⟩⟩
  | k + 4, h => exact absurd h (by omega)
theorem gnw_Model : ∀ k, k < 51 → ∃ ty, parseFieldDescriptor (gF_Model k).2.2.1 = some ty ∧ ((gft 12 k = 0 ∧ (ty = .int ∨ ty = .boolean)) ∨ (gft 12 k = 1 ∧ ty = .long) ∨ (gft 12 k = 2 ∧ ((∃ n, ty = .object n) ∨ ∃ t, ty = .array t))) := by
  intro k hk
  match k, hk with
  | 0, _ => exact ⟨.int, pf_12_0, Or.inl ⟨ft_12_0, Or.inl rfl⟩⟩
  | 1, _ => exact ⟨.array .int, pf_12_1, Or.inr (Or.inr ⟨ft_12_1, Or.inr ⟨_, rfl⟩⟩)⟩
  | 2, _ => exact ⟨.array .int, pf_12_2, Or.inr (Or.inr ⟨ft_12_2, Or.inr ⟨_, rfl⟩⟩)⟩
  | 3, _ => exact ⟨.array .int, pf_12_3, Or.inr (Or.inr ⟨ft_12_3, Or.inr ⟨_, rfl⟩⟩)⟩
  | 4, _ => exact ⟨.array .boolean, pf_12_4, Or.inr (Or.inr ⟨ft_12_4, Or.inr ⟨_, rfl⟩⟩)⟩
  | 5, _ => exact ⟨.array .int, pf_12_5, Or.inr (Or.inr ⟨ft_12_5, Or.inr ⟨_, rfl⟩⟩)⟩
  | 6, _ => exact ⟨.int, pf_12_6, Or.inl ⟨ft_12_6, Or.inl rfl⟩⟩
  | 7, _ => exact ⟨.array .byte, pf_12_7, Or.inr (Or.inr ⟨ft_12_7, Or.inr ⟨_, rfl⟩⟩)⟩
  | 8, _ => exact ⟨.int, pf_12_8, Or.inl ⟨ft_12_8, Or.inl rfl⟩⟩
  | 9, _ => exact ⟨.int, pf_12_9, Or.inl ⟨ft_12_9, Or.inl rfl⟩⟩
  | 10, _ => exact ⟨.boolean, pf_12_10, Or.inl ⟨ft_12_10, Or.inr rfl⟩⟩
  | 11, _ => exact ⟨.array .byte, pf_12_11, Or.inr (Or.inr ⟨ft_12_11, Or.inr ⟨_, rfl⟩⟩)⟩
  | 12, _ => exact ⟨.array .int, pf_12_12, Or.inr (Or.inr ⟨ft_12_12, Or.inr ⟨_, rfl⟩⟩)⟩
  | 13, _ => exact ⟨.int, pf_12_13, Or.inl ⟨ft_12_13, Or.inl rfl⟩⟩
  | 14, _ => exact ⟨.int, pf_12_14, Or.inl ⟨ft_12_14, Or.inl rfl⟩⟩
  | 15, _ => exact ⟨.array .int, pf_12_15, Or.inr (Or.inr ⟨ft_12_15, Or.inr ⟨_, rfl⟩⟩)⟩
  | 16, _ => exact ⟨.array .int, pf_12_16, Or.inr (Or.inr ⟨ft_12_16, Or.inr ⟨_, rfl⟩⟩)⟩
  | 17, _ => exact ⟨.array .int, pf_12_17, Or.inr (Or.inr ⟨ft_12_17, Or.inr ⟨_, rfl⟩⟩)⟩
  | 18, _ => exact ⟨.int, pf_12_18, Or.inl ⟨ft_12_18, Or.inl rfl⟩⟩
  | 19, _ => exact ⟨.int, pf_12_19, Or.inl ⟨ft_12_19, Or.inl rfl⟩⟩
  | 20, _ => exact ⟨.int, pf_12_20, Or.inl ⟨ft_12_20, Or.inl rfl⟩⟩
  | 21, _ => exact ⟨.int, pf_12_21, Or.inl ⟨ft_12_21, Or.inl rfl⟩⟩
  | 22, _ => exact ⟨.int, pf_12_22, Or.inl ⟨ft_12_22, Or.inl rfl⟩⟩
  | 23, _ => exact ⟨.int, pf_12_23, Or.inl ⟨ft_12_23, Or.inl rfl⟩⟩
  | 24, _ => exact ⟨.boolean, pf_12_24, Or.inl ⟨ft_12_24, Or.inr rfl⟩⟩
  | 25, _ => exact ⟨.boolean, pf_12_25, Or.inl ⟨ft_12_25, Or.inr rfl⟩⟩
  | 26, _ => exact ⟨.array .int, pf_12_26, Or.inr (Or.inr ⟨ft_12_26, Or.inr ⟨_, rfl⟩⟩)⟩
  | 27, _ => exact ⟨.int, pf_12_27, Or.inl ⟨ft_12_27, Or.inl rfl⟩⟩
  | 28, _ => exact ⟨.int, pf_12_28, Or.inl ⟨ft_12_28, Or.inl rfl⟩⟩
  | 29, _ => exact ⟨.int, pf_12_29, Or.inl ⟨ft_12_29, Or.inl rfl⟩⟩
  | 30, _ => exact ⟨.int, pf_12_30, Or.inl ⟨ft_12_30, Or.inl rfl⟩⟩
  | 31, _ => exact ⟨.array .int, pf_12_31, Or.inr (Or.inr ⟨ft_12_31, Or.inr ⟨_, rfl⟩⟩)⟩
  | 32, _ => exact ⟨.array .int, pf_12_32, Or.inr (Or.inr ⟨ft_12_32, Or.inr ⟨_, rfl⟩⟩)⟩
  | 33, _ => exact ⟨.int, pf_12_33, Or.inl ⟨ft_12_33, Or.inl rfl⟩⟩
  | 34, _ => exact ⟨.array .int, pf_12_34, Or.inr (Or.inr ⟨ft_12_34, Or.inr ⟨_, rfl⟩⟩)⟩
  | 35, _ => exact ⟨.array .int, pf_12_35, Or.inr (Or.inr ⟨ft_12_35, Or.inr ⟨_, rfl⟩⟩)⟩
  | 36, _ => exact ⟨.array .boolean, pf_12_36, Or.inr (Or.inr ⟨ft_12_36, Or.inr ⟨_, rfl⟩⟩)⟩
  | 37, _ => exact ⟨.array .int, pf_12_37, Or.inr (Or.inr ⟨ft_12_37, Or.inr ⟨_, rfl⟩⟩)⟩
  | 38, _ => exact ⟨.array .long, pf_12_38, Or.inr (Or.inr ⟨ft_12_38, Or.inr ⟨_, rfl⟩⟩)⟩
  | 39, _ => exact ⟨.array .int, pf_12_39, Or.inr (Or.inr ⟨ft_12_39, Or.inr ⟨_, rfl⟩⟩)⟩
  | 40, _ => exact ⟨.array .long, pf_12_40, Or.inr (Or.inr ⟨ft_12_40, Or.inr ⟨_, rfl⟩⟩)⟩
  | 41, _ => exact ⟨.int, pf_12_41, Or.inl ⟨ft_12_41, Or.inl rfl⟩⟩
  | 42, _ => exact ⟨.int, pf_12_42, Or.inl ⟨ft_12_42, Or.inl rfl⟩⟩
  | 43, _ => exact ⟨.int, pf_12_43, Or.inl ⟨ft_12_43, Or.inl rfl⟩⟩
  | 44, _ => exact ⟨.int, pf_12_44, Or.inl ⟨ft_12_44, Or.inl rfl⟩⟩
  | 45, _ => exact ⟨.boolean, pf_12_45, Or.inl ⟨ft_12_45, Or.inr rfl⟩⟩
  | 46, _ => exact ⟨.boolean, pf_12_46, Or.inl ⟨ft_12_46, Or.inr rfl⟩⟩
  | 47, _ => exact ⟨.array .long, pf_12_47, Or.inr (Or.inr ⟨ft_12_47, Or.inr ⟨_, rfl⟩⟩)⟩
  | 48, _ => exact ⟨.array .int, pf_12_48, Or.inr (Or.inr ⟨ft_12_48, Or.inr ⟨_, rfl⟩⟩)⟩
  | 49, _ => exact ⟨.int, pf_12_49, Or.inl ⟨ft_12_49, Or.inl rfl⟩⟩
  | 50, _ => exact ⟨.int, pf_12_50, Or.inl ⟨ft_12_50, Or.inl rfl⟩⟩
  | k + 51, h => exact absurd h (by omega)
theorem nw_Law_7 : gNW "CounterDeskLaw" 7 0 14 := ⟨("CounterDesk", gF_Desk, 14), rfl, rfl, by decide, cl_Law_7, gm1 22 rfl rfl, gm1 1 rfl rfl, gnw_Desk⟩
theorem nw_Desk_9 : gNW "CounterDesk" 9 1 10 := ⟨("CounterDesk$Board", gF_Board, 10), rfl, rfl, by decide, cl_Desk_9, gm1 30 rfl rfl, gm1 2 rfl rfl, gnw_Board⟩
theorem nw_Board_27 : gNW "CounterDesk$Board" 27 10 8 := ⟨("CounterDesk$Text", gF_Text, 8), rfl, rfl, by decide, cl_Board_27, gm2 79 rfl rfl, gm1 12 rfl rfl, gnw_Text⟩
theorem nw_Desk_16 : gNW "CounterDesk" 16 4 4 := ⟨("CounterDesk$Judge", gF_Judge, 4), rfl, rfl, by decide, cl_Desk_16, gm1 102 rfl rfl, gm1 3 rfl rfl, gnw_Judge⟩
theorem nw_Judge_9 : gNW "CounterDesk$Judge" 9 5 1 := ⟨("CounterDesk$Machine", gF_Machine, 1), rfl, rfl, by decide, cl_Judge_9, gm1 108 rfl rfl, gm1 4 rfl rfl, gnw_Machine⟩
theorem nw_Desk_23 : gNW "CounterDesk" 23 2 10 := ⟨("CounterDesk$Clerk", gF_Clerk, 10), rfl, rfl, by decide, cl_Desk_23, gm1 131 rfl rfl, gm1 5 rfl rfl, gnw_Clerk⟩
theorem nw_Clerk_9 : gNW "CounterDesk$Clerk" 9 11 4 := ⟨("CounterDesk$Trail", gF_Trail, 4), rfl, rfl, by decide, cl_Clerk_9, gm1 137 rfl rfl, gm1 6 rfl rfl, gnw_Trail⟩
theorem nw_Clerk_22 : gNW "CounterDesk$Clerk" 22 5 1 := ⟨("CounterDesk$Machine", gF_Machine, 1), rfl, rfl, by decide, cl_Clerk_22, gm1 108 rfl rfl, gm1 4 rfl rfl, gnw_Machine⟩
theorem nw_Clerk_29 : gNW "CounterDesk$Clerk" 29 1 10 := ⟨("CounterDesk$Board", gF_Board, 10), rfl, rfl, by decide, cl_Clerk_29, gm1 30 rfl rfl, gm1 2 rfl rfl, gnw_Board⟩
theorem nw_Desk_32 : gNW "CounterDesk" 32 6 13 := ⟨("CounterDesk$Paper", gF_Paper, 13), rfl, rfl, by decide, cl_Desk_32, gm1 198 rfl rfl, gm1 7 rfl rfl, gnw_Paper⟩
theorem nw_Paper_9 : gNW "CounterDesk$Paper" 9 8 4 := ⟨("CounterDesk$Sheet", gF_Sheet, 4), rfl, rfl, by decide, cl_Paper_9, gm1 204 rfl rfl, gm1 8 rfl rfl, gnw_Sheet⟩
theorem nw_Sheet_20 : gNW "CounterDesk$Sheet" 20 10 8 := ⟨("CounterDesk$Text", gF_Text, 8), rfl, rfl, by decide, cl_Sheet_20, gm2 79 rfl rfl, gm1 12 rfl rfl, gnw_Text⟩
theorem nw_Paper_49 : gNW "CounterDesk$Paper" 49 1 10 := ⟨("CounterDesk$Board", gF_Board, 10), rfl, rfl, by decide, cl_Paper_49, gm1 30 rfl rfl, gm1 2 rfl rfl, gnw_Board⟩
theorem nw_Desk_41 : gNW "CounterDesk" 41 3 3 := ⟨("CounterDesk$Draws", gF_Draws, 3), rfl, rfl, by decide, cl_Desk_41, gm2 36 rfl rfl, gm1 9 rfl rfl, gnw_Draws⟩
theorem nw_Draws_9 : gNW "CounterDesk$Draws" 9 1 10 := ⟨("CounterDesk$Board", gF_Board, 10), rfl, rfl, by decide, cl_Draws_9, gm1 30 rfl rfl, gm1 2 rfl rfl, gnw_Board⟩
theorem nw_Desk_48 : gNW "CounterDesk" 48 9 2 := ⟨("CounterDesk$Tape", gF_Tape, 2), rfl, rfl, by decide, cl_Desk_48, gm2 56 rfl rfl, gm1 10 rfl rfl, gnw_Tape⟩
theorem nw_Desk_55 : gNW "CounterDesk" 55 7 9 := ⟨("CounterDesk$Reader", gF_Reader, 9), rfl, rfl, by decide, cl_Desk_55, gm2 73 rfl rfl, gm1 11 rfl rfl, gnw_Reader⟩
theorem nw_Reader_9 : gNW "CounterDesk$Reader" 9 10 8 := ⟨("CounterDesk$Text", gF_Text, 8), rfl, rfl, by decide, cl_Reader_9, gm2 79 rfl rfl, gm1 12 rfl rfl, gnw_Text⟩
theorem nw_Desk_154 : gNW "CounterDesk" 154 10 8 := ⟨("CounterDesk$Text", gF_Text, 8), rfl, rfl, by decide, cl_Desk_154, gm2 79 rfl rfl, gm1 12 rfl rfl, gnw_Text⟩
theorem nw_Law_10 : gNW "CounterDeskLaw" 10 12 51 := ⟨("CounterDeskModel", gF_Model, 51), rfl, rfl, by decide, cl_Law_10, gm5 101 rfl rfl, gm1 13 rfl rfl, gnw_Model⟩
