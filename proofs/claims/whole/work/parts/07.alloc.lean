/-- the memory with f at the address a -/
def gfr (g : gM) (a : Int) (f : Int → Int) : gM := fun x y => if x = a then f y else g x y
/-- what a new object of class q holds -/
def gdef (q : Nat) : Int → Int := fun y => if gft q y.toNat = 2 then -1 else 0
theorem gRel_push {D : gD} {sh : gS} {g : gM} {H H2 : Heap} {f : Int → Int} {s : Nat × Nat} {c : Cell} (h : gRel D sh g H) (hc : H2[H.size]? = some c) (hcell : gcell D s f c) (hz : H2.size = H.size + 1) (ho : ∀ q : Nat, q < H.size → H2[q]? = H[q]?) : gRel D (sh ++ [s]) (gfr g (sh.length : Int) f) H2 := by
  refine ⟨by rw [hz, h.1, List.length_append]; rfl, fun j s' hj => ?_⟩
  by_cases e : j < sh.length
  · rw [List.getElem?_append_left e] at hj
    obtain ⟨c', q1, q2⟩ := h.2 j s' hj
    have e2 : ¬ (j : Int) = (sh.length : Int) := by omega
    refine ⟨c', by rw [ho _ (by rw [h.1]; omega)]; exact q1, ?_⟩
    have e3 : gfr g (sh.length : Int) f (j : Int) = g (j : Int) := by funext y; unfold gfr; rw [if_neg e2]
    rw [e3]; exact q2
  · rw [List.getElem?_append_right (by omega)] at hj
    have hz2 : j - sh.length < 1 := (List.getElem?_eq_some_iff.mp hj).1
    have e1 : j = sh.length := by omega
    subst e1
    rw [Nat.sub_self] at hj
    cases hj
    have e3 : gfr g (sh.length : Int) f (sh.length : Int) = f := by funext y; unfold gfr; rw [if_pos rfl]
    rw [e3, ← h.1]
    exact ⟨c, hc, hcell⟩
theorem gS_push {D : gD} {H0 H H2 : Heap} {locs : List Loc} (h : va_S (gA D) H0 H locs) (hz : H.size ≤ H2.size) (ho : ∀ q : Nat, q < H.size → H2[q]? = H[q]?) : va_S (gA D) H0 H2 locs := ⟨Nat.le_trans h.1 hz, fun x h1 h2 => (ho x (Nat.lt_of_lt_of_le h1 h.1)).trans (h.2.1 x h1 h2), h.2.2⟩
/-- a class that is made: its words -/
def gNW (own : String) (idx q N : Nat) : Prop := ∃ r : vw_C, gcl[q]? = some r ∧ r.2.2 = N ∧ q < 13 ∧ Cond.classLink own idx r.1 ∈ lw_good ∧ Cond.instantiable r.1 r.2.2 ∈ lw_good ∧ Cond.initialized r.1 ∈ lw_good ∧ ∀ k, k < r.2.2 → ∃ ty, parseFieldDescriptor (r.2.1 k).2.2.1 = some ty ∧ ((gft q k = 0 ∧ (ty = .int ∨ ty = .boolean)) ∨ (gft q k = 1 ∧ ty = .long) ∨ (gft q k = 2 ∧ ((∃ n, ty = .object n) ∨ ∃ t, ty = .array t)))
theorem gbytes {n k : Nat} (h : n ≤ 60000000) (hk : k ≤ 8) : n * k ≤ 536870912 := Nat.le_trans (Nat.mul_le_mul h hk) (by decide)
section GA
variable {F : gF} {d mc ms pc npc : Nat} {ls st : List gV} {sh : gS} {g : gM} {Q : gQ}
theorem gw_new {idx q N : Nat} (hi : gI F pc (.new idx) 3 npc) (hq : gNW F.1.cls idx q N) (hmc : 1 ≤ mc ∧ N ≤ ms) (kk : gWP F d (mc - 1) (ms - N) npc ls ((2, (sh.length : Int)) :: st) (sh ++ [(q, N)]) (gfr g (sh.length : Int) (gdef q)) Q) : gWP F d mc ms pc ls st sh g Q := by
  intro D p l e R s m args below meth c H locs cells slots lsC Qw C hR hS hl h1 h2 K
  obtain ⟨hd, rfl⟩ := hi

  obtain ⟨r, c1, rfl, c3, c4, c5, c6, c7⟩ := hq
  have hts := C.2.2.2.2.2.1
  have hin := gok_lays (gcl_ok q r c1)
  have hK : va_K D.1 gcl (gtys D) s := C.2.2.2.2.2.2.2.2.2.2.1.1
  have hKn := hK.1 q r c1
  have ch : ∀ k, ∃ ty, k < r.2.2 → parseFieldDescriptor (r.2.1 k).2.2.1 = some ty ∧ ((gft q k = 0 ∧ (ty = .int ∨ ty = .boolean)) ∨ (gft q k = 1 ∧ ty = .long) ∨ (gft q k = 2 ∧ ((∃ n, ty = .object n) ∨ ∃ t, ty = .array t))) := fun k => by
    by_cases h : k < r.2.2
    · obtain ⟨ty, h2⟩ := c7 k h
      exact ⟨ty, fun _ => h2⟩
    · exact ⟨.int, fun h2 => absurd h2 h⟩
  refine W.newcK C.1 C.2.1 C.2.2.2.2.1 (hts _ c4) (hts _ c5) (hts _ c6) rfl hd (by omega) (by omega) hKn.2.1 rfl fun H2 kC hkC e1 z1 o1 => ?_
  obtain ⟨cell, b1, b2, b3, b4⟩ := u_born (fun k => Classical.choose (ch k)) hts hin hKn hkC e1 (fun k hk => (Classical.choose_spec (ch k) hk).1)
  have hcell : gcell D (q, r.2.2) (gdef q) cell := by
    refine ⟨fun _ => ⟨b2, b3, fun k hk => ?_⟩, fun h => by have h' : 13 ≤ q := h; omega⟩
    rw [b4 k hk]
    have hty := (Classical.choose_spec (ch k) hk).2
    show some (defaultValue (Classical.choose (ch k))) = some (gcv D (gft q k, if gft q ((k : Int)).toNat = 2 then -1 else 0))
    generalize Classical.choose (ch k) = ty at hty ⊢
    have e0 : ((k : Int)).toNat = k := by omega
    rw [e0]
    rcases hty with ⟨q1, rfl | rfl⟩ | ⟨q1, rfl⟩ | ⟨q1, ⟨n, rfl⟩ | ⟨t, rfl⟩⟩ <;> rw [q1] <;> rfl
  have hR2 := gRel_push hR b1 hcell z1 o1
  have e5 : D.2.2.1 + ((sh.length : Nat) : Int).toNat = H.size := by rw [hR.1]; omega
  have k2 := kk D p l e R s m args below meth c H2 locs (cells + 1) (slots + r.2.2) lsC Qw C hR2 (gS_push hS (by omega) o1) hl (by omega) (by omega) (fun r3 sh3 g3 H3 locs3 ls3 pc3 c3 s3 q1 q2 q3 q4 q5 q6 => K r3 sh3 g3 H3 locs3 ls3 pc3 c3 s3 q1 q2 q3 q4 (by omega) (by omega))
  rw [List.map_cons, gcv_r D _ (by omega), e5] at k2
  exact k2
theorem gw_newai {n : Int} {N : Nat} (hi : gI F pc (.newarray .int) 2 npc) (hw : Cond.arrayClass .int ∈ lw_good) (hn : 0 ≤ n ∧ n ≤ 60000000) (hN : n.toNat = N) (hmc : 1 ≤ mc ∧ N ≤ ms) (kk : gWP F d (mc - 1) (ms - N) npc ls ((2, (sh.length : Int)) :: st) (sh ++ [(13, N)]) (gfr g (sh.length : Int) (fun _ => 0)) Q) : gWP F d mc ms pc ls ((0, n) :: st) sh g Q := by
  intro D p l e R s m args below meth c H locs cells slots lsC Qw C hR hS hl h1 h2 K
  obtain ⟨hd, rfl⟩ := hi
  subst hN
  have hx2 := gi_ix (i := n) (n := n.toNat + 1) (by omega)
  have hts := C.2.2.2.2.2.1
  have hK : va_K D.1 gcl (gtys D) s := C.2.2.2.2.2.2.2.2.2.2.1.1
  rw [List.map_cons]
  refine va_newaK (atype := .int) (n := Int32.ofInt n) (N := n.toNat) C.1 C.2.1 (hts _ hw) rfl hd rfl (fun z => hx2.2 (Or.inl z)) hx2.1 (gbytes (by omega) (by decide)) (by omega) (by omega) rfl (fun H2 cA e1 z1 o1 _ fA => ?_)
  have hcA : cA = D.2.1 13 := by
    have h9 := (hK.2 0 _ rfl).2
    exact Option.some.inj (fA.symm.trans h9)
  subst hcA
  have hR2 := gRel_push (f := fun _ => 0) (s := (13, n.toNat)) hR e1 ⟨fun h => by have h' : 13 < 13 := h; omega, fun _ => rfl⟩ z1 o1
  have e5 : D.2.2.1 + ((sh.length : Nat) : Int).toNat = H.size := by rw [hR.1]; omega
  have k2 := kk D p l e R s m args below meth c H2 locs (cells + 1) (slots + n.toNat) lsC Qw C hR2 (gS_push hS (by omega) o1) hl (by omega) (by omega) (fun r3 sh3 g3 H3 locs3 ls3 pc3 c3 s3 q1 q2 q3 q4 q5 q6 => K r3 sh3 g3 H3 locs3 ls3 pc3 c3 s3 q1 q2 q3 q4 (by omega) (by omega))
  rw [List.map_cons, gcv_r D _ (by omega), e5] at k2
  exact k2
theorem gw_newaz {n : Int} {N : Nat} (hi : gI F pc (.newarray .boolean) 2 npc) (hw : Cond.arrayClass .boolean ∈ lw_good) (hn : 0 ≤ n ∧ n ≤ 60000000) (hN : n.toNat = N) (hmc : 1 ≤ mc ∧ N ≤ ms) (kk : gWP F d (mc - 1) (ms - N) npc ls ((2, (sh.length : Int)) :: st) (sh ++ [(14, N)]) (gfr g (sh.length : Int) (fun _ => 0)) Q) : gWP F d mc ms pc ls ((0, n) :: st) sh g Q := by
  intro D p l e R s m args below meth c H locs cells slots lsC Qw C hR hS hl h1 h2 K
  obtain ⟨hd, rfl⟩ := hi
  subst hN
  have hx2 := gi_ix (i := n) (n := n.toNat + 1) (by omega)
  have hts := C.2.2.2.2.2.1
  have hK : va_K D.1 gcl (gtys D) s := C.2.2.2.2.2.2.2.2.2.2.1.1
  rw [List.map_cons]
  refine va_newaK (atype := .boolean) (n := Int32.ofInt n) (N := n.toNat) C.1 C.2.1 (hts _ hw) rfl hd rfl (fun z => hx2.2 (Or.inl z)) hx2.1 (gbytes (by omega) (by decide)) (by omega) (by omega) rfl (fun H2 cA e1 z1 o1 _ fA => ?_)
  have hcA : cA = D.2.1 14 := by
    have h9 := (hK.2 1 _ rfl).2
    exact Option.some.inj (fA.symm.trans h9)
  subst hcA
  have hR2 := gRel_push (f := fun _ => 0) (s := (14, n.toNat)) hR e1 ⟨fun h => by have h' : 14 < 13 := h; omega, fun _ => rfl⟩ z1 o1
  have e5 : D.2.2.1 + ((sh.length : Nat) : Int).toNat = H.size := by rw [hR.1]; omega
  have k2 := kk D p l e R s m args below meth c H2 locs (cells + 1) (slots + n.toNat) lsC Qw C hR2 (gS_push hS (by omega) o1) hl (by omega) (by omega) (fun r3 sh3 g3 H3 locs3 ls3 pc3 c3 s3 q1 q2 q3 q4 q5 q6 => K r3 sh3 g3 H3 locs3 ls3 pc3 c3 s3 q1 q2 q3 q4 (by omega) (by omega))
  rw [List.map_cons, gcv_r D _ (by omega), e5] at k2
  exact k2
theorem gw_newab {n : Int} {N : Nat} (hi : gI F pc (.newarray .byte) 2 npc) (hw : Cond.arrayClass .byte ∈ lw_good) (hn : 0 ≤ n ∧ n ≤ 60000000) (hN : n.toNat = N) (hmc : 1 ≤ mc ∧ N ≤ ms) (kk : gWP F d (mc - 1) (ms - N) npc ls ((2, (sh.length : Int)) :: st) (sh ++ [(15, N)]) (gfr g (sh.length : Int) (fun _ => 0)) Q) : gWP F d mc ms pc ls ((0, n) :: st) sh g Q := by
  intro D p l e R s m args below meth c H locs cells slots lsC Qw C hR hS hl h1 h2 K
  obtain ⟨hd, rfl⟩ := hi
  subst hN
  have hx2 := gi_ix (i := n) (n := n.toNat + 1) (by omega)
  have hts := C.2.2.2.2.2.1
  have hK : va_K D.1 gcl (gtys D) s := C.2.2.2.2.2.2.2.2.2.2.1.1
  rw [List.map_cons]
  refine va_newaK (atype := .byte) (n := Int32.ofInt n) (N := n.toNat) C.1 C.2.1 (hts _ hw) rfl hd rfl (fun z => hx2.2 (Or.inl z)) hx2.1 (gbytes (by omega) (by decide)) (by omega) (by omega) rfl (fun H2 cA e1 z1 o1 _ fA => ?_)
  have hcA : cA = D.2.1 15 := by
    have h9 := (hK.2 2 _ rfl).2
    exact Option.some.inj (fA.symm.trans h9)
  subst hcA
  have hR2 := gRel_push (f := fun _ => 0) (s := (15, n.toNat)) hR e1 ⟨fun h => by have h' : 15 < 13 := h; omega, fun _ => rfl⟩ z1 o1
  have e5 : D.2.2.1 + ((sh.length : Nat) : Int).toNat = H.size := by rw [hR.1]; omega
  have k2 := kk D p l e R s m args below meth c H2 locs (cells + 1) (slots + n.toNat) lsC Qw C hR2 (gS_push hS (by omega) o1) hl (by omega) (by omega) (fun r3 sh3 g3 H3 locs3 ls3 pc3 c3 s3 q1 q2 q3 q4 q5 q6 => K r3 sh3 g3 H3 locs3 ls3 pc3 c3 s3 q1 q2 q3 q4 (by omega) (by omega))
  rw [List.map_cons, gcv_r D _ (by omega), e5] at k2
  exact k2
theorem gw_newal {n : Int} {N : Nat} (hi : gI F pc (.newarray .long) 2 npc) (hw : Cond.arrayClass .long ∈ lw_good) (hn : 0 ≤ n ∧ n ≤ 60000000) (hN : n.toNat = N) (hmc : 1 ≤ mc ∧ N ≤ ms) (kk : gWP F d (mc - 1) (ms - N) npc ls ((2, (sh.length : Int)) :: st) (sh ++ [(16, N)]) (gfr g (sh.length : Int) (fun _ => 0)) Q) : gWP F d mc ms pc ls ((0, n) :: st) sh g Q := by
  intro D p l e R s m args below meth c H locs cells slots lsC Qw C hR hS hl h1 h2 K
  obtain ⟨hd, rfl⟩ := hi
  subst hN
  have hx2 := gi_ix (i := n) (n := n.toNat + 1) (by omega)
  have hts := C.2.2.2.2.2.1
  have hK : va_K D.1 gcl (gtys D) s := C.2.2.2.2.2.2.2.2.2.2.1.1
  rw [List.map_cons]
  refine va_newaK (atype := .long) (n := Int32.ofInt n) (N := n.toNat) C.1 C.2.1 (hts _ hw) rfl hd rfl (fun z => hx2.2 (Or.inl z)) hx2.1 (gbytes (by omega) (by decide)) (by omega) (by omega) rfl (fun H2 cA e1 z1 o1 _ fA => ?_)
  have hcA : cA = D.2.1 16 := by
    have h9 := (hK.2 3 _ rfl).2
    exact Option.some.inj (fA.symm.trans h9)
  subst hcA
  have hR2 := gRel_push (f := fun _ => 0) (s := (16, n.toNat)) hR e1 ⟨fun h => by have h' : 16 < 13 := h; omega, fun _ => rfl⟩ z1 o1
  have e5 : D.2.2.1 + ((sh.length : Nat) : Int).toNat = H.size := by rw [hR.1]; omega
  have k2 := kk D p l e R s m args below meth c H2 locs (cells + 1) (slots + n.toNat) lsC Qw C hR2 (gS_push hS (by omega) o1) hl (by omega) (by omega) (fun r3 sh3 g3 H3 locs3 ls3 pc3 c3 s3 q1 q2 q3 q4 q5 q6 => K r3 sh3 g3 H3 locs3 ls3 pc3 c3 s3 q1 q2 q3 q4 (by omega) (by omega))
  rw [List.map_cons, gcv_r D _ (by omega), e5] at k2
  exact k2
theorem gw_anewText {idx : Nat} {n : Int} {N : Nat} (hi : gI F pc (.anewarray idx) 3 npc) (hw : Cond.classLink F.1.cls idx "CounterDesk$Text" ∈ lw_good) (hn : 0 ≤ n ∧ n ≤ 60000000) (hN : n.toNat = N) (hmc : 1 ≤ mc ∧ N ≤ ms) (kk : gWP F d (mc - 1) (ms - N) npc ls ((2, (sh.length : Int)) :: st) (sh ++ [(17, N)]) (gfr g (sh.length : Int) (fun _ => -1)) Q) : gWP F d mc ms pc ls ((0, n) :: st) sh g Q := by
  intro D p l e R s m args below meth c H locs cells slots lsC Qw C hR hS hl h1 h2 K
  obtain ⟨hd, rfl⟩ := hi
  subst hN
  have hx2 := gi_ix (i := n) (n := n.toNat + 1) (by omega)
  have hts := C.2.2.2.2.2.1
  have hK : va_K D.1 gcl (gtys D) s := C.2.2.2.2.2.2.2.2.2.2.1.1
  have hao : va_AO "CounterDesk$Text" s := C.2.2.2.2.2.2.2.2.2.2.1.2.1
  rw [List.map_cons]
  refine W.anew (n := Int32.ofInt n) C.1 C.2.1 C.2.2.2.2.1 (hts _ hw) (va_AO.use hao) rfl hd rfl (fun z => hx2.2 (Or.inl z)) (by rw [hx2.1]; omega) (by omega) (by rw [hx2.1]; omega) (fun cA kA comp fA f2 f3 f4 => ?_)
  have hcA : cA = D.2.1 17 := by
    obtain ⟨kA9, comp9, q1, q2, q3, q4⟩ := (hK.2 4 _ rfl).2
    exact Option.some.inj (fA.symm.trans q4)
  subst hcA
  rw [hx2.1]
  generalize hH2 : H.push ({ cls := D.2.1 17, slots := Array.replicate n.toNat .null, vm := .none } : Cell) = H2
  have z1 : H2.size = H.size + 1 := by rw [← hH2, Array.size_push]
  have e1 : H2[H.size]? = some (arrV (D.2.1 17) n.toNat (fun _ => .null)) := by rw [← hH2, Array.getElem?_push_size, ← arrV_new]
  have o1 : ∀ q : Nat, q < H.size → H2[q]? = H[q]? := fun q hq => by rw [← hH2, Array.getElem?_push, if_neg (Nat.ne_of_lt hq)]
  have hR2 := gRel_push (f := fun _ => -1) (s := (17, n.toNat)) hR e1 ⟨fun h => by have h' : 17 < 13 := h; omega, fun _ => rfl⟩ z1 o1
  have e5 : D.2.2.1 + ((sh.length : Nat) : Int).toNat = H.size := by rw [hR.1]; omega
  have k2 := kk D p l e R s m args below meth c H2 locs (cells + 1) (slots + n.toNat) lsC Qw C hR2 (gS_push hS (by omega) o1) hl (by omega) (by omega) (fun r3 sh3 g3 H3 locs3 ls3 pc3 c3 s3 q1 q2 q3 q4 q5 q6 => K r3 sh3 g3 H3 locs3 ls3 pc3 c3 s3 q1 q2 q3 q4 (by omega) (by omega))
  rw [List.map_cons, gcv_r D _ (by omega), e5] at k2
  exact k2
theorem gw_anewBoard {idx : Nat} {n : Int} {N : Nat} (hi : gI F pc (.anewarray idx) 3 npc) (hw : Cond.classLink F.1.cls idx "CounterDesk$Board" ∈ lw_good) (hn : 0 ≤ n ∧ n ≤ 60000000) (hN : n.toNat = N) (hmc : 1 ≤ mc ∧ N ≤ ms) (kk : gWP F d (mc - 1) (ms - N) npc ls ((2, (sh.length : Int)) :: st) (sh ++ [(18, N)]) (gfr g (sh.length : Int) (fun _ => -1)) Q) : gWP F d mc ms pc ls ((0, n) :: st) sh g Q := by
  intro D p l e R s m args below meth c H locs cells slots lsC Qw C hR hS hl h1 h2 K
  obtain ⟨hd, rfl⟩ := hi
  subst hN
  have hx2 := gi_ix (i := n) (n := n.toNat + 1) (by omega)
  have hts := C.2.2.2.2.2.1
  have hK : va_K D.1 gcl (gtys D) s := C.2.2.2.2.2.2.2.2.2.2.1.1
  have hao : va_AO "CounterDesk$Board" s := C.2.2.2.2.2.2.2.2.2.2.1.2.2.1
  rw [List.map_cons]
  refine W.anew (n := Int32.ofInt n) C.1 C.2.1 C.2.2.2.2.1 (hts _ hw) (va_AO.use hao) rfl hd rfl (fun z => hx2.2 (Or.inl z)) (by rw [hx2.1]; omega) (by omega) (by rw [hx2.1]; omega) (fun cA kA comp fA f2 f3 f4 => ?_)
  have hcA : cA = D.2.1 18 := by
    obtain ⟨kA9, comp9, q1, q2, q3, q4⟩ := (hK.2 5 _ rfl).2
    exact Option.some.inj (fA.symm.trans q4)
  subst hcA
  rw [hx2.1]
  generalize hH2 : H.push ({ cls := D.2.1 18, slots := Array.replicate n.toNat .null, vm := .none } : Cell) = H2
  have z1 : H2.size = H.size + 1 := by rw [← hH2, Array.size_push]
  have e1 : H2[H.size]? = some (arrV (D.2.1 18) n.toNat (fun _ => .null)) := by rw [← hH2, Array.getElem?_push_size, ← arrV_new]
  have o1 : ∀ q : Nat, q < H.size → H2[q]? = H[q]? := fun q hq => by rw [← hH2, Array.getElem?_push, if_neg (Nat.ne_of_lt hq)]
  have hR2 := gRel_push (f := fun _ => -1) (s := (18, n.toNat)) hR e1 ⟨fun h => by have h' : 18 < 13 := h; omega, fun _ => rfl⟩ z1 o1
  have e5 : D.2.2.1 + ((sh.length : Nat) : Int).toNat = H.size := by rw [hR.1]; omega
  have k2 := kk D p l e R s m args below meth c H2 locs (cells + 1) (slots + n.toNat) lsC Qw C hR2 (gS_push hS (by omega) o1) hl (by omega) (by omega) (fun r3 sh3 g3 H3 locs3 ls3 pc3 c3 s3 q1 q2 q3 q4 q5 q6 => K r3 sh3 g3 H3 locs3 ls3 pc3 c3 s3 q1 q2 q3 q4 (by omega) (by omega))
  rw [List.map_cons, gcv_r D _ (by omega), e5] at k2
  exact k2
theorem gw_aast_Text {a i x : Int} {n N : Nat} (hi : gI F pc (.aastore) 1 npc) (hs : gsz sh a 17 n) (hx : 0 ≤ i ∧ i < (n : Int) ∧ i ≤ 2147483647) (hv : x < 0 ∨ gsz sh x 10 N) (kk : gWP F d mc ms npc ls st sh (gup g a i x) Q) : gWP F d mc ms pc ls ((2, x) :: (0, i) :: (2, a) :: st) sh g Q := by
  intro D p l e R s m args below meth c H locs cells slots lsC Qw C hR hS hl h1 h2 K
  obtain ⟨hd, rfl⟩ := hi
  have hx2 := gi_ix hx
  have hK : va_K D.1 gcl (gtys D) s := C.2.2.2.2.2.2.2.2.2.2.1.1
  rw [List.map_cons, List.map_cons, List.map_cons, gcv_r D a hs.1]
  by_cases hz : x < 0
  · rw [gcv_n D x hz]
    refine va_WaastN (C := "CounterDesk$Text") C.1 C.2.1 (garr hR hs (by omega)) (gty C.2.2.2.2.2.2.2.2.2.2.1.1 (t0 := 4) rfl _ _) gknown (by rw [arrV_size]; exact hx2.2) rfl rfl hd (fun H2 k1 k2 k3 => ?_)
    rw [hx2.1] at k1 ⊢
    have hR2 := garr_set (x := x) hR hs (by omega) hx.1 (gcv_n D x hz).symm k1 k2 k3
    exact kk D p l e R s m args below meth c H2 _ cells slots lsC Qw C hR2 (gS_put hS k2 k3) hl h1 h2 K
  · have hv2 := hv.resolve_left hz
    obtain ⟨s1, s2⟩ := hv2
    obtain ⟨cell, e1, e2, -⟩ := hR.2 _ _ s2
    obtain ⟨f1, f2, -⟩ := e2 (by show 10 < 13; omega)
    have hcls := (hK.1 10 _ rfl).2
    obtain ⟨kA, comp, k1, k2, k3, -⟩ := (hK.2 4 _ rfl).2
    have hcomp : comp = D.1.1 10 := Option.some.inj (k3.symm.trans hcls.1)
    subst hcomp
    obtain ⟨kC, hkC, -⟩ := hcls.2
    rw [gcv_r D x s1]
    refine W.aast C.1 C.2.1 (garr hR hs (by omega)) (fun q h => by cases h) gknown k1 k2 rfl hkC (by rw [arrV_size]; exact ⟨fun z => hx2.2 (Or.inl z), by rw [hx2.1]; omega⟩) e1 (fun q h => by rw [f2] at h; cases h) (by rw [f1]; exact hkC) (by rw [f1]; exact va_assign hcls) rfl rfl hd (fun H2 k1 k2 k3 => ?_)
    rw [hx2.1] at k1 ⊢
    have hR2 := garr_set (x := x) hR hs (by omega) hx.1 (gcv_r D x s1).symm k1 k2 k3
    exact kk D p l e R s m args below meth c H2 _ cells slots lsC Qw C hR2 (gS_put hS k2 k3) hl h1 h2 K
theorem gw_aast_Board {a i x : Int} {n N : Nat} (hi : gI F pc (.aastore) 1 npc) (hs : gsz sh a 18 n) (hx : 0 ≤ i ∧ i < (n : Int) ∧ i ≤ 2147483647) (hv : x < 0 ∨ gsz sh x 1 N) (kk : gWP F d mc ms npc ls st sh (gup g a i x) Q) : gWP F d mc ms pc ls ((2, x) :: (0, i) :: (2, a) :: st) sh g Q := by
  intro D p l e R s m args below meth c H locs cells slots lsC Qw C hR hS hl h1 h2 K
  obtain ⟨hd, rfl⟩ := hi
  have hx2 := gi_ix hx
  have hK : va_K D.1 gcl (gtys D) s := C.2.2.2.2.2.2.2.2.2.2.1.1
  rw [List.map_cons, List.map_cons, List.map_cons, gcv_r D a hs.1]
  by_cases hz : x < 0
  · rw [gcv_n D x hz]
    refine va_WaastN (C := "CounterDesk$Board") C.1 C.2.1 (garr hR hs (by omega)) (gty C.2.2.2.2.2.2.2.2.2.2.1.1 (t0 := 5) rfl _ _) gknown (by rw [arrV_size]; exact hx2.2) rfl rfl hd (fun H2 k1 k2 k3 => ?_)
    rw [hx2.1] at k1 ⊢
    have hR2 := garr_set (x := x) hR hs (by omega) hx.1 (gcv_n D x hz).symm k1 k2 k3
    exact kk D p l e R s m args below meth c H2 _ cells slots lsC Qw C hR2 (gS_put hS k2 k3) hl h1 h2 K
  · have hv2 := hv.resolve_left hz
    obtain ⟨s1, s2⟩ := hv2
    obtain ⟨cell, e1, e2, -⟩ := hR.2 _ _ s2
    obtain ⟨f1, f2, -⟩ := e2 (by show 1 < 13; omega)
    have hcls := (hK.1 1 _ rfl).2
    obtain ⟨kA, comp, k1, k2, k3, -⟩ := (hK.2 5 _ rfl).2
    have hcomp : comp = D.1.1 1 := Option.some.inj (k3.symm.trans hcls.1)
    subst hcomp
    obtain ⟨kC, hkC, -⟩ := hcls.2
    rw [gcv_r D x s1]
    refine W.aast C.1 C.2.1 (garr hR hs (by omega)) (fun q h => by cases h) gknown k1 k2 rfl hkC (by rw [arrV_size]; exact ⟨fun z => hx2.2 (Or.inl z), by rw [hx2.1]; omega⟩) e1 (fun q h => by rw [f2] at h; cases h) (by rw [f1]; exact hkC) (by rw [f1]; exact va_assign hcls) rfl rfl hd (fun H2 k1 k2 k3 => ?_)
    rw [hx2.1] at k1 ⊢
    have hR2 := garr_set (x := x) hR hs (by omega) hx.1 (gcv_r D x s1).symm k1 k2 k3
    exact kk D p l e R s m args below meth c H2 _ cells slots lsC Qw C hR2 (gS_put hS k2 k3) hl h1 h2 K
theorem gw_tableIn {dflt lo hi2 off a : Int} {offs : Array Int} {len tgt : Nat} (hi : gI F pc (.tableswitch dflt lo hi2 offs) len npc) (ha : -2147483648 ≤ a ∧ a ≤ 2147483647) (h1' : lo ≤ a ∧ a ≤ hi2) (ho : offs[(a - lo).toNat]? = some off) (ht : ((pc : Int) + off == (tgt : Int)) = true) (kk : gWP F d mc ms tgt ls st sh g Q) : gWP F d mc ms pc ls ((0, a) :: st) sh g Q := by
  intro D p l e R s m args below meth c H locs cells slots lsC Qw C hR hS hl h1 h2 K
  obtain ⟨hd, rfl⟩ := hi
  have ea := gint a ha
  exact lv_tableIn C.1 C.2.1 hd (by rw [ea]; omega) (by rw [ea]; omega) (by rw [ea]; exact ho) (by simpa using ht) (kk D p l e R s m args below meth c H locs cells slots lsC Qw C hR hS hl h1 h2 K)
theorem gw_tableOut {dflt lo hi2 a : Int} {offs : Array Int} {len tgt : Nat} (hi : gI F pc (.tableswitch dflt lo hi2 offs) len npc) (ha : -2147483648 ≤ a ∧ a ≤ 2147483647) (h1' : a < lo ∨ hi2 < a) (ht : ((pc : Int) + dflt == (tgt : Int)) = true) (kk : gWP F d mc ms tgt ls st sh g Q) : gWP F d mc ms pc ls ((0, a) :: st) sh g Q := by
  intro D p l e R s m args below meth c H locs cells slots lsC Qw C hR hS hl h1 h2 K
  obtain ⟨hd, rfl⟩ := hi
  have ea := gint a ha
  exact lv_tableOut C.1 C.2.1 hd (by rw [ea]; omega) (by simpa using ht) (kk D p l e R s m args below meth c H locs cells slots lsC Qw C hR hS hl h1 h2 K)
theorem gw_lookup {dflt off a : Int} {ps : Array (Int × Int)} {len tgt : Nat} (hi : gI F pc (.lookupswitch dflt ps) len npc) (hp : (ps.toList.zip (ps.toList.drop 1)).all (fun (a, next) => a.1 < next.1) = true) (ha : -2147483648 ≤ a ∧ a ≤ 2147483647) (ho : Op.lookupswitch.offset ps.toList dflt a = off) (ht : ((pc : Int) + off == (tgt : Int)) = true) (kk : gWP F d mc ms tgt ls st sh g Q) : gWP F d mc ms pc ls ((0, a) :: st) sh g Q := by
  intro D p l e R s m args below meth c H locs cells slots lsC Qw C hR hS hl h1 h2 K
  obtain ⟨hd, rfl⟩ := hi
  have ea := gint a ha
  exact lv_lookup C.1 C.2.1 hd hp (by simpa only [ea] using ho) (by simpa using ht) (kk D p l e R s m args below meth c H locs cells slots lsC Qw C hR hS hl h1 h2 K)
end GA
