/-! ===== numbers ===== -/
theorem gint (x : Int) (h : -2147483648 ≤ x ∧ x ≤ 2147483647) : (Int32.ofInt x).toInt = x := Int32.toInt_ofInt_of_le (by omega) (by omega)
theorem glng (x : Int) (h : -9223372036854775808 ≤ x ∧ x ≤ 9223372036854775807) : (Int64.ofInt x).toInt = x := Int64.toInt_ofInt_of_le (by omega) (by omega)
theorem gi_lt {a b : Int} (h : (-2147483648 ≤ a ∧ a ≤ 2147483647) ∧ -2147483648 ≤ b ∧ b ≤ 2147483647) : Int32.ofInt a < Int32.ofInt b ↔ a < b := by
  rw [Int32.lt_iff_toInt_lt, gint a h.1, gint b h.2]
theorem gi_le {a b : Int} (h : (-2147483648 ≤ a ∧ a ≤ 2147483647) ∧ -2147483648 ≤ b ∧ b ≤ 2147483647) : Int32.ofInt a ≤ Int32.ofInt b ↔ a ≤ b := by
  rw [Int32.le_iff_toInt_le, gint a h.1, gint b h.2]
theorem gi_eq {a b : Int} (h : (-2147483648 ≤ a ∧ a ≤ 2147483647) ∧ -2147483648 ≤ b ∧ b ≤ 2147483647) : Int32.ofInt a = Int32.ofInt b ↔ a = b := by
  rw [← Int32.toInt_inj, gint a h.1, gint b h.2]
theorem gi_ix {i : Int} {n : Nat} (h : 0 ≤ i ∧ i < (n : Int) ∧ i ≤ 2147483647) : (Int32.ofInt i).toNatClampNeg = i.toNat ∧ ¬ (Int32.ofInt i < 0 ∨ n ≤ (Int32.ofInt i).toNatClampNeg) := by
  have e : (Int32.ofInt i).toNatClampNeg = i.toNat := Int32.toNatClampNeg_ofInt_of_le (by omega) (by omega)
  refine ⟨e, ?_⟩
  rw [e]
  rintro (q | q)
  · have : Int32.ofInt i < Int32.ofInt 0 := q
    rw [gi_lt (by omega)] at this
    omega
  · omega
/-! ===== locals ===== -/
/-- a store into place i: a long's second half behind it goes, a long ahead of it too -/
def gset : List gV → Nat → gV → List gV
  | [], _, _ => []
  | _ :: t, 0, v => v :: t
  | a :: t, 1, v => (if a.1 = 1 then (9, 0) else a) :: gset t 0 v
  | a :: t, i + 2, v => a :: gset t (i + 1) v
theorem gset_len : ∀ (ls : List gV) (i : Nat) (v : gV), (gset ls i v).length = ls.length
  | [], _, _ => rfl
  | _ :: _, 0, _ => rfl
  | _ :: t, 1, v => by simp [gset, gset_len t 0 v]
  | _ :: t, i + 2, v => by simp [gset, gset_len t (i + 1) v]
theorem gset_at : ∀ (ls : List gV) (i j : Nat) (v u : gV), (gset ls i v)[j]? = some u → u.1 ≠ 9 → (j = i ∧ u = v) ∨ (j ≠ i ∧ ls[j]? = some u ∧ ¬ (j + 1 = i ∧ u.1 = 1))
  | [], i, j, v, u, h, _ => by simp [gset] at h
  | a :: t, 0, 0, v, u, h, _ => by simp [gset] at h; exact Or.inl ⟨rfl, h.symm⟩
  | a :: t, 0, j + 1, v, u, h, _ => by simp [gset] at h; exact Or.inr ⟨by omega, by simpa using h, by omega⟩
  | a :: t, 1, 0, v, u, h, hu => by
    by_cases q : a.1 = 1
    · simp [gset, q] at h; rw [← h] at hu; exact absurd rfl hu
    · simp [gset, q] at h; subst h; exact Or.inr ⟨by omega, by simp, fun z => q z.2⟩
  | a :: t, 1, j + 1, v, u, h, hu => by
    have h' : (gset t 0 v)[j]? = some u := by simpa [gset] using h
    rcases gset_at t 0 j v u h' hu with ⟨q1, q2⟩ | ⟨q1, q2, q3⟩
    · exact Or.inl ⟨by omega, q2⟩
    · exact Or.inr ⟨by omega, by simpa using q2, by omega⟩
  | a :: t, i + 2, 0, v, u, h, hu => by simp [gset] at h; subst h; exact Or.inr ⟨by omega, by simp, by omega⟩
  | a :: t, i + 2, j + 1, v, u, h, hu => by
    have h' : (gset t (i + 1) v)[j]? = some u := by simpa [gset] using h
    rcases gset_at t (i + 1) j v u h' hu with ⟨q1, q2⟩ | ⟨q1, q2, q3⟩
    · exact Or.inl ⟨by omega, q2⟩
    · exact Or.inr ⟨by omega, by simpa using q2, fun z => q3 ⟨by omega, z.2⟩⟩
/-- the locals as the kit lists them -/
def gasc (D : gD) (ls : List gV) : List (Nat × Value) := (List.range ls.length).filterMap fun i => match ls[i]? with
  | some v => if v.1 = 9 then none else some (i, gcv D v)
  | none => none
theorem gasc_mem {D : gD} {ls : List gV} {q : Nat × Value} : q ∈ gasc D ls ↔ ∃ v, ls[q.1]? = some v ∧ v.1 ≠ 9 ∧ q.2 = gcv D v := by
  unfold gasc
  rw [List.mem_filterMap]
  constructor
  · rintro ⟨i, hi, h⟩
    cases hv : ls[i]? with
    | none => rw [hv] at h; simp at h
    | some v =>
      rw [hv] at h
      by_cases q9 : v.1 = 9
      · simp [q9] at h
      · simp [q9] at h; subst h; exact ⟨v, hv, q9, rfl⟩
  · rintro ⟨v, h1, h2, h3⟩
    refine ⟨q.1, List.mem_range.mpr (List.getElem?_eq_some_iff.mp h1).1, ?_⟩
    rw [h1]
    simp [h2, ← h3]
theorem gls_has {D : gD} {n : Nat} {lsC : Array Slot} {ls : List gV} (h : gls D n lsC ls) : lv_has lsC n (gasc D ls) := by
  refine ⟨h.1, h.2.1, fun q hq => ?_⟩
  obtain ⟨v, h1, h2, h3⟩ := gasc_mem.mp hq
  rw [h3]
  exact h.2.2.2 _ v h1 h2
theorem gls_of {D : gD} {n : Nat} {lsC : Array Slot} {ls : List gV} {l : List (Nat × Value)} (h : lv_has lsC n l) (hn : ls.length ≤ n) (hm : ∀ (i : Nat) (v : gV), ls[i]? = some v → v.1 ≠ 9 → (i, gcv D v) ∈ l) : gls D n lsC ls :=
  ⟨h.1, h.2.1, hn, fun i v h1 h2 => h.2.2 _ (hm i v h1 h2)⟩
theorem gls_set1 {D : gD} {n i : Nat} {lsC : Array Slot} {ls : List gV} {v : gV} (hn : ls.length ≤ n) (hv : v.1 ≠ 1) (h : lv_has lsC n ((i, gcv D v) :: (gasc D ls).filter (fun q => !(q.1 == i) && !(q.1 + 1 == i && q.2.category == 2)))) : gls D n lsC (gset ls i v) := by
  refine gls_of h (by rw [gset_len]; exact hn) fun j u hu hu9 => ?_
  rcases gset_at ls i j v u hu hu9 with ⟨rfl, rfl⟩ | ⟨q1, q2, q3⟩
  · exact List.mem_cons_self
  · refine List.mem_cons_of_mem _ (List.mem_filter.mpr ⟨gasc_mem.mpr ⟨u, q2, hu9, rfl⟩, ?_⟩)
    have hc : (gcv D u).category = gca u := gcv_cat D u
    simp only [Bool.and_eq_true, Bool.not_eq_true', beq_eq_false_iff_ne, ne_eq, Bool.and_eq_false_iff, hc, gca]
    refine ⟨q1, ?_⟩
    by_cases z : j + 1 = i
    · right
      have : ¬ u.1 = 1 := fun y => q3 ⟨z, y⟩
      simp [this]
    · exact Or.inl z
/-- a long: its second half takes the next place -/
theorem gls_set2 {D : gD} {n i : Nat} {lsC : Array Slot} {ls : List gV} {x : Int} (hn : ls.length ≤ n) (h : lv_has lsC n ((i, gcv D (1, x)) :: (gasc D ls).filter (fun q => !(q.1 == i) && (!(q.1 == i + 1) && !(q.1 + 1 == i && q.2.category == 2))))) : gls D n lsC ((gset ls i (1, x)).set (i + 1) (9, 0)) := by
  refine gls_of h (by rw [List.length_set, gset_len]; exact hn) fun j u hu hu9 => ?_
  rw [List.getElem?_set] at hu
  by_cases hj : i + 1 = j
  · rw [if_pos hj] at hu
    split at hu
    · cases hu; exact absurd rfl hu9
    · cases hu
  · rw [if_neg hj] at hu
    rcases gset_at ls i j _ u hu hu9 with ⟨rfl, rfl⟩ | ⟨q1, q2, q3⟩
    · exact List.mem_cons_self
    · refine List.mem_cons_of_mem _ (List.mem_filter.mpr ⟨gasc_mem.mpr ⟨u, q2, hu9, rfl⟩, ?_⟩)
      have hc : (gcv D u).category = gca u := gcv_cat D u
      simp only [Bool.and_eq_true, Bool.not_eq_true', beq_eq_false_iff_ne, ne_eq, Bool.and_eq_false_iff, hc, gca]
      refine ⟨q1, fun z => hj z.symm, ?_⟩
      by_cases z : j + 1 = i
      · right
        have : ¬ u.1 = 1 := fun y => q3 ⟨z, y⟩
        simp [this]
      · exact Or.inl z
/-! ===== rules ===== -/
section GR
variable {F : gF} {d mc ms pc npc : Nat} {ls st : List gV} {sh : gS} {g : gM} {Q : gQ}
theorem gw_iload_n {j : Fin 4} {x : Int} (hi : gI F pc (.iload_n j) 1 npc) (hv : ls[(j : Nat)]? = some (0, x)) (k : gWP F d mc ms npc ls ((0, x) :: st) sh g Q) : gWP F d mc ms pc ls (st) sh g Q := by
  intro D p l e R s m args below meth c H locs cells slots lsC Qw C hR hS hl h1 h2 K
  obtain ⟨hd, rfl⟩ := hi
  exact lv_iload_n C.1 C.2.1 hd rfl (hl.2.2.2 j _ hv (fun q => by cases q)) (k D p l e R s m args below meth c H locs cells slots lsC Qw C hR hS hl h1 h2 K)
theorem gw_iload {j : Nat} {x : Int} (hi : gI F pc (.iload j) 2 npc) (hv : ls[j]? = some (0, x)) (k : gWP F d mc ms npc ls ((0, x) :: st) sh g Q) : gWP F d mc ms pc ls (st) sh g Q := by
  intro D p l e R s m args below meth c H locs cells slots lsC Qw C hR hS hl h1 h2 K
  obtain ⟨hd, rfl⟩ := hi
  exact lv_iload C.1 C.2.1 hd (hl.2.2.2 j _ hv (fun q => by cases q)) (k D p l e R s m args below meth c H locs cells slots lsC Qw C hR hS hl h1 h2 K)
theorem gw_lload_n {j : Fin 4} {x : Int} (hi : gI F pc (.lload_n j) 1 npc) (hv : ls[(j : Nat)]? = some (1, x)) (k : gWP F d mc ms npc ls ((1, x) :: st) sh g Q) : gWP F d mc ms pc ls (st) sh g Q := by
  intro D p l e R s m args below meth c H locs cells slots lsC Qw C hR hS hl h1 h2 K
  obtain ⟨hd, rfl⟩ := hi
  exact lv_lload_n C.1 C.2.1 hd rfl (hl.2.2.2 j _ hv (fun q => by cases q)) (k D p l e R s m args below meth c H locs cells slots lsC Qw C hR hS hl h1 h2 K)
theorem gw_lload {j : Nat} {x : Int} (hi : gI F pc (.lload j) 2 npc) (hv : ls[j]? = some (1, x)) (k : gWP F d mc ms npc ls ((1, x) :: st) sh g Q) : gWP F d mc ms pc ls (st) sh g Q := by
  intro D p l e R s m args below meth c H locs cells slots lsC Qw C hR hS hl h1 h2 K
  obtain ⟨hd, rfl⟩ := hi
  exact lv_lload C.1 C.2.1 hd (hl.2.2.2 j _ hv (fun q => by cases q)) (k D p l e R s m args below meth c H locs cells slots lsC Qw C hR hS hl h1 h2 K)
theorem gcv_ref (D : gD) (t : Nat) (x : Int) (h : 2 ≤ t) : gcv D (t, x) = .null ∨ ∃ a, gcv D (t, x) = .ref a := by
  match t, h with
  | 2, _ => by_cases q : x < 0
            · exact Or.inl (gcv_n D x q)
            · exact Or.inr ⟨_, gcv_r D x (by omega)⟩
  | 3, _ => exact Or.inr ⟨_, rfl⟩
  | 4, _ => exact Or.inr ⟨_, rfl⟩
  | 5, _ => exact Or.inr ⟨_, rfl⟩
  | t + 6, _ =>
    show va_rf D.2.2.2.2.2.2 = .null ∨ ∃ a, va_rf D.2.2.2.2.2.2 = .ref a
    cases D.2.2.2.2.2.2 with
    | none => exact Or.inl rfl
    | some a => exact Or.inr ⟨a, rfl⟩
theorem gw_aload_n {j : Fin 4} {t : Nat} {x : Int} (hi : gI F pc (.aload_n j) 1 npc) (hv : ls[(j : Nat)]? = some (t, x)) (ht : Nat.ble 2 t && !(t == 9) = true) (k : gWP F d mc ms npc ls ((t, x) :: st) sh g Q) : gWP F d mc ms pc ls st sh g Q := by
  intro D p l e R s m args below meth c H locs cells slots lsC Qw C hR hS hl h1 h2 K
  obtain ⟨hd, rfl⟩ := hi
  simp only [Bool.and_eq_true, Nat.ble_eq, Bool.not_eq_true', beq_eq_false_iff_ne, ne_eq] at ht
  have hv' := hl.2.2.2 j _ hv (fun z => by have z' : t = 9 := z; subst z'; exact absurd ht.2 (by decide))
  have k' := k D p l e R s m args below meth c H locs cells slots lsC Qw C hR hS hl h1 h2 K
  rw [List.map_cons] at k'
  rcases gcv_ref D t x ht.1 with q | ⟨a, q⟩
  · rw [q] at hv' k'; exact lv_aload_nN C.1 C.2.1 hd rfl hv' k'
  · rw [q] at hv' k'; exact lv_aload_n C.1 C.2.1 hd rfl hv' k'
theorem gw_aload {j : Nat} {t : Nat} {x : Int} (hi : gI F pc (.aload j) 2 npc) (hv : ls[j]? = some (t, x)) (ht : Nat.ble 2 t && !(t == 9) = true) (k : gWP F d mc ms npc ls ((t, x) :: st) sh g Q) : gWP F d mc ms pc ls st sh g Q := by
  intro D p l e R s m args below meth c H locs cells slots lsC Qw C hR hS hl h1 h2 K
  obtain ⟨hd, rfl⟩ := hi
  simp only [Bool.and_eq_true, Nat.ble_eq, Bool.not_eq_true', beq_eq_false_iff_ne, ne_eq] at ht
  have hv' := hl.2.2.2 j _ hv (fun z => by have z' : t = 9 := z; subst z'; exact absurd ht.2 (by decide))
  have k' := k D p l e R s m args below meth c H locs cells slots lsC Qw C hR hS hl h1 h2 K
  rw [List.map_cons] at k'
  rcases gcv_ref D t x ht.1 with q | ⟨a, q⟩
  · rw [q] at hv' k'; exact lv_aloadN C.1 C.2.1 hd hv' k'
  · rw [q] at hv' k'; exact lv_aload C.1 C.2.1 hd hv' k'
theorem gw_istore_n {j : Fin 4} {x : Int} (hi : gI F pc (.istore_n j) 1 npc) (hn : (j : Nat) < F.2.2.1) (k : gWP F d mc ms npc (gset ls j (0, x)) st sh g Q) : gWP F d mc ms pc ls ((0, x) :: st) sh g Q := by
  intro D p l e R s m args below meth c H locs cells slots lsC Qw C hR hS hl h1 h2 K
  obtain ⟨hd, rfl⟩ := hi
  refine lv_istore_n C.1 C.2.1 hd rfl (gls_has hl) hn rfl (fun lsC2 hl2 => ?_)
  exact k D p l e R s m args below meth c H locs cells slots lsC2 Qw C hR hS (gls_set1 (v := (0, x)) hl.2.2.1 (fun q => by cases q) hl2) h1 h2 K
theorem gw_istore {j : Nat} {x : Int} (hi : gI F pc (.istore j) 2 npc) (hn : j < F.2.2.1) (k : gWP F d mc ms npc (gset ls j (0, x)) st sh g Q) : gWP F d mc ms pc ls ((0, x) :: st) sh g Q := by
  intro D p l e R s m args below meth c H locs cells slots lsC Qw C hR hS hl h1 h2 K
  obtain ⟨hd, rfl⟩ := hi
  refine lv_istore C.1 C.2.1 hd (gls_has hl) hn rfl (fun lsC2 hl2 => ?_)
  exact k D p l e R s m args below meth c H locs cells slots lsC2 Qw C hR hS (gls_set1 (v := (0, x)) hl.2.2.1 (fun q => by cases q) hl2) h1 h2 K
theorem gw_lstore_n {j : Fin 4} {x : Int} (hi : gI F pc (.lstore_n j) 1 npc) (hn : (j : Nat) + 1 < F.2.2.1) (k : gWP F d mc ms npc ((gset ls j (1, x)).set (j + 1) (9, 0)) st sh g Q) : gWP F d mc ms pc ls ((1, x) :: st) sh g Q := by
  intro D p l e R s m args below meth c H locs cells slots lsC Qw C hR hS hl h1 h2 K
  obtain ⟨hd, rfl⟩ := hi
  refine lv_lstore_n C.1 C.2.1 hd rfl (gls_has hl) hn rfl (fun lsC2 hl2 => ?_)
  exact k D p l e R s m args below meth c H locs cells slots lsC2 Qw C hR hS (gls_set2 (x := x) hl.2.2.1 hl2) h1 h2 K
theorem gw_lstore {j : Nat} {x : Int} (hi : gI F pc (.lstore j) 2 npc) (hn : j + 1 < F.2.2.1) (k : gWP F d mc ms npc ((gset ls j (1, x)).set (j + 1) (9, 0)) st sh g Q) : gWP F d mc ms pc ls ((1, x) :: st) sh g Q := by
  intro D p l e R s m args below meth c H locs cells slots lsC Qw C hR hS hl h1 h2 K
  obtain ⟨hd, rfl⟩ := hi
  refine lv_lstore C.1 C.2.1 hd (gls_has hl) hn rfl (fun lsC2 hl2 => ?_)
  exact k D p l e R s m args below meth c H locs cells slots lsC2 Qw C hR hS (gls_set2 (x := x) hl.2.2.1 hl2) h1 h2 K
theorem gw_astore_n {j : Fin 4} {t : Nat} {x : Int} (hi : gI F pc (.astore_n j) 1 npc) (hn : (j : Nat) < F.2.2.1) (ht : Nat.ble 2 t = true) (k : gWP F d mc ms npc (gset ls j (t, x)) st sh g Q) : gWP F d mc ms pc ls ((t, x) :: st) sh g Q := by
  intro D p l e R s m args below meth c H locs cells slots lsC Qw C hR hS hl h1 h2 K
  obtain ⟨hd, rfl⟩ := hi
  have ht2 : 2 ≤ t := Nat.le_of_ble_eq_true ht
  have kk := fun lsC2 (hl2 : gls D F.2.2.1 lsC2 (gset ls j (t, x))) => k D p l e R s m args below meth c H locs cells slots lsC2 Qw C hR hS hl2 h1 h2 K
  have hs := fun lsC2 h9 => gls_set1 (D := D) (n := F.2.2.1) (i := (j : Nat)) (lsC := lsC2) (ls := ls) (v := (t, x)) hl.2.2.1 (fun q => by simp at q; omega) h9
  rw [List.map_cons]
  rcases gcv_ref D t x ht2 with q | ⟨a, q⟩
  · rw [q] at hs ⊢
    exact lv_astore_nN C.1 C.2.1 hd rfl (gls_has hl) hn rfl (fun lsC2 hl2 => kk lsC2 (hs lsC2 hl2))
  · rw [q] at hs ⊢
    exact lv_astore_n C.1 C.2.1 hd rfl (gls_has hl) hn rfl (fun lsC2 hl2 => kk lsC2 (hs lsC2 hl2))
theorem gw_astore {j : Nat} {t : Nat} {x : Int} (hi : gI F pc (.astore j) 2 npc) (hn : j < F.2.2.1) (ht : Nat.ble 2 t = true) (k : gWP F d mc ms npc (gset ls j (t, x)) st sh g Q) : gWP F d mc ms pc ls ((t, x) :: st) sh g Q := by
  intro D p l e R s m args below meth c H locs cells slots lsC Qw C hR hS hl h1 h2 K
  obtain ⟨hd, rfl⟩ := hi
  have ht2 : 2 ≤ t := Nat.le_of_ble_eq_true ht
  have kk := fun lsC2 (hl2 : gls D F.2.2.1 lsC2 (gset ls j (t, x))) => k D p l e R s m args below meth c H locs cells slots lsC2 Qw C hR hS hl2 h1 h2 K
  have hs := fun lsC2 h9 => gls_set1 (D := D) (n := F.2.2.1) (i := j) (lsC := lsC2) (ls := ls) (v := (t, x)) hl.2.2.1 (fun q => by simp at q; omega) h9
  rw [List.map_cons]
  rcases gcv_ref D t x ht2 with q | ⟨a, q⟩
  · rw [q] at hs ⊢
    exact lv_astoreN C.1 C.2.1 hd (gls_has hl) hn rfl (fun lsC2 hl2 => kk lsC2 (hs lsC2 hl2))
  · rw [q] at hs ⊢
    exact lv_astore C.1 C.2.1 hd (gls_has hl) hn rfl (fun lsC2 hl2 => kk lsC2 (hs lsC2 hl2))
theorem gw_iinc {j : Nat} {n x : Int} (hi : gI F pc (.iinc j n) 3 npc) (hv : ls[j]? = some (0, x)) (hn : j < F.2.2.1) (k : gWP F d mc ms npc (gset ls j (0, x + n)) st sh g Q) : gWP F d mc ms pc ls st sh g Q := by
  intro D p l e R s m args below meth c H locs cells slots lsC Qw C hR hS hl h1 h2 K
  obtain ⟨hd, rfl⟩ := hi
  obtain ⟨q, hq⟩ := List.getElem?_of_mem (gasc_mem (D := D) (q := (j, gcv D (0, x))).mpr ⟨(0, x), hv, (fun z => by cases z), rfl⟩)
  refine lv_iinc (v := Int32.ofInt (x + n)) C.1 C.2.1 hd (gls_has hl) hq (Int32.ofInt_add x n).symm hn rfl (fun lsC2 hl2 => ?_)
  exact k D p l e R s m args below meth c H locs cells slots lsC2 Qw C hR hS (gls_set1 (v := (0, x + n)) hl.2.2.1 (fun q => by cases q) hl2) h1 h2 K
theorem gw_iconst {n : Int} (hi : gI F pc (.iconst n) 1 npc) (k : gWP F d mc ms npc ls ((0, n) :: st) sh g Q) : gWP F d mc ms pc ls (st) sh g Q := by
  intro D p l e R s m args below meth c H locs cells slots lsC Qw C hR hS hl h1 h2 K
  obtain ⟨hd, rfl⟩ := hi
  exact lv_iconst C.1 C.2.1 hd rfl (k D p l e R s m args below meth c H locs cells slots lsC Qw C hR hS hl h1 h2 K)
theorem gw_bipush {n : Int} (hi : gI F pc (.bipush n) 2 npc) (hb : (Int8.ofInt n).toInt32 = Int32.ofInt n) (k : gWP F d mc ms npc ls ((0, n) :: st) sh g Q) : gWP F d mc ms pc ls (st) sh g Q := by
  intro D p l e R s m args below meth c H locs cells slots lsC Qw C hR hS hl h1 h2 K
  obtain ⟨hd, rfl⟩ := hi
  exact lv_bipush (v := Int32.ofInt n) C.1 C.2.1 hd hb (k D p l e R s m args below meth c H locs cells slots lsC Qw C hR hS hl h1 h2 K)
theorem gw_sipush {n : Int} (hi : gI F pc (.sipush n) 3 npc) (hb : (Int16.ofInt n).toInt32 = Int32.ofInt n) (k : gWP F d mc ms npc ls ((0, n) :: st) sh g Q) : gWP F d mc ms pc ls (st) sh g Q := by
  intro D p l e R s m args below meth c H locs cells slots lsC Qw C hR hS hl h1 h2 K
  obtain ⟨hd, rfl⟩ := hi
  exact lv_sipush (v := Int32.ofInt n) C.1 C.2.1 hd hb (k D p l e R s m args below meth c H locs cells slots lsC Qw C hR hS hl h1 h2 K)
theorem gw_lconst {n : Fin 2} (hi : gI F pc (.lconst n) 1 npc) (k : gWP F d mc ms npc ls ((1, ((n : Nat) : Int)) :: st) sh g Q) : gWP F d mc ms pc ls (st) sh g Q := by
  intro D p l e R s m args below meth c H locs cells slots lsC Qw C hR hS hl h1 h2 K
  obtain ⟨hd, rfl⟩ := hi
  exact lv_lconst (v := Int64.ofInt ((n : Nat) : Int)) C.1 C.2.1 hd (Int64.ofInt_eq_ofNat).symm (k D p l e R s m args below meth c H locs cells slots lsC Qw C hR hS hl h1 h2 K)
theorem gw_null (hi : gI F pc (.aconst_null) 1 npc) (k : gWP F d mc ms npc ls ((2, -1) :: st) sh g Q) : gWP F d mc ms pc ls (st) sh g Q := by
  intro D p l e R s m args below meth c H locs cells slots lsC Qw C hR hS hl h1 h2 K
  obtain ⟨hd, rfl⟩ := hi
  exact lv_null C.1 C.2.1 hd (k D p l e R s m args below meth c H locs cells slots lsC Qw C hR hS hl h1 h2 K)
theorem gw_ldc {ix : Nat} {n : Int} (hi : gI F pc (.ldc ix) 2 npc) (hw : Cond.constant F.1.cls ix (Int32.ofInt n) ∈ lw_good) (k : gWP F d mc ms npc ls ((0, n) :: st) sh g Q) : gWP F d mc ms pc ls (st) sh g Q := by
  intro D p l e R s m args below meth c H locs cells slots lsC Qw C hR hS hl h1 h2 K
  obtain ⟨hd, rfl⟩ := hi
  exact lv_ldc (v := Int32.ofInt n) C.1 C.2.1 C.2.2.2.2.1 (C.2.2.2.2.2.1 _ hw) hd (k D p l e R s m args below meth c H locs cells slots lsC Qw C hR hS hl h1 h2 K)
theorem gw_ldcw {ix : Nat} {n : Int} (hi : gI F pc (.ldc_w ix) 3 npc) (hw : Cond.constant F.1.cls ix (Int32.ofInt n) ∈ lw_good) (k : gWP F d mc ms npc ls ((0, n) :: st) sh g Q) : gWP F d mc ms pc ls (st) sh g Q := by
  intro D p l e R s m args below meth c H locs cells slots lsC Qw C hR hS hl h1 h2 K
  obtain ⟨hd, rfl⟩ := hi
  exact lv_ldcw (v := Int32.ofInt n) C.1 C.2.1 C.2.2.2.2.1 (C.2.2.2.2.2.1 _ hw) hd (k D p l e R s m args below meth c H locs cells slots lsC Qw C hR hS hl h1 h2 K)
theorem gw_ldc2 {ix : Nat} {n : Int} (hi : gI F pc (.ldc2_w ix) 3 npc) (hw : Cond.constantLong F.1.cls ix (Int64.ofInt n) ∈ lw_good) (k : gWP F d mc ms npc ls ((1, n) :: st) sh g Q) : gWP F d mc ms pc ls (st) sh g Q := by
  intro D p l e R s m args below meth c H locs cells slots lsC Qw C hR hS hl h1 h2 K
  obtain ⟨hd, rfl⟩ := hi
  exact lv_ldc2 (v := Int64.ofInt n) C.1 C.2.1 C.2.2.2.2.1 (C.2.2.2.2.2.1 _ hw) hd (k D p l e R s m args below meth c H locs cells slots lsC Qw C hR hS hl h1 h2 K)
theorem gw_iadd {a b : Int} (hi : gI F pc (.iadd) 1 npc) (k : gWP F d mc ms npc ls ((0, a + b) :: st) sh g Q) : gWP F d mc ms pc ls ((0, b) :: (0, a) :: st) sh g Q := by
  intro D p l e R s m args below meth c H locs cells slots lsC Qw C hR hS hl h1 h2 K
  obtain ⟨hd, rfl⟩ := hi
  have k' := k D p l e R s m args below meth c H locs cells slots lsC Qw C hR hS hl h1 h2 K
  rw [List.map_cons, show gcv D (0, a + b) = .int (Int32.ofInt a + Int32.ofInt b) from congrArg Value.int (Int32.ofInt_add a b)] at k'
  exact lv_iadd C.1 C.2.1 hd k'
theorem gw_isub {a b : Int} (hi : gI F pc (.isub) 1 npc) (k : gWP F d mc ms npc ls ((0, a - b) :: st) sh g Q) : gWP F d mc ms pc ls ((0, b) :: (0, a) :: st) sh g Q := by
  intro D p l e R s m args below meth c H locs cells slots lsC Qw C hR hS hl h1 h2 K
  obtain ⟨hd, rfl⟩ := hi
  have k' := k D p l e R s m args below meth c H locs cells slots lsC Qw C hR hS hl h1 h2 K
  rw [List.map_cons, show gcv D (0, a - b) = .int (Int32.ofInt a - Int32.ofInt b) from congrArg Value.int (Int32.ofInt_sub a b)] at k'
  exact lv_isub C.1 C.2.1 hd k'
theorem gw_imul {a b : Int} (hi : gI F pc (.imul) 1 npc) (k : gWP F d mc ms npc ls ((0, a * b) :: st) sh g Q) : gWP F d mc ms pc ls ((0, b) :: (0, a) :: st) sh g Q := by
  intro D p l e R s m args below meth c H locs cells slots lsC Qw C hR hS hl h1 h2 K
  obtain ⟨hd, rfl⟩ := hi
  have k' := k D p l e R s m args below meth c H locs cells slots lsC Qw C hR hS hl h1 h2 K
  rw [List.map_cons, show gcv D (0, a * b) = .int (Int32.ofInt a * Int32.ofInt b) from congrArg Value.int (Int32.ofInt_mul a b)] at k'
  exact lv_imul C.1 C.2.1 hd k'
theorem gw_ladd {a b : Int} (hi : gI F pc (.ladd) 1 npc) (k : gWP F d mc ms npc ls ((1, a + b) :: st) sh g Q) : gWP F d mc ms pc ls ((1, b) :: (1, a) :: st) sh g Q := by
  intro D p l e R s m args below meth c H locs cells slots lsC Qw C hR hS hl h1 h2 K
  obtain ⟨hd, rfl⟩ := hi
  have k' := k D p l e R s m args below meth c H locs cells slots lsC Qw C hR hS hl h1 h2 K
  rw [List.map_cons, show gcv D (1, a + b) = .long (Int64.ofInt a + Int64.ofInt b) from congrArg Value.long (Int64.ofInt_add a b)] at k'
  exact lv_ladd C.1 C.2.1 hd k'
theorem gw_lsub {a b : Int} (hi : gI F pc (.lsub) 1 npc) (k : gWP F d mc ms npc ls ((1, a - b) :: st) sh g Q) : gWP F d mc ms pc ls ((1, b) :: (1, a) :: st) sh g Q := by
  intro D p l e R s m args below meth c H locs cells slots lsC Qw C hR hS hl h1 h2 K
  obtain ⟨hd, rfl⟩ := hi
  have k' := k D p l e R s m args below meth c H locs cells slots lsC Qw C hR hS hl h1 h2 K
  rw [List.map_cons, show gcv D (1, a - b) = .long (Int64.ofInt a - Int64.ofInt b) from congrArg Value.long (Int64.ofInt_sub a b)] at k'
  exact lv_lsub C.1 C.2.1 hd k'
theorem gw_lmul {a b : Int} (hi : gI F pc (.lmul) 1 npc) (k : gWP F d mc ms npc ls ((1, a * b) :: st) sh g Q) : gWP F d mc ms pc ls ((1, b) :: (1, a) :: st) sh g Q := by
  intro D p l e R s m args below meth c H locs cells slots lsC Qw C hR hS hl h1 h2 K
  obtain ⟨hd, rfl⟩ := hi
  have k' := k D p l e R s m args below meth c H locs cells slots lsC Qw C hR hS hl h1 h2 K
  rw [List.map_cons, show gcv D (1, a * b) = .long (Int64.ofInt a * Int64.ofInt b) from congrArg Value.long (Int64.ofInt_mul a b)] at k'
  exact lv_lmul C.1 C.2.1 hd k'
theorem gdiv32 {a b : Int} (h : (-2147483648 ≤ a ∧ a ≤ 2147483647) ∧ (-2147483648 ≤ b ∧ b ≤ 2147483647) ∧ ¬ b = 0) : Int32.ofInt (a.tdiv b) = Int32.ofInt a / Int32.ofInt b := Int32.ofInt_tdiv h.1.1 h.1.2 h.2.1.1 h.2.1.2
theorem gmod32 {a b : Int} (h : (-2147483648 ≤ a ∧ a ≤ 2147483647) ∧ (-2147483648 ≤ b ∧ b ≤ 2147483647) ∧ ¬ b = 0) : Int32.ofInt (a.tmod b) = Int32.ofInt a - Int32.ofInt a / Int32.ofInt b * Int32.ofInt b := by
  rw [← gdiv32 h, ← Int32.ofInt_mul, ← Int32.ofInt_sub, Int.tmod_def, Int.mul_comm]
theorem gne32 {b : Int} (h : (-2147483648 ≤ b ∧ b ≤ 2147483647) ∧ ¬ b = 0) : ¬ Int32.ofInt b = 0 := by
  intro q
  have q' : Int32.ofInt b = Int32.ofInt 0 := q
  rw [gi_eq ⟨h.1, by omega⟩] at q'
  exact h.2 q'
theorem gdiv64 {a b : Int} (h : (-9223372036854775808 ≤ a ∧ a ≤ 9223372036854775807) ∧ (-9223372036854775808 ≤ b ∧ b ≤ 9223372036854775807) ∧ ¬ b = 0) : Int64.ofInt (a.tdiv b) = Int64.ofInt a / Int64.ofInt b := Int64.ofInt_tdiv h.1.1 h.1.2 h.2.1.1 h.2.1.2
theorem gmod64 {a b : Int} (h : (-9223372036854775808 ≤ a ∧ a ≤ 9223372036854775807) ∧ (-9223372036854775808 ≤ b ∧ b ≤ 9223372036854775807) ∧ ¬ b = 0) : Int64.ofInt (a.tmod b) = Int64.ofInt a - Int64.ofInt a / Int64.ofInt b * Int64.ofInt b := by
  rw [← gdiv64 h, ← Int64.ofInt_mul, ← Int64.ofInt_sub, Int.tmod_def, Int.mul_comm]
theorem gne64 {b : Int} (h : (-9223372036854775808 ≤ b ∧ b ≤ 9223372036854775807) ∧ ¬ b = 0) : ¬ Int64.ofInt b = 0 := by
  intro q
  have q' : (Int64.ofInt b).toInt = (Int64.ofInt 0).toInt := congrArg Int64.toInt q
  rw [glng b h.1] at q'
  exact h.2 q'
theorem gw_idiv {a b : Int} (hi : gI F pc (.idiv) 1 npc) (hb : (-2147483648 ≤ a ∧ a ≤ 2147483647) ∧ (-2147483648 ≤ b ∧ b ≤ 2147483647) ∧ ¬ b = 0) (k : gWP F d mc ms npc ls ((0, a.tdiv b) :: st) sh g Q) : gWP F d mc ms pc ls ((0, b) :: (0, a) :: st) sh g Q := by
  intro D p l e R s m args below meth c H locs cells slots lsC Qw C hR hS hl h1 h2 K
  obtain ⟨hd, rfl⟩ := hi
  have k' := k D p l e R s m args below meth c H locs cells slots lsC Qw C hR hS hl h1 h2 K
  rw [List.map_cons, show gcv D (0, a.tdiv b) = .int (Int32.ofInt a / Int32.ofInt b) from congrArg Value.int (gdiv32 hb)] at k'
  exact lv_idiv C.1 C.2.1 hd (gne32 hb.2) k'
theorem gw_irem {a b : Int} (hi : gI F pc (.irem) 1 npc) (hb : (-2147483648 ≤ a ∧ a ≤ 2147483647) ∧ (-2147483648 ≤ b ∧ b ≤ 2147483647) ∧ ¬ b = 0) (k : gWP F d mc ms npc ls ((0, a.tmod b) :: st) sh g Q) : gWP F d mc ms pc ls ((0, b) :: (0, a) :: st) sh g Q := by
  intro D p l e R s m args below meth c H locs cells slots lsC Qw C hR hS hl h1 h2 K
  obtain ⟨hd, rfl⟩ := hi
  have k' := k D p l e R s m args below meth c H locs cells slots lsC Qw C hR hS hl h1 h2 K
  rw [List.map_cons, show gcv D (0, a.tmod b) = .int (Int32.ofInt a - Int32.ofInt a / Int32.ofInt b * Int32.ofInt b) from congrArg Value.int (gmod32 hb)] at k'
  exact lv_irem C.1 C.2.1 hd (gne32 hb.2) k'
theorem gw_ldiv {a b : Int} (hi : gI F pc (.ldiv) 1 npc) (hb : (-9223372036854775808 ≤ a ∧ a ≤ 9223372036854775807) ∧ (-9223372036854775808 ≤ b ∧ b ≤ 9223372036854775807) ∧ ¬ b = 0) (k : gWP F d mc ms npc ls ((1, a.tdiv b) :: st) sh g Q) : gWP F d mc ms pc ls ((1, b) :: (1, a) :: st) sh g Q := by
  intro D p l e R s m args below meth c H locs cells slots lsC Qw C hR hS hl h1 h2 K
  obtain ⟨hd, rfl⟩ := hi
  have k' := k D p l e R s m args below meth c H locs cells slots lsC Qw C hR hS hl h1 h2 K
  rw [List.map_cons, show gcv D (1, a.tdiv b) = .long (Int64.ofInt a / Int64.ofInt b) from congrArg Value.long (gdiv64 hb)] at k'
  exact lv_ldiv C.1 C.2.1 hd (gne64 hb.2) k'
theorem gw_lrem {a b : Int} (hi : gI F pc (.lrem) 1 npc) (hb : (-9223372036854775808 ≤ a ∧ a ≤ 9223372036854775807) ∧ (-9223372036854775808 ≤ b ∧ b ≤ 9223372036854775807) ∧ ¬ b = 0) (k : gWP F d mc ms npc ls ((1, a.tmod b) :: st) sh g Q) : gWP F d mc ms pc ls ((1, b) :: (1, a) :: st) sh g Q := by
  intro D p l e R s m args below meth c H locs cells slots lsC Qw C hR hS hl h1 h2 K
  obtain ⟨hd, rfl⟩ := hi
  have k' := k D p l e R s m args below meth c H locs cells slots lsC Qw C hR hS hl h1 h2 K
  rw [List.map_cons, show gcv D (1, a.tmod b) = .long (Int64.ofInt a - Int64.ofInt a / Int64.ofInt b * Int64.ofInt b) from congrArg Value.long (gmod64 hb)] at k'
  exact lv_lrem C.1 C.2.1 hd (gne64 hb.2) k'
def gand (a b : Int) : Int := (Int32.ofInt a &&& Int32.ofInt b).toInt
def gor (a b : Int) : Int := (Int32.ofInt a ||| Int32.ofInt b).toInt
def gshl (a b : Int) : Int := (Int32.ofInt a <<< (Int32.ofInt b &&& 31)).toInt
def gshr (a b : Int) : Int := (Int32.ofInt a >>> (Int32.ofInt b &&& 31)).toInt
theorem gw_iand {a b : Int} (hi : gI F pc (.iand) 1 npc) (k : gWP F d mc ms npc ls ((0, gand a b) :: st) sh g Q) : gWP F d mc ms pc ls ((0, b) :: (0, a) :: st) sh g Q := by
  intro D p l e R s m args below meth c H locs cells slots lsC Qw C hR hS hl h1 h2 K
  obtain ⟨hd, rfl⟩ := hi
  have k' := k D p l e R s m args below meth c H locs cells slots lsC Qw C hR hS hl h1 h2 K
  rw [List.map_cons, show gcv D (0, gand a b) = .int (Int32.ofInt a &&& Int32.ofInt b) from congrArg Value.int (Int32.ofInt_toInt _)] at k'
  exact lv_iand C.1 C.2.1 hd k'
theorem gw_ior {a b : Int} (hi : gI F pc (.ior) 1 npc) (k : gWP F d mc ms npc ls ((0, gor a b) :: st) sh g Q) : gWP F d mc ms pc ls ((0, b) :: (0, a) :: st) sh g Q := by
  intro D p l e R s m args below meth c H locs cells slots lsC Qw C hR hS hl h1 h2 K
  obtain ⟨hd, rfl⟩ := hi
  have k' := k D p l e R s m args below meth c H locs cells slots lsC Qw C hR hS hl h1 h2 K
  rw [List.map_cons, show gcv D (0, gor a b) = .int (Int32.ofInt a ||| Int32.ofInt b) from congrArg Value.int (Int32.ofInt_toInt _)] at k'
  exact lv_ior C.1 C.2.1 hd k'
theorem gw_ishl {a b : Int} (hi : gI F pc (.ishl) 1 npc) (k : gWP F d mc ms npc ls ((0, gshl a b) :: st) sh g Q) : gWP F d mc ms pc ls ((0, b) :: (0, a) :: st) sh g Q := by
  intro D p l e R s m args below meth c H locs cells slots lsC Qw C hR hS hl h1 h2 K
  obtain ⟨hd, rfl⟩ := hi
  have k' := k D p l e R s m args below meth c H locs cells slots lsC Qw C hR hS hl h1 h2 K
  rw [List.map_cons, show gcv D (0, gshl a b) = .int (Int32.ofInt a <<< (Int32.ofInt b &&& 31)) from congrArg Value.int (Int32.ofInt_toInt _)] at k'
  exact lv_ishl C.1 C.2.1 hd k'
theorem gw_ishr {a b : Int} (hi : gI F pc (.ishr) 1 npc) (k : gWP F d mc ms npc ls ((0, gshr a b) :: st) sh g Q) : gWP F d mc ms pc ls ((0, b) :: (0, a) :: st) sh g Q := by
  intro D p l e R s m args below meth c H locs cells slots lsC Qw C hR hS hl h1 h2 K
  obtain ⟨hd, rfl⟩ := hi
  have k' := k D p l e R s m args below meth c H locs cells slots lsC Qw C hR hS hl h1 h2 K
  rw [List.map_cons, show gcv D (0, gshr a b) = .int (Int32.ofInt a >>> (Int32.ofInt b &&& 31)) from congrArg Value.int (Int32.ofInt_toInt _)] at k'
  exact lv_ishr C.1 C.2.1 hd k'
theorem gw_ineg {a : Int} (hi : gI F pc (.ineg) 1 npc) (k : gWP F d mc ms npc ls ((0, -a) :: st) sh g Q) : gWP F d mc ms pc ls ((0, a) :: st) sh g Q := by
  intro D p l e R s m args below meth c H locs cells slots lsC Qw C hR hS hl h1 h2 K
  obtain ⟨hd, rfl⟩ := hi
  have k' := k D p l e R s m args below meth c H locs cells slots lsC Qw C hR hS hl h1 h2 K
  rw [List.map_cons, show gcv D (0, -a) = .int (-Int32.ofInt a) from congrArg Value.int (Int32.ofInt_neg a)] at k'
  exact lv_ineg C.1 C.2.1 hd k'
theorem gw_i2l {a : Int} (hi : gI F pc (.i2l) 1 npc) (ha : -2147483648 ≤ a ∧ a ≤ 2147483647) (k : gWP F d mc ms npc ls ((1, a) :: st) sh g Q) : gWP F d mc ms pc ls ((0, a) :: st) sh g Q := by
  intro D p l e R s m args below meth c H locs cells slots lsC Qw C hR hS hl h1 h2 K
  obtain ⟨hd, rfl⟩ := hi
  exact lv_i2l (v := Int64.ofInt a) C.1 C.2.1 hd (Int32.toInt64_ofInt ha.1 ha.2) (k D p l e R s m args below meth c H locs cells slots lsC Qw C hR hS hl h1 h2 K)
theorem gw_l2i {a : Int} (hi : gI F pc (.l2i) 1 npc) (k : gWP F d mc ms npc ls ((0, a) :: st) sh g Q) : gWP F d mc ms pc ls ((1, a) :: st) sh g Q := by
  intro D p l e R s m args below meth c H locs cells slots lsC Qw C hR hS hl h1 h2 K
  obtain ⟨hd, rfl⟩ := hi
  exact lv_l2i (v := Int32.ofInt a) C.1 C.2.1 hd Int64.toInt32_ofInt (k D p l e R s m args below meth c H locs cells slots lsC Qw C hR hS hl h1 h2 K)
/-- the byte that an int leaves -/
def gi2b (a : Int) : Int := a.bmod 256
theorem gw_i2b {a : Int} (hi : gI F pc (.i2b) 1 npc) (k : gWP F d mc ms npc ls ((0, gi2b a) :: st) sh g Q) : gWP F d mc ms pc ls ((0, a) :: st) sh g Q := by
  intro D p l e R s m args below meth c H locs cells slots lsC Qw C hR hS hl h1 h2 K
  obtain ⟨hd, rfl⟩ := hi
  refine lv_i2b (v := Int32.ofInt (gi2b a)) C.1 C.2.1 hd ?_ (k D p l e R s m args below meth c H locs cells slots lsC Qw C hR hS hl h1 h2 K)
  apply Int32.toInt_inj.mp
  rw [Int32.toInt8_ofInt]
  have e : (Int8.ofInt a).toInt = a.bmod 256 := Int8.toInt_ofInt
  have b1 : -128 ≤ a.bmod 256 := Int.le_bmod (x := a) (m := 256) (by omega)
  have b2 : a.bmod 256 < 128 := Int.bmod_lt (x := a) (m := 256) (by omega)
  rw [gint _ (by unfold gi2b; omega)]
  simp [gi2b, e]
theorem gw_lcmp {a b : Int} (hi : gI F pc (.lcmp) 1 npc) (hb : (-9223372036854775808 ≤ a ∧ a ≤ 9223372036854775807) ∧ (-9223372036854775808 ≤ b ∧ b ≤ 9223372036854775807)) (k : gWP F d mc ms npc ls ((0, if b < a then 1 else if a = b then 0 else -1) :: st) sh g Q) : gWP F d mc ms pc ls ((1, b) :: (1, a) :: st) sh g Q := by
  intro D p l e R s m args below meth c H locs cells slots lsC Qw C hR hS hl h1 h2 K
  obtain ⟨hd, rfl⟩ := hi
  have k' := k D p l e R s m args below meth c H locs cells slots lsC Qw C hR hS hl h1 h2 K
  rw [List.map_cons, show gcv D (0, if b < a then 1 else if a = b then 0 else -1) = .int (lg_cmp (Int64.ofInt a) (Int64.ofInt b)) from ?_] at k'
  · exact W.lcmp C.1 C.2.1 hd k'
  · show Value.int _ = Value.int _
    unfold lg_cmp
    simp only [gt_iff_lt, Int64.lt_iff_toInt_lt, ← Int64.toInt_inj, glng a hb.1, glng b hb.2]
    congr 1
    split
    · rfl
    · split <;> rfl
theorem gw_dup {v : gV} (hi : gI F pc (.dup) 1 npc) (hv : (v.1 == 1) = false) (k : gWP F d mc ms npc ls (v :: v :: st) sh g Q) : gWP F d mc ms pc ls (v :: st) sh g Q := by
  intro D p l e R s m args below meth c H locs cells slots lsC Qw C hR hS hl h1 h2 K
  obtain ⟨hd, rfl⟩ := hi
  have hv' : (gcv D v).category = 1 := by rw [gcv_cat, gca, if_neg (by simpa using hv)]
  exact lv_dup C.1 C.2.1 hd hv' (k D p l e R s m args below meth c H locs cells slots lsC Qw C hR hS hl h1 h2 K)
theorem gw_pop {v : gV} (hi : gI F pc (.pop) 1 npc) (hv : (v.1 == 1) = false) (k : gWP F d mc ms npc ls st sh g Q) : gWP F d mc ms pc ls (v :: st) sh g Q := by
  intro D p l e R s m args below meth c H locs cells slots lsC Qw C hR hS hl h1 h2 K
  obtain ⟨hd, rfl⟩ := hi
  have hv' : (gcv D v).category = 1 := by rw [gcv_cat, gca, if_neg (by simpa using hv)]
  exact lv_pop C.1 C.2.1 hd hv' (k D p l e R s m args below meth c H locs cells slots lsC Qw C hR hS hl h1 h2 K)
theorem gw_dup_x1 {v u : gV} (hi : gI F pc (.dup_x1) 1 npc) (hv : ((v.1 == 1) || (u.1 == 1)) = false) (k : gWP F d mc ms npc ls (v :: u :: v :: st) sh g Q) : gWP F d mc ms pc ls (v :: u :: st) sh g Q := by
  intro D p l e R s m args below meth c H locs cells slots lsC Qw C hR hS hl h1 h2 K
  obtain ⟨hd, rfl⟩ := hi
  simp only [Bool.or_eq_false_iff, beq_eq_false_iff_ne, ne_eq] at hv
  have hv' : (gcv D v).category = 1 := by rw [gcv_cat, gca, if_neg hv.1]
  have hu' : (gcv D u).category = 1 := by rw [gcv_cat, gca, if_neg hv.2]
  exact lv_dup_x1 C.1 C.2.1 hd hv' hu' (k D p l e R s m args below meth c H locs cells slots lsC Qw C hR hS hl h1 h2 K)
theorem gw_dup2 {v u : gV} (hi : gI F pc (.dup2) 1 npc) (hv : ((v.1 == 1) || (u.1 == 1)) = false) (k : gWP F d mc ms npc ls (v :: u :: v :: u :: st) sh g Q) : gWP F d mc ms pc ls (v :: u :: st) sh g Q := by
  intro D p l e R s m args below meth c H locs cells slots lsC Qw C hR hS hl h1 h2 K
  obtain ⟨hd, rfl⟩ := hi
  simp only [Bool.or_eq_false_iff, beq_eq_false_iff_ne, ne_eq] at hv
  have hv' : (gcv D v).category = 1 := by rw [gcv_cat, gca, if_neg hv.1]
  have hu' : (gcv D u).category = 1 := by rw [gcv_cat, gca, if_neg hv.2]
  exact lv_dup2_11 C.1 C.2.1 hd hv' hu' (k D p l e R s m args below meth c H locs cells slots lsC Qw C hR hS hl h1 h2 K)
theorem gw_goto {off : Int} {tgt : Nat} (hi : gI F pc (.goto off) 3 npc) (ht : ((pc : Int) + off == (tgt : Int)) = true) (k : gWP F d mc ms tgt ls st sh g Q) : gWP F d mc ms pc ls st sh g Q := by
  intro D p l e R s m args below meth c H locs cells slots lsC Qw C hR hS hl h1 h2 K
  obtain ⟨hd, rfl⟩ := hi
  exact lv_goto C.1 C.2.1 hd (by simpa using ht) (k D p l e R s m args below meth c H locs cells slots lsC Qw C hR hS hl h1 h2 K)
theorem gw_if_eq {a off : Int} {tgt : Nat} (hi : gI F pc (.ifCond .eq off) 3 npc) (ht : ((pc : Int) + off == (tgt : Int)) = true) (ha : -2147483648 ≤ a ∧ a ≤ 2147483647) (kt : a = 0 → gWP F d mc ms tgt ls st sh g Q) (kf : ¬ a = 0 → gWP F d mc ms npc ls st sh g Q) : gWP F d mc ms pc ls ((0, a) :: st) sh g Q := by
  intro D p l e R s m args below meth c H locs cells slots lsC Qw C hR hS hl h1 h2 K
  obtain ⟨hd, rfl⟩ := hi
  have ea := gint a ha
  refine lv_if_eq C.1 C.2.1 hd (by simpa using ht) (fun q => kt ?_ D p l e R s m args below meth c H locs cells slots lsC Qw C hR hS hl h1 h2 K) (fun q => kf ?_ D p l e R s m args below meth c H locs cells slots lsC Qw C hR hS hl h1 h2 K)
  all_goals (dsimp only at q)
  all_goals (simp only [← Int32.toInt_inj, Int32.lt_iff_toInt_lt, Int32.le_iff_toInt_le, ge_iff_le, gt_iff_lt, Int32.toInt_zero, ea] at q)
  all_goals omega
theorem gw_if_ne {a off : Int} {tgt : Nat} (hi : gI F pc (.ifCond .ne off) 3 npc) (ht : ((pc : Int) + off == (tgt : Int)) = true) (ha : -2147483648 ≤ a ∧ a ≤ 2147483647) (kt : ¬ a = 0 → gWP F d mc ms tgt ls st sh g Q) (kf : a = 0 → gWP F d mc ms npc ls st sh g Q) : gWP F d mc ms pc ls ((0, a) :: st) sh g Q := by
  intro D p l e R s m args below meth c H locs cells slots lsC Qw C hR hS hl h1 h2 K
  obtain ⟨hd, rfl⟩ := hi
  have ea := gint a ha
  refine lv_if_ne C.1 C.2.1 hd (by simpa using ht) (fun q => kt ?_ D p l e R s m args below meth c H locs cells slots lsC Qw C hR hS hl h1 h2 K) (fun q => kf ?_ D p l e R s m args below meth c H locs cells slots lsC Qw C hR hS hl h1 h2 K)
  all_goals (dsimp only at q)
  all_goals (simp only [← Int32.toInt_inj, Int32.lt_iff_toInt_lt, Int32.le_iff_toInt_le, ge_iff_le, gt_iff_lt, Int32.toInt_zero, ea] at q)
  all_goals omega
theorem gw_if_lt {a off : Int} {tgt : Nat} (hi : gI F pc (.ifCond .lt off) 3 npc) (ht : ((pc : Int) + off == (tgt : Int)) = true) (ha : -2147483648 ≤ a ∧ a ≤ 2147483647) (kt : a < 0 → gWP F d mc ms tgt ls st sh g Q) (kf : 0 ≤ a → gWP F d mc ms npc ls st sh g Q) : gWP F d mc ms pc ls ((0, a) :: st) sh g Q := by
  intro D p l e R s m args below meth c H locs cells slots lsC Qw C hR hS hl h1 h2 K
  obtain ⟨hd, rfl⟩ := hi
  have ea := gint a ha
  refine lv_if_lt C.1 C.2.1 hd (by simpa using ht) (fun q => kt ?_ D p l e R s m args below meth c H locs cells slots lsC Qw C hR hS hl h1 h2 K) (fun q => kf ?_ D p l e R s m args below meth c H locs cells slots lsC Qw C hR hS hl h1 h2 K)
  all_goals (dsimp only at q)
  all_goals (simp only [← Int32.toInt_inj, Int32.lt_iff_toInt_lt, Int32.le_iff_toInt_le, ge_iff_le, gt_iff_lt, Int32.toInt_zero, ea] at q)
  all_goals omega
theorem gw_if_ge {a off : Int} {tgt : Nat} (hi : gI F pc (.ifCond .ge off) 3 npc) (ht : ((pc : Int) + off == (tgt : Int)) = true) (ha : -2147483648 ≤ a ∧ a ≤ 2147483647) (kt : 0 ≤ a → gWP F d mc ms tgt ls st sh g Q) (kf : a < 0 → gWP F d mc ms npc ls st sh g Q) : gWP F d mc ms pc ls ((0, a) :: st) sh g Q := by
  intro D p l e R s m args below meth c H locs cells slots lsC Qw C hR hS hl h1 h2 K
  obtain ⟨hd, rfl⟩ := hi
  have ea := gint a ha
  refine lv_if_ge C.1 C.2.1 hd (by simpa using ht) (fun q => kt ?_ D p l e R s m args below meth c H locs cells slots lsC Qw C hR hS hl h1 h2 K) (fun q => kf ?_ D p l e R s m args below meth c H locs cells slots lsC Qw C hR hS hl h1 h2 K)
  all_goals (dsimp only at q)
  all_goals (simp only [← Int32.toInt_inj, Int32.lt_iff_toInt_lt, Int32.le_iff_toInt_le, ge_iff_le, gt_iff_lt, Int32.toInt_zero, ea] at q)
  all_goals omega
theorem gw_if_gt {a off : Int} {tgt : Nat} (hi : gI F pc (.ifCond .gt off) 3 npc) (ht : ((pc : Int) + off == (tgt : Int)) = true) (ha : -2147483648 ≤ a ∧ a ≤ 2147483647) (kt : 0 < a → gWP F d mc ms tgt ls st sh g Q) (kf : a ≤ 0 → gWP F d mc ms npc ls st sh g Q) : gWP F d mc ms pc ls ((0, a) :: st) sh g Q := by
  intro D p l e R s m args below meth c H locs cells slots lsC Qw C hR hS hl h1 h2 K
  obtain ⟨hd, rfl⟩ := hi
  have ea := gint a ha
  refine lv_if_gt C.1 C.2.1 hd (by simpa using ht) (fun q => kt ?_ D p l e R s m args below meth c H locs cells slots lsC Qw C hR hS hl h1 h2 K) (fun q => kf ?_ D p l e R s m args below meth c H locs cells slots lsC Qw C hR hS hl h1 h2 K)
  all_goals (dsimp only at q)
  all_goals (simp only [← Int32.toInt_inj, Int32.lt_iff_toInt_lt, Int32.le_iff_toInt_le, ge_iff_le, gt_iff_lt, Int32.toInt_zero, ea] at q)
  all_goals omega
theorem gw_if_le {a off : Int} {tgt : Nat} (hi : gI F pc (.ifCond .le off) 3 npc) (ht : ((pc : Int) + off == (tgt : Int)) = true) (ha : -2147483648 ≤ a ∧ a ≤ 2147483647) (kt : a ≤ 0 → gWP F d mc ms tgt ls st sh g Q) (kf : 0 < a → gWP F d mc ms npc ls st sh g Q) : gWP F d mc ms pc ls ((0, a) :: st) sh g Q := by
  intro D p l e R s m args below meth c H locs cells slots lsC Qw C hR hS hl h1 h2 K
  obtain ⟨hd, rfl⟩ := hi
  have ea := gint a ha
  refine lv_if_le C.1 C.2.1 hd (by simpa using ht) (fun q => kt ?_ D p l e R s m args below meth c H locs cells slots lsC Qw C hR hS hl h1 h2 K) (fun q => kf ?_ D p l e R s m args below meth c H locs cells slots lsC Qw C hR hS hl h1 h2 K)
  all_goals (dsimp only at q)
  all_goals (simp only [← Int32.toInt_inj, Int32.lt_iff_toInt_lt, Int32.le_iff_toInt_le, ge_iff_le, gt_iff_lt, Int32.toInt_zero, ea] at q)
  all_goals omega
theorem gw_icmp_eq {a b off : Int} {tgt : Nat} (hi : gI F pc (.if_icmp .eq off) 3 npc) (ht : ((pc : Int) + off == (tgt : Int)) = true) (ha : (-2147483648 ≤ a ∧ a ≤ 2147483647) ∧ -2147483648 ≤ b ∧ b ≤ 2147483647) (kt : a = b → gWP F d mc ms tgt ls st sh g Q) (kf : ¬ a = b → gWP F d mc ms npc ls st sh g Q) : gWP F d mc ms pc ls ((0, b) :: (0, a) :: st) sh g Q := by
  intro D p l e R s m args below meth c H locs cells slots lsC Qw C hR hS hl h1 h2 K
  obtain ⟨hd, rfl⟩ := hi
  have ea := gint a ha.1
  have eb := gint b ha.2
  refine lv_icmp_eq C.1 C.2.1 hd (by simpa using ht) (fun q => kt ?_ D p l e R s m args below meth c H locs cells slots lsC Qw C hR hS hl h1 h2 K) (fun q => kf ?_ D p l e R s m args below meth c H locs cells slots lsC Qw C hR hS hl h1 h2 K)
  all_goals (dsimp only at q)
  all_goals (simp only [← Int32.toInt_inj, Int32.lt_iff_toInt_lt, Int32.le_iff_toInt_le, ge_iff_le, gt_iff_lt, Int32.toInt_zero, ea, eb] at q)
  all_goals omega
theorem gw_icmp_ne {a b off : Int} {tgt : Nat} (hi : gI F pc (.if_icmp .ne off) 3 npc) (ht : ((pc : Int) + off == (tgt : Int)) = true) (ha : (-2147483648 ≤ a ∧ a ≤ 2147483647) ∧ -2147483648 ≤ b ∧ b ≤ 2147483647) (kt : ¬ a = b → gWP F d mc ms tgt ls st sh g Q) (kf : a = b → gWP F d mc ms npc ls st sh g Q) : gWP F d mc ms pc ls ((0, b) :: (0, a) :: st) sh g Q := by
  intro D p l e R s m args below meth c H locs cells slots lsC Qw C hR hS hl h1 h2 K
  obtain ⟨hd, rfl⟩ := hi
  have ea := gint a ha.1
  have eb := gint b ha.2
  refine lv_icmp_ne C.1 C.2.1 hd (by simpa using ht) (fun q => kt ?_ D p l e R s m args below meth c H locs cells slots lsC Qw C hR hS hl h1 h2 K) (fun q => kf ?_ D p l e R s m args below meth c H locs cells slots lsC Qw C hR hS hl h1 h2 K)
  all_goals (dsimp only at q)
  all_goals (simp only [← Int32.toInt_inj, Int32.lt_iff_toInt_lt, Int32.le_iff_toInt_le, ge_iff_le, gt_iff_lt, Int32.toInt_zero, ea, eb] at q)
  all_goals omega
theorem gw_icmp_lt {a b off : Int} {tgt : Nat} (hi : gI F pc (.if_icmp .lt off) 3 npc) (ht : ((pc : Int) + off == (tgt : Int)) = true) (ha : (-2147483648 ≤ a ∧ a ≤ 2147483647) ∧ -2147483648 ≤ b ∧ b ≤ 2147483647) (kt : a < b → gWP F d mc ms tgt ls st sh g Q) (kf : b ≤ a → gWP F d mc ms npc ls st sh g Q) : gWP F d mc ms pc ls ((0, b) :: (0, a) :: st) sh g Q := by
  intro D p l e R s m args below meth c H locs cells slots lsC Qw C hR hS hl h1 h2 K
  obtain ⟨hd, rfl⟩ := hi
  have ea := gint a ha.1
  have eb := gint b ha.2
  refine lv_icmp_lt C.1 C.2.1 hd (by simpa using ht) (fun q => kt ?_ D p l e R s m args below meth c H locs cells slots lsC Qw C hR hS hl h1 h2 K) (fun q => kf ?_ D p l e R s m args below meth c H locs cells slots lsC Qw C hR hS hl h1 h2 K)
  all_goals (dsimp only at q)
  all_goals (simp only [← Int32.toInt_inj, Int32.lt_iff_toInt_lt, Int32.le_iff_toInt_le, ge_iff_le, gt_iff_lt, Int32.toInt_zero, ea, eb] at q)
  all_goals omega
theorem gw_icmp_ge {a b off : Int} {tgt : Nat} (hi : gI F pc (.if_icmp .ge off) 3 npc) (ht : ((pc : Int) + off == (tgt : Int)) = true) (ha : (-2147483648 ≤ a ∧ a ≤ 2147483647) ∧ -2147483648 ≤ b ∧ b ≤ 2147483647) (kt : b ≤ a → gWP F d mc ms tgt ls st sh g Q) (kf : a < b → gWP F d mc ms npc ls st sh g Q) : gWP F d mc ms pc ls ((0, b) :: (0, a) :: st) sh g Q := by
  intro D p l e R s m args below meth c H locs cells slots lsC Qw C hR hS hl h1 h2 K
  obtain ⟨hd, rfl⟩ := hi
  have ea := gint a ha.1
  have eb := gint b ha.2
  refine lv_icmp_ge C.1 C.2.1 hd (by simpa using ht) (fun q => kt ?_ D p l e R s m args below meth c H locs cells slots lsC Qw C hR hS hl h1 h2 K) (fun q => kf ?_ D p l e R s m args below meth c H locs cells slots lsC Qw C hR hS hl h1 h2 K)
  all_goals (dsimp only at q)
  all_goals (simp only [← Int32.toInt_inj, Int32.lt_iff_toInt_lt, Int32.le_iff_toInt_le, ge_iff_le, gt_iff_lt, Int32.toInt_zero, ea, eb] at q)
  all_goals omega
theorem gw_icmp_gt {a b off : Int} {tgt : Nat} (hi : gI F pc (.if_icmp .gt off) 3 npc) (ht : ((pc : Int) + off == (tgt : Int)) = true) (ha : (-2147483648 ≤ a ∧ a ≤ 2147483647) ∧ -2147483648 ≤ b ∧ b ≤ 2147483647) (kt : b < a → gWP F d mc ms tgt ls st sh g Q) (kf : a ≤ b → gWP F d mc ms npc ls st sh g Q) : gWP F d mc ms pc ls ((0, b) :: (0, a) :: st) sh g Q := by
  intro D p l e R s m args below meth c H locs cells slots lsC Qw C hR hS hl h1 h2 K
  obtain ⟨hd, rfl⟩ := hi
  have ea := gint a ha.1
  have eb := gint b ha.2
  refine lv_icmp_gt C.1 C.2.1 hd (by simpa using ht) (fun q => kt ?_ D p l e R s m args below meth c H locs cells slots lsC Qw C hR hS hl h1 h2 K) (fun q => kf ?_ D p l e R s m args below meth c H locs cells slots lsC Qw C hR hS hl h1 h2 K)
  all_goals (dsimp only at q)
  all_goals (simp only [← Int32.toInt_inj, Int32.lt_iff_toInt_lt, Int32.le_iff_toInt_le, ge_iff_le, gt_iff_lt, Int32.toInt_zero, ea, eb] at q)
  all_goals omega
theorem gw_icmp_le {a b off : Int} {tgt : Nat} (hi : gI F pc (.if_icmp .le off) 3 npc) (ht : ((pc : Int) + off == (tgt : Int)) = true) (ha : (-2147483648 ≤ a ∧ a ≤ 2147483647) ∧ -2147483648 ≤ b ∧ b ≤ 2147483647) (kt : a ≤ b → gWP F d mc ms tgt ls st sh g Q) (kf : b < a → gWP F d mc ms npc ls st sh g Q) : gWP F d mc ms pc ls ((0, b) :: (0, a) :: st) sh g Q := by
  intro D p l e R s m args below meth c H locs cells slots lsC Qw C hR hS hl h1 h2 K
  obtain ⟨hd, rfl⟩ := hi
  have ea := gint a ha.1
  have eb := gint b ha.2
  refine lv_icmp_le C.1 C.2.1 hd (by simpa using ht) (fun q => kt ?_ D p l e R s m args below meth c H locs cells slots lsC Qw C hR hS hl h1 h2 K) (fun q => kf ?_ D p l e R s m args below meth c H locs cells slots lsC Qw C hR hS hl h1 h2 K)
  all_goals (dsimp only at q)
  all_goals (simp only [← Int32.toInt_inj, Int32.lt_iff_toInt_lt, Int32.le_iff_toInt_le, ge_iff_le, gt_iff_lt, Int32.toInt_zero, ea, eb] at q)
  all_goals omega
end GR
