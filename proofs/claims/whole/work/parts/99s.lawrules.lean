/-! ===== the same rules for a frame that knows one thing more ===== -/
def gWS (Sc : gD → State → Prop) (F : gF) (d mc ms pc : Nat) (ls st : List gV) (sh : gS) (g : gM) (Q : gQ) : Prop :=
  ∀ (D : gD) (p : Program) (l : Launch) (e : Env) (R : Room) (s : State) (m : MethodId) (args : Array Value) (below : List Frame) (meth : Method) (c : Code) (H : Heap) (locs : List Loc) (cells slots : Nat) (lsC : Array Slot) (Qw : State → Prop),
    Sc D s → gCtx D F d p R s m args meth c → gRel D sh g H → va_S (gA D) s.heap H locs → gls D F.2.2.1 lsC ls → cells + mc ≤ R.cells → slots + ms ≤ R.slots →
    (∀ (r : Option gV) (sh' : gS) (g' : gM) (H' : Heap) (locs' : List Loc) (lsC' : Array Slot) (pc' cells' slots' : Nat), Q r sh' g' → gRel D sh' g' H' → va_S (gA D) s.heap H' locs' → gRi F pc' r → cells' ≤ cells + mc → slots' ≤ slots + ms → W p l e R s m args below meth c H' locs' cells' slots' Qw (F0 m pc' lsC' (r.toList.map (gcv D)))) →
    W p l e R s m args below meth c H locs cells slots Qw (F0 m pc lsC (st.map (gcv D)))
section HA
variable {Sc : gD → State → Prop} {F Fy : gF} {d d2 mc ms mc2 ms2 n pc npc idx : Nat} {ls st st2 : List gV} {as : List gV} {sh : gS} {g : gM} {Q Q2 : gQ}
theorem hw_iload_n {j : Fin 4} {x : Int} (hi : gI F pc (.iload_n j) 1 npc) (hv : ls[(j : Nat)]? = some (0, x)) (k : gWS Sc F d mc ms npc ls ((0, x) :: st) sh g Q) : gWS Sc F d mc ms pc ls (st) sh g Q := by
  intro D p l e R s m args below meth c H locs cells slots lsC Qw hZ C hR hS hl h1 h2 K
  obtain ⟨hd, rfl⟩ := hi
  exact lv_iload_n C.1 C.2.1 hd rfl (hl.2.2.2 j _ hv (fun q => by cases q)) (k D p l e R s m args below meth c H locs cells slots lsC Qw hZ C hR hS hl h1 h2 K)
theorem hw_aload_n {j : Fin 4} {t : Nat} {x : Int} (hi : gI F pc (.aload_n j) 1 npc) (hv : ls[(j : Nat)]? = some (t, x)) (ht : Nat.ble 2 t && !(t == 9) = true) (k : gWS Sc F d mc ms npc ls ((t, x) :: st) sh g Q) : gWS Sc F d mc ms pc ls st sh g Q := by
  intro D p l e R s m args below meth c H locs cells slots lsC Qw hZ C hR hS hl h1 h2 K
  obtain ⟨hd, rfl⟩ := hi
  simp only [Bool.and_eq_true, Nat.ble_eq, Bool.not_eq_true', beq_eq_false_iff_ne, ne_eq] at ht
  have hv' := hl.2.2.2 j _ hv (fun z => by have z' : t = 9 := z; subst z'; exact absurd ht.2 (by decide))
  have k' := k D p l e R s m args below meth c H locs cells slots lsC Qw hZ C hR hS hl h1 h2 K
  rw [List.map_cons] at k'
  rcases gcv_ref D t x ht.1 with q | ⟨a, q⟩
  · rw [q] at hv' k'; exact lv_aload_nN C.1 C.2.1 hd rfl hv' k'
  · rw [q] at hv' k'; exact lv_aload_n C.1 C.2.1 hd rfl hv' k'
theorem hw_iconst {n : Int} (hi : gI F pc (.iconst n) 1 npc) (k : gWS Sc F d mc ms npc ls ((0, n) :: st) sh g Q) : gWS Sc F d mc ms pc ls (st) sh g Q := by
  intro D p l e R s m args below meth c H locs cells slots lsC Qw hZ C hR hS hl h1 h2 K
  obtain ⟨hd, rfl⟩ := hi
  exact lv_iconst C.1 C.2.1 hd rfl (k D p l e R s m args below meth c H locs cells slots lsC Qw hZ C hR hS hl h1 h2 K)
theorem hw_bipush {n : Int} (hi : gI F pc (.bipush n) 2 npc) (hb : (Int8.ofInt n).toInt32 = Int32.ofInt n) (k : gWS Sc F d mc ms npc ls ((0, n) :: st) sh g Q) : gWS Sc F d mc ms pc ls (st) sh g Q := by
  intro D p l e R s m args below meth c H locs cells slots lsC Qw hZ C hR hS hl h1 h2 K
  obtain ⟨hd, rfl⟩ := hi
  exact lv_bipush (v := Int32.ofInt n) C.1 C.2.1 hd hb (k D p l e R s m args below meth c H locs cells slots lsC Qw hZ C hR hS hl h1 h2 K)
theorem hw_iadd {a b : Int} (hi : gI F pc (.iadd) 1 npc) (k : gWS Sc F d mc ms npc ls ((0, a + b) :: st) sh g Q) : gWS Sc F d mc ms pc ls ((0, b) :: (0, a) :: st) sh g Q := by
  intro D p l e R s m args below meth c H locs cells slots lsC Qw hZ C hR hS hl h1 h2 K
  obtain ⟨hd, rfl⟩ := hi
  have k' := k D p l e R s m args below meth c H locs cells slots lsC Qw hZ C hR hS hl h1 h2 K
  rw [List.map_cons, show gcv D (0, a + b) = .int (Int32.ofInt a + Int32.ofInt b) from congrArg Value.int (Int32.ofInt_add a b)] at k'
  exact lv_iadd C.1 C.2.1 hd k'
theorem hw_isub {a b : Int} (hi : gI F pc (.isub) 1 npc) (k : gWS Sc F d mc ms npc ls ((0, a - b) :: st) sh g Q) : gWS Sc F d mc ms pc ls ((0, b) :: (0, a) :: st) sh g Q := by
  intro D p l e R s m args below meth c H locs cells slots lsC Qw hZ C hR hS hl h1 h2 K
  obtain ⟨hd, rfl⟩ := hi
  have k' := k D p l e R s m args below meth c H locs cells slots lsC Qw hZ C hR hS hl h1 h2 K
  rw [List.map_cons, show gcv D (0, a - b) = .int (Int32.ofInt a - Int32.ofInt b) from congrArg Value.int (Int32.ofInt_sub a b)] at k'
  exact lv_isub C.1 C.2.1 hd k'
theorem hw_iand {a b : Int} (hi : gI F pc (.iand) 1 npc) (k : gWS Sc F d mc ms npc ls ((0, gand a b) :: st) sh g Q) : gWS Sc F d mc ms pc ls ((0, b) :: (0, a) :: st) sh g Q := by
  intro D p l e R s m args below meth c H locs cells slots lsC Qw hZ C hR hS hl h1 h2 K
  obtain ⟨hd, rfl⟩ := hi
  have k' := k D p l e R s m args below meth c H locs cells slots lsC Qw hZ C hR hS hl h1 h2 K
  rw [List.map_cons, show gcv D (0, gand a b) = .int (Int32.ofInt a &&& Int32.ofInt b) from congrArg Value.int (Int32.ofInt_toInt _)] at k'
  exact lv_iand C.1 C.2.1 hd k'
theorem hw_goto {off : Int} {tgt : Nat} (hi : gI F pc (.goto off) 3 npc) (ht : ((pc : Int) + off == (tgt : Int)) = true) (k : gWS Sc F d mc ms tgt ls st sh g Q) : gWS Sc F d mc ms pc ls st sh g Q := by
  intro D p l e R s m args below meth c H locs cells slots lsC Qw hZ C hR hS hl h1 h2 K
  obtain ⟨hd, rfl⟩ := hi
  exact lv_goto C.1 C.2.1 hd (by simpa using ht) (k D p l e R s m args below meth c H locs cells slots lsC Qw hZ C hR hS hl h1 h2 K)
theorem hw_icmp_gt {a b off : Int} {tgt : Nat} (hi : gI F pc (.if_icmp .gt off) 3 npc) (ht : ((pc : Int) + off == (tgt : Int)) = true) (ha : (-2147483648 ≤ a ∧ a ≤ 2147483647) ∧ -2147483648 ≤ b ∧ b ≤ 2147483647) (kt : b < a → gWS Sc F d mc ms tgt ls st sh g Q) (kf : a ≤ b → gWS Sc F d mc ms npc ls st sh g Q) : gWS Sc F d mc ms pc ls ((0, b) :: (0, a) :: st) sh g Q := by
  intro D p l e R s m args below meth c H locs cells slots lsC Qw hZ C hR hS hl h1 h2 K
  obtain ⟨hd, rfl⟩ := hi
  have ea := gint a ha.1
  have eb := gint b ha.2
  refine lv_icmp_gt C.1 C.2.1 hd (by simpa using ht) (fun q => kt ?_ D p l e R s m args below meth c H locs cells slots lsC Qw hZ C hR hS hl h1 h2 K) (fun q => kf ?_ D p l e R s m args below meth c H locs cells slots lsC Qw hZ C hR hS hl h1 h2 K)
  all_goals (dsimp only at q)
  all_goals (simp only [← Int32.toInt_inj, Int32.lt_iff_toInt_lt, Int32.le_iff_toInt_le, ge_iff_le, gt_iff_lt, Int32.toInt_zero, ea, eb] at q)
  all_goals omega
theorem hw_tableIn {dflt lo hi2 off a : Int} {offs : Array Int} {len tgt : Nat} (hi : gI F pc (.tableswitch dflt lo hi2 offs) len npc) (ha : -2147483648 ≤ a ∧ a ≤ 2147483647) (h1' : lo ≤ a ∧ a ≤ hi2) (ho : offs[(a - lo).toNat]? = some off) (ht : ((pc : Int) + off == (tgt : Int)) = true) (kk : gWS Sc F d mc ms tgt ls st sh g Q) : gWS Sc F d mc ms pc ls ((0, a) :: st) sh g Q := by
  intro D p l e R s m args below meth c H locs cells slots lsC Qw hZ C hR hS hl h1 h2 K
  obtain ⟨hd, rfl⟩ := hi
  have ea := gint a ha
  exact lv_tableIn C.1 C.2.1 hd (by rw [ea]; omega) (by rw [ea]; omega) (by rw [ea]; exact ho) (by simpa using ht) (kk D p l e R s m args below meth c H locs cells slots lsC Qw hZ C hR hS hl h1 h2 K)
theorem hw_tableOut {dflt lo hi2 a : Int} {offs : Array Int} {len tgt : Nat} (hi : gI F pc (.tableswitch dflt lo hi2 offs) len npc) (ha : -2147483648 ≤ a ∧ a ≤ 2147483647) (h1' : a < lo ∨ hi2 < a) (ht : ((pc : Int) + dflt == (tgt : Int)) = true) (kk : gWS Sc F d mc ms tgt ls st sh g Q) : gWS Sc F d mc ms pc ls ((0, a) :: st) sh g Q := by
  intro D p l e R s m args below meth c H locs cells slots lsC Qw hZ C hR hS hl h1 h2 K
  obtain ⟨hd, rfl⟩ := hi
  have ea := gint a ha
  exact lv_tableOut C.1 C.2.1 hd (by rw [ea]; omega) (by simpa using ht) (kk D p l e R s m args below meth c H locs cells slots lsC Qw hZ C hR hS hl h1 h2 K)
theorem hw_iinc {j : Nat} {n x : Int} (hi : gI F pc (.iinc j n) 3 npc) (hv : ls[j]? = some (0, x)) (hn : j < F.2.2.1) (k : gWS Sc F d mc ms npc (gset ls j (0, x + n)) st sh g Q) : gWS Sc F d mc ms pc ls st sh g Q := by
  intro D p l e R s m args below meth c H locs cells slots lsC Qw hZ C hR hS hl h1 h2 K
  obtain ⟨hd, rfl⟩ := hi
  obtain ⟨q, hq⟩ := List.getElem?_of_mem (gasc_mem (D := D) (q := (j, gcv D (0, x))).mpr ⟨(0, x), hv, (fun z => by cases z), rfl⟩)
  refine lv_iinc (v := Int32.ofInt (x + n)) C.1 C.2.1 hd (gls_has hl) hq (Int32.ofInt_add x n).symm hn rfl (fun lsC2 hl2 => ?_)
  exact k D p l e R s m args below meth c H locs cells slots lsC2 Qw hZ C hR hS (gls_set1 (v := (0, x + n)) hl.2.2.1 (fun q => by cases q) hl2) h1 h2 K
theorem hw_iinc_3 {a0 : gV} {a1 : gV} {a2 : gV} {y m : Int} {t : List gV} (hi : gI F pc (.iinc 3 m) 3 npc) (hc : (a2.1 == 1) = false) (hn : Nat.ble 4 F.2.2.1 = true) (k : gWS Sc F d mc ms npc (a0 :: a1 :: a2 :: (0, y + m) :: t) st sh g Q) : gWS Sc F d mc ms pc (a0 :: a1 :: a2 :: (0, y) :: t) st sh g Q := by
  have e : gset (a0 :: a1 :: a2 :: (0, y) :: t) 3 (0, y + m) = a0 :: a1 :: a2 :: (0, y + m) :: t := by simp [gset, show ¬ a2.1 = 1 from by simpa using hc]
  exact hw_iinc hi rfl (Nat.le_of_ble_eq_true hn) (by rw [e]; exact k)
theorem hw_istore_n {j : Fin 4} {x : Int} (hi : gI F pc (.istore_n j) 1 npc) (hn : (j : Nat) < F.2.2.1) (k : gWS Sc F d mc ms npc (gset ls j (0, x)) st sh g Q) : gWS Sc F d mc ms pc ls ((0, x) :: st) sh g Q := by
  intro D p l e R s m args below meth c H locs cells slots lsC Qw hZ C hR hS hl h1 h2 K
  obtain ⟨hd, rfl⟩ := hi
  refine lv_istore_n C.1 C.2.1 hd rfl (gls_has hl) hn rfl (fun lsC2 hl2 => ?_)
  exact k D p l e R s m args below meth c H locs cells slots lsC2 Qw hZ C hR hS (gls_set1 (v := (0, x)) hl.2.2.1 (fun q => by cases q) hl2) h1 h2 K
theorem hw_istore_3 {a0 : gV} {a1 : gV} {a2 : gV} {x : gV} {t : List gV} {y : Int} (hi : gI F pc (.istore_n 3) 1 npc) (hc : (a2.1 == 1) = false) (hn : Nat.ble 4 F.2.2.1 = true) (k : gWS Sc F d mc ms npc (a0 :: a1 :: a2 :: (0, y) :: t) st sh g Q) : gWS Sc F d mc ms pc (a0 :: a1 :: a2 :: x :: t) ((0, y) :: st) sh g Q := by
  have e : gset (a0 :: a1 :: a2 :: x :: t) 3 (0, y) = a0 :: a1 :: a2 :: (0, y) :: t := by simp [gset, show ¬ a2.1 = 1 from by simpa using hc]
  exact hw_istore_n hi (Nat.le_of_ble_eq_true hn) (by rw [show ((3 : Fin 4) : Nat) = 3 from rfl, e]; exact k)
theorem hw_astore_n {j : Fin 4} {t : Nat} {x : Int} (hi : gI F pc (.astore_n j) 1 npc) (hn : (j : Nat) < F.2.2.1) (ht : Nat.ble 2 t = true) (k : gWS Sc F d mc ms npc (gset ls j (t, x)) st sh g Q) : gWS Sc F d mc ms pc ls ((t, x) :: st) sh g Q := by
  intro D p l e R s m args below meth c H locs cells slots lsC Qw hZ C hR hS hl h1 h2 K
  obtain ⟨hd, rfl⟩ := hi
  have ht2 : 2 ≤ t := Nat.le_of_ble_eq_true ht
  have kk := fun lsC2 (hl2 : gls D F.2.2.1 lsC2 (gset ls j (t, x))) => k D p l e R s m args below meth c H locs cells slots lsC2 Qw hZ C hR hS hl2 h1 h2 K
  have hs := fun lsC2 h9 => gls_set1 (D := D) (n := F.2.2.1) (i := (j : Nat)) (lsC := lsC2) (ls := ls) (v := (t, x)) hl.2.2.1 (fun q => by simp at q; omega) h9
  rw [List.map_cons]
  rcases gcv_ref D t x ht2 with q | ⟨a, q⟩
  · rw [q] at hs ⊢
    exact lv_astore_nN C.1 C.2.1 hd rfl (gls_has hl) hn rfl (fun lsC2 hl2 => kk lsC2 (hs lsC2 hl2))
  · rw [q] at hs ⊢
    exact lv_astore_n C.1 C.2.1 hd rfl (gls_has hl) hn rfl (fun lsC2 hl2 => kk lsC2 (hs lsC2 hl2))
theorem hw_astore_1 {a0 : gV} {x : gV} {t : List gV} {y : Int} {tg : Nat} (hi : gI F pc (.astore_n 1) 1 npc) (hc : (a0.1 == 1) = false) (hn : Nat.ble 2 F.2.2.1 = true) (ht : Nat.ble 2 tg = true) (k : gWS Sc F d mc ms npc (a0 :: (tg, y) :: t) st sh g Q) : gWS Sc F d mc ms pc (a0 :: x :: t) ((tg, y) :: st) sh g Q := by
  have e : gset (a0 :: x :: t) 1 (tg, y) = a0 :: (tg, y) :: t := by simp [gset, show ¬ a0.1 = 1 from by simpa using hc]
  exact hw_astore_n hi (Nat.le_of_ble_eq_true hn) ht (by rw [show ((1 : Fin 4) : Nat) = 1 from rfl, e]; exact k)
theorem hw_astore_2 {a0 : gV} {a1 : gV} {x : gV} {t : List gV} {y : Int} {tg : Nat} (hi : gI F pc (.astore_n 2) 1 npc) (hc : (a1.1 == 1) = false) (hn : Nat.ble 3 F.2.2.1 = true) (ht : Nat.ble 2 tg = true) (k : gWS Sc F d mc ms npc (a0 :: a1 :: (tg, y) :: t) st sh g Q) : gWS Sc F d mc ms pc (a0 :: a1 :: x :: t) ((tg, y) :: st) sh g Q := by
  have e : gset (a0 :: a1 :: x :: t) 2 (tg, y) = a0 :: a1 :: (tg, y) :: t := by simp [gset, show ¬ a1.1 = 1 from by simpa using hc]
  exact hw_astore_n hi (Nat.le_of_ble_eq_true hn) ht (by rw [show ((2 : Fin 4) : Nat) = 2 from rfl, e]; exact k)
theorem hw_dup {v : gV} (hi : gI F pc (.dup) 1 npc) (hv : (v.1 == 1) = false) (k : gWS Sc F d mc ms npc ls (v :: v :: st) sh g Q) : gWS Sc F d mc ms pc ls (v :: st) sh g Q := by
  intro D p l e R s m args below meth c H locs cells slots lsC Qw hZ C hR hS hl h1 h2 K
  obtain ⟨hd, rfl⟩ := hi
  have hv' : (gcv D v).category = 1 := by rw [gcv_cat, gca, if_neg (by simpa using hv)]
  exact lv_dup C.1 C.2.1 hd hv' (k D p l e R s m args below meth c H locs cells slots lsC Qw hZ C hR hS hl h1 h2 K)
theorem hw_new {idx q N : Nat} (hi : gI F pc (.new idx) 3 npc) (hq : gNW F.1.cls idx q N) (hmc : 1 ≤ mc ∧ N ≤ ms) (kk : gWS Sc F d (mc - 1) (ms - N) npc ls ((2, (sh.length : Int)) :: st) (sh ++ [(q, N)]) (gfr g (sh.length : Int) (gdef q)) Q) : gWS Sc F d mc ms pc ls st sh g Q := by
  intro D p l e R s m args below meth c H locs cells slots lsC Qw hZ C hR hS hl h1 h2 K
  obtain ⟨hd, rfl⟩ := hi

  obtain ⟨r, c1, rfl, c3, c4, c5, c6, c7⟩ := hq
  have hts := C.2.2.2.2.2.1
  have hin := gok_lays (gcl_ok q r c1)
  have hK : va_K D.1 gcl (gtys D) s := C.2.2.2.2.2.2.2.2.2.2.1.1
  have hKn := hK.1 q r c1
  have ch : ∀ k, ∃ ty, k < r.2.2 → parseFieldDescriptor (r.2.1 k).2.2.1 = some ty ∧ ((gft q k = 0 ∧ (ty = .int ∨ ty = .boolean)) ∨ (gft q k = 1 ∧ ty = .long) ∨ (gft q k = 2 ∧ ((∃ n, ty = .object n) ∨ ∃ t, ty = .array t))) := fun k => by
    by_cases h : k < r.2.2
    · obtain ⟨ty, h2⟩ := c7 k h
      exact ⟨ty, fun _ => h2⟩
    · exact ⟨.int, fun h2 => absurd h2 h⟩
  refine W.newcK C.1 C.2.1 C.2.2.2.2.1 (hts _ c4) (hts _ c5) (hts _ c6) rfl hd (by omega) (by omega) hKn.2.1 rfl fun H2 kC hkC e1 z1 o1 => ?_
  obtain ⟨cell, b1, b2, b3, b4⟩ := u_born (fun k => Classical.choose (ch k)) hts hin hKn hkC e1 (fun k hk => (Classical.choose_spec (ch k) hk).1)
  have hcell : gcell D (q, r.2.2) (gdef q) cell := by
    refine ⟨fun _ => ⟨b2, b3, fun k hk => ?_⟩, fun h => by have h' : 13 ≤ q := h; omega⟩
    rw [b4 k hk]
    have hty := (Classical.choose_spec (ch k) hk).2
    show some (defaultValue (Classical.choose (ch k))) = some (gcv D (gft q k, if gft q ((k : Int)).toNat = 2 then -1 else 0))
    generalize Classical.choose (ch k) = ty at hty ⊢
    have e0 : ((k : Int)).toNat = k := by omega
    rw [e0]
    rcases hty with ⟨q1, rfl | rfl⟩ | ⟨q1, rfl⟩ | ⟨q1, ⟨n, rfl⟩ | ⟨t, rfl⟩⟩ <;> rw [q1] <;> rfl
  have hR2 := gRel_push hR b1 hcell z1 o1
  have e5 : D.2.2.1 + ((sh.length : Nat) : Int).toNat = H.size := by rw [hR.1]; omega
  have k2 := kk D p l e R s m args below meth c H2 locs (cells + 1) (slots + r.2.2) lsC Qw hZ C hR2 (gS_push hS (by omega) o1) hl (by omega) (by omega) (fun r3 sh3 g3 H3 locs3 ls3 pc3 c3 s3 q1 q2 q3 q4 q5 q6 => K r3 sh3 g3 H3 locs3 ls3 pc3 c3 s3 q1 q2 q3 q4 (by omega) (by omega))
  rw [List.map_cons, gcv_r D _ (by omega), e5] at k2
  exact k2
theorem hw_callV {b : Int} {q N : Nat} (hi : gI F pc (.invokevirtual idx) 3 npc) (hy : gYv Fy n q) (hlk : Cond.methodLink F.1.cls idx Fy.1 ∈ lw_good) (hT : gTri Fy d2 mc2 ms2 ((2, b) :: as) sh g Q2) (hst : st = as.reverse ++ (2, b) :: st2) (hn : as.length = n) (hs : gsz sh b q N) (hcat : Nat.ble (st2.map gca).sum 8 = true) (hdp : Nat.ble (d2 + 1) d = true) (hmc : mc2 ≤ mc ∧ ms2 ≤ ms) (kk : ∀ r sh2 g2, Q2 r sh2 g2 → gWS Sc F d (mc - mc2) (ms - ms2) npc ls (r.toList ++ st2) sh2 g2 Q) : gWS Sc F d mc ms pc ls st sh g Q := by
  intro D p l e R s m args below meth c H locs cells slots lsC Qw hZ C hR hS hl h1 h2 K
  obtain ⟨hd, rfl⟩ := hi
  subst hst
  have hts := C.2.2.2.2.2.1
  have hKn : gKn D s s.heap := C.2.2.2.2.2.2.2.2.2.2.1
  have hb0 := C.2.2.2.2.2.2.2.2.2.2.2
  have hfr := C.2.2.2.2.2.2.2.2.1
  have hlo := C.2.2.2.2.2.2.2.2.2.1
  have hdp := Nat.le_of_ble_eq_true hdp
  have hcat := Nat.le_of_ble_eq_true hcat
  obtain ⟨⟨y1, y2, y3, y4⟩, y5, y6, y7, y8⟩ := hy
  have hroom : (grm d2 mc2 ms2).frames + 1 ≤ R.frames ∧ 8 + (Fy.2.2.1 + 11) + (grm d2 mc2 ms2).locals ≤ R.locals := ⟨Nat.le_trans hdp hfr, by show 8 + (Fy.2.2.1 + 11) + 41 * d2 ≤ R.locals; omega⟩
  have cb := callB_of (R := R) (rm := grm d2 mc2 ms2) (mc := mc2) (ms := ms2) n hts (gGood y1) rfl rfl rfl (hts _ y2) (hts _ hlk) y3 hroom
  have c1 : gcl[q]? = some (gcl.getD q ("", (fun _ => ("", "", "", false)), 0)) := by
    have : q < gcl.length := y7
    simp [List.getD, List.getElem?_eq_getElem this]
  obtain ⟨s1, s2⟩ := hs
  obtain ⟨cell, e1, e2, -⟩ := hR.2 _ _ s2
  obtain ⟨f1, f2, -⟩ := e2 y7
  have hcl := (hKn.1.1 q _ c1).2.1
  have hcellB : ∃ cellB : Cell, H[D.2.2.1 + b.toNat]? = some cellB ∧ cellB.vm.isStatics = false ∧ s.vm.findClass Fy.1.cls = some cellB.cls := ⟨cell, e1, by rw [f2]; rfl, by rw [f1, ← y8]; exact hcl⟩
  have hrun := va_runV (Ts := lw_good) (own := F.1.cls) (e := e) (below := below) (meth := meth) (H := H) (locs := locs) (cells := cells) (slots := slots) (mc := mc2) (ms := ms2) (As := as.map (gcv D)) (rest := st2.map (gcv D)) (g := F0 m (pc) lsC ((as.reverse ++ (2, b) :: st2).map (gcv D))) (nL := F.2.2.1) ⟨C.1, C.2.1, C.2.2.2.1, C.2.2.2.2.1, hts⟩ (hT l D) ⟨cb, hts _ y5, hts _ y6⟩ ⟨gPc_blind _ _ _ _, hcellB, fun U hU hW => by have := gPc_at (as := ((2, b) :: as)) hKn hb0 hR hS hU hW; rw [List.map_cons, gcv_r D b s1] at this; exact this⟩ rfl (by rw [List.length_map]; exact hn) hl.1 (by show List.map _ _ = _; rw [List.map_append, List.map_reverse, List.map_cons, gcv_r D b s1]) (lv_room (by rw [List.map_map]; exact (by simpa [Function.comp_def, gcv_cat] using hcat))) hd ⟨by omega, by omega⟩
  refine gafter hrun hS (fun r sh2 g2 H1 locs1 hq hR1 hS1 => ?_)
  rw [← List.map_append]
  exact kk r sh2 g2 hq D p l e R s m args below meth c H1 locs1 (cells + mc2) (slots + ms2) lsC Qw hZ C hR1 hS1 hl (by omega) (by omega) (fun r3 sh3 g3 H3 locs3 ls3 pc3 c3 s3 q1 q2 q3 q4 q5 q6 => K r3 sh3 g3 H3 locs3 ls3 pc3 c3 s3 q1 q2 q3 q4 (by omega) (by omega))
theorem hw_callI {b : Int} (hi : gI F pc (.invokespecial idx) 3 npc) (hy : gYi Fy n) (hlk : Cond.methodLink F.1.cls idx Fy.1 ∈ lw_good) (hT : gTri Fy d2 mc2 ms2 ((2, b) :: as) sh g Q2) (hst : st = as.reverse ++ (2, b) :: st2) (hn : as.length = n) (hs : 0 ≤ b) (hcat : Nat.ble (st2.map gca).sum 8 = true) (hdp : Nat.ble (d2 + 1) d = true) (hmc : mc2 ≤ mc ∧ ms2 ≤ ms) (kk : ∀ r sh2 g2, Q2 r sh2 g2 → gWS Sc F d (mc - mc2) (ms - ms2) npc ls (r.toList ++ st2) sh2 g2 Q) : gWS Sc F d mc ms pc ls st sh g Q := by
  intro D p l e R s m args below meth c H locs cells slots lsC Qw hZ C hR hS hl h1 h2 K
  obtain ⟨hd, rfl⟩ := hi
  subst hst
  have hts := C.2.2.2.2.2.1
  have hKn : gKn D s s.heap := C.2.2.2.2.2.2.2.2.2.2.1
  have hb0 := C.2.2.2.2.2.2.2.2.2.2.2
  have hfr := C.2.2.2.2.2.2.2.2.1
  have hlo := C.2.2.2.2.2.2.2.2.2.1
  have hdp := Nat.le_of_ble_eq_true hdp
  have hcat := Nat.le_of_ble_eq_true hcat
  obtain ⟨⟨y1, y2, y3, y4⟩, y5, y6, y7⟩ := hy
  have hroom : (grm d2 mc2 ms2).frames + 1 ≤ R.frames ∧ 8 + (Fy.2.2.1 + 11) + (grm d2 mc2 ms2).locals ≤ R.locals := ⟨Nat.le_trans hdp hfr, by show 8 + (Fy.2.2.1 + 11) + 41 * d2 ≤ R.locals; omega⟩
  have cb := callB_of (R := R) (rm := grm d2 mc2 ms2) (mc := mc2) (ms := ms2) n hts (gGood y1) rfl rfl rfl (hts _ y2) (hts _ hlk) y3 hroom
  have y1' := y1
  rw [y7] at cb y1'
  have hTT := hT l D
  unfold gws at hTT
  rw [y7] at hTT
  unfold gws at cb
  rw [y7] at cb
  have hrun := va_runI (Ts := lw_good) (own := F.1.cls) (e := e) (below := below) (meth := meth) (H := H) (locs := locs) (cells := cells) (slots := slots) (mc := mc2) (ms := ms2) (b := D.2.2.1 + b.toNat) (As := as.map (gcv D)) (rest := st2.map (gcv D)) (g := F0 m (pc) lsC ((as.reverse ++ (2, b) :: st2).map (gcv D))) (nL := F.2.2.1) ⟨C.1, C.2.1, C.2.2.2.1, C.2.2.2.2.1, hts⟩ hTT ⟨cb, y6, hts _ y5⟩ ⟨gPc_blind _ _ _ _, fun U hU hW => by have := gPc_at (as := ((2, b) :: as)) hKn hb0 hR hS hU hW; rw [List.map_cons, gcv_r D b hs] at this; exact this⟩ rfl (by rw [List.length_map]; exact hn) hl.1 (by show List.map _ _ = _; rw [List.map_append, List.map_reverse, List.map_cons, gcv_r D b hs]) (lv_room (by rw [List.map_map]; exact (by simpa [Function.comp_def, gcv_cat] using hcat))) hd ⟨by omega, by omega⟩
  refine gafter hrun hS (fun r sh2 g2 H1 locs1 hq hR1 hS1 => ?_)
  rw [← List.map_append]
  exact kk r sh2 g2 hq D p l e R s m args below meth c H1 locs1 (cells + mc2) (slots + ms2) lsC Qw hZ C hR1 hS1 hl (by omega) (by omega) (fun r3 sh3 g3 H3 locs3 ls3 pc3 c3 s3 q1 q2 q3 q4 q5 q6 => K r3 sh3 g3 H3 locs3 ls3 pc3 c3 s3 q1 q2 q3 q4 (by omega) (by omega))
theorem hw_zreturn {x : Int} (hi : gI F pc (.ireturn) 1 npc) (hr : F.2.2.2 = some .boolean) (hx : x = 0 ∨ x = 1) (hq : Q (some (0, x)) sh g) : gWS Sc F d mc ms pc ls [(0, x)] sh g Q := by
  intro D p l e R s m args below meth c H locs cells slots lsC Qw hZ C hR hS hl h1 h2 K
  obtain ⟨hd, rfl⟩ := hi

  exact K (some (0, x)) sh g H locs lsC pc cells slots hq hR hS (Or.inl ⟨rfl, hd, .boolean, hr, by rcases hx with rfl | rfl <;> rfl⟩) (by omega) (by omega)
theorem hw_nO {A : Int} {idx q N : Nat} (hA : (sh.length : Int) = A) (hi : gI F pc (.new idx) 3 npc) (hq : gNW F.1.cls idx q N) (hmc : 1 ≤ mc ∧ N ≤ ms) (kk : gsz (sh ++ [(q, N)]) A q N → ((sh ++ [(q, N)]).length : Int) = A + 1 → gWS Sc F d (mc - 1) (ms - N) npc ls ((2, A) :: st) (sh ++ [(q, N)]) (gfr g A (gdef q)) Q) : gWS Sc F d mc ms pc ls st sh g Q := by
  subst hA
  exact hw_new hi hq hmc (kk (gsz_last _ _ _) len_snoc)
theorem hw_ieq {x : Int} {off : Int} {tgt : Nat} (hi : gI F pc (.if_icmp .eq off) 3 npc) (ht : ((pc : Int) + off == (tgt : Int)) = true) (kt : gWS Sc F d mc ms tgt ls st sh g Q) : gWS Sc F d mc ms pc ls ((0, x) :: (0, x) :: st) sh g Q := by
  intro D p l e R s m args below meth c H locs cells slots lsC Qw hZ C hR hS hl h1 h2 K
  obtain ⟨hd, rfl⟩ := hi
  exact lv_icmp_eq C.1 C.2.1 hd (by simpa using ht) (fun _ => kt D p l e R s m args below meth c H locs cells slots lsC Qw hZ C hR hS hl h1 h2 K) (fun q => absurd rfl q)
theorem lg_cmp_s (a : Int64) : lg_cmp a a = 0 := by
  unfold lg_cmp
  simp
theorem hw_leq {x : Int} {off : Int} {pc1 tgt : Nat} (h0 : gI F pc (.lcmp) 1 pc1) (hi : gI F pc1 (.ifCond .eq off) 3 npc) (ht : ((pc1 : Int) + off == (tgt : Int)) = true) (kt : gWS Sc F d mc ms tgt ls st sh g Q) : gWS Sc F d mc ms pc ls ((1, x) :: (1, x) :: st) sh g Q := by
  intro D p l e R s m args below meth c H locs cells slots lsC Qw hZ C hR hS hl h1 h2 K
  obtain ⟨hd0, rfl⟩ := h0
  obtain ⟨hd, rfl⟩ := hi
  exact W.lcmp C.1 C.2.1 hd0 (lv_if_eq C.1 C.2.1 hd (by simpa using ht) (fun _ => kt D p l e R s m args below meth c H locs cells slots lsC Qw hZ C hR hS hl h1 h2 K) (fun q => absurd (lg_cmp_s _) q))
theorem gWS.at {sh2 : gS} {g2 : gM} (h1 : sh = sh2) (h2 : g = g2) (k : gWS Sc F d mc ms pc ls st sh2 g2 Q) : gWS Sc F d mc ms pc ls st sh g Q := by
  subst h1; subst h2; exact k
/-- the script -/
def scr (b L : Nat) (xs : Nat → Int32) : gD → State → Prop := fun D s => D.2.2.2.1 27 = b ∧ va_X b L xs s s.heap ∧ b < s.heap.size ∧ ¬ gA D b
def sv (xs : Nat → Int32) (i : Int) : Int := (xs i.toNat).toInt
theorem sv_r (xs : Nat → Int32) (i : Int) : -2147483648 ≤ sv xs i ∧ sv xs i ≤ 2147483647 := by
  have h1 := Int32.le_toInt (xs i.toNat)
  have h2 := Int32.toInt_lt (xs i.toNat)
  unfold sv
  omega
theorem gand_r (a b : Int) : -2147483648 ≤ gand a b ∧ gand a b ≤ 2147483647 := by
  unfold gand
  have h1 := Int32.le_toInt (Int32.ofInt a &&& Int32.ofInt b)
  have h2 := Int32.toInt_lt (Int32.ofInt a &&& Int32.ofInt b)
  omega
theorem hw_alenX {b L : Nat} {xs : Nat → Int32} (hi : gI F pc (.arraylength) 1 npc) (kk : gWS (scr b L xs) F d mc ms npc ls ((0, (L : Int)) :: st) sh g Q) : gWS (scr b L xs) F d mc ms pc ls ((3, 27) :: st) sh g Q := by
  intro D p l e R s m args below meth c H locs cells slots lsC Qw hZ C hR hS hl h1 h2 K
  obtain ⟨hd, rfl⟩ := hi
  obtain ⟨z1, z2, z3, z4⟩ := id hZ
  have k' := kk D p l e R s m args below meth c H locs cells slots lsC Qw hZ C hR hS hl h1 h2 K
  rw [List.map_cons, show gcv D (0, (L : Int)) = .int (Int32.ofNat L) from congrArg Value.int Int32.ofInt_eq_ofNat] at k'
  rw [List.map_cons, show gcv D (3, 27) = .ref b from congrArg Value.ref z1]
  exact va_slen C.1 C.2.1 z2 z3 z4 hS hd k'
theorem hw_ialdX {b L : Nat} {xs : Nat → Int32} {i : Int} (hi : gI F pc (.iaload) 1 npc) (hx : 0 ≤ i ∧ i < (L : Int) ∧ i ≤ 2147483647) (kk : gWS (scr b L xs) F d mc ms npc ls ((0, sv xs i) :: st) sh g Q) : gWS (scr b L xs) F d mc ms pc ls ((0, i) :: (3, 27) :: st) sh g Q := by
  intro D p l e R s m args below meth c H locs cells slots lsC Qw hZ C hR hS hl h1 h2 K
  obtain ⟨hd, rfl⟩ := hi
  obtain ⟨z1, z2, z3, z4⟩ := id hZ
  have hx2 := gi_ix (i := i) (n := L) hx
  have k' := kk D p l e R s m args below meth c H locs cells slots lsC Qw hZ C hR hS hl h1 h2 K
  rw [List.map_cons, show gcv D (0, sv xs i) = .int (xs (Int32.ofInt i).toNatClampNeg) from by rw [hx2.1]; exact congrArg Value.int (Int32.ofInt_toInt _)] at k'
  rw [List.map_cons, List.map_cons, show gcv D (3, 27) = .ref b from congrArg Value.ref z1]
  exact va_sld C.1 C.2.1 z2 z3 z4 hS hx2.2 hd k'
end HA
/-! ===== an answer that is a long ===== -/
def prL (Fd Fm : gF) (dd dm : Nat) (as : List gV) (Λ : Int → List PC) (sh : gS) (g : gM) : Prop := gTri Fd dd 0 0 ((2, 0) :: as) sh g (fun x s1 g1 => ∃ v, x = some (1, v) ∧ gFix s1 ∧ gTri Fm dm 0 0 ((2, 177) :: as) s1 g1 (fun y s2 g2 => y = some (1, v) ∧ (∃ t, s2 = sh ++ t) ∧ ∃ Λ2, relR Λ2 s2 g2))
theorem prL.q {Fd Fm : gF} {dd dm : Nat} {as : List gV} {Λ : Int → List PC} {sh : gS} {g : gM} {v : Int} (hR : relR Λ sh g) (hD : gTri Fd dd 0 0 ((2, 0) :: as) sh g (fun x s1 g1 => dqQ Λ sh g (1, v) x s1 g1)) (hM : ∀ g1, relR Λ sh g1 → (∀ a k, ¬ qS a k → g1 a k = g a k) → g1 179 = g 179 → gTri Fm dm 0 0 ((2, 177) :: as) sh g1 (fun y s2 g2 => y = some (1, v) ∧ s2 = sh ∧ gQu g1 g2)) : prL Fd Fm dd dm as Λ sh g := by
  refine hD.mono ?_
  rintro x s1 g1 ⟨h1, rfl, h3, h4, h5⟩
  have hR1 := hR.q h3 h4 h5
  refine ⟨v, h1, hR.1.1, (hM g1 hR1 h3 (funext fun y => h3 _ _ (by unfold qS; omega))).mono ?_⟩
  rintro y s2 g2 ⟨k1, rfl, k3⟩
  exact ⟨k1, ⟨[], (List.append_nil _).symm⟩, Λ, hR1.qu k3⟩
theorem prL_ways {sh : gS} {g : gM} {Λ : Int → List PC} (hR : relR Λ sh g) : prL f_Desk_ways f_Model_ways 6 46 [] Λ sh g := by
  refine prL.q (v := waR (g 179)) hR (c_Desk_ways hR.1.1 hR.1.2 hR) (fun g1 hR1 he e179 => ?_)
  have hx := hR1.1.1
  have hf := hR1.1.2
  exact (c_Model_ways hx hf hR1.ro hR1.lw).mono (fun y s2 g2 h => ⟨by rw [h.1, e179], h.2.1, h.2.2.qu⟩)
theorem prL_few {sh : gS} {g : gM} {Λ : Int → List PC} (hR : relR Λ sh g) (k : Int) (n : Int) (hk : (-2147483648 ≤ k ∧ k ≤ 2147483647)) (hn : (-2147483648 ≤ n ∧ n ≤ 2147483647)) : prL f_Desk_few f_Model_few 0 1 [(0, k), (0, n)] Λ sh g := by
  refine prL.q (v := fewR (g 179 37) k n) hR (c_Desk_few hR.1.1 hR.1.2 hR k n hk hn) (fun g1 hR1 he e179 => ?_)
  have hx := hR1.1.1
  have hf := hR1.1.2
  exact (c_Model_few hx hf k n ⟨hk, hn⟩ hR1.ro).mono (fun y s2 g2 h => ⟨by rw [h.1, e179], h.2.1, h.2.2⟩)
