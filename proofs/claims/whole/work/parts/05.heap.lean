/-- the memory with v at place k of a -/
def gup (g : gM) (a k v : Int) : gM := fun x y => if x = a then (if y = k then v else g a y) else g x y
theorem gup_eq (g : gM) (a k v : Int) : gup g a k v = fun x => if x = a then (fun y => if y = k then v else g a y) else g x := by
  funext x y
  unfold gup
  split <;> rfl
theorem gRel_put {D : gD} {sh : gS} {g : gM} {H H2 : Heap} {a k v : Int} {s : Nat × Nat} {c : Cell} (h : gRel D sh g H) (ha : 0 ≤ a) (hk : sh[a.toNat]? = some s) (hc : H2[D.2.2.1 + a.toNat]? = some c) (hcell : gcell D s (fun y => if y = k then v else g a y) c) (hz : H2.size = H.size) (ho : ∀ q : Nat, q ≠ D.2.2.1 + a.toNat → H2[q]? = H[q]?) : gRel D sh (gup g a k v) H2 := by
  refine ⟨by rw [hz]; exact h.1, fun j s' hj => ?_⟩
  rw [gup_eq]
  by_cases e : (j : Int) = a
  · have e2 : a.toNat = j := by omega
    rw [e2] at hk hc
    cases hk.symm.trans hj
    exact ⟨c, hc, by simpa only [e, if_true] using hcell⟩
  · obtain ⟨c', q1, q2⟩ := h.2 j s' hj
    exact ⟨c', by rw [ho _ (by omega)]; exact q1, by simpa only [e, if_false] using q2⟩
theorem gS_put {D : gD} {H0 H H2 : Heap} {locs : List Loc} {a k : Nat} (h : va_S (gA D) H0 H locs) (hz : H2.size = H.size) (ho : ∀ q : Nat, q ≠ D.2.2.1 + a → H2[q]? = H[q]?) : va_S (gA D) H0 H2 (locs ++ [⟨D.2.2.1 + a, k⟩]) := h.put hz ho (Nat.le_add_right _ _)
def gFL (own : String) (idx q k N t : Nat) (ty : FieldType) (fin : Bool) : Prop := ∃ r : vw_C, gcl[q]? = some r ∧ r.2.2 = N ∧ k < r.2.2 ∧ Cond.fieldLink own idx (r.2.1 k).1 (r.2.1 k).2.1 (r.2.1 k).2.2.1 ∈ lw_good ∧ parseFieldDescriptor (r.2.1 k).2.2.1 = some ty ∧ (r.2.1 k).2.2.2 = fin ∧ (r.2.1 k).1 = r.1 ∧ gft q k = t ∧ q < 13
theorem gap {D : gD} {s : State} {args : Array Value} {own : String} (hts : ∀ w ∈ lw_good, w.before args s = true) (hK : va_K D.1 gcl (gtys D) s) {q : Nat} {r : vw_C} (hc : gcl[q]? = some r) : ∀ x y, x < r.2.2 → y < r.2.2 → x ≠ y → (D.1.2 q) x ≠ (D.1.2 q) y := by
  obtain ⟨C, T, N⟩ := r
  have ok := gcl_ok q _ hc
  have ch : ∀ k, ∃ ty, k < N → parseFieldDescriptor (T k).2.2.1 = some ty := fun k => by
    by_cases h : k < N
    · obtain ⟨ty, h2⟩ := ok.2.1 k h
      exact ⟨ty, fun _ => h2⟩
    · exact ⟨.int, fun h2 => absurd h2 h⟩
  exact va_apart (own := own) (C := C) (T := T) (N := N) hts (gok_lays ok) (fun k => Classical.choose (ch k)) (fun k hk => Classical.choose_spec (ch k) hk) ok.2.2 hK hc
section GH
variable {F : gF} {d mc ms pc npc : Nat} {ls st : List gV} {sh : gS} {g : gM} {Q : gQ}
theorem gw_getfield {idx q k N t : Nat} {ty : FieldType} {fin : Bool} {a : Int} (hi : gI F pc (.getfield idx) 3 npc) (hf : gFL F.1.cls idx q k N t ty fin) (hs : gsz sh a q N) (kk : gWP F d mc ms npc ls ((t, g a k) :: st) sh g Q) : gWP F d mc ms pc ls ((2, a) :: st) sh g Q := by
  intro D p l e R s m args below meth c H locs cells slots lsC Qw C hR hS hl h1 h2 K
  obtain ⟨hd, rfl⟩ := hi
  obtain ⟨r, c1, rfl, c3, c4, c5, c6, c7, rfl, c9⟩ := hf
  obtain ⟨s1, s2⟩ := hs
  obtain ⟨cell, e1, e2, -⟩ := hR.2 _ _ s2
  obtain ⟨f1, f2, f3⟩ := e2 c9
  have hts := C.2.2.2.2.2.1
  have hin := gok_lays (gcl_ok q r c1)
  have hK : va_K D.1 gcl (gtys D) s := C.2.2.2.2.2.2.2.2.2.2.1.1
  obtain ⟨g1, g2, kC, g3, g4⟩ := hK.1 q r c1
  obtain ⟨cf, kf, fi, f, hf1, hf2⟩ := g1 k c3
  rw [List.map_cons, gcv_r D a s1]
  refine W.getf C.1 C.2.1 C.2.2.2.2.1 (hts _ c4) hf1 (u_facts g2 g3 (u_lays hts hin c3) hf1).1 e1 (by rw [f2]; exact fun h => by cases h) (v := gcv D (gft q k, g a k)) ?_ rfl rfl hd (kk D p l e R s m args below meth c H locs cells slots lsC Qw C hR hS hl h1 h2 K)
  have e3 := f3 k c3
  rw [show (((a.toNat : Nat) : Int)) = a from Int.toNat_of_nonneg s1] at e3
  rw [hf2]
  exact e3
theorem gput {F : gF} {D : gD} {d : Nat} {p : Program} {l : Launch} {e : Env} {R : Room} {s : State} {m : MethodId} {args : Array Value} {below : List Frame} {meth : Method} {c : Code} {H : Heap} {locs : List Loc} {cells slots pc : Nat} {lsC : Array Slot} {Qw : State → Prop} {sh : gS} {g : gM} {idx q k N t : Nat} {ty : FieldType} {fin : Bool} {a x : Int} {st : List Value}
    (C : gCtx D F d p R s m args meth c) (hR : gRel D sh g H) (hS : va_S (gA D) s.heap H locs) (hd : decode F.2.1 pc = .ok (.putfield idx, 3)) (hf : gFL F.1.cls idx q k N t ty fin) (hs : gsz sh a q N) (hfin : fin = false ∨ (F.1.name = "<init>" ∧ (gcl.getD q ("", (fun _ => ("", "", "", false)), 0)).1 = F.1.cls)) (hn : narrow ty (gcv D (t, x)) = gcv D (t, x)) (hfit : fits ty (gcv D (t, x)) = true)
    (kk : ∀ (H2 : Heap) (locs2 : List Loc), gRel D sh (gup g a k x) H2 → va_S (gA D) s.heap H2 locs2 → W p l e R s m args below meth c H2 locs2 cells slots Qw (F0 m (pc + 3) lsC st)) : W p l e R s m args below meth c H locs cells slots Qw (F0 m pc lsC (gcv D (t, x) :: .ref (D.2.2.1 + a.toNat) :: st)) := by
  obtain ⟨r, c1, rfl, c3, c4, c5, c6, c7, rfl, c9⟩ := hf
  obtain ⟨s1, s2⟩ := hs
  obtain ⟨cell, e1, e2, -⟩ := hR.2 _ _ s2
  obtain ⟨f1, f2, f3⟩ := e2 c9
  have hts := C.2.2.2.2.2.1
  have hin := gok_lays (gcl_ok q r c1)
  have hK : va_K D.1 gcl (gtys D) s := C.2.2.2.2.2.2.2.2.2.2.1.1
  have hap := gap (own := F.1.cls) hts hK c1
  obtain ⟨g1, g2, kC, g3, g4⟩ := hK.1 q r c1
  obtain ⟨cf, kf, fi, f, hf1, hf2⟩ := g1 k c3
  have hlay := hts _ (hin _ (u_in_lay c3))
  have hst := (u_facts g2 g3 (u_lays hts hin c3) hf1).1
  rw [show (((a.toNat : Nat) : Int)) = a from Int.toNat_of_nonneg s1] at f3
  have fin2 : ∀ H2 : Heap, H2[D.2.2.1 + a.toNat]? = some (cell.setSlot f.slot (gcv D (gft q k, x))) → H2.size = H.size → (∀ y, y ≠ D.2.2.1 + a.toNat → H2[y]? = H[y]?) → W p l e R s m args below meth c H2 (locs ++ [⟨D.2.2.1 + a.toNat, f.slot⟩]) cells slots Qw (F0 m (pc + 3) lsC st) := by
    intro H2 k1 k2 k3
    refine kk H2 _ (gRel_put hR s1 s2 k1 ⟨fun _ => ⟨f1, f2, fun j hj => ?_⟩, fun h => by have h' : 13 ≤ q := h; omega⟩ k2 k3) (gS_put hS k2 k3)
    have hj' : j < r.2.2 := hj
    have t1 := t_set (V := fun j => gcv D (gft q j, g a j)) f3 hap c3 (gcv D (gft q k, x)) j hj'
    rw [← hf2] at t1
    refine t1.trans ?_
    by_cases e : j = k
    · subst e; simp [updV]
    · have : ¬ (j : Int) = (k : Int) := by omega
      simp [updV, e, this]
  cases hfv : (r.2.1 k).2.2.2 with
  | false =>
    unfold u_lay at hlay
    rw [if_neg (by rw [hfv]; decide)] at hlay
    have h6 := u_store g2 g3 g4 hlay hf1 c5 hn hfit
    exact W.putK C.1 C.2.1 (f := f) ⟨C.2.2.2.2.1, hts _ c4, ⟨_, _, _, hf1⟩, hst⟩ (by rw [f1]; exact h6) e1 f2 (by rw [hf2]; exact k2_hasslot (f3 k c3)) rfl rfl hd fin2
  | true =>
    rcases hfin with q0 | ⟨q1, q2⟩
    · rw [q0, hfv] at c6; cases c6
    · unfold u_lay at hlay
      rw [if_pos hfv] at hlay
      have hcf : m.cls = cf := by
        obtain ⟨_, _, c', _, _, _, -, -, hf', -, -, -, hown2, -⟩ := Cond.laysFinal_spec hlay
        have e9 : c' = cf := by have := hf1.symm.trans hf'; simp at this; exact this.1.symm
        have e8 : (gcl.getD q ("", (fun _ => ("", "", "", false)), 0)) = r := by simp [c1]
        rw [e8] at q2
        rw [c7, q2] at hown2
        rw [← e9]; exact Option.some.inj (C.2.2.2.2.1.symm.trans hown2)
      have h6 := u_fits g2 g3 g4 (Or.inr hlay) hf1 c5 hn hfit
      exact W.putFinK C.1 C.2.1 C.2.2.2.2.1 (hts _ c4) hf1 hst hcf (C.2.2.2.2.2.2.2.1.trans q1) (by rw [f1]; exact h6) e1 f2 (by rw [hf2]; exact k2_hasslot (f3 k c3)) rfl rfl hd fin2
theorem gw_putI {idx q k N : Nat} {fin : Bool} {a x : Int} (hi : gI F pc (.putfield idx) 3 npc) (hf : gFL F.1.cls idx q k N 0 .int fin) (hs : gsz sh a q N) (hfin : fin = false ∨ (F.1.name = "<init>" ∧ (gcl.getD q ("", (fun _ => ("", "", "", false)), 0)).1 = F.1.cls)) (kk : gWP F d mc ms npc ls st sh (gup g a k x) Q) : gWP F d mc ms pc ls ((0, x) :: (2, a) :: st) sh g Q := by
  intro D p l e R s m args below meth c H locs cells slots lsC Qw C hR hS hl h1 h2 K
  obtain ⟨hd, rfl⟩ := hi
  rw [List.map_cons, List.map_cons, gcv_r D a hs.1]
  exact gput C hR hS hd hf hs hfin rfl rfl (fun H2 locs2 hR2 hS2 => kk D p l e R s m args below meth c H2 locs2 cells slots lsC Qw C hR2 hS2 hl h1 h2 K)
theorem gw_putJ {idx q k N : Nat} {fin : Bool} {a x : Int} (hi : gI F pc (.putfield idx) 3 npc) (hf : gFL F.1.cls idx q k N 1 .long fin) (hs : gsz sh a q N) (hfin : fin = false ∨ (F.1.name = "<init>" ∧ (gcl.getD q ("", (fun _ => ("", "", "", false)), 0)).1 = F.1.cls)) (kk : gWP F d mc ms npc ls st sh (gup g a k x) Q) : gWP F d mc ms pc ls ((1, x) :: (2, a) :: st) sh g Q := by
  intro D p l e R s m args below meth c H locs cells slots lsC Qw C hR hS hl h1 h2 K
  obtain ⟨hd, rfl⟩ := hi
  rw [List.map_cons, List.map_cons, gcv_r D a hs.1]
  exact gput C hR hS hd hf hs hfin rfl rfl (fun H2 locs2 hR2 hS2 => kk D p l e R s m args below meth c H2 locs2 cells slots lsC Qw C hR2 hS2 hl h1 h2 K)
theorem gw_putZ {idx q k N : Nat} {fin : Bool} {a x : Int} (hi : gI F pc (.putfield idx) 3 npc) (hf : gFL F.1.cls idx q k N 0 .boolean fin) (hs : gsz sh a q N) (hfin : fin = false ∨ (F.1.name = "<init>" ∧ (gcl.getD q ("", (fun _ => ("", "", "", false)), 0)).1 = F.1.cls)) (hx : x = 0 ∨ x = 1) (kk : gWP F d mc ms npc ls st sh (gup g a k x) Q) : gWP F d mc ms pc ls ((0, x) :: (2, a) :: st) sh g Q := by
  intro D p l e R s m args below meth c H locs cells slots lsC Qw C hR hS hl h1 h2 K
  obtain ⟨hd, rfl⟩ := hi
  rw [List.map_cons, List.map_cons, gcv_r D a hs.1]
  exact gput C hR hS hd hf hs hfin (by rcases hx with rfl | rfl <;> rfl) (by rcases hx with rfl | rfl <;> rfl) (fun H2 locs2 hR2 hS2 => kk D p l e R s m args below meth c H2 locs2 cells slots lsC Qw C hR2 hS2 hl h1 h2 K)
theorem gref_fits {D : gD} {x : Int} {ty : FieldType} (h : (∃ n, ty = .object n) ∨ ∃ t, ty = .array t) : narrow ty (gcv D (2, x)) = gcv D (2, x) ∧ fits ty (gcv D (2, x)) = true := by
  rcases gcv_ref D 2 x (Nat.le_refl 2) with q | ⟨a, q⟩ <;> rw [q] <;> rcases h with ⟨n, rfl⟩ | ⟨t, rfl⟩ <;> exact ⟨rfl, rfl⟩
theorem gw_putA {idx q k N : Nat} {fin : Bool} {a x : Int} {ty : FieldType} (hi : gI F pc (.putfield idx) 3 npc) (hf : gFL F.1.cls idx q k N 2 ty fin) (hs : gsz sh a q N) (hfin : fin = false ∨ (F.1.name = "<init>" ∧ (gcl.getD q ("", (fun _ => ("", "", "", false)), 0)).1 = F.1.cls)) (hty : (∃ n, ty = .object n) ∨ ∃ t, ty = .array t) (kk : gWP F d mc ms npc ls st sh (gup g a k x) Q) : gWP F d mc ms pc ls ((2, x) :: (2, a) :: st) sh g Q := by
  intro D p l e R s m args below meth c H locs cells slots lsC Qw C hR hS hl h1 h2 K
  obtain ⟨hd, rfl⟩ := hi
  rw [List.map_cons, List.map_cons, gcv_r D a hs.1]
  have hb := gref_fits (D := D) (x := x) hty
  exact gput C hR hS hd hf hs hfin hb.1 hb.2 (fun H2 locs2 hR2 hS2 => kk D p l e R s m args below meth c H2 locs2 cells slots lsC Qw C hR2 hS2 hl h1 h2 K)
theorem garr {D : gD} {sh : gS} {g : gM} {H : Heap} {a : Int} {q n : Nat} (hR : gRel D sh g H) (hs : gsz sh a q n) (hq : 13 ≤ q) : H[D.2.2.1 + a.toNat]? = some (arrV (D.2.1 q) n (fun j => gcv D (gat q, g a j))) := by
  obtain ⟨s1, s2⟩ := hs
  obtain ⟨cell, e1, -, e2⟩ := hR.2 _ _ s2
  have e3 : cell = arrV (D.2.1 q) n (fun j => gcv D (gat q, g ((a.toNat : Nat) : Int) j)) := e2 hq
  rw [show (((a.toNat : Nat) : Int)) = a from Int.toNat_of_nonneg s1] at e3
  rw [e1, e3]
theorem garr_set {D : gD} {sh : gS} {g : gM} {H H2 : Heap} {a i x : Int} {q n : Nat} {y : Value} (hR : gRel D sh g H) (hs : gsz sh a q n) (hq : 13 ≤ q) (hi : 0 ≤ i) (hy : y = gcv D (gat q, x)) (h2 : H2[D.2.2.1 + a.toNat]? = some ((arrV (D.2.1 q) n (fun j => gcv D (gat q, g a j))).setSlot i.toNat y)) (hz : H2.size = H.size) (ho : ∀ z : Nat, z ≠ D.2.2.1 + a.toNat → H2[z]? = H[z]?) : gRel D sh (gup g a i x) H2 := by
  refine gRel_put hR hs.1 hs.2 h2 ⟨fun h => by have h' : q < 13 := h; omega, fun _ => ?_⟩ hz ho
  rw [arrV_store]
  show arrV (D.2.1 q) n _ = arrV (D.2.1 q) n _
  congr 1
  funext j
  by_cases e : j = i.toNat
  · have : (j : Int) = i := by omega
    simp only [updV, if_pos e, if_pos this, hy]
  · have : ¬ (j : Int) = i := by omega
    simp [updV, e, this]
theorem gty {D : gD} {s : State} {q t0 : Nat} {ty : FieldType} (hK : va_K D.1 gcl (gtys D) s) (ht : (gtys D)[t0]? = some (D.2.1 q, ty)) (n : Nat) (z : Nat → Value) : s.isArrayOf (arrV (D.2.1 q) n z) ty := (hK.2 t0 _ ht).1 n z
theorem gknown {c : ClassId} {n : Nat} {z : Nat → Value} : (arrV c n z).vm ≠ .unknown := fun h => by cases h
theorem gw_iald {a i : Int} {n : Nat} (hi : gI F pc (.iaload) 1 npc) (hs : gsz sh a 13 n) (hx : 0 ≤ i ∧ i < (n : Int) ∧ i ≤ 2147483647) (kk : gWP F d mc ms npc ls ((0, g a i) :: st) sh g Q) : gWP F d mc ms pc ls ((0, i) :: (2, a) :: st) sh g Q := by
  intro D p l e R s m args below meth c H locs cells slots lsC Qw C hR hS hl h1 h2 K
  obtain ⟨hd, rfl⟩ := hi
  have hx2 := gi_ix hx
  rw [List.map_cons, List.map_cons, gcv_r D a hs.1]
  refine W.iald (v := gcv D (0, g a i)) C.1 C.2.1 (garr hR hs (by omega)) (gty C.2.2.2.2.2.2.2.2.2.2.1.1 (t0 := 0) rfl _ _) gknown (by rw [arrV_size]; exact hx2.2) ?_ rfl rfl hd (kk D p l e R s m args below meth c H locs cells slots lsC Qw C hR hS hl h1 h2 K)
  rw [hx2.1, arrV_read _ _ (by omega), Int.toNat_of_nonneg hx.1]
  rfl
theorem gw_zald {a i : Int} {n : Nat} (hi : gI F pc (.baload) 1 npc) (hs : gsz sh a 14 n) (hx : 0 ≤ i ∧ i < (n : Int) ∧ i ≤ 2147483647) (kk : gWP F d mc ms npc ls ((0, g a i) :: st) sh g Q) : gWP F d mc ms pc ls ((0, i) :: (2, a) :: st) sh g Q := by
  intro D p l e R s m args below meth c H locs cells slots lsC Qw C hR hS hl h1 h2 K
  obtain ⟨hd, rfl⟩ := hi
  have hx2 := gi_ix hx
  rw [List.map_cons, List.map_cons, gcv_r D a hs.1]
  refine W.zald (v := gcv D (0, g a i)) C.1 C.2.1 (garr hR hs (by omega)) (gty C.2.2.2.2.2.2.2.2.2.2.1.1 (t0 := 1) rfl _ _) gknown (by rw [arrV_size]; exact hx2.2) ?_ rfl rfl hd (kk D p l e R s m args below meth c H locs cells slots lsC Qw C hR hS hl h1 h2 K)
  rw [hx2.1, arrV_read _ _ (by omega), Int.toNat_of_nonneg hx.1]
  rfl
theorem gw_bald {a i : Int} {n : Nat} (hi : gI F pc (.baload) 1 npc) (hs : gsz sh a 15 n) (hx : 0 ≤ i ∧ i < (n : Int) ∧ i ≤ 2147483647) (kk : gWP F d mc ms npc ls ((0, g a i) :: st) sh g Q) : gWP F d mc ms pc ls ((0, i) :: (2, a) :: st) sh g Q := by
  intro D p l e R s m args below meth c H locs cells slots lsC Qw C hR hS hl h1 h2 K
  obtain ⟨hd, rfl⟩ := hi
  have hx2 := gi_ix hx
  rw [List.map_cons, List.map_cons, gcv_r D a hs.1]
  refine W.bald (v := gcv D (0, g a i)) C.1 C.2.1 (garr hR hs (by omega)) (gty C.2.2.2.2.2.2.2.2.2.2.1.1 (t0 := 2) rfl _ _) gknown (by rw [arrV_size]; exact hx2.2) ?_ rfl rfl hd (kk D p l e R s m args below meth c H locs cells slots lsC Qw C hR hS hl h1 h2 K)
  rw [hx2.1, arrV_read _ _ (by omega), Int.toNat_of_nonneg hx.1]
  rfl
theorem gw_lald {a i : Int} {n : Nat} (hi : gI F pc (.laload) 1 npc) (hs : gsz sh a 16 n) (hx : 0 ≤ i ∧ i < (n : Int) ∧ i ≤ 2147483647) (kk : gWP F d mc ms npc ls ((1, g a i) :: st) sh g Q) : gWP F d mc ms pc ls ((0, i) :: (2, a) :: st) sh g Q := by
  intro D p l e R s m args below meth c H locs cells slots lsC Qw C hR hS hl h1 h2 K
  obtain ⟨hd, rfl⟩ := hi
  have hx2 := gi_ix hx
  rw [List.map_cons, List.map_cons, gcv_r D a hs.1]
  refine W.lald (v := gcv D (1, g a i)) C.1 C.2.1 (garr hR hs (by omega)) (gty C.2.2.2.2.2.2.2.2.2.2.1.1 (t0 := 3) rfl _ _) gknown (by rw [arrV_size]; exact hx2.2) ?_ rfl rfl hd (kk D p l e R s m args below meth c H locs cells slots lsC Qw C hR hS hl h1 h2 K)
  rw [hx2.1, arrV_read _ _ (by omega), Int.toNat_of_nonneg hx.1]
  rfl
theorem gw_aald_Text {a i : Int} {n : Nat} (hi : gI F pc (.aaload) 1 npc) (hs : gsz sh a 17 n) (hx : 0 ≤ i ∧ i < (n : Int) ∧ i ≤ 2147483647) (kk : gWP F d mc ms npc ls ((2, g a i) :: st) sh g Q) : gWP F d mc ms pc ls ((0, i) :: (2, a) :: st) sh g Q := by
  intro D p l e R s m args below meth c H locs cells slots lsC Qw C hR hS hl h1 h2 K
  obtain ⟨hd, rfl⟩ := hi
  have hx2 := gi_ix hx
  rw [List.map_cons, List.map_cons, gcv_r D a hs.1]
  refine W.aald (v := gcv D (2, g a i)) C.1 C.2.1 (garr hR hs (by omega)) (gty C.2.2.2.2.2.2.2.2.2.2.1.1 (t0 := 4) (ty := .object "CounterDesk$Text") rfl _ _) rfl gknown (by rw [arrV_size]; exact hx2.2) ?_ rfl rfl hd (kk D p l e R s m args below meth c H locs cells slots lsC Qw C hR hS hl h1 h2 K)
  rw [hx2.1, arrV_read _ _ (by omega), Int.toNat_of_nonneg hx.1]
  rfl
theorem gw_aald_Board {a i : Int} {n : Nat} (hi : gI F pc (.aaload) 1 npc) (hs : gsz sh a 18 n) (hx : 0 ≤ i ∧ i < (n : Int) ∧ i ≤ 2147483647) (kk : gWP F d mc ms npc ls ((2, g a i) :: st) sh g Q) : gWP F d mc ms pc ls ((0, i) :: (2, a) :: st) sh g Q := by
  intro D p l e R s m args below meth c H locs cells slots lsC Qw C hR hS hl h1 h2 K
  obtain ⟨hd, rfl⟩ := hi
  have hx2 := gi_ix hx
  rw [List.map_cons, List.map_cons, gcv_r D a hs.1]
  refine W.aald (v := gcv D (2, g a i)) C.1 C.2.1 (garr hR hs (by omega)) (gty C.2.2.2.2.2.2.2.2.2.2.1.1 (t0 := 5) (ty := .object "CounterDesk$Board") rfl _ _) rfl gknown (by rw [arrV_size]; exact hx2.2) ?_ rfl rfl hd (kk D p l e R s m args below meth c H locs cells slots lsC Qw C hR hS hl h1 h2 K)
  rw [hx2.1, arrV_read _ _ (by omega), Int.toNat_of_nonneg hx.1]
  rfl
theorem gw_aald_ints {a i : Int} {n : Nat} (hi : gI F pc (.aaload) 1 npc) (hs : gsz sh a 19 n) (hx : 0 ≤ i ∧ i < (n : Int) ∧ i ≤ 2147483647) (kk : gWP F d mc ms npc ls ((2, g a i) :: st) sh g Q) : gWP F d mc ms pc ls ((0, i) :: (2, a) :: st) sh g Q := by
  intro D p l e R s m args below meth c H locs cells slots lsC Qw C hR hS hl h1 h2 K
  obtain ⟨hd, rfl⟩ := hi
  have hx2 := gi_ix hx
  rw [List.map_cons, List.map_cons, gcv_r D a hs.1]
  refine W.aald (v := gcv D (2, g a i)) C.1 C.2.1 (garr hR hs (by omega)) (gty C.2.2.2.2.2.2.2.2.2.2.1.1 (t0 := 6) (ty := .array .int) rfl _ _) rfl gknown (by rw [arrV_size]; exact hx2.2) ?_ rfl rfl hd (kk D p l e R s m args below meth c H locs cells slots lsC Qw C hR hS hl h1 h2 K)
  rw [hx2.1, arrV_read _ _ (by omega), Int.toNat_of_nonneg hx.1]
  rfl
theorem gw_aald_longs {a i : Int} {n : Nat} (hi : gI F pc (.aaload) 1 npc) (hs : gsz sh a 20 n) (hx : 0 ≤ i ∧ i < (n : Int) ∧ i ≤ 2147483647) (kk : gWP F d mc ms npc ls ((2, g a i) :: st) sh g Q) : gWP F d mc ms pc ls ((0, i) :: (2, a) :: st) sh g Q := by
  intro D p l e R s m args below meth c H locs cells slots lsC Qw C hR hS hl h1 h2 K
  obtain ⟨hd, rfl⟩ := hi
  have hx2 := gi_ix hx
  rw [List.map_cons, List.map_cons, gcv_r D a hs.1]
  refine W.aald (v := gcv D (2, g a i)) C.1 C.2.1 (garr hR hs (by omega)) (gty C.2.2.2.2.2.2.2.2.2.2.1.1 (t0 := 7) (ty := .array .long) rfl _ _) rfl gknown (by rw [arrV_size]; exact hx2.2) ?_ rfl rfl hd (kk D p l e R s m args below meth c H locs cells slots lsC Qw C hR hS hl h1 h2 K)
  rw [hx2.1, arrV_read _ _ (by omega), Int.toNat_of_nonneg hx.1]
  rfl
theorem gw_iast {a i x : Int} {n : Nat} (hi : gI F pc (.iastore) 1 npc) (hs : gsz sh a 13 n) (hx : 0 ≤ i ∧ i < (n : Int) ∧ i ≤ 2147483647) (kk : gWP F d mc ms npc ls st sh (gup g a i x) Q) : gWP F d mc ms pc ls ((0, x) :: (0, i) :: (2, a) :: st) sh g Q := by
  intro D p l e R s m args below meth c H locs cells slots lsC Qw C hR hS hl h1 h2 K
  obtain ⟨hd, rfl⟩ := hi
  have hx2 := gi_ix hx
  rw [List.map_cons, List.map_cons, List.map_cons, gcv_r D a hs.1]
  refine W.iast C.1 C.2.1 (garr hR hs (by omega)) (gty C.2.2.2.2.2.2.2.2.2.2.1.1 (t0 := 0) rfl _ _) gknown (by rw [arrV_size]; exact hx2.2) rfl rfl hd (fun H2 k1 k2 k3 => ?_)
  rw [hx2.1] at k1 ⊢
  have hR2 := garr_set (x := x) hR hs (by omega) hx.1 rfl k1 k2 k3
  exact kk D p l e R s m args below meth c H2 _ cells slots lsC Qw C hR2 (gS_put hS k2 k3) hl h1 h2 K
theorem gw_zast {a i x : Int} {n : Nat} (hi : gI F pc (.bastore) 1 npc) (hs : gsz sh a 14 n) (hx : 0 ≤ i ∧ i < (n : Int) ∧ i ≤ 2147483647) (hv : x = 0 ∨ x = 1) (kk : gWP F d mc ms npc ls st sh (gup g a i x) Q) : gWP F d mc ms pc ls ((0, x) :: (0, i) :: (2, a) :: st) sh g Q := by
  intro D p l e R s m args below meth c H locs cells slots lsC Qw C hR hS hl h1 h2 K
  obtain ⟨hd, rfl⟩ := hi
  have hx2 := gi_ix hx
  rw [List.map_cons, List.map_cons, List.map_cons, gcv_r D a hs.1]
  refine W.zast C.1 C.2.1 (garr hR hs (by omega)) (gty C.2.2.2.2.2.2.2.2.2.2.1.1 (t0 := 1) rfl _ _) gknown (by rw [arrV_size]; exact hx2.2) rfl rfl hd (fun H2 k1 k2 k3 => ?_)
  rw [hx2.1] at k1 ⊢
  have hR2 := garr_set (x := x) hR hs (by omega) hx.1 (by rcases hv with rfl | rfl <;> rfl) k1 k2 k3
  exact kk D p l e R s m args below meth c H2 _ cells slots lsC Qw C hR2 (gS_put hS k2 k3) hl h1 h2 K
theorem gnarb {D : gD} {x : Int} (h : -128 ≤ x ∧ x ≤ 127) : narrow .byte (.int (Int32.ofInt x)) = gcv D (0, x) := by
  have e : (Int32.ofInt x).toInt8.toInt32 = Int32.ofInt x := by
    apply Int32.toInt_inj.mp
    rw [Int32.toInt8_ofInt, gint x (by omega)]
    have e2 : (Int8.ofInt x).toInt = x := Int8.toInt_ofInt_of_le (by omega) (by omega)
    simp [e2]
  show Value.int _ = Value.int _
  exact congrArg Value.int e
theorem gw_bast {a i x : Int} {n : Nat} (hi : gI F pc (.bastore) 1 npc) (hs : gsz sh a 15 n) (hx : 0 ≤ i ∧ i < (n : Int) ∧ i ≤ 2147483647) (hv : -128 ≤ x ∧ x ≤ 127) (kk : gWP F d mc ms npc ls st sh (gup g a i x) Q) : gWP F d mc ms pc ls ((0, x) :: (0, i) :: (2, a) :: st) sh g Q := by
  intro D p l e R s m args below meth c H locs cells slots lsC Qw C hR hS hl h1 h2 K
  obtain ⟨hd, rfl⟩ := hi
  have hx2 := gi_ix hx
  rw [List.map_cons, List.map_cons, List.map_cons, gcv_r D a hs.1]
  refine W.bast C.1 C.2.1 (garr hR hs (by omega)) (gty C.2.2.2.2.2.2.2.2.2.2.1.1 (t0 := 2) rfl _ _) gknown (by rw [arrV_size]; exact hx2.2) rfl rfl hd (fun H2 k1 k2 k3 => ?_)
  rw [hx2.1] at k1 ⊢
  have hR2 := garr_set (x := x) hR hs (by omega) hx.1 (gnarb hv) k1 k2 k3
  exact kk D p l e R s m args below meth c H2 _ cells slots lsC Qw C hR2 (gS_put hS k2 k3) hl h1 h2 K
theorem gw_last {a i x : Int} {n : Nat} (hi : gI F pc (.lastore) 1 npc) (hs : gsz sh a 16 n) (hx : 0 ≤ i ∧ i < (n : Int) ∧ i ≤ 2147483647) (kk : gWP F d mc ms npc ls st sh (gup g a i x) Q) : gWP F d mc ms pc ls ((1, x) :: (0, i) :: (2, a) :: st) sh g Q := by
  intro D p l e R s m args below meth c H locs cells slots lsC Qw C hR hS hl h1 h2 K
  obtain ⟨hd, rfl⟩ := hi
  have hx2 := gi_ix hx
  rw [List.map_cons, List.map_cons, List.map_cons, gcv_r D a hs.1]
  refine W.last C.1 C.2.1 (garr hR hs (by omega)) (gty C.2.2.2.2.2.2.2.2.2.2.1.1 (t0 := 3) rfl _ _) gknown (by rw [arrV_size]; exact hx2.2) rfl rfl hd (fun H2 k1 k2 k3 => ?_)
  rw [hx2.1] at k1 ⊢
  have hR2 := garr_set (x := x) hR hs (by omega) hx.1 rfl k1 k2 k3
  exact kk D p l e R s m args below meth c H2 _ cells slots lsC Qw C hR2 (gS_put hS k2 k3) hl h1 h2 K
theorem gw_alen13 {a : Int} {n : Nat} (hi : gI F pc (.arraylength) 1 npc) (hs : gsz sh a 13 n) (hn : (n : Int) ≤ 2147483647) (kk : gWP F d mc ms npc ls ((0, (n : Int)) :: st) sh g Q) : gWP F d mc ms pc ls ((2, a) :: st) sh g Q := by
  intro D p l e R s m args below meth c H locs cells slots lsC Qw C hR hS hl h1 h2 K
  obtain ⟨hd, rfl⟩ := hi
  rw [List.map_cons, gcv_r D a hs.1]
  exact W.alen (n := Int32.ofInt (n : Int)) C.1 C.2.1 (garr hR hs (by omega)) (gty C.2.2.2.2.2.2.2.2.2.2.1.1 (t0 := 0) (ty := .int) rfl _ _) (by rw [arrV_size, Int32.ofInt_eq_ofNat]) rfl rfl hd (kk D p l e R s m args below meth c H locs cells slots lsC Qw C hR hS hl h1 h2 K)
theorem gw_alen15 {a : Int} {n : Nat} (hi : gI F pc (.arraylength) 1 npc) (hs : gsz sh a 15 n) (hn : (n : Int) ≤ 2147483647) (kk : gWP F d mc ms npc ls ((0, (n : Int)) :: st) sh g Q) : gWP F d mc ms pc ls ((2, a) :: st) sh g Q := by
  intro D p l e R s m args below meth c H locs cells slots lsC Qw C hR hS hl h1 h2 K
  obtain ⟨hd, rfl⟩ := hi
  rw [List.map_cons, gcv_r D a hs.1]
  exact W.alen (n := Int32.ofInt (n : Int)) C.1 C.2.1 (garr hR hs (by omega)) (gty C.2.2.2.2.2.2.2.2.2.2.1.1 (t0 := 2) (ty := .byte) rfl _ _) (by rw [arrV_size, Int32.ofInt_eq_ofNat]) rfl rfl hd (kk D p l e R s m args below meth c H locs cells slots lsC Qw C hR hS hl h1 h2 K)
theorem gw_ifnull {a off : Int} {tgt : Nat} (hi : gI F pc (.ifnull off) 3 npc) (ht : ((pc : Int) + off == (tgt : Int)) = true) (kt : a < 0 → gWP F d mc ms tgt ls st sh g Q) (kf : 0 ≤ a → gWP F d mc ms npc ls st sh g Q) : gWP F d mc ms pc ls ((2, a) :: st) sh g Q := by
  intro D p l e R s m args below meth c H locs cells slots lsC Qw C hR hS hl h1 h2 K
  obtain ⟨hd, rfl⟩ := hi
  rw [List.map_cons]
  by_cases q : a < 0
  · rw [gcv_n D a q]; exact lv_ifnullN C.1 C.2.1 hd (by simpa using ht) (kt q D p l e R s m args below meth c H locs cells slots lsC Qw C hR hS hl h1 h2 K)
  · rw [gcv_r D a (by omega)]; exact lv_ifnull C.1 C.2.1 hd (kf (by omega) D p l e R s m args below meth c H locs cells slots lsC Qw C hR hS hl h1 h2 K)
theorem gw_ifnonnull {a off : Int} {tgt : Nat} (hi : gI F pc (.ifnonnull off) 3 npc) (ht : ((pc : Int) + off == (tgt : Int)) = true) (kt : 0 ≤ a → gWP F d mc ms tgt ls st sh g Q) (kf : a < 0 → gWP F d mc ms npc ls st sh g Q) : gWP F d mc ms pc ls ((2, a) :: st) sh g Q := by
  intro D p l e R s m args below meth c H locs cells slots lsC Qw C hR hS hl h1 h2 K
  obtain ⟨hd, rfl⟩ := hi
  rw [List.map_cons]
  by_cases q : a < 0
  · rw [gcv_n D a q]; exact lv_ifnonnullN C.1 C.2.1 hd (kf q D p l e R s m args below meth c H locs cells slots lsC Qw C hR hS hl h1 h2 K)
  · rw [gcv_r D a (by omega)]; exact lv_ifnonnull C.1 C.2.1 hd (by simpa using ht) (kt (by omega) D p l e R s m args below meth c H locs cells slots lsC Qw C hR hS hl h1 h2 K)
theorem gcv_rf (D : gD) (x : Int) : gcv D (2, x) = va_rf (if x < 0 then none else some (D.2.2.1 + x.toNat)) := by
  by_cases h : x < 0
  · rw [gcv_n D x h, if_pos h]; rfl
  · rw [gcv_r D x (by omega), if_neg h]; rfl
theorem gw_acmp_ne {a b off : Int} {tgt : Nat} (hi : gI F pc (.if_acmp .ne off) 3 npc) (ht : ((pc : Int) + off == (tgt : Int)) = true) (ha : -1 ≤ a) (hb : -1 ≤ b) (kt : ¬ a = b → gWP F d mc ms tgt ls st sh g Q) (kf : a = b → gWP F d mc ms npc ls st sh g Q) : gWP F d mc ms pc ls ((2, b) :: (2, a) :: st) sh g Q := by
  intro D p l e R s m args below meth c H locs cells slots lsC Qw C hR hS hl h1 h2 K
  obtain ⟨hd, rfl⟩ := hi
  rw [List.map_cons, List.map_cons, gcv_rf, gcv_rf]
  refine lv_acmp_ne C.1 C.2.1 hd (by simpa using ht) (fun q => kt (fun z => q (by rw [z])) D p l e R s m args below meth c H locs cells slots lsC Qw C hR hS hl h1 h2 K) (fun q => kf ?_ D p l e R s m args below meth c H locs cells slots lsC Qw C hR hS hl h1 h2 K)
  by_cases x1 : a < 0 <;> by_cases x2 : b < 0 <;> simp only [x1, x2, if_true, if_false] at q
  · omega
  · cases q
  · cases q
  · have := Option.some.inj q
    omega
end GH
