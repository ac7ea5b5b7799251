/-! ===== ends of methods ===== -/
section GE
variable {F : gF} {d mc ms pc npc : Nat} {ls st : List gV} {sh : gS} {g : gM} {Q : gQ}
theorem gw_ireturn {x : Int} (hi : gI F pc (.ireturn) 1 npc) (hr : F.2.2.2 = some .int) (hq : Q (some (0, x)) sh g) : gWP F d mc ms pc ls [(0, x)] sh g Q := by
  intro D p l e R s m args below meth c H locs cells slots lsC Qw C hR hS hl h1 h2 K
  obtain ⟨hd, rfl⟩ := hi

  exact K (some (0, x)) sh g H locs lsC pc cells slots hq hR hS (Or.inl ⟨rfl, hd, .int, hr, rfl⟩) (by omega) (by omega)
theorem gw_zreturn {x : Int} (hi : gI F pc (.ireturn) 1 npc) (hr : F.2.2.2 = some .boolean) (hx : x = 0 ∨ x = 1) (hq : Q (some (0, x)) sh g) : gWP F d mc ms pc ls [(0, x)] sh g Q := by
  intro D p l e R s m args below meth c H locs cells slots lsC Qw C hR hS hl h1 h2 K
  obtain ⟨hd, rfl⟩ := hi

  exact K (some (0, x)) sh g H locs lsC pc cells slots hq hR hS (Or.inl ⟨rfl, hd, .boolean, hr, by rcases hx with rfl | rfl <;> rfl⟩) (by omega) (by omega)
theorem gw_creturn {x : Int} (hi : gI F pc (.ireturn) 1 npc) (hr : F.2.2.2 = some .char) (hx : narrow .char (.int (Int32.ofInt x)) = .int (Int32.ofInt x)) (hq : Q (some (0, x)) sh g) : gWP F d mc ms pc ls [(0, x)] sh g Q := by
  intro D p l e R s m args below meth c H locs cells slots lsC Qw C hR hS hl h1 h2 K
  obtain ⟨hd, rfl⟩ := hi

  exact K (some (0, x)) sh g H locs lsC pc cells slots hq hR hS (Or.inl ⟨rfl, hd, .char, hr, hx⟩) (by omega) (by omega)
theorem gw_lreturn {x : Int} (hi : gI F pc (.lreturn) 1 npc) (hr : F.2.2.2 = some .long) (hq : Q (some (1, x)) sh g) : gWP F d mc ms pc ls [(1, x)] sh g Q := by
  intro D p l e R s m args below meth c H locs cells slots lsC Qw C hR hS hl h1 h2 K
  obtain ⟨hd, rfl⟩ := hi

  exact K (some (1, x)) sh g H locs lsC pc cells slots hq hR hS (Or.inr (Or.inl ⟨rfl, hd, hr⟩)) (by omega) (by omega)
theorem gw_areturn {x : Int} {rt : FieldType} (hi : gI F pc (.areturn) 1 npc) (hr : F.2.2.2 = some rt) (ht : (∃ n, rt = .object n) ∨ ∃ t, rt = .array t) (hq : Q (some (2, x)) sh g) : gWP F d mc ms pc ls [(2, x)] sh g Q := by
  intro D p l e R s m args below meth c H locs cells slots lsC Qw C hR hS hl h1 h2 K
  obtain ⟨hd, rfl⟩ := hi

  exact K (some (2, x)) sh g H locs lsC pc cells slots hq hR hS (Or.inr (Or.inr ⟨rfl, hd, rt, hr, ht⟩)) (by omega) (by omega)
theorem gw_return (hi : gI F pc (.return_) 1 npc) (hr : F.2.2.2 = none) (hq : Q none sh g) : gWP F d mc ms pc ls [] sh g Q := by
  intro D p l e R s m args below meth c H locs cells slots lsC Qw C hR hS hl h1 h2 K
  obtain ⟨hd, rfl⟩ := hi

  exact K none sh g H locs lsC pc cells slots hq hR hS ⟨hr, hd⟩ (by omega) (by omega)
/-- a weaker end -/
theorem gWP.mono {Q2 : gQ} (h : gWP F d mc ms pc ls st sh g Q2) (hq : ∀ r sh2 g2, Q2 r sh2 g2 → Q r sh2 g2) : gWP F d mc ms pc ls st sh g Q := by
  intro D p l e R s m args below meth c H locs cells slots lsC Qw C hR hS hl h1 h2 K
  exact h D p l e R s m args below meth c H locs cells slots lsC Qw C hR hS hl h1 h2 (fun r sh2 g2 H2 locs2 ls2 pc2 c2 s2 q => K r sh2 g2 H2 locs2 ls2 pc2 c2 s2 (hq r sh2 g2 q))
end GE
/-! ===== a method by its contract ===== -/
def gPc (D : gD) (as : List gV) (sh : gS) (g : gM) : Array Value → State → Prop := fun v U => v = (as.map (gcv D)).toArray ∧ gRel D sh g U.heap ∧ gKn D U U.heap ∧ D.2.2.1 ≤ U.heap.size
def gQc (D : gD) (Q : gQ) : Array Value → State → Outcome → State → Prop := fun _ st o t => (∃ (r : Option gV) (sh2 : gS) (g2 : gM), o = .returned (r.map (gcv D)) ∧ Q r sh2 g2 ∧ gRel D sh2 g2 t.heap) ∧ va_F (gA D) st t
def gws (F : gF) : List Cond := .code F.1 F.2.1 F.2.2.1 F.2.2.2 :: lw_good
def grm (d mc ms : Nat) : Room := { frames := d, cells := mc, slots := ms, locals := 41 * d }
/-- from these arguments and this memory the method comes to an end with Q -/
def gTri (F : gF) (d mc ms : Nat) (as : List gV) (sh : gS) (g : gM) (Q : gQ) : Prop := ∀ (l : Launch) (D : gD), Met l F.1 (gws F) (grm d mc ms) (gPc D as sh g) (gQc D Q) mc ms (gA D)
/-- the arguments as locals -/
def glo : List gV → List gV
  | [] => []
  | v :: t => if v.1 = 1 then v :: (9, 0) :: glo t else v :: glo t
def gpad (as : List gV) (n : Nat) : List gV := glo as ++ List.replicate (n - (glo as).length) (9, 0)
theorem glo_sl (D : gD) : ∀ as : List gV, (lg_sl (as.map (gcv D))).length = (glo as).length
  | [] => rfl
  | v :: t => by
    have ih := glo_sl D t
    unfold lg_sl at ih ⊢
    rw [List.map_cons, List.flatMap_cons, List.length_append, ih, gcv_cat]
    by_cases h : v.1 = 1
    · simp [gca, glo, h]; omega
    · simp [gca, glo, h]; omega
theorem glo_args (D : gD) : ∀ (as : List gV) (k i : Nat) (v : gV), (glo as)[i]? = some v → v.1 ≠ 9 → (k + i, gcv D v) ∈ lv_args k (as.map (gcv D))
  | [], k, i, v, h, _ => by simp [glo] at h
  | u :: t, k, i, v, h, h9 => by
    rw [List.map_cons]
    show _ ∈ (k, gcv D u) :: lv_args (if (gcv D u).category = 2 then k + 2 else k + 1) (t.map (gcv D))
    rw [gcv_cat]
    by_cases hu : u.1 = 1
    · rw [show gca u = 2 from by simp [gca, hu], if_pos rfl]
      rw [glo, if_pos hu] at h
      match i, h with
      | 0, h => simp at h; subst h; exact List.mem_cons_self
      | 1, h => simp at h; subst h; exact absurd rfl h9
      | i + 2, h =>
        have h' : (glo t)[i]? = some v := by simpa using h
        have := glo_args D t (k + 2) i v h' h9
        rw [show k + 2 + i = k + (i + 2) by omega] at this
        exact List.mem_cons_of_mem _ this
    · rw [show gca u = 1 from by simp [gca, hu], if_neg (by decide)]
      rw [glo, if_neg hu] at h
      match i, h with
      | 0, h => simp at h; subst h; exact List.mem_cons_self
      | i + 1, h =>
        have h' : (glo t)[i]? = some v := by simpa using h
        have := glo_args D t (k + 1) i v h' h9
        rw [show k + 1 + i = k + (i + 1) by omega] at this
        exact List.mem_cons_of_mem _ this
theorem gTri.of {F : gF} {d mc ms : Nat} {as : List gV} {sh : gS} {g : gM} {Q : gQ} (hp : plainName F.1.cls = true) (hn : Nat.ble (glo as).length F.2.2.1 = true) (h : gWP F d mc ms 0 (gpad as F.2.2.1) [] sh g Q) : gTri F d mc ms as sh g Q := by
  intro l D
  have hn := Nat.le_of_ble_eq_true hn
  refine Met.ofW (cc := F.2.1) (maxL := F.2.2.1) (ret := F.2.2.2) hp rfl ?_
  intro p e s m args below meth c s₁ B hml hv
  obtain ⟨rfl, hR, hKn, hb⟩ := hv
  have hts := atoms_spec (ws := gws F) B.pre
  have C : gCtx D F d p (headSpec (gws F) (grm d mc ms)).room s m ((as.map (gcv D)).toArray) meth c := ⟨B.exec, B.bytes, B.returns, hml, findClass_of_methodNamed B.named, fun w hw => hts w (List.mem_cons_of_mem _ hw), B.notSynchronized, (name_of_methodNamed B.named B.method).1, Nat.le_refl _, Nat.le_refl _, hKn, hb⟩
  have hl := lv_entry (as.map (gcv D)) (n := F.2.2.1) (by rw [glo_sl]; exact hn)
  rw [lg_entry_eq]
  generalize (lg_sl (as.map (gcv D)) ++ List.replicate (F.2.2.1 - (lg_sl (as.map (gcv D))).length) Slot.unset).toArray = lsC at hl ⊢
  have hl2 : gls D F.2.2.1 lsC (gpad as F.2.2.1) := by
    refine gls_of hl (by unfold gpad; rw [List.length_append, List.length_replicate]; omega) fun i v hi h9 => ?_
    unfold gpad at hi
    rw [List.getElem?_append] at hi
    split at hi
    · have := glo_args D as 0 i v hi h9
      rwa [Nat.zero_add] at this
    · obtain ⟨q, rfl⟩ := List.getElem?_eq_some_iff.mp hi
      simp at h9
  refine h D p l e _ s m _ below meth c s.heap [] 0 0 lsC _ C hR va_S.rf hl2 (by rw [Nat.zero_add]; exact Nat.le_refl _) (by rw [Nat.zero_add]; exact Nat.le_refl _) ?_
  intro r sh' g' H' locs' lsC' pc' cells' slots' hq hR' hS' hri hc hs
  rw [Nat.zero_add] at hc hs
  refine W.widen hc hs ?_
  have hf : ∀ q ∈ locs', gA D q.base := hS'.2.2
  have hlk := B.notSynchronized
  have post : ∀ t : State, t.heap = H' → gQc D Q ((as.map (gcv D)).toArray) s (.returned (r.map (gcv D))) t := fun t ht => ⟨⟨r, sh', g', rfl, hq, by rw [ht]; exact hR'⟩, va_S.F hS' ht⟩
  cases r with
  | none => exact W.vret (hlocks := hlk) B.exec B.bytes (B.returns.trans hri.1) (fun t ht _ => post t ht) hf hri.2
  | some v =>
    obtain ⟨tg, x⟩ := v
    rcases hri with ⟨rfl, hd, ty, hr, hn2⟩ | ⟨rfl, hd, hr⟩ | ⟨rfl, hd, rt, hr, hrt⟩
    · exact W.zret (hlocks := hlk) B.exec B.bytes (B.returns.trans hr) hn2 (fun t ht _ => post t ht) hf hd
    · exact W.lret (hlocks := hlk) B.exec B.bytes (B.returns.trans hr) (fun t ht _ => post t ht) hf hd
    · exact W.aret (hlocks := hlk) B.exec B.bytes (B.returns.trans hr) hrt (gcv_ref D 2 x (Nat.le_refl 2)) (fun t ht _ => post t ht) hf hd
theorem gPc_blind (D : gD) (as : List gV) (sh : gS) (g : gM) : FrameBlind (gPc D as sh g) := by
  intro a U f mk h
  obtain ⟨h1, h2, h3, h4⟩ := h
  exact ⟨h1, h2, h3.same (U := U.calling f mk a) rfl, h4⟩
theorem gPc_at {D : gD} {as : List gV} {sh : gS} {g : gM} {s U : State} {H : Heap} {locs : List Loc} (hKn : gKn D s s.heap) (hb : D.2.2.1 ≤ s.heap.size) (hR : gRel D sh g H) (hS : va_S (gA D) s.heap H locs) (hU : U.heap = H) (hW : s.WarmedH U.vm) : gPc D as sh g (as.map (gcv D)).toArray U := by
  refine ⟨rfl, by rw [hU]; exact hR, by rw [hU]; exact hKn.to hW (fun a ha h => hS.2.1 a ha h), by rw [hU]; exact Nat.le_trans hb hS.1⟩
/-- what a callee is: its words, how many arguments -/
def gY (Fy : gF) (n : Nat) : Prop := Cond.code Fy.1 Fy.2.1 Fy.2.2.1 Fy.2.2.2 ∈ lw_good ∧ Cond.initialized Fy.1.cls ∈ lw_good ∧ (Fy.1.cls ≠ "java/lang/invoke/MethodHandle" ∧ Fy.1.cls ≠ "java/lang/invoke/VarHandle" ∧ (parseMethodDescriptor Fy.1.desc).map (fun d => d.parameters.length) = some n) ∧ Fy.2.2.1 ≤ 22
def gYs (Fy : gF) (n : Nat) : Prop := gY Fy n ∧ Cond.static Fy.1 ∈ lw_good
def gYv (Fy : gF) (n q : Nat) : Prop := gY Fy n ∧ Cond.instanceMethod Fy.1 ∈ lw_good ∧ Cond.selects Fy.1.cls Fy.1 Fy.1 ∈ lw_good ∧ q < 13 ∧ (gcl.getD q ("", (fun _ => ("", "", "", false)), 0)).1 = Fy.1.cls
def gYi (Fy : gF) (n : Nat) : Prop := gY Fy n ∧ Cond.instanceMethod Fy.1 ∈ lw_good ∧ Fy.1.name = "<init>" ∧ Fy.2.2.2 = none
theorem gGood {Fy : gF} (h : Cond.code Fy.1 Fy.2.1 Fy.2.2.1 Fy.2.2.2 ∈ lw_good) : GoodIn lw_good (gws Fy) := by
  have key : ∀ w ∈ lw_good, w ∈ lw_good ∧ ((w.onTables && w.keeps) = true ∨ ∃ ty, w = .arrayClass ty) := fun w hw => ⟨hw, good_of_word (List.mem_filter.mp hw).2⟩
  intro w hw
  rcases List.mem_cons.mp hw with rfl | hw
  · exact key _ h
  · exact key w hw
section GC
variable {F Fy : gF} {d d2 mc ms mc2 ms2 n pc npc idx : Nat} {ls st st2 : List gV} {as : List gV} {sh : gS} {g : gM} {Q Q2 : gQ}
theorem gafter {D : gD} {p : Program} {l : Launch} {e : Env} {R : Room} {s : State} {m : MethodId} {args a : Array Value} {below : List Frame} {meth : Method} {c : Code} {H : Heap} {locs : List Loc} {cells slots : Nat} {lsC : Array Slot} {Qw : State → Prop} {st0 rest : List Value}
    (hr : va_Run p l e R s m args below meth c H locs cells slots mc2 ms2 (F0 m pc lsC st0) rest (gQc D Q2 a) (gA D)) (hS : va_S (gA D) s.heap H locs)
    (kk : ∀ (r : Option gV) (sh2 : gS) (g2 : gM) (H1 : Heap) (locs1 : List Loc), Q2 r sh2 g2 → gRel D sh2 g2 H1 → va_S (gA D) s.heap H1 locs1 → W p l e R s m args below meth c H1 locs1 (cells + mc2) (slots + ms2) Qw (F0 m (pc + 3) lsC (r.toList.map (gcv D) ++ rest))) : W p l e R s m args below meth c H locs cells slots Qw (F0 m pc lsC st0) := by
  intro T hT X
  obtain ⟨v, st₀, t, T', L, h0, X', hL, e1, e2, ⟨⟨r, sh2, g2, hv, hq, hR⟩, hz, hk⟩, hst⟩ := hr T hT X
  have hv' : v = r.map (gcv D) := Outcome.returned.inj hv
  subst hv'
  rw [h0] at hz hk
  have hS2 : va_S (gA D) s.heap t.heap (locs ++ L) := by
    refine ⟨Nat.le_trans hS.1 hz, fun q h1 h2 => ?_, fun q hq' => ?_⟩
    · rw [hk q (Nat.lt_of_lt_of_le h1 hS.1) h2]; exact hS.2.1 q h1 h2
    · rcases List.mem_append.mp hq' with h | h
      · exact hS.2.2 q h
      · exact hL q h
  obtain ⟨t2, a1, b1⟩ := kk r sh2 g2 t.heap _ hq hR hS2 T' e1 X'
  refine ⟨t2, hst t2 ?_, b1⟩
  have : (r.map (gcv D)).toList = r.toList.map (gcv D) := by cases r <;> rfl
  rw [this]
  exact a1
theorem gw_callS (hi : gI F pc (.invokestatic idx) 3 npc) (hy : gYs Fy n) (hlk : Cond.methodLink F.1.cls idx Fy.1 ∈ lw_good) (hT : gTri Fy d2 mc2 ms2 as sh g Q2) (hst : st = as.reverse ++ st2) (hn : as.length = n) (hcat : Nat.ble (st2.map gca).sum 8 = true) (hdp : Nat.ble (d2 + 1) d = true) (hmc : mc2 ≤ mc ∧ ms2 ≤ ms) (kk : ∀ r sh2 g2, Q2 r sh2 g2 → gWP F d (mc - mc2) (ms - ms2) npc ls (r.toList ++ st2) sh2 g2 Q) : gWP F d mc ms pc ls st sh g Q := by
  intro D p l e R s m args below meth c H locs cells slots lsC Qw C hR hS hl h1 h2 K
  obtain ⟨hd, rfl⟩ := hi
  subst hst
  have hts := C.2.2.2.2.2.1
  have hKn : gKn D s s.heap := C.2.2.2.2.2.2.2.2.2.2.1
  have hb0 := C.2.2.2.2.2.2.2.2.2.2.2
  have hfr := C.2.2.2.2.2.2.2.2.1
  have hlo := C.2.2.2.2.2.2.2.2.2.1
  have hdp := Nat.le_of_ble_eq_true hdp
  have hcat := Nat.le_of_ble_eq_true hcat
  obtain ⟨⟨y1, y2, y3, y4⟩, y5⟩ := hy
  have hroom : (grm d2 mc2 ms2).frames + 1 ≤ R.frames ∧ 8 + (Fy.2.2.1 + 11) + (grm d2 mc2 ms2).locals ≤ R.locals := ⟨Nat.le_trans hdp hfr, by show 8 + (Fy.2.2.1 + 11) + 41 * d2 ≤ R.locals; omega⟩
  have cb := callB_of (R := R) (rm := grm d2 mc2 ms2) (mc := mc2) (ms := ms2) n hts (gGood y1) rfl rfl rfl (hts _ y2) (hts _ hlk) y3 hroom
  have hrun := va_runS (Ts := lw_good) (own := F.1.cls) (e := e) (below := below) (meth := meth) (H := H) (locs := locs) (cells := cells) (slots := slots) (mc := mc2) (ms := ms2) (As := as.map (gcv D)) (rest := st2.map (gcv D)) (g := F0 m (pc) lsC ((as.reverse ++ st2).map (gcv D))) (nL := F.2.2.1) ⟨C.1, C.2.1, C.2.2.2.1, C.2.2.2.2.1, hts⟩ (hT l D) ⟨cb, hts _ y5⟩ ⟨gPc_blind _ _ _ _, fun U hU hW => gPc_at (as := as) hKn hb0 hR hS hU hW⟩ rfl (by rw [List.length_map]; exact hn) hl.1 (by show List.map _ _ = _; rw [List.map_append, List.map_reverse]) (lv_room (by rw [List.map_map]; exact (by simpa [Function.comp_def, gcv_cat] using hcat))) hd ⟨by omega, by omega⟩
  refine gafter hrun hS (fun r sh2 g2 H1 locs1 hq hR1 hS1 => ?_)
  rw [← List.map_append]
  exact kk r sh2 g2 hq D p l e R s m args below meth c H1 locs1 (cells + mc2) (slots + ms2) lsC Qw C hR1 hS1 hl (by omega) (by omega) (fun r3 sh3 g3 H3 locs3 ls3 pc3 c3 s3 q1 q2 q3 q4 q5 q6 => K r3 sh3 g3 H3 locs3 ls3 pc3 c3 s3 q1 q2 q3 q4 (by omega) (by omega))
theorem gw_callSN (hi : gI F pc (.invokestatic idx) 3 npc) (hy : gYs Fy n) (hlk : ∃ h, (F.1.cls, idx, Fy.1, h) ∈ gNm) (hT : gTri Fy d2 mc2 ms2 as sh g Q2) (hst : st = as.reverse ++ st2) (hn : as.length = n) (hcat : Nat.ble (st2.map gca).sum 8 = true) (hdp : Nat.ble (d2 + 1) d = true) (hmc : mc2 ≤ mc ∧ ms2 ≤ ms) (kk : ∀ r sh2 g2, Q2 r sh2 g2 → gWP F d (mc - mc2) (ms - ms2) npc ls (r.toList ++ st2) sh2 g2 Q) : gWP F d mc ms pc ls st sh g Q := by
  intro D p l e R s m args below meth c H locs cells slots lsC Qw C hR hS hl h1 h2 K
  obtain ⟨hd, rfl⟩ := hi
  subst hst
  have hts := C.2.2.2.2.2.1
  have hKn : gKn D s s.heap := C.2.2.2.2.2.2.2.2.2.2.1
  have hb0 := C.2.2.2.2.2.2.2.2.2.2.2
  have hfr := C.2.2.2.2.2.2.2.2.1
  have hlo := C.2.2.2.2.2.2.2.2.2.1
  have hdp := Nat.le_of_ble_eq_true hdp
  have hcat := Nat.le_of_ble_eq_true hcat
  obtain ⟨⟨y1, y2, y3, y4⟩, y5⟩ := hy
  have hroom : (grm d2 mc2 ms2).frames + 1 ≤ R.frames ∧ 8 + (Fy.2.2.1 + 11) + (grm d2 mc2 ms2).locals ≤ R.locals := ⟨Nat.le_trans hdp hfr, by show 8 + (Fy.2.2.1 + 11) + 41 * d2 ≤ R.locals; omega⟩
  obtain ⟨host, hlk⟩ := hlk
  have cb := va_cnB (R := R) (rm := grm d2 mc2 ms2) (mc := mc2) (ms := ms2) n hts (gGood y1) rfl rfl rfl (hKn.2.2.2.2.2.1 _ hlk) (hts _ y2) y3 hroom
  have hrun := va_runSN (Ts := lw_good) (own := F.1.cls) (e := e) (below := below) (meth := meth) (H := H) (locs := locs) (cells := cells) (slots := slots) (mc := mc2) (ms := ms2) (As := as.map (gcv D)) (rest := st2.map (gcv D)) (g := F0 m (pc) lsC ((as.reverse ++ st2).map (gcv D))) (nL := F.2.2.1) ⟨C.1, C.2.1, C.2.2.2.1, C.2.2.2.2.1, hts⟩ (hT l D) ⟨cb, hts _ y5, trivial⟩ ⟨gPc_blind _ _ _ _, fun U hU hW => gPc_at (as := as) hKn hb0 hR hS hU hW⟩ rfl (by rw [List.length_map]; exact hn) hl.1 (by show List.map _ _ = _; rw [List.map_append, List.map_reverse]) (lv_room (by rw [List.map_map]; exact (by simpa [Function.comp_def, gcv_cat] using hcat))) hd ⟨by omega, by omega⟩
  refine gafter hrun hS (fun r sh2 g2 H1 locs1 hq hR1 hS1 => ?_)
  rw [← List.map_append]
  exact kk r sh2 g2 hq D p l e R s m args below meth c H1 locs1 (cells + mc2) (slots + ms2) lsC Qw C hR1 hS1 hl (by omega) (by omega) (fun r3 sh3 g3 H3 locs3 ls3 pc3 c3 s3 q1 q2 q3 q4 q5 q6 => K r3 sh3 g3 H3 locs3 ls3 pc3 c3 s3 q1 q2 q3 q4 (by omega) (by omega))
theorem gw_callV {b : Int} {q N : Nat} (hi : gI F pc (.invokevirtual idx) 3 npc) (hy : gYv Fy n q) (hlk : Cond.methodLink F.1.cls idx Fy.1 ∈ lw_good) (hT : gTri Fy d2 mc2 ms2 ((2, b) :: as) sh g Q2) (hst : st = as.reverse ++ (2, b) :: st2) (hn : as.length = n) (hs : gsz sh b q N) (hcat : Nat.ble (st2.map gca).sum 8 = true) (hdp : Nat.ble (d2 + 1) d = true) (hmc : mc2 ≤ mc ∧ ms2 ≤ ms) (kk : ∀ r sh2 g2, Q2 r sh2 g2 → gWP F d (mc - mc2) (ms - ms2) npc ls (r.toList ++ st2) sh2 g2 Q) : gWP F d mc ms pc ls st sh g Q := by
  intro D p l e R s m args below meth c H locs cells slots lsC Qw C hR hS hl h1 h2 K
  obtain ⟨hd, rfl⟩ := hi
  subst hst
  have hts := C.2.2.2.2.2.1
  have hKn : gKn D s s.heap := C.2.2.2.2.2.2.2.2.2.2.1
  have hb0 := C.2.2.2.2.2.2.2.2.2.2.2
  have hfr := C.2.2.2.2.2.2.2.2.1
  have hlo := C.2.2.2.2.2.2.2.2.2.1
  have hdp := Nat.le_of_ble_eq_true hdp
  have hcat := Nat.le_of_ble_eq_true hcat
  obtain ⟨⟨y1, y2, y3, y4⟩, y5, y6, y7, y8⟩ := hy
  have hroom : (grm d2 mc2 ms2).frames + 1 ≤ R.frames ∧ 8 + (Fy.2.2.1 + 11) + (grm d2 mc2 ms2).locals ≤ R.locals := ⟨Nat.le_trans hdp hfr, by show 8 + (Fy.2.2.1 + 11) + 41 * d2 ≤ R.locals; omega⟩
  have cb := callB_of (R := R) (rm := grm d2 mc2 ms2) (mc := mc2) (ms := ms2) n hts (gGood y1) rfl rfl rfl (hts _ y2) (hts _ hlk) y3 hroom
  have c1 : gcl[q]? = some (gcl.getD q ("", (fun _ => ("", "", "", false)), 0)) := by
    have : q < gcl.length := y7
    simp [List.getD, List.getElem?_eq_getElem this]
  obtain ⟨s1, s2⟩ := hs
  obtain ⟨cell, e1, e2, -⟩ := hR.2 _ _ s2
  obtain ⟨f1, f2, -⟩ := e2 y7
  have hcl := (hKn.1.1 q _ c1).2.1
  have hcellB : ∃ cellB : Cell, H[D.2.2.1 + b.toNat]? = some cellB ∧ cellB.vm.isStatics = false ∧ s.vm.findClass Fy.1.cls = some cellB.cls := ⟨cell, e1, by rw [f2]; rfl, by rw [f1, ← y8]; exact hcl⟩
  have hrun := va_runV (Ts := lw_good) (own := F.1.cls) (e := e) (below := below) (meth := meth) (H := H) (locs := locs) (cells := cells) (slots := slots) (mc := mc2) (ms := ms2) (As := as.map (gcv D)) (rest := st2.map (gcv D)) (g := F0 m (pc) lsC ((as.reverse ++ (2, b) :: st2).map (gcv D))) (nL := F.2.2.1) ⟨C.1, C.2.1, C.2.2.2.1, C.2.2.2.2.1, hts⟩ (hT l D) ⟨cb, hts _ y5, hts _ y6⟩ ⟨gPc_blind _ _ _ _, hcellB, fun U hU hW => by have := gPc_at (as := ((2, b) :: as)) hKn hb0 hR hS hU hW; rw [List.map_cons, gcv_r D b s1] at this; exact this⟩ rfl (by rw [List.length_map]; exact hn) hl.1 (by show List.map _ _ = _; rw [List.map_append, List.map_reverse, List.map_cons, gcv_r D b s1]) (lv_room (by rw [List.map_map]; exact (by simpa [Function.comp_def, gcv_cat] using hcat))) hd ⟨by omega, by omega⟩
  refine gafter hrun hS (fun r sh2 g2 H1 locs1 hq hR1 hS1 => ?_)
  rw [← List.map_append]
  exact kk r sh2 g2 hq D p l e R s m args below meth c H1 locs1 (cells + mc2) (slots + ms2) lsC Qw C hR1 hS1 hl (by omega) (by omega) (fun r3 sh3 g3 H3 locs3 ls3 pc3 c3 s3 q1 q2 q3 q4 q5 q6 => K r3 sh3 g3 H3 locs3 ls3 pc3 c3 s3 q1 q2 q3 q4 (by omega) (by omega))
theorem gw_callI {b : Int} (hi : gI F pc (.invokespecial idx) 3 npc) (hy : gYi Fy n) (hlk : Cond.methodLink F.1.cls idx Fy.1 ∈ lw_good) (hT : gTri Fy d2 mc2 ms2 ((2, b) :: as) sh g Q2) (hst : st = as.reverse ++ (2, b) :: st2) (hn : as.length = n) (hs : 0 ≤ b) (hcat : Nat.ble (st2.map gca).sum 8 = true) (hdp : Nat.ble (d2 + 1) d = true) (hmc : mc2 ≤ mc ∧ ms2 ≤ ms) (kk : ∀ r sh2 g2, Q2 r sh2 g2 → gWP F d (mc - mc2) (ms - ms2) npc ls (r.toList ++ st2) sh2 g2 Q) : gWP F d mc ms pc ls st sh g Q := by
  intro D p l e R s m args below meth c H locs cells slots lsC Qw C hR hS hl h1 h2 K
  obtain ⟨hd, rfl⟩ := hi
  subst hst
  have hts := C.2.2.2.2.2.1
  have hKn : gKn D s s.heap := C.2.2.2.2.2.2.2.2.2.2.1
  have hb0 := C.2.2.2.2.2.2.2.2.2.2.2
  have hfr := C.2.2.2.2.2.2.2.2.1
  have hlo := C.2.2.2.2.2.2.2.2.2.1
  have hdp := Nat.le_of_ble_eq_true hdp
  have hcat := Nat.le_of_ble_eq_true hcat
  obtain ⟨⟨y1, y2, y3, y4⟩, y5, y6, y7⟩ := hy
  have hroom : (grm d2 mc2 ms2).frames + 1 ≤ R.frames ∧ 8 + (Fy.2.2.1 + 11) + (grm d2 mc2 ms2).locals ≤ R.locals := ⟨Nat.le_trans hdp hfr, by show 8 + (Fy.2.2.1 + 11) + 41 * d2 ≤ R.locals; omega⟩
  have cb := callB_of (R := R) (rm := grm d2 mc2 ms2) (mc := mc2) (ms := ms2) n hts (gGood y1) rfl rfl rfl (hts _ y2) (hts _ hlk) y3 hroom
  have y1' := y1
  rw [y7] at cb y1'
  have hTT := hT l D
  unfold gws at hTT
  rw [y7] at hTT
  unfold gws at cb
  rw [y7] at cb
  have hrun := va_runI (Ts := lw_good) (own := F.1.cls) (e := e) (below := below) (meth := meth) (H := H) (locs := locs) (cells := cells) (slots := slots) (mc := mc2) (ms := ms2) (b := D.2.2.1 + b.toNat) (As := as.map (gcv D)) (rest := st2.map (gcv D)) (g := F0 m (pc) lsC ((as.reverse ++ (2, b) :: st2).map (gcv D))) (nL := F.2.2.1) ⟨C.1, C.2.1, C.2.2.2.1, C.2.2.2.2.1, hts⟩ hTT ⟨cb, y6, hts _ y5⟩ ⟨gPc_blind _ _ _ _, fun U hU hW => by have := gPc_at (as := ((2, b) :: as)) hKn hb0 hR hS hU hW; rw [List.map_cons, gcv_r D b hs] at this; exact this⟩ rfl (by rw [List.length_map]; exact hn) hl.1 (by show List.map _ _ = _; rw [List.map_append, List.map_reverse, List.map_cons, gcv_r D b hs]) (lv_room (by rw [List.map_map]; exact (by simpa [Function.comp_def, gcv_cat] using hcat))) hd ⟨by omega, by omega⟩
  refine gafter hrun hS (fun r sh2 g2 H1 locs1 hq hR1 hS1 => ?_)
  rw [← List.map_append]
  exact kk r sh2 g2 hq D p l e R s m args below meth c H1 locs1 (cells + mc2) (slots + ms2) lsC Qw C hR1 hS1 hl (by omega) (by omega) (fun r3 sh3 g3 H3 locs3 ls3 pc3 c3 s3 q1 q2 q3 q4 q5 q6 => K r3 sh3 g3 H3 locs3 ls3 pc3 c3 s3 q1 q2 q3 q4 (by omega) (by omega))
theorem gw_callIN {b : Int} (hi : gI F pc (.invokespecial idx) 3 npc) (hy : gYi Fy n) (hlk : ∃ h, (F.1.cls, idx, Fy.1, h) ∈ gNm) (hT : gTri Fy d2 mc2 ms2 ((2, b) :: as) sh g Q2) (hst : st = as.reverse ++ (2, b) :: st2) (hn : as.length = n) (hs : 0 ≤ b) (hcat : Nat.ble (st2.map gca).sum 8 = true) (hdp : Nat.ble (d2 + 1) d = true) (hmc : mc2 ≤ mc ∧ ms2 ≤ ms) (kk : ∀ r sh2 g2, Q2 r sh2 g2 → gWP F d (mc - mc2) (ms - ms2) npc ls (r.toList ++ st2) sh2 g2 Q) : gWP F d mc ms pc ls st sh g Q := by
  intro D p l e R s m args below meth c H locs cells slots lsC Qw C hR hS hl h1 h2 K
  obtain ⟨hd, rfl⟩ := hi
  subst hst
  have hts := C.2.2.2.2.2.1
  have hKn : gKn D s s.heap := C.2.2.2.2.2.2.2.2.2.2.1
  have hb0 := C.2.2.2.2.2.2.2.2.2.2.2
  have hfr := C.2.2.2.2.2.2.2.2.1
  have hlo := C.2.2.2.2.2.2.2.2.2.1
  have hdp := Nat.le_of_ble_eq_true hdp
  have hcat := Nat.le_of_ble_eq_true hcat
  obtain ⟨⟨y1, y2, y3, y4⟩, y5, y6, y7⟩ := hy
  have hroom : (grm d2 mc2 ms2).frames + 1 ≤ R.frames ∧ 8 + (Fy.2.2.1 + 11) + (grm d2 mc2 ms2).locals ≤ R.locals := ⟨Nat.le_trans hdp hfr, by show 8 + (Fy.2.2.1 + 11) + 41 * d2 ≤ R.locals; omega⟩
  obtain ⟨host, hlk⟩ := hlk
  have cb := va_cnB (R := R) (rm := grm d2 mc2 ms2) (mc := mc2) (ms := ms2) n hts (gGood y1) rfl rfl rfl (hKn.2.2.2.2.2.1 _ hlk) (hts _ y2) y3 hroom
  have y1' := y1
  rw [y7] at cb y1'
  have hTT := hT l D
  unfold gws at hTT
  rw [y7] at hTT
  unfold gws at cb
  rw [y7] at cb
  have hrun := va_runIN (Ts := lw_good) (own := F.1.cls) (e := e) (below := below) (meth := meth) (H := H) (locs := locs) (cells := cells) (slots := slots) (mc := mc2) (ms := ms2) (b := D.2.2.1 + b.toNat) (As := as.map (gcv D)) (rest := st2.map (gcv D)) (g := F0 m (pc) lsC ((as.reverse ++ (2, b) :: st2).map (gcv D))) (nL := F.2.2.1) ⟨C.1, C.2.1, C.2.2.2.1, C.2.2.2.2.1, hts⟩ hTT ⟨cb, y6, hts _ y5⟩ ⟨gPc_blind _ _ _ _, fun U hU hW => by have := gPc_at (as := ((2, b) :: as)) hKn hb0 hR hS hU hW; rw [List.map_cons, gcv_r D b hs] at this; exact this⟩ rfl (by rw [List.length_map]; exact hn) hl.1 (by show List.map _ _ = _; rw [List.map_append, List.map_reverse, List.map_cons, gcv_r D b hs]) (lv_room (by rw [List.map_map]; exact (by simpa [Function.comp_def, gcv_cat] using hcat))) hd ⟨by omega, by omega⟩
  refine gafter hrun hS (fun r sh2 g2 H1 locs1 hq hR1 hS1 => ?_)
  rw [← List.map_append]
  exact kk r sh2 g2 hq D p l e R s m args below meth c H1 locs1 (cells + mc2) (slots + ms2) lsC Qw C hR1 hS1 hl (by omega) (by omega) (fun r3 sh3 g3 H3 locs3 ls3 pc3 c3 s3 q1 q2 q3 q4 q5 q6 => K r3 sh3 g3 H3 locs3 ls3 pc3 c3 s3 q1 q2 q3 q4 (by omega) (by omega))
end GC
