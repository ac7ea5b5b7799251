/-! ===== the judge ===== -/
theorem gTri.mono {F : gF} {d mc ms : Nat} {as : List gV} {sh : gS} {g : gM} {Q Q2 : gQ} (h : gTri F d mc ms as sh g Q2) (hq : ∀ r s2 g2, Q2 r s2 g2 → Q r s2 g2) : gTri F d mc ms as sh g Q := by
  intro l D p e hl hc hk s m args below hfr happ hP hK
  obtain ⟨n, o, h1, h2, h3, ⟨⟨⟨r, s2, g2, e1, e2, e3⟩, e4⟩, h5⟩⟩ := h l D p e hl hc hk s m args below hfr happ hP hK
  exact ⟨n, o, h1, h2, h3, ⟨⟨⟨r, s2, g2, e1, hq r s2 g2 e2, e3⟩, e4⟩, h5⟩⟩
/-- what the judge writes -/
def jgF (g g2 : gM) : Prop := ∀ a k, a ≠ 10 → a ≠ 11 → ¬ (a = 8 ∧ 2 ≤ k ∧ k ≤ 3) → g2 a k = g a k
theorem jgF.rf (g : gM) : jgF g g := fun _ _ _ _ _ => rfl
theorem jgF.tr {g g2 g3 : gM} (h : jgF g g2) (h2 : jgF g2 g3) : jgF g g3 := fun a k n m q => (h2 a k n m q).trans (h a k n m q)
theorem jgF.up {g g2 : gM} (h : jgF g g2) {a k : Int} (v : Int) (hz : a = 11 ∨ (a = 8 ∧ 2 ≤ k ∧ k ≤ 3)) : jgF g (gup g2 a k v) := fun x j n m q => by
  by_cases z : x = a
  · subst z
    rw [gup_k _ _ _ _ (by omega)]; exact h _ _ n m q
  · rw [gup_a _ _ _ _ _ z]; exact h _ _ n m q
theorem mcF.jg {g g2 : gM} (h : mcF 9 g g2) : jgF g g2 := fun a k n _ _ => h a k n
theorem jgF.fin {g g2 : gM} (h : jgF g g2) (hf : gFin g) : gFin g2 := hf.of fun a k z => h _ _ (fun q => z (by
  obtain rfl : a = 10 := by omega
  rfl)) (fun q => z (by
  obtain rfl : a = 11 := by omega
  rfl)) (fun q => z (by
  obtain rfl : a = 8 := by omega
  rcases (show k = 2 ∨ k = 3 by omega) with y | y <;> (subst y; rfl)))
theorem jgF.fn {g g2 : gM} (h : jgF g g2) {a : Int} (h8 : a ≠ 8) (h10 : a ≠ 10) (h11 : a ≠ 11) : g2 a = g a := funext fun k => h a k h10 h11 (fun z => h8 z.1)
/-- a note is placed -/
def plM (g : gM) (b n f : Int) : gM := gup (gup (gup (gup (gup (gup (gup (gup g 8 2 (bi (n ≤ f))) 8 3 (if n ≤ f then 0 else g (b + 1) (n - 1))) 11 0 n) 11 2 (g (b + 1) n)) 11 6 (if n ≤ f then 0 else g (b + 1) n - g (b + 1) (n - 1))) 11 7 (bi (n = g b 0 - 1))) 11 8 (g (b + 3) 0)) 11 9 (g (b + 3) 2)
def soM (g : gM) (h p : Int) : gM := gup (gup (gup (gup g 11 1 h) 11 3 (h - g 11 2)) 11 4 (if g 8 2 = 0 then p - g 8 3 else 0)) 11 5 (if g 8 2 = 0 then h - p else 0)
theorem plM_jg (g : gM) (b n f : Int) : jgF g (plM g b n f) := ((((((((jgF.rf g).up _ (Or.inr (by omega))).up _ (Or.inr (by omega))).up _ (Or.inl rfl)).up _ (Or.inl rfl)).up _ (Or.inl rfl)).up _ (Or.inl rfl)).up _ (Or.inl rfl)).up _ (Or.inl rfl)
theorem soM_jg (g : gM) (h p : Int) : jgF g (soM g h p) := ((((jgF.rf g).up _ (Or.inl rfl)).up _ (Or.inl rfl)).up _ (Or.inl rfl)).up _ (Or.inl rfl)
/-- clause j's piece of a text, worked out -/
theorem c_wo {sh : gS} (hx : gFix sh) {g : gM} (hf : gFin g) {M : Int} (hM : isMc M) {lo o W : Int} {n : Nat} {o2 : Bool} {L : List OC} (ht : txL lo o2 sh g o L) (hlo : 152 ≤ lo) (sW : gsz sh W 13 n) (hnn : n ≤ 100) (hW : W ≠ M + 1) (hn : (if o2 = true then (29 : Int) else 10) ≤ n) (hw : ∀ i, 0 ≤ i → i < (n : Int) → bd9 (g W i)) (j : Nat) {c : OC} (hj : L[j]? = some c) (pi : Int) {code : PK} {s : PS} (hk : pcK o2 code s) (hwh : (pi = 0 ∧ code = c.2.1) ∨ (pi = 1 ∧ code = c.2.2.2.1) ∨ (pi = 2 ∧ c.2.2.2.2.2.2.1 = some code)) : gTri f_Machine_workOut 1 0 0 [(2, M), (2, o), (0, (j : Int)), (0, pi), (2, W)] sh g (fun x s2 g2 => x = some (0, brK (s (g W))) ∧ s2 = sh ∧ mcF M g g2 ∧ ∀ v, s (g W) = some v → bd9 v) := by
  obtain ⟨N3, N5, N6, q1, q2, q3, q4, q5, q6, q7, q8, q9, q10, ⟨u, hu, q11⟩, q12⟩ := ht
  obtain ⟨t2, h1, h2, z1, z2, z3, z4, z5, z6, z7⟩ := tcL_at L 0 0 u q11 j c hj
  obtain ⟨m, hm, d1, d2, d3, d4⟩ := hk
  have hjl := (List.getElem?_eq_some_iff.mp hj).1
  rw [show (0 : Int) + (j : Int) = j by omega] at z1 z2 z3 z4 z5 z6
  have hm2 := hM.bd
  have hlen : ((ocK c).length : Int) = (c.2.1 ++ c.2.2.2.1).length + (c.2.2.2.2.2.2.1.getD []).length := by
    unfold ocK; rw [List.length_append]; omega
  have hlen2 : ((c.2.1 ++ c.2.2.2.1).length : Int) = c.2.1.length + c.2.2.2.1.length := by rw [List.length_append]; omega
  have hcd := (cdL_app _ _ _).mp (show cdL _ _ t2 ((c.2.1 ++ c.2.2.2.1) ++ c.2.2.2.2.2.2.1.getD []) from z7)
  have hcd2 := (cdL_app _ _ _).mp hcd.1
  have hval : cOK o2 code s m := ⟨d1, d2, d3, d4⟩
  have hv := hval.val (g W)
  have hpi : 0 ≤ pi ∧ pi ≤ 2 := by omega
  have key : g (g o 5) ((j : Int) * 3 + pi + 1) = g (g o 5) ((j : Int) * 3 + pi) + code.length ∧ 0 ≤ g (g o 5) ((j : Int) * 3 + pi) ∧ g (g o 5) ((j : Int) * 3 + pi + 1) ≤ (N6 : Int) ∧ cdL (g (g o 6)) (g (g o 7)) (g (g o 5) ((j : Int) * 3 + pi)) code := by
    rcases hwh with ⟨rfl, rfl⟩ | ⟨rfl, rfl⟩ | ⟨rfl, e⟩
    · rw [show (j : Int) * 3 + 0 = j * 3 by omega, z3, z4]
      exact ⟨rfl, by omega, by omega, hcd2.1⟩
    · rw [show (j : Int) * 3 + 1 + 1 = j * 3 + 2 by omega, z4, z5]
      exact ⟨by omega, by omega, by omega, hcd2.2⟩
    · rw [e] at hlen hcd
      rw [show (j : Int) * 3 + 2 + 1 = j * 3 + 3 by omega, z5, z6]
      have e3 : ((some code).getD [] : PK) = code := rfl
      rw [e3] at hlen hcd
      exact ⟨by omega, by omega, by omega, hcd.2⟩
  have hT := c_Machine_workOut hx hf hM q2 rfl rfl rfl q5 q6 q7 (by omega) sW hnn (by omega) (j : Int) pi ⟨by omega, hpi, by omega⟩ hn key.2.1 key.1 key.2.2.1 key.2.2.2 d2 d1.2 (by unfold pcn; omega) hw hv.2
  refine hT.mono ?_
  intro x s2 g2 hq
  obtain ⟨e1, e2, e3, e4⟩ := hq
  refine ⟨by rw [e1, hv.1], e2, e3, fun v hs => e4 v ?_⟩
  have := d4 (g W) [] []
  rw [List.append_nil, hs] at this
  exact this
/-- whether clause j has a test -/
theorem c_ht {sh : gS} (hx : gFix sh) {g : gM} (hf : gFin g) {lo o : Int} {o2 : Bool} {L : List OC} (ht : txL lo o2 sh g o L) (j : Nat) {c : OC} (hj : L[j]? = some c) : gTri f_Text_hasTest 0 0 0 [(2, o), (0, (j : Int))] sh g (gR (some (0, bi (c.2.2.2.2.2.2.1.isSome = true))) sh g) := by
  obtain ⟨N3, N5, N6, q1, q2, q3, q4, q5, q6, q7, q8, q9, q10, ⟨u, hu, q11⟩, q12⟩ := ht
  obtain ⟨t2, h1, h2, z1, z2, z3, z4, z5, z6, z7⟩ := tcL_at L 0 0 u q11 j c hj
  have hjl := (List.getElem?_eq_some_iff.mp hj).1
  rw [show (0 : Int) + (j : Int) = j by omega] at z1 z2 z3 z4 z5 z6
  have hlen : ((ocK c).length : Int) = (c.2.1 ++ c.2.2.2.1).length + (c.2.2.2.2.2.2.1.getD []).length := by
    unfold ocK; rw [List.length_append]; omega
  have hT := c_Text_hasTest hx hf q2 q5 (j : Int) (by omega) (by omega) (by rw [z5]; omega) (by rw [z6]; omega)
  rw [bi_iff (q := c.2.2.2.2.2.2.1.isSome = true) ?_] at hT
  · exact hT
  · rw [z5, z6, hlen]
    rcases (q12 c (List.mem_of_getElem? hj)).2.2 with ⟨e, -⟩ | ⟨k, e, ⟨m, -, d1, -⟩, -⟩
    · rw [e]
      constructor
      · intro z; exfalso; simp at z
      · intro z; cases z
    · rw [e]
      have : 0 < k.length := List.length_pos_iff.mpr d1.1
      have e3 : ((some k).getD [] : PK) = k := rfl
      rw [e3]
      exact ⟨fun _ => rfl, fun _ => by omega⟩
def topK (k : Int) : Int := if k = 0 then 999 else if k = 1 then 99 else 1
/-- the law object a (-1: none) says L -/
def lwX (sh : gS) (g : gM) (a : Int) (L : List PC) : Prop := (a = -1 ∧ L = []) ∨ txL 201 false sh g a (L.map pcO)
theorem tl_take {w : Int → Int} {h top v : Int} {L : List PC} {i : Nat} {c : PC} (e : L[i]? = some c) : tl w h top v (L.take (i + 1)) = tlC w h top (tl w h top v (L.take i)) c := by
  unfold tl
  rw [List.take_add_one, e, List.foldl_append]
  rfl
/-- where no clause holds: what was there -/
theorem tl_df {w : Int → Int} {h top df : Int} (ht : 0 ≤ top) (L : List PC) : tl w h top df L = if tl w h top (-1) L = -1 then df else tl w h top (-1) L := by
  have key : ∀ (L : List PC), (tl w h top (-1) L = -1 ∧ tl w h top df L = df) ∨ (0 ≤ tl w h top (-1) L ∧ tl w h top df L = tl w h top (-1) L) := by
    intro L
    rw [← List.reverse_reverse L]
    induction L.reverse with
    | nil => exact Or.inl ⟨rfl, rfl⟩
    | cons c R ih =>
      rw [List.reverse_cons]
      generalize R.reverse = L at ih
      have e : ∀ x, tl w h top x (L ++ [c]) = tlC w h top (tl w h top x L) c := fun x => by unfold tl; rw [List.foldl_append]; rfl
      rw [e, e]
      unfold tlC
      split
      · split
        · exact ih
        · right; repeat' split
          all_goals exact ⟨by omega, rfl⟩
      · exact ih
  rcases key L with ⟨a, b⟩ | ⟨a, b⟩
  · rw [if_pos a]; exact b
  · rw [if_neg (by omega)]; exact b
set_option maxHeartbeats 4000000 in
theorem c_Judge_place {sh : gS} {g : gM} (hx : gFix sh) (hf : gFin g) {b : Int} (hb : isBd b) (n f : Int) (hn : 0 ≤ n ∧ n < 12) (hff : 0 ≤ f ∧ f ≤ 12) (h0 : 0 ≤ g b 0 ∧ g b 0 ≤ 12) : gTri f_Judge_place 0 0 0 [(2, 8), (2, b), (0, n), (0, f)] sh g (gR none sh (plM g b n f)) := by
  have hbx := hb
  unfold isBd at hbx
  refine gTri.of (by decide +kernel) rfl ?_
  show gWP f_Judge_place _ _ _ 0 [(2, 8), (2, b), (0, n), (0, f)] [] sh g _
  refine gw_aload_n (gc k_Judge_place_0 0 rfl) rfl rfl ?_
  refine gw_join0 11 (fun v => v = bi (n ≤ f)) (fun v1 hv1 => ?_) (fun kj1 => ?_)
  · subst hv1
    refine gw_putZK 2 rfl (gc k_Judge_place_0 7 rfl) fl_Judge_22 (by first | exact gAt hx rfl rfl | exact (bs hx hb).1 | exact (bs hx hb).2.1 | exact (bs hx hb).2.2.1 | exact (bs hx hb).2.2.2.1 | exact (bs hx hb).2.2.2.2.1 | exact (bs hx hb).2.2.2.2.2.1 | exact (bs hx hb).2.2.2.2.2.2) (bi_01 _) hf (by first | rfl | exact bn hb (Or.inl ⟨rfl, by decide⟩)) (fun hf => ?_)
    refine gw_aload_n (gc k_Judge_place_0 8 rfl) rfl rfl ?_
    refine gw_join0 34 (fun v => v = if n ≤ f then 0 else g (b + 1) (n - 1)) (fun v15 hv15 => ?_) (fun kj15 => ?_)
    · subst hv15
      refine gw_putIK 3 rfl (gc k_Judge_place_0 20 rfl) fl_Judge_31 (by first | exact gAt hx rfl rfl | exact (bs hx hb).1 | exact (bs hx hb).2.1 | exact (bs hx hb).2.2.1 | exact (bs hx hb).2.2.2.1 | exact (bs hx hb).2.2.2.2.1 | exact (bs hx hb).2.2.2.2.2.1 | exact (bs hx hb).2.2.2.2.2.2) hf (by first | rfl | exact bn hb (Or.inl ⟨rfl, by decide⟩)) (fun hf => ?_)
      refine gw_aload_n (gc k_Judge_place_0 21 rfl) rfl rfl ?_
      refine gw_getref (gc k_Judge_place_0 22 rfl) fl_Judge_18 (by first | exact gAt hx rfl rfl | exact (bs hx hb).1 | exact (bs hx hb).2.1 | exact (bs hx hb).2.2.1 | exact (bs hx hb).2.2.2.1 | exact (bs hx hb).2.2.2.2.1 | exact (bs hx hb).2.2.2.2.2.1 | exact (bs hx hb).2.2.2.2.2.2) (by first | exact gRf hf rfl rfl | exact (br hf hb).1 | exact (br hf hb).2.1 | exact (br hf hb).2.2.1 | exact (br hf hb).2.2.2.1 | exact (br hf hb).2.2.2.2.1 | exact (br hf hb).2.2.2.2.2) ?_
      refine gw_iconst (gc k_Judge_place_0 23 rfl) ?_
      refine gw_iload_n (gc k_Judge_place_0 24 rfl) rfl ?_
      refine gw_iastF (gc k_Judge_place_0 25 rfl) (by first | exact gAt hx rfl rfl | exact (bs hx hb).1 | exact (bs hx hb).2.1 | exact (bs hx hb).2.2.1 | exact (bs hx hb).2.2.2.1 | exact (bs hx hb).2.2.2.2.1 | exact (bs hx hb).2.2.2.2.2.1 | exact (bs hx hb).2.2.2.2.2.2) (by omega) hf (by first | rfl | exact bn hb (Or.inl ⟨rfl, by decide⟩)) (fun hf => ?_)
      refine gw_aload_n (gc k_Judge_place_0 26 rfl) rfl rfl ?_
      refine gw_getref (gc k_Judge_place_0 27 rfl) fl_Judge_18 (by first | exact gAt hx rfl rfl | exact (bs hx hb).1 | exact (bs hx hb).2.1 | exact (bs hx hb).2.2.1 | exact (bs hx hb).2.2.2.1 | exact (bs hx hb).2.2.2.2.1 | exact (bs hx hb).2.2.2.2.2.1 | exact (bs hx hb).2.2.2.2.2.2) (by first | exact gRf hf rfl rfl | exact (br hf hb).1 | exact (br hf hb).2.1 | exact (br hf hb).2.2.1 | exact (br hf hb).2.2.2.1 | exact (br hf hb).2.2.2.2.1 | exact (br hf hb).2.2.2.2.2) ?_
      refine gw_iconst (gc k_Judge_place_0 28 rfl) ?_
      refine gw_aload_n (gc k_Judge_place_0 29 rfl) rfl rfl ?_
      refine gw_getref (gc k_Judge_place_0 30 rfl) fl_Judge_26 (by first | exact gAt hx rfl rfl | exact (bs hx hb).1 | exact (bs hx hb).2.1 | exact (bs hx hb).2.2.1 | exact (bs hx hb).2.2.2.1 | exact (bs hx hb).2.2.2.2.1 | exact (bs hx hb).2.2.2.2.2.1 | exact (bs hx hb).2.2.2.2.2.2) (by first | exact gRf hf rfl rfl | exact (br hf hb).1 | exact (br hf hb).2.1 | exact (br hf hb).2.2.1 | exact (br hf hb).2.2.2.1 | exact (br hf hb).2.2.2.2.1 | exact (br hf hb).2.2.2.2.2) ?_
      refine gw_iload_n (gc k_Judge_place_0 31 rfl) rfl ?_
      refine gw_iald (gc k_Judge_place_0 32 rfl) (by first | exact gAt hx rfl rfl | exact (bs hx hb).1 | exact (bs hx hb).2.1 | exact (bs hx hb).2.2.1 | exact (bs hx hb).2.2.2.1 | exact (bs hx hb).2.2.2.2.1 | exact (bs hx hb).2.2.2.2.2.1 | exact (bs hx hb).2.2.2.2.2.2) (by omega) ?_
      try simp (disch := omega) only [gup_s, gup_k, gup_a]
      refine gw_iastF (gc k_Judge_place_0 33 rfl) (by first | exact gAt hx rfl rfl | exact (bs hx hb).1 | exact (bs hx hb).2.1 | exact (bs hx hb).2.2.1 | exact (bs hx hb).2.2.2.1 | exact (bs hx hb).2.2.2.2.1 | exact (bs hx hb).2.2.2.2.2.1 | exact (bs hx hb).2.2.2.2.2.2) (by omega) hf (by first | rfl | exact bn hb (Or.inl ⟨rfl, by decide⟩)) (fun hf => ?_)
      refine gw_aload_n (gc k_Judge_place_0 34 rfl) rfl rfl ?_
      refine gw_getref (gc k_Judge_place_0 35 rfl) fl_Judge_18 (by first | exact gAt hx rfl rfl | exact (bs hx hb).1 | exact (bs hx hb).2.1 | exact (bs hx hb).2.2.1 | exact (bs hx hb).2.2.2.1 | exact (bs hx hb).2.2.2.2.1 | exact (bs hx hb).2.2.2.2.2.1 | exact (bs hx hb).2.2.2.2.2.2) (by first | exact gRf hf rfl rfl | exact (br hf hb).1 | exact (br hf hb).2.1 | exact (br hf hb).2.2.1 | exact (br hf hb).2.2.2.1 | exact (br hf hb).2.2.2.2.1 | exact (br hf hb).2.2.2.2.2) ?_
      refine gw_bipush (gc k_Judge_place_0 36 rfl) (by decide) ?_
      refine gw_join0 84 (fun v => v = if n ≤ f then 0 else g (b + 1) n - g (b + 1) (n - 1)) (fun v62 hv62 => ?_) (fun kj62 => ?_)
      · subst hv62
        refine gw_iastF (gc k_Judge_place_1 9 rfl) (by first | exact gAt hx rfl rfl | exact (bs hx hb).1 | exact (bs hx hb).2.1 | exact (bs hx hb).2.2.1 | exact (bs hx hb).2.2.2.1 | exact (bs hx hb).2.2.2.2.1 | exact (bs hx hb).2.2.2.2.2.1 | exact (bs hx hb).2.2.2.2.2.2) (by omega) hf (by first | rfl | exact bn hb (Or.inl ⟨rfl, by decide⟩)) (fun hf => ?_)
        refine gw_aload_n (gc k_Judge_place_1 10 rfl) rfl rfl ?_
        refine gw_getref (gc k_Judge_place_1 11 rfl) fl_Judge_18 (by first | exact gAt hx rfl rfl | exact (bs hx hb).1 | exact (bs hx hb).2.1 | exact (bs hx hb).2.2.1 | exact (bs hx hb).2.2.2.1 | exact (bs hx hb).2.2.2.2.1 | exact (bs hx hb).2.2.2.2.2.1 | exact (bs hx hb).2.2.2.2.2.2) (by first | exact gRf hf rfl rfl | exact (br hf hb).1 | exact (br hf hb).2.1 | exact (br hf hb).2.2.1 | exact (br hf hb).2.2.2.1 | exact (br hf hb).2.2.2.2.1 | exact (br hf hb).2.2.2.2.2) ?_
        refine gw_bipush (gc k_Judge_place_1 12 rfl) (by decide) ?_
        refine gw_join0 106 (fun v => v = bi (n = g b 0 - 1)) (fun v91 hv91 => ?_) (fun kj91 => ?_)
        · subst hv91
          refine gw_iastF (gc k_Judge_place_1 22 rfl) (by first | exact gAt hx rfl rfl | exact (bs hx hb).1 | exact (bs hx hb).2.1 | exact (bs hx hb).2.2.1 | exact (bs hx hb).2.2.2.1 | exact (bs hx hb).2.2.2.2.1 | exact (bs hx hb).2.2.2.2.2.1 | exact (bs hx hb).2.2.2.2.2.2) (by omega) hf (by first | rfl | exact bn hb (Or.inl ⟨rfl, by decide⟩)) (fun hf => ?_)
          refine gw_aload_n (gc k_Judge_place_1 23 rfl) rfl rfl ?_
          refine gw_getref (gc k_Judge_place_1 24 rfl) fl_Judge_18 (by first | exact gAt hx rfl rfl | exact (bs hx hb).1 | exact (bs hx hb).2.1 | exact (bs hx hb).2.2.1 | exact (bs hx hb).2.2.2.1 | exact (bs hx hb).2.2.2.2.1 | exact (bs hx hb).2.2.2.2.2.1 | exact (bs hx hb).2.2.2.2.2.2) (by first | exact gRf hf rfl rfl | exact (br hf hb).1 | exact (br hf hb).2.1 | exact (br hf hb).2.2.1 | exact (br hf hb).2.2.2.1 | exact (br hf hb).2.2.2.2.1 | exact (br hf hb).2.2.2.2.2) ?_
          refine gw_bipush (gc k_Judge_place_1 25 rfl) (by decide) ?_
          refine gw_aload_n (gc k_Judge_place_1 26 rfl) rfl rfl ?_
          refine gw_getref (gc k_Judge_place_1 27 rfl) fl_Judge_38 (by first | exact gAt hx rfl rfl | exact (bs hx hb).1 | exact (bs hx hb).2.1 | exact (bs hx hb).2.2.1 | exact (bs hx hb).2.2.2.1 | exact (bs hx hb).2.2.2.2.1 | exact (bs hx hb).2.2.2.2.2.1 | exact (bs hx hb).2.2.2.2.2.2) (by first | exact gRf hf rfl rfl | exact (br hf hb).1 | exact (br hf hb).2.1 | exact (br hf hb).2.2.1 | exact (br hf hb).2.2.2.1 | exact (br hf hb).2.2.2.2.1 | exact (br hf hb).2.2.2.2.2) ?_
          refine gw_iconst (gc k_Judge_place_1 28 rfl) ?_
          refine gw_iald (gc k_Judge_place_1 29 rfl) (by first | exact gAt hx rfl rfl | exact (bs hx hb).1 | exact (bs hx hb).2.1 | exact (bs hx hb).2.2.1 | exact (bs hx hb).2.2.2.1 | exact (bs hx hb).2.2.2.2.1 | exact (bs hx hb).2.2.2.2.2.1 | exact (bs hx hb).2.2.2.2.2.2) (by omega) ?_
          try simp (disch := omega) only [gup_s, gup_k, gup_a]
          refine gw_iastF (gc k_Judge_place_1 30 rfl) (by first | exact gAt hx rfl rfl | exact (bs hx hb).1 | exact (bs hx hb).2.1 | exact (bs hx hb).2.2.1 | exact (bs hx hb).2.2.2.1 | exact (bs hx hb).2.2.2.2.1 | exact (bs hx hb).2.2.2.2.2.1 | exact (bs hx hb).2.2.2.2.2.2) (by omega) hf (by first | rfl | exact bn hb (Or.inl ⟨rfl, by decide⟩)) (fun hf => ?_)
          refine gw_aload_n (gc k_Judge_place_1 31 rfl) rfl rfl ?_
          refine gw_getref (gc k_Judge_place_1 32 rfl) fl_Judge_18 (by first | exact gAt hx rfl rfl | exact (bs hx hb).1 | exact (bs hx hb).2.1 | exact (bs hx hb).2.2.1 | exact (bs hx hb).2.2.2.1 | exact (bs hx hb).2.2.2.2.1 | exact (bs hx hb).2.2.2.2.2.1 | exact (bs hx hb).2.2.2.2.2.2) (by first | exact gRf hf rfl rfl | exact (br hf hb).1 | exact (br hf hb).2.1 | exact (br hf hb).2.2.1 | exact (br hf hb).2.2.2.1 | exact (br hf hb).2.2.2.2.1 | exact (br hf hb).2.2.2.2.2) ?_
          refine gw_bipush (gc k_Judge_place_1 33 rfl) (by decide) ?_
          refine gw_aload_n (gc k_Judge_place_1 34 rfl) rfl rfl ?_
          refine gw_getref (gc k_Judge_place_1 35 rfl) fl_Judge_38 (by first | exact gAt hx rfl rfl | exact (bs hx hb).1 | exact (bs hx hb).2.1 | exact (bs hx hb).2.2.1 | exact (bs hx hb).2.2.2.1 | exact (bs hx hb).2.2.2.2.1 | exact (bs hx hb).2.2.2.2.2.1 | exact (bs hx hb).2.2.2.2.2.2) (by first | exact gRf hf rfl rfl | exact (br hf hb).1 | exact (br hf hb).2.1 | exact (br hf hb).2.2.1 | exact (br hf hb).2.2.2.1 | exact (br hf hb).2.2.2.2.1 | exact (br hf hb).2.2.2.2.2) ?_
          refine gw_iconst (gc k_Judge_place_1 36 rfl) ?_
          refine gw_iald (gc k_Judge_place_1 37 rfl) (by first | exact gAt hx rfl rfl | exact (bs hx hb).1 | exact (bs hx hb).2.1 | exact (bs hx hb).2.2.1 | exact (bs hx hb).2.2.2.1 | exact (bs hx hb).2.2.2.2.1 | exact (bs hx hb).2.2.2.2.2.1 | exact (bs hx hb).2.2.2.2.2.2) (by omega) ?_
          try simp (disch := omega) only [gup_s, gup_k, gup_a]
          refine gw_iastF (gc k_Judge_place_1 38 rfl) (by first | exact gAt hx rfl rfl | exact (bs hx hb).1 | exact (bs hx hb).2.1 | exact (bs hx hb).2.2.1 | exact (bs hx hb).2.2.2.1 | exact (bs hx hb).2.2.2.2.1 | exact (bs hx hb).2.2.2.2.2.1 | exact (bs hx hb).2.2.2.2.2.2) (by omega) hf (by first | rfl | exact bn hb (Or.inl ⟨rfl, by decide⟩)) (fun hf => ?_)
          refine gw_return (gc k_Judge_place_1 39 rfl) rfl ?_
          exact ⟨rfl, rfl, rfl⟩
        · refine gw_iload_n (gc k_Judge_place_1 13 rfl) rfl ?_
          refine gw_aload_n (gc k_Judge_place_1 14 rfl) rfl rfl ?_
          refine gw_getf 0 rfl (gc k_Judge_place_1 15 rfl) fl_Judge_35 (by first | exact gAt hx rfl rfl | exact (bs hx hb).1 | exact (bs hx hb).2.1 | exact (bs hx hb).2.2.1 | exact (bs hx hb).2.2.2.1 | exact (bs hx hb).2.2.2.2.1 | exact (bs hx hb).2.2.2.2.2.1 | exact (bs hx hb).2.2.2.2.2.2) ?_
          try simp (disch := omega) only [gup_s, gup_k, gup_a]
          refine gw_iconst (gc k_Judge_place_1 16 rfl) ?_
          refine gw_isub (gc k_Judge_place_1 17 rfl) ?_
          refine gw_icmp_ne (tgt := 105) (gc k_Judge_place_1 18 rfl) rfl (by omega) (fun c98 => ?_) (fun c98 => ?_)
          · refine gw_iconst (gc k_Judge_place_1 21 rfl) ?_
            exact kj91 _ ((by first | exact (bi_1 (by omega)).symm | exact (bi_0 (by omega)).symm))
          · refine gw_iconst (gc k_Judge_place_1 19 rfl) ?_
            refine gw_goto (tgt := 106) (gc k_Judge_place_1 20 rfl) rfl ?_
            exact kj91 _ ((by first | exact (bi_1 (by omega)).symm | exact (bi_0 (by omega)).symm))
      · refine gw_aload_n (gc k_Judge_place_0 37 rfl) rfl rfl ?_
        refine gw_getf 2 rfl (gc k_Judge_place_0 38 rfl) fl_Judge_22 (by first | exact gAt hx rfl rfl | exact (bs hx hb).1 | exact (bs hx hb).2.1 | exact (bs hx hb).2.2.1 | exact (bs hx hb).2.2.2.1 | exact (bs hx hb).2.2.2.2.1 | exact (bs hx hb).2.2.2.2.2.1 | exact (bs hx hb).2.2.2.2.2.2) ?_
        try simp (disch := omega) only [gup_s, gup_k, gup_a]
        refine gw_beq (tgt := 73) (gc k_Judge_place_0 39 rfl) rfl (fun c66 => ?_) (fun c66 => ?_)
        · refine gw_aload_n (gc k_Judge_place_1 2 rfl) rfl rfl ?_
          refine gw_getref (gc k_Judge_place_1 3 rfl) fl_Judge_26 (by first | exact gAt hx rfl rfl | exact (bs hx hb).1 | exact (bs hx hb).2.1 | exact (bs hx hb).2.2.1 | exact (bs hx hb).2.2.2.1 | exact (bs hx hb).2.2.2.2.1 | exact (bs hx hb).2.2.2.2.2.1 | exact (bs hx hb).2.2.2.2.2.2) (by first | exact gRf hf rfl rfl | exact (br hf hb).1 | exact (br hf hb).2.1 | exact (br hf hb).2.2.1 | exact (br hf hb).2.2.2.1 | exact (br hf hb).2.2.2.2.1 | exact (br hf hb).2.2.2.2.2) ?_
          refine gw_iload_n (gc k_Judge_place_1 4 rfl) rfl ?_
          refine gw_iald (gc k_Judge_place_1 5 rfl) (by first | exact gAt hx rfl rfl | exact (bs hx hb).1 | exact (bs hx hb).2.1 | exact (bs hx hb).2.2.1 | exact (bs hx hb).2.2.2.1 | exact (bs hx hb).2.2.2.2.1 | exact (bs hx hb).2.2.2.2.2.1 | exact (bs hx hb).2.2.2.2.2.2) (by omega) ?_
          refine gw_aload_n (gc k_Judge_place_1 6 rfl) rfl rfl ?_
          refine gw_getf 3 rfl (gc k_Judge_place_1 7 rfl) fl_Judge_31 (by first | exact gAt hx rfl rfl | exact (bs hx hb).1 | exact (bs hx hb).2.1 | exact (bs hx hb).2.2.1 | exact (bs hx hb).2.2.2.1 | exact (bs hx hb).2.2.2.2.1 | exact (bs hx hb).2.2.2.2.2.1 | exact (bs hx hb).2.2.2.2.2.2) ?_
          try simp (disch := omega) only [gup_s, gup_k, gup_a]
          refine gw_isub (gc k_Judge_place_1 8 rfl) ?_
          exact kj62 _ ((by first | exact (if_pos c66).symm | rw [if_neg c66, if_neg c66]))
        · refine gw_iconst (gc k_Judge_place_1 0 rfl) ?_
          refine gw_goto (tgt := 84) (gc k_Judge_place_1 1 rfl) rfl ?_
          exact kj62 _ ((by first | exact (if_pos c66).symm | rw [if_neg c66, if_neg c66]))
    · refine gw_aload_n (gc k_Judge_place_0 9 rfl) rfl rfl ?_
      refine gw_getf 2 rfl (gc k_Judge_place_0 10 rfl) fl_Judge_22 (by first | exact gAt hx rfl rfl | exact (bs hx hb).1 | exact (bs hx hb).2.1 | exact (bs hx hb).2.2.1 | exact (bs hx hb).2.2.2.1 | exact (bs hx hb).2.2.2.2.1 | exact (bs hx hb).2.2.2.2.2.1 | exact (bs hx hb).2.2.2.2.2.2) ?_
      rw [gup_s]
      refine gw_beq (tgt := 26) (gc k_Judge_place_0 11 rfl) rfl (fun c19 => ?_) (fun c19 => ?_)
      · refine gw_aload_n (gc k_Judge_place_0 14 rfl) rfl rfl ?_
        refine gw_getref (gc k_Judge_place_0 15 rfl) fl_Judge_26 (by first | exact gAt hx rfl rfl | exact (bs hx hb).1 | exact (bs hx hb).2.1 | exact (bs hx hb).2.2.1 | exact (bs hx hb).2.2.2.1 | exact (bs hx hb).2.2.2.2.1 | exact (bs hx hb).2.2.2.2.2.1 | exact (bs hx hb).2.2.2.2.2.2) (by first | exact gRf hf rfl rfl | exact (br hf hb).1 | exact (br hf hb).2.1 | exact (br hf hb).2.2.1 | exact (br hf hb).2.2.2.1 | exact (br hf hb).2.2.2.2.1 | exact (br hf hb).2.2.2.2.2) ?_
        refine gw_iload_n (gc k_Judge_place_0 16 rfl) rfl ?_
        refine gw_iconst (gc k_Judge_place_0 17 rfl) ?_
        refine gw_isub (gc k_Judge_place_0 18 rfl) ?_
        refine gw_iald (gc k_Judge_place_0 19 rfl) (by first | exact gAt hx rfl rfl | exact (bs hx hb).1 | exact (bs hx hb).2.1 | exact (bs hx hb).2.2.1 | exact (bs hx hb).2.2.2.1 | exact (bs hx hb).2.2.2.2.1 | exact (bs hx hb).2.2.2.2.2.1 | exact (bs hx hb).2.2.2.2.2.2) (by omega) ?_
        exact kj15 _ ((by first | exact (if_pos c19).symm | (rw [if_neg c19]; simp (disch := omega) only [gup_a])))
      · refine gw_iconst (gc k_Judge_place_0 12 rfl) ?_
        refine gw_goto (tgt := 34) (gc k_Judge_place_0 13 rfl) rfl ?_
        exact kj15 _ ((by first | exact (if_pos c19).symm | (rw [if_neg c19]; simp (disch := omega) only [gup_a])))
  · refine gw_iload_n (gc k_Judge_place_0 1 rfl) rfl ?_
    refine gw_iload_n (gc k_Judge_place_0 2 rfl) rfl ?_
    refine gw_icmp_gt (tgt := 10) (gc k_Judge_place_0 3 rfl) rfl (by omega) (fun c3 => ?_) (fun c3 => ?_)
    · refine gw_iconst (gc k_Judge_place_0 6 rfl) ?_
      exact kj1 _ ((by first | exact (bi_1 (by omega)).symm | exact (bi_0 (by omega)).symm))
    · refine gw_iconst (gc k_Judge_place_0 4 rfl) ?_
      refine gw_goto (tgt := 11) (gc k_Judge_place_0 5 rfl) rfl ?_
      exact kj1 _ ((by first | exact (bi_1 (by omega)).symm | exact (bi_0 (by omega)).symm))
set_option maxHeartbeats 4000000 in
theorem c_Judge_sound {sh : gS} {g : gM} (hx : gFix sh) (hf : gFin g) (h p : Int) (hi : g 8 2 = 0 ∨ g 8 2 = 1) : gTri f_Judge_sound 0 0 0 [(2, 8), (0, h), (0, p)] sh g (gR none sh (soM g h p)) := by
  refine gTri.of (by decide +kernel) rfl ?_
  show gWP f_Judge_sound _ _ _ 0 [(2, 8), (0, h), (0, p)] [] sh g _
  refine gw_aload_n (gc k_Judge_sound_0 0 rfl) rfl rfl ?_
  refine gw_getref (gc k_Judge_sound_0 1 rfl) fl_Judge_18 (gAt hx rfl rfl) (gRf hf rfl rfl) ?_
  refine gw_iconst (gc k_Judge_sound_0 2 rfl) ?_
  refine gw_iload_n (gc k_Judge_sound_0 3 rfl) rfl ?_
  refine gw_iastF (gc k_Judge_sound_0 4 rfl) (gAt hx rfl rfl) (by omega) hf rfl (fun hf => ?_)
  refine gw_aload_n (gc k_Judge_sound_0 5 rfl) rfl rfl ?_
  refine gw_getref (gc k_Judge_sound_0 6 rfl) fl_Judge_18 (gAt hx rfl rfl) (gRf hf rfl rfl) ?_
  refine gw_iconst (gc k_Judge_sound_0 7 rfl) ?_
  try simp (disch := omega) only [gup_s, gup_k, gup_a]
  refine gw_iload_n (gc k_Judge_sound_0 8 rfl) rfl ?_
  refine gw_aload_n (gc k_Judge_sound_0 9 rfl) rfl rfl ?_
  refine gw_getref (gc k_Judge_sound_0 10 rfl) fl_Judge_18 (gAt hx rfl rfl) (gRf hf rfl rfl) ?_
  refine gw_iconst (gc k_Judge_sound_0 11 rfl) ?_
  refine gw_iald (gc k_Judge_sound_0 12 rfl) (gAt hx rfl rfl) (by omega) ?_
  try simp (disch := omega) only [gup_s, gup_k, gup_a]
  refine gw_isub (gc k_Judge_sound_0 13 rfl) ?_
  refine gw_iastF (gc k_Judge_sound_0 14 rfl) (gAt hx rfl rfl) (by omega) hf rfl (fun hf => ?_)
  refine gw_aload_n (gc k_Judge_sound_0 15 rfl) rfl rfl ?_
  refine gw_getref (gc k_Judge_sound_0 16 rfl) fl_Judge_18 (gAt hx rfl rfl) (gRf hf rfl rfl) ?_
  refine gw_iconst (gc k_Judge_sound_0 17 rfl) ?_
  refine gw_join0 43 (fun v => v = if g 8 2 = 0 then p - g 8 3 else 0) (fun v26 hv26 => ?_) (fun kj26 => ?_)
  · subst hv26
    refine gw_iastF (gc k_Judge_sound_0 27 rfl) (gAt hx rfl rfl) (by omega) hf rfl (fun hf => ?_)
    refine gw_aload_n (gc k_Judge_sound_0 28 rfl) rfl rfl ?_
    refine gw_getref (gc k_Judge_sound_0 29 rfl) fl_Judge_18 (gAt hx rfl rfl) (gRf hf rfl rfl) ?_
    refine gw_iconst (gc k_Judge_sound_0 30 rfl) ?_
    refine gw_join0 63 (fun v => v = if g 8 2 = 0 then h - p else 0) (fun v49 hv49 => ?_) (fun kj49 => ?_)
    · subst hv49
      refine gw_iastF (gc k_Judge_sound_0 39 rfl) (gAt hx rfl rfl) (by omega) hf rfl (fun hf => ?_)
      refine gw_return (gc k_Judge_sound_1 0 rfl) rfl ?_
      exact ⟨rfl, rfl, rfl⟩
    · refine gw_aload_n (gc k_Judge_sound_0 31 rfl) rfl rfl ?_
      refine gw_getf 2 rfl (gc k_Judge_sound_0 32 rfl) fl_Judge_22 (gAt hx rfl rfl) ?_
      try simp (disch := omega) only [gup_s, gup_k, gup_a]
      refine gw_if_eq (tgt := 60) (gc k_Judge_sound_0 33 rfl) rfl (by omega) (fun c53 => ?_) (fun c53 => ?_)
      · refine gw_iload_n (gc k_Judge_sound_0 36 rfl) rfl ?_
        refine gw_iload_n (gc k_Judge_sound_0 37 rfl) rfl ?_
        refine gw_isub (gc k_Judge_sound_0 38 rfl) ?_
        exact kj49 _ ((by first | exact (if_pos c53).symm | exact (if_neg c53).symm))
      · refine gw_iconst (gc k_Judge_sound_0 34 rfl) ?_
        refine gw_goto (tgt := 63) (gc k_Judge_sound_0 35 rfl) rfl ?_
        exact kj49 _ ((by first | exact (if_pos c53).symm | exact (if_neg c53).symm))
  · refine gw_aload_n (gc k_Judge_sound_0 18 rfl) rfl rfl ?_
    refine gw_getf 2 rfl (gc k_Judge_sound_0 19 rfl) fl_Judge_22 (gAt hx rfl rfl) ?_
    try simp (disch := omega) only [gup_s, gup_k, gup_a]
    refine gw_if_eq (tgt := 37) (gc k_Judge_sound_0 20 rfl) rfl (by omega) (fun c30 => ?_) (fun c30 => ?_)
    · refine gw_iload_n (gc k_Judge_sound_0 23 rfl) rfl ?_
      refine gw_aload_n (gc k_Judge_sound_0 24 rfl) rfl rfl ?_
      refine gw_getf 3 rfl (gc k_Judge_sound_0 25 rfl) fl_Judge_31 (gAt hx rfl rfl) ?_
      try simp (disch := omega) only [gup_s, gup_k, gup_a]
      refine gw_isub (gc k_Judge_sound_0 26 rfl) ?_
      exact kj26 _ ((by first | exact (if_pos c30).symm | exact (if_neg c30).symm))
    · refine gw_iconst (gc k_Judge_sound_0 21 rfl) ?_
      refine gw_goto (tgt := 43) (gc k_Judge_sound_0 22 rfl) rfl ?_
      exact kj26 _ ((by first | exact (if_pos c30).symm | exact (if_neg c30).symm))
set_option maxHeartbeats 8000000 in
theorem c_Judge_told {sh : gS} (hx : gFix sh) {g : gM} (hf0 : gFin g) {a : Int} {L : List PC} (ha : lwX sh g a L) (hL : L.length ≤ 12) (hw : ∀ i, 0 ≤ i → i < 10 → bd9 (g 11 i)) (k : Int) (hk : 0 ≤ k ∧ k ≤ 2) : gTri f_Judge_told 3 0 0 [(2, 8), (2, a), (0, k)] sh g (fun x s2 g2 => x = some (0, tl (g 11) (k + 1) (topK k) (-1) L) ∧ s2 = sh ∧ mcF 9 g g2) := by
  have hf := hf0
  refine gTri.of (by decide +kernel) rfl ?_
  show gWP f_Judge_told _ _ _ 0 [(2, 8), (2, a), (0, k), (9, 0), (9, 0)] [] sh g _
  refine gw_join0 14 (fun v => v = (L.length : Int) - 1) (fun v0 hv0 => ?_) (fun kj0 => ?_)
  · subst hv0
    refine gw_istore_3 (gc k_Judge_told_0 8 rfl) rfl rfl ?_
    refine gwloop (σ := Int × gV × gM) (fun zs => (-1 ≤ (zs.1) ∧ (zs.1) < (L.length : Int)) ∧ tl (g 11) (k + 1) (topK k) (-1) L = tl (g 11) (k + 1) (topK k) (-1) (L.take ((zs.1) + 1).toNat) ∧ mcF 9 g (zs.2.2)) (fun zs => ((zs.1) + 1).toNat) (fun zs => [(2, 8), (2, a), (0, k), (0, (zs.1)), (zs.2.1)]) (fun zs => (zs.2.2)) (((L.length : Int) - 1), (9, 0), g) (show (-1 ≤ (((L.length : Int) - 1)) ∧ (((L.length : Int) - 1)) < (L.length : Int)) ∧ tl (g 11) (k + 1) (topK k) (-1) L = tl (g 11) (k + 1) (topK k) (-1) (L.take ((((L.length : Int) - 1)) + 1).toNat) ∧ mcF 9 g g from ⟨by omega, by rw [show ((L.length : Int) - 1 + 1).toNat = L.length by omega, List.take_length], mcF.rf 9 g⟩) rfl rfl (fun zs hI ih => ?_)
    obtain ⟨i, x4, g1⟩ := zs
    replace hI : (-1 ≤ i ∧ i < (L.length : Int)) ∧ tl (g 11) (k + 1) (topK k) (-1) L = tl (g 11) (k + 1) (topK k) (-1) (L.take (i + 1).toNat) ∧ mcF 9 g g1 := hI
    obtain ⟨hi, hT, hF⟩ := hI
    show gWP _ _ _ _ _ [(2, 8), (2, a), (0, k), (0, i), x4] [] _ (g1) _
    have hf := hF.fin (Or.inl rfl) hf0
    refine gw_iload_n (gc k_Judge_told_0 9 rfl) rfl ?_
    refine gw_if_lt (tgt := 119) (gc k_Judge_told_0 10 rfl) rfl (by omega) (fun c16 => ?_) (fun c16 => ?_)
    · refine gw_iconst (gc k_Judge_told_1 22 rfl) ?_
      refine gw_ireturn (gc k_Judge_told_1 23 rfl) rfl ?_
      refine ⟨?_, rfl, hF⟩
      rw [hT, show (i + 1).toNat = 0 by omega]
      rfl
    · obtain ⟨j, rfl⟩ : ∃ j : Nat, i = (j : Int) := ⟨i.toNat, by omega⟩
      have hjl : j < L.length := by omega
      obtain ⟨c, hc⟩ : ∃ c, L[j]? = some c := ⟨_, List.getElem?_eq_getElem hjl⟩
      have hcm : (L.map pcO)[j]? = some (pcO c) := by rw [List.getElem?_map, hc]; rfl
      have ht0 : txL 201 false sh g a (L.map pcO) := by
        rcases ha with ⟨-, z⟩ | z
        · rw [z] at hjl; exact absurd hjl (Nat.not_lt_zero _)
        · exact z
      have ht := ht0.ext (g2 := g1) (fun x y hx => hF x y (by omega))
      have htt := ht
      obtain ⟨N3, N5, N6, q1, q2, q3, q4, q5, q6, q7, q8, q9, q10, ⟨u, hu, q11⟩, q12⟩ := htt
      obtain ⟨t2, h1, h2, z1, z2, z3, z4, z5, z6, z7⟩ := tcL_at _ 0 0 u q11 j _ hcm
      rw [show (0 : Int) + (j : Int) = j by omega] at z1
      have z1 : g1 (g1 a 3) (j : Int) = c.1 - 1 := z1
      have hck := q12 _ (List.mem_of_getElem? hcm)
      have hck1 := hck.1
      rw [if_neg (by decide)] at hck1
      have hck1 : ((c.1 = 1 ∨ c.1 = 2) ∧ pcK false c.2.1 c.2.2.1) ∨ (c.1 = 3 ∧ c.2.1 = [] ∧ c.2.2.1 = fun _ => some 1) := hck1.2
      have hck2 : (c.2.2.2.1 = none ∧ c.2.2.2.2 = fun _ => some 1) ∨ ∃ k, c.2.2.2.1 = some k ∧ pcK false k c.2.2.2.2 ∧ trS c.2.2.2.2 := hck.2.2
      have hlm : ((L.map pcO).length : Int) = L.length := by rw [List.length_map]
      have hTc := tl_take (w := g 11) (h := k + 1) (top := topK k) (v := -1) hc
      rw [show ((j : Int) + 1).toNat = j + 1 by omega, hTc] at hT
      have hw1 : g1 11 = g 11 := hF.fn (by decide)
      refine gw_aload_n (gc k_Judge_told_0 11 rfl) rfl rfl ?_
      refine gw_getf 3 rfl (gc k_Judge_told_0 12 rfl) fl_Judge_46 q2 ?_
      refine gw_iload_n (gc k_Judge_told_0 13 rfl) rfl ?_
      refine gw_iald (gc k_Judge_told_0 14 rfl) q3 (by omega) ?_
      rw [z1]
      refine gw_iload_n (gc k_Judge_told_0 15 rfl) rfl ?_
      refine gw_icmp_eq (tgt := 32) (gc k_Judge_told_0 16 rfl) rfl (by omega) (fun c26 => ?_) (fun c26 => ?_)
      · refine gw_aload_n (gc k_Judge_told_0 18 rfl) rfl rfl ?_
        refine gw_iload_n (gc k_Judge_told_0 19 rfl) rfl ?_
        refine gw_cV1 (gc k_Judge_told_0 20 rfl) y_Text_hasTest ln_Judge_49 (c_ht hx hf ht j hcm) rfl rfl q2 rfl rfl ?_
        refine gw_beq (tgt := 61) (gc k_Judge_told_0 21 rfl) rfl (fun c37 => ?_) (fun c37 => ?_)
        · have hok : c.2.2.2.2 (g 11) = some 1 := by
            rcases hck2 with z | ⟨kk, z, -⟩
            · rw [z.2]
            · exact absurd (show (pcO c).2.2.2.2.2.2.1.isSome = true by show c.2.2.2.1.isSome = true; rw [z]; rfl) c37
          have hce : c.1 = k + 1 := by omega
          have hw2 : g1 11 = g 11 := hF.fn (by decide)
          rw [show tlC (g 11) (k + 1) (topK k) (tl (g 11) (k + 1) (topK k) (-1) (L.take j)) c = (match c.2.2.1 (g 11) with
              | none => tl (g 11) (k + 1) (topK k) (-1) (L.take j)
              | some x => if x < 0 then 0 else if topK k < x then topK k else x) from if_pos ⟨hce, hok⟩] at hT
          refine gw_iload_n (gc k_Judge_told_0 33 rfl) rfl ?_
          refine gw_iconst (gc k_Judge_told_0 34 rfl) ?_
          refine gw_icmp_ne (tgt := 68) (gc k_Judge_told_0 35 rfl) rfl (by omega) (fun c63 => ?_) (fun c63 => ?_)
          · have hsk : pcK false c.2.1 c.2.2.1 := by
              rcases hck1 with z | z
              · exact z.2
              · exfalso; omega
            refine gw_aload_n (gc k_Judge_told_0 38 rfl) rfl rfl ?_
            refine gw_getref (gc k_Judge_told_0 39 rfl) fl_Judge_12 (gAt hx rfl rfl) (gRf hf rfl rfl) ?_
            refine gw_aload_n (gc k_Judge_told_1 0 rfl) rfl rfl ?_
            refine gw_iload_n (gc k_Judge_told_1 1 rfl) rfl ?_
            refine gw_iconst (gc k_Judge_told_1 2 rfl) ?_
            refine gw_aload_n (gc k_Judge_told_1 3 rfl) rfl rfl ?_
            refine gw_getref (gc k_Judge_told_1 4 rfl) fl_Judge_18 (gAt hx rfl rfl) (gRf hf rfl rfl) ?_
            refine gw_xV1 (gc k_Judge_told_1 5 rfl) y_Machine_workOut ln_Judge_53 (c_wo hx hf (Or.inl rfl) (ht0.ext (g2 := g1) (fun x y hx => hF x y (by omega))) (by decide) (gAt hx rfl rfl) (by decide) (by decide) (by decide) (fun y ya yb => by rw [hw2]; exact hw y ya yb) j hcm 0 hsk (Or.inl ⟨rfl, rfl⟩)) rfl rfl (gAt hx rfl rfl) rfl rfl (fun r79 sh2 g79 hq79 => ?_)
            obtain ⟨rfl, rfl, hF3, hbd3⟩ := hq79
            rw [hw2] at hbd3 ⊢
            have hF79 := hF.tr hF3
            have hf := hF79.fin (Or.inl rfl) hf0
            refine gw_istore_4 (gc k_Judge_told_1 6 rfl) rfl rfl ?_
            obtain ⟨y, hy⟩ : ∃ y, y = c.2.2.1 (g 11) := ⟨_, rfl⟩
            have hyr : -2147483648 ≤ brK (c.2.2.1 (g 11)) ∧ brK (c.2.2.1 (g 11)) ≤ 1000000000 := by
              cases hz : c.2.2.1 (g 11) with
              | none => exact ⟨by decide, by decide⟩
              | some v => have := hbd3 v hz; unfold bd9 at this; exact ⟨by show _ ≤ v; omega, this.2⟩
            refine gw_iload (gc k_Judge_told_1 7 rfl) rfl ?_
            refine gw_ldc (gc k_Judge_told_1 8 rfl) cn_Judge_57 ?_
            refine gw_icmp_eq (tgt := 113) (gc k_Judge_told_1 9 rfl) rfl (by omega) (fun c88 => ?_) (fun c88 => ?_)
            · have hsn : c.2.2.1 (g 11) = none := by
                cases hz : c.2.2.1 (g 11) with
                | none => rfl
                | some v => exfalso; have := hbd3 v hz; unfold bd9 at this; rw [hz] at c88; have c88 : v = -2000000000 := c88; omega
              refine gw_iinc_3 (gc k_Judge_told_1 20 rfl) rfl rfl ?_
              refine gw_goto (tgt := 15) (gc k_Judge_told_1 21 rfl) rfl ?_
              have hlt : ((j : Int) + -1 + 1).toNat < ((j : Int) + 1).toNat := by omega
              have hnew : (-1 ≤ (j : Int) + -1 ∧ (j : Int) + -1 < (L.length : Int)) ∧ tl (g 11) (k + 1) (topK k) (-1) L = tl (g 11) (k + 1) (topK k) (-1) (L.take ((j : Int) + -1 + 1).toNat) ∧ mcF 9 g g79 := ⟨by omega, by
                rw [show ((j : Int) + -1 + 1).toNat = j by omega, hT]
                rw [hsn], hF79⟩
              exact ih ((j : Int) + -1, _, g79) hnew hlt
            · obtain ⟨v, hz⟩ : ∃ v, c.2.2.1 (g 11) = some v := by
                cases hz : c.2.2.1 (g 11) with
                | none => rw [hz] at c88; exact absurd rfl c88
                | some v => exact ⟨v, rfl⟩
              have hvb := hbd3 v hz
              unfold bd9 at hvb
              rw [hz] at hT ⊢
              have hT : tl (g 11) (k + 1) (topK k) (-1) L = if v < 0 then 0 else if topK k < v then topK k else v := hT
              rw [show brK (some v) = v from rfl]
              refine gw_iconst (gc k_Judge_told_1 10 rfl) ?_
              refine gw_iload (gc k_Judge_told_1 11 rfl) rfl ?_
              refine gw_join0 106 (fun v => v = if k = 0 then 999 else 99) (fun v94 hv94 => ?_) (fun kj94 => ?_)
              · subst hv94
                refine gw_mmin (gc k_Judge_told_1 17 rfl) y_Math_min ln_Judge_58 (by split <;> omega) rfl rfl ?_
                refine gw_mmax (gc k_Judge_told_1 18 rfl) y_Math_max ln_Judge_64 (by repeat' split; all_goals omega) rfl rfl ?_
                refine gw_ireturn (gc k_Judge_told_1 19 rfl) rfl ?_
                refine ⟨gsi ?_, rfl, hF79⟩
                rw [hT]
                unfold topK
                repeat' split
                all_goals omega
              · refine gw_iload_n (gc k_Judge_told_1 12 rfl) rfl ?_
                refine gw_if_ne (tgt := 104) (gc k_Judge_told_1 13 rfl) rfl (by omega) (fun c95 => ?_) (fun c95 => ?_)
                · refine gw_bipush (gc k_Judge_told_1 16 rfl) (by decide) ?_
                  exact kj94 _ ((by first | exact (if_pos c95).symm | exact (if_neg c95).symm))
                · refine gw_sipush (gc k_Judge_told_1 14 rfl) (by decide) ?_
                  refine gw_goto (tgt := 106) (gc k_Judge_told_1 15 rfl) rfl ?_
                  exact kj94 _ ((by first | exact (if_pos c95).symm | exact (if_neg c95).symm))
          · refine gw_iconst (gc k_Judge_told_0 36 rfl) ?_
            refine gw_ireturn (gc k_Judge_told_0 37 rfl) rfl ?_
            refine ⟨?_, rfl, hF⟩
            rw [hT]
            rcases hck1 with z | z
            · exfalso; omega
            · rw [z.2.2]; unfold topK; obtain rfl : k = 2 := by omega
              rfl
        · obtain ⟨kk, hks, hpk⟩ : ∃ kk, c.2.2.2.1 = some kk ∧ pcK false kk c.2.2.2.2 := by
            rcases hck2 with z | ⟨kk, z, z2, -⟩
            · exfalso
              have c37 : c.2.2.2.1.isSome = true := c37
              rw [z.1] at c37; cases c37
            · exact ⟨kk, z, z2⟩
          refine gw_aload_n (gc k_Judge_told_0 22 rfl) rfl rfl ?_
          refine gw_getref (gc k_Judge_told_0 23 rfl) fl_Judge_12 (gAt hx rfl rfl) (gRf hf rfl rfl) ?_
          refine gw_aload_n (gc k_Judge_told_0 24 rfl) rfl rfl ?_
          refine gw_iload_n (gc k_Judge_told_0 25 rfl) rfl ?_
          refine gw_iconst (gc k_Judge_told_0 26 rfl) ?_
          refine gw_aload_n (gc k_Judge_told_0 27 rfl) rfl rfl ?_
          refine gw_getref (gc k_Judge_told_0 28 rfl) fl_Judge_18 (gAt hx rfl rfl) (gRf hf rfl rfl) ?_
          refine gw_xV1 (gc k_Judge_told_0 29 rfl) y_Machine_workOut ln_Judge_53 (c_wo hx hf (Or.inl rfl) ht (by decide) (gAt hx rfl rfl) (by decide) (by decide) (by decide) (fun y ya yb => by rw [hw1]; exact hw y ya yb) j hcm 2 hpk (Or.inr (Or.inr ⟨rfl, hks⟩))) rfl rfl (gAt hx rfl rfl) rfl rfl (fun r51 sh2 g51 hq51 => ?_)
          obtain ⟨rfl, rfl, hF2, hbd⟩ := hq51
          rw [hw1] at hbd ⊢
          have hF51 := hF.tr hF2
          have hf := hF51.fin (Or.inl rfl) hf0
          have hvr : -2147483648 ≤ brK (c.2.2.2.2 (g 11)) ∧ brK (c.2.2.2.2 (g 11)) ≤ 1000000000 := by
            cases hz : c.2.2.2.2 (g 11) with
            | none => exact ⟨by decide, by decide⟩
            | some v => have := hbd v hz; unfold bd9 at this; exact ⟨by show _ ≤ v; omega, this.2⟩
          refine gw_iconst (gc k_Judge_told_0 30 rfl) ?_
          refine gw_icmp_eq (tgt := 61) (gc k_Judge_told_0 31 rfl) rfl (by omega) (fun c55 => ?_) (fun c55 => ?_)
          · have hok : c.2.2.2.2 (g 11) = some 1 := by
              cases hz : c.2.2.2.2 (g 11) with
              | none => rw [hz] at c55; exact absurd c55 (by decide)
              | some v => rw [hz] at c55; exact congrArg some c55
            have hce : c.1 = k + 1 := by omega
            have hw2 : g51 11 = g 11 := hF51.fn (by decide)
            rw [show tlC (g 11) (k + 1) (topK k) (tl (g 11) (k + 1) (topK k) (-1) (L.take j)) c = (match c.2.2.1 (g 11) with
                | none => tl (g 11) (k + 1) (topK k) (-1) (L.take j)
                | some x => if x < 0 then 0 else if topK k < x then topK k else x) from if_pos ⟨hce, hok⟩] at hT
            refine gw_iload_n (gc k_Judge_told_0 33 rfl) rfl ?_
            refine gw_iconst (gc k_Judge_told_0 34 rfl) ?_
            refine gw_icmp_ne (tgt := 68) (gc k_Judge_told_0 35 rfl) rfl (by omega) (fun c63 => ?_) (fun c63 => ?_)
            · have hsk : pcK false c.2.1 c.2.2.1 := by
                rcases hck1 with z | z
                · exact z.2
                · exfalso; omega
              refine gw_aload_n (gc k_Judge_told_0 38 rfl) rfl rfl ?_
              refine gw_getref (gc k_Judge_told_0 39 rfl) fl_Judge_12 (gAt hx rfl rfl) (gRf hf rfl rfl) ?_
              refine gw_aload_n (gc k_Judge_told_1 0 rfl) rfl rfl ?_
              refine gw_iload_n (gc k_Judge_told_1 1 rfl) rfl ?_
              refine gw_iconst (gc k_Judge_told_1 2 rfl) ?_
              refine gw_aload_n (gc k_Judge_told_1 3 rfl) rfl rfl ?_
              refine gw_getref (gc k_Judge_told_1 4 rfl) fl_Judge_18 (gAt hx rfl rfl) (gRf hf rfl rfl) ?_
              refine gw_xV1 (gc k_Judge_told_1 5 rfl) y_Machine_workOut ln_Judge_53 (c_wo hx hf (Or.inl rfl) (ht0.ext (g2 := g51) (fun x y hx => hF51 x y (by omega))) (by decide) (gAt hx rfl rfl) (by decide) (by decide) (by decide) (fun y ya yb => by rw [hw2]; exact hw y ya yb) j hcm 0 hsk (Or.inl ⟨rfl, rfl⟩)) rfl rfl (gAt hx rfl rfl) rfl rfl (fun r79 sh2 g79 hq79 => ?_)
              obtain ⟨rfl, rfl, hF3, hbd3⟩ := hq79
              rw [hw2] at hbd3 ⊢
              have hF79 := hF51.tr hF3
              have hf := hF79.fin (Or.inl rfl) hf0
              refine gw_istore_4 (gc k_Judge_told_1 6 rfl) rfl rfl ?_
              obtain ⟨y, hy⟩ : ∃ y, y = c.2.2.1 (g 11) := ⟨_, rfl⟩
              have hyr : -2147483648 ≤ brK (c.2.2.1 (g 11)) ∧ brK (c.2.2.1 (g 11)) ≤ 1000000000 := by
                cases hz : c.2.2.1 (g 11) with
                | none => exact ⟨by decide, by decide⟩
                | some v => have := hbd3 v hz; unfold bd9 at this; exact ⟨by show _ ≤ v; omega, this.2⟩
              refine gw_iload (gc k_Judge_told_1 7 rfl) rfl ?_
              refine gw_ldc (gc k_Judge_told_1 8 rfl) cn_Judge_57 ?_
              refine gw_icmp_eq (tgt := 113) (gc k_Judge_told_1 9 rfl) rfl (by omega) (fun c88 => ?_) (fun c88 => ?_)
              · have hsn : c.2.2.1 (g 11) = none := by
                  cases hz : c.2.2.1 (g 11) with
                  | none => rfl
                  | some v => exfalso; have := hbd3 v hz; unfold bd9 at this; rw [hz] at c88; have c88 : v = -2000000000 := c88; omega
                refine gw_iinc_3 (gc k_Judge_told_1 20 rfl) rfl rfl ?_
                refine gw_goto (tgt := 15) (gc k_Judge_told_1 21 rfl) rfl ?_
                have hlt : ((j : Int) + -1 + 1).toNat < ((j : Int) + 1).toNat := by omega
                have hnew : (-1 ≤ (j : Int) + -1 ∧ (j : Int) + -1 < (L.length : Int)) ∧ tl (g 11) (k + 1) (topK k) (-1) L = tl (g 11) (k + 1) (topK k) (-1) (L.take ((j : Int) + -1 + 1).toNat) ∧ mcF 9 g g79 := ⟨by omega, by
                  rw [show ((j : Int) + -1 + 1).toNat = j by omega, hT]
                  rw [hsn], hF79⟩
                exact ih ((j : Int) + -1, _, g79) hnew hlt
              · obtain ⟨v, hz⟩ : ∃ v, c.2.2.1 (g 11) = some v := by
                  cases hz : c.2.2.1 (g 11) with
                  | none => rw [hz] at c88; exact absurd rfl c88
                  | some v => exact ⟨v, rfl⟩
                have hvb := hbd3 v hz
                unfold bd9 at hvb
                rw [hz] at hT ⊢
                have hT : tl (g 11) (k + 1) (topK k) (-1) L = if v < 0 then 0 else if topK k < v then topK k else v := hT
                rw [show brK (some v) = v from rfl]
                refine gw_iconst (gc k_Judge_told_1 10 rfl) ?_
                refine gw_iload (gc k_Judge_told_1 11 rfl) rfl ?_
                refine gw_join0 106 (fun v => v = if k = 0 then 999 else 99) (fun v94 hv94 => ?_) (fun kj94 => ?_)
                · subst hv94
                  refine gw_mmin (gc k_Judge_told_1 17 rfl) y_Math_min ln_Judge_58 (by split <;> omega) rfl rfl ?_
                  refine gw_mmax (gc k_Judge_told_1 18 rfl) y_Math_max ln_Judge_64 (by repeat' split; all_goals omega) rfl rfl ?_
                  refine gw_ireturn (gc k_Judge_told_1 19 rfl) rfl ?_
                  refine ⟨gsi ?_, rfl, hF79⟩
                  rw [hT]
                  unfold topK
                  repeat' split
                  all_goals omega
                · refine gw_iload_n (gc k_Judge_told_1 12 rfl) rfl ?_
                  refine gw_if_ne (tgt := 104) (gc k_Judge_told_1 13 rfl) rfl (by omega) (fun c95 => ?_) (fun c95 => ?_)
                  · refine gw_bipush (gc k_Judge_told_1 16 rfl) (by decide) ?_
                    exact kj94 _ ((by first | exact (if_pos c95).symm | exact (if_neg c95).symm))
                  · refine gw_sipush (gc k_Judge_told_1 14 rfl) (by decide) ?_
                    refine gw_goto (tgt := 106) (gc k_Judge_told_1 15 rfl) rfl ?_
                    exact kj94 _ ((by first | exact (if_pos c95).symm | exact (if_neg c95).symm))
            · refine gw_iconst (gc k_Judge_told_0 36 rfl) ?_
              refine gw_ireturn (gc k_Judge_told_0 37 rfl) rfl ?_
              refine ⟨?_, rfl, hF51⟩
              rw [hT]
              rcases hck1 with z | z
              · exfalso; omega
              · rw [z.2.2]; unfold topK; obtain rfl : k = 2 := by omega
                rfl
          · have hno : ¬ c.2.2.2.2 (g 11) = some 1 := fun z => c55 (by rw [z]; rfl)
            refine gw_goto (tgt := 113) (gc k_Judge_told_0 32 rfl) rfl ?_
            refine gw_iinc_3 (gc k_Judge_told_1 20 rfl) rfl rfl ?_
            refine gw_goto (tgt := 15) (gc k_Judge_told_1 21 rfl) rfl ?_
            have hlt : ((j : Int) + -1 + 1).toNat < ((j : Int) + 1).toNat := by omega
            have hnew : (-1 ≤ (j : Int) + -1 ∧ (j : Int) + -1 < (L.length : Int)) ∧ tl (g 11) (k + 1) (topK k) (-1) L = tl (g 11) (k + 1) (topK k) (-1) (L.take ((j : Int) + -1 + 1).toNat) ∧ mcF 9 g g51 := ⟨by omega, by
              rw [show ((j : Int) + -1 + 1).toNat = j by omega, hT]
              unfold tlC; rw [if_neg (fun z => hno z.2)], hF51⟩
            exact ih ((j : Int) + -1, x4, g51) hnew hlt
      · refine gw_goto (tgt := 113) (gc k_Judge_told_0 17 rfl) rfl ?_
        refine gw_iinc_3 (gc k_Judge_told_1 20 rfl) rfl rfl ?_
        refine gw_goto (tgt := 15) (gc k_Judge_told_1 21 rfl) rfl ?_
        have hlt : ((j : Int) + -1 + 1).toNat < ((j : Int) + 1).toNat := by omega
        have hnew : (-1 ≤ (j : Int) + -1 ∧ (j : Int) + -1 < (L.length : Int)) ∧ tl (g 11) (k + 1) (topK k) (-1) L = tl (g 11) (k + 1) (topK k) (-1) (L.take ((j : Int) + -1 + 1).toNat) ∧ mcF 9 g g1 := ⟨by omega, by
          rw [show ((j : Int) + -1 + 1).toNat = j by omega, hT]
          unfold tlC; rw [if_neg (fun z => c26 (by have := z.1; omega))], hF⟩
        exact ih ((j : Int) + -1, x4, g1) hnew hlt
  · refine gw_aload_n (gc k_Judge_told_0 0 rfl) rfl rfl ?_
    refine gw_ifnonnull (tgt := 8) (gc k_Judge_told_0 1 rfl) rfl  (fun c1 => ?_) (fun c1 => ?_)
    · have ht9 : txL 201 false sh g a (L.map pcO) := by
        rcases ha with ⟨z, -⟩ | z
        · omega
        · exact z
      have ht8 := ht9
      obtain ⟨N3, N5, N6, q1, q2, q3, q4, q5, q6, q7, q8, q9, q10⟩ := ht9
      refine gw_aload_n (gc k_Judge_told_0 4 rfl) rfl rfl ?_
      refine gw_getf 0 rfl (gc k_Judge_told_0 5 rfl) fl_Judge_41 q2 ?_
      have hv0 : g a 0 - 1 = (L.length : Int) - 1 := by rw [q9, List.length_map]
      refine gw_iconst (gc k_Judge_told_0 6 rfl) ?_
      refine gw_isub (gc k_Judge_told_0 7 rfl) ?_
      exact kj0 _ (hv0)
    · have hv0 : (-1 : Int) = (L.length : Int) - 1 := by
        rcases ha with ⟨-, z⟩ | z
        · rw [z]; rfl
        · exfalso; obtain ⟨N3, N5, N6, q1, -⟩ := z; omega
      refine gw_iconst (gc k_Judge_told_0 2 rfl) ?_
      refine gw_goto (tgt := 14) (gc k_Judge_told_0 3 rfl) rfl ?_
      exact kj0 _ (hv0)
set_option maxHeartbeats 1000000 in
theorem c_Judge_orElse {sh : gS} {g : gM} (hx : gFix sh) (hf : gFin g) (t k : Int) (ht : (-2147483648 ≤ t ∧ t ≤ 2147483647)) (hk : 0 ≤ k ∧ k ≤ 2) (h5 : -1000 ≤ g 11 5 ∧ g 11 5 ≤ 1000) : gTri f_Judge_orElse 3 0 0 [(2, 8), (0, t), (0, k)] sh g (gR (some (0, if t = -1 then (if k = 0 then (if g 11 5 < 0 then -(g 11 5) else g 11 5) else if k = 1 then 1 else 0) else t)) sh g) := by
  refine gTri.of (by decide +kernel) rfl ?_
  show gWP f_Judge_orElse _ _ _ 0 [(2, 8), (0, t), (0, k)] [] sh g _
  refine gw_iload_n (gc k_Judge_orElse_0 0 rfl) rfl ?_
  refine gw_iconst (gc k_Judge_orElse_0 1 rfl) ?_
  refine gw_icmp_eq (tgt := 7) (gc k_Judge_orElse_0 2 rfl) rfl (by omega) (fun c2 => ?_) (fun c2 => ?_)
  · refine gw_iload_n (gc k_Judge_orElse_0 5 rfl) rfl ?_
    refine gw_if_ne (tgt := 21) (gc k_Judge_orElse_0 6 rfl) rfl (by omega) (fun c8 => ?_) (fun c8 => ?_)
    · refine gw_iload_n (gc k_Judge_orElse_0 13 rfl) rfl ?_
      refine gw_iconst (gc k_Judge_orElse_0 14 rfl) ?_
      refine gw_icmp_ne (tgt := 30) (gc k_Judge_orElse_0 15 rfl) rfl (by omega) (fun c23 => ?_) (fun c23 => ?_)
      · refine gw_iconst (gc k_Judge_orElse_0 18 rfl) ?_
        refine gw_ireturn (gc k_Judge_orElse_0 19 rfl) rfl ?_
        refine ⟨gsi ?_, rfl, rfl⟩
        rw [if_pos (show t = -1 by omega)]
        (repeat' split) <;> omega
      · refine gw_iconst (gc k_Judge_orElse_0 16 rfl) ?_
        refine gw_goto (tgt := 31) (gc k_Judge_orElse_0 17 rfl) rfl ?_
        refine gw_ireturn (gc k_Judge_orElse_0 19 rfl) rfl ?_
        refine ⟨gsi ?_, rfl, rfl⟩
        rw [if_pos (show t = -1 by omega)]
        (repeat' split) <;> omega
    · refine gw_aload_n (gc k_Judge_orElse_0 7 rfl) rfl rfl ?_
      refine gw_getref (gc k_Judge_orElse_0 8 rfl) fl_Judge_18 (gAt hx rfl rfl) (gRf hf rfl rfl) ?_
      refine gw_iconst (gc k_Judge_orElse_0 9 rfl) ?_
      refine gw_iald (gc k_Judge_orElse_0 10 rfl) (gAt hx rfl rfl) (by omega) ?_
      refine gw_mabs (gc k_Judge_orElse_0 11 rfl) y_Math_abs ln_Judge_67 (by omega) rfl rfl ?_
      refine gw_ireturn (gc k_Judge_orElse_0 12 rfl) rfl ?_
      refine ⟨gsi ?_, rfl, rfl⟩
      rw [if_pos (show t = -1 by omega)]
      (repeat' split) <;> omega
  · refine gw_iload_n (gc k_Judge_orElse_0 3 rfl) rfl ?_
    refine gw_ireturn (gc k_Judge_orElse_0 4 rfl) rfl ?_
    exact ⟨gsi (if_neg c2).symm, rfl, rfl⟩
