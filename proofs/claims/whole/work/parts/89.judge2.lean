/-! ===== the judge and a row ===== -/
theorem ex_congr {w w2 : Int → Int} : ∀ (c : PK) (k : Nat) (st : List Int), (∀ x ∈ c, x.1 = 1 → w x.2 = w2 x.2) → ex w c k st = ex w2 c k st
  | [], k, st, _ => by rw [ex_nil, ex_nil]
  | _ :: c, k + 1, st, h => ex_congr c k st (fun x hx => h x (List.mem_cons_of_mem _ hx))
  | (op, x) :: c, 0, st, h => by
    have hc : ∀ k st, ex w c k st = ex w2 c k st := fun k st => ex_congr c k st (fun x hx => h x (List.mem_cons_of_mem _ hx))
    have h0 := h (op, x) List.mem_cons_self
    unfold ex
    by_cases z0 : op = 0
    · rw [if_pos z0, if_pos z0, hc]
    · rw [if_neg z0, if_neg z0]
      by_cases z1 : op = 1
      · rw [if_pos z1, if_pos z1, hc, h0 z1]
      · rw [if_neg z1, if_neg z1]
        match st with
        | [] => rfl
        | a :: s1 => simp only [hc]
theorem pcK.congr {o : Bool} {c : PK} {s : PS} (h : pcK o c s) {w w2 : Int → Int} (hw : ∀ x ∈ c, x.1 = 1 → w x.2 = w2 x.2) : s w = s w2 := by
  obtain ⟨m, -, -, -, -, d⟩ := h
  have h1 := d w [] []
  have h2 := d w2 [] []
  rw [List.append_nil] at h1 h2
  rw [ex_congr c 0 [] hw, h2] at h1
  cases e1 : s w with
  | none =>
    rw [e1] at h1
    cases e2 : s w2 with
    | none => rfl
    | some v => rw [e2] at h1; cases h1
  | some v =>
    rw [e1] at h1
    cases e2 : s w2 with
    | none => rw [e2] at h1; cases h1
    | some v2 => rw [e2] at h1; cases h1; rfl
theorem pcK.ops {o : Bool} {c : PK} {s : PS} (h : pcK o c s) : ∀ x ∈ c, opOK o x := by
  obtain ⟨m, -, -, d, -⟩ := h
  exact d
theorem opOK.wd {x : Int × Int} (h : opOK false x) (h1 : x.1 = 1) : 0 ≤ x.2 ∧ x.2 < 10 := by
  rcases h with z | z | z
  · have := z.1; omega
  · exact z.2
  · have := z.1; omega
theorem tl_congr {w w2 : Int → Int} {h top : Int} : ∀ (L : List PC) (v : Int), (∀ c ∈ L, clK false (pcO c)) → (∀ c ∈ L, ∀ x ∈ ocK (pcO c), x.1 = 1 → w x.2 = w2 x.2) → tl w h top v L = tl w2 h top v L
  | [], _, _, _ => rfl
  | c :: R, v, hk, hw => by
    show tl w h top (tlC w h top v c) R = tl w2 h top (tlC w2 h top v c) R
    have hck := hk c List.mem_cons_self
    have hwc := hw c List.mem_cons_self
    have e : tlC w h top v c = tlC w2 h top v c := by
      have h1 : c.2.2.1 w = c.2.2.1 w2 := by
        have q := hck.1
        rw [if_neg (by decide)] at q
        have q : ((c.1 = 1 ∨ c.1 = 2) ∧ pcK false c.2.1 c.2.2.1) ∨ (c.1 = 3 ∧ c.2.1 = [] ∧ c.2.2.1 = fun _ => some 1) := q.2
        rcases q with z | z
        · exact z.2.congr (fun x hx => hwc x (List.mem_append_left _ (List.mem_append_left _ hx)))
        · rw [z.2.2]
      have h2 : c.2.2.2.2 w = c.2.2.2.2 w2 := by
        have q : (c.2.2.2.1 = none ∧ c.2.2.2.2 = fun _ => some 1) ∨ ∃ k, c.2.2.2.1 = some k ∧ pcK false k c.2.2.2.2 ∧ trS c.2.2.2.2 := hck.2.2
        rcases q with z | ⟨k, z, z2, -⟩
        · rw [z.2]
        · exact z2.congr (fun x hx => hwc x (List.mem_append_right _ (by show x ∈ c.2.2.2.1.getD []; rw [z]; exact hx)))
      unfold tlC
      rw [h1, h2]
    rw [e]
    exact tl_congr R _ (fun d hd => hk d (List.mem_cons_of_mem _ hd)) (fun d hd => hw d (List.mem_cons_of_mem _ hd))
theorem ocK.ops {c : PC} (h : clK false (pcO c)) : ∀ x ∈ ocK (pcO c), opOK false x := by
  intro x hx
  have q := h.1
  rw [if_neg (by decide)] at q
  have q : ((c.1 = 1 ∨ c.1 = 2) ∧ pcK false c.2.1 c.2.2.1) ∨ (c.1 = 3 ∧ c.2.1 = [] ∧ c.2.2.1 = fun _ => some 1) := q.2
  have q2 : (c.2.2.2.1 = none ∧ c.2.2.2.2 = fun _ => some 1) ∨ ∃ k, c.2.2.2.1 = some k ∧ pcK false k c.2.2.2.2 ∧ trS c.2.2.2.2 := h.2.2
  rcases List.mem_append.mp (show x ∈ (c.2.1 ++ []) ++ c.2.2.2.1.getD [] from hx) with z | z
  · rw [List.append_nil] at z
    rcases q with y | y
    · exact y.2.ops x z
    · rw [y.2.1] at z; cases z
  · rcases q2 with y | ⟨k, y, y2, -⟩
    · rw [y.1] at z; cases z
    · rw [y] at z; exact y2.ops x z
theorem tl_w10 {w w2 : Int → Int} {h top v : Int} {L : List PC} (hk : ∀ c ∈ L, clK false (pcO c)) (hw : ∀ i, 0 ≤ i → i < 10 → w i = w2 i) : tl w h top v L = tl w2 h top v L := tl_congr L v hk (fun c hc x hx h1 => by
  have := (ocK.ops (hk c hc) x hx).wd h1
  exact hw _ this.1 this.2)
/-- barred or not -/
theorem tl_bar {w : Int → Int} : ∀ (L : List PC) (v : Int), (∀ c ∈ L, clK false (pcO c)) → tl w 3 1 v L = v ∨ tl w 3 1 v L = 1
  | [], _, _ => Or.inl rfl
  | c :: R, v, hk => by
    show tl w 3 1 (tlC w 3 1 v c) R = v ∨ tl w 3 1 (tlC w 3 1 v c) R = 1
    have e : tlC w 3 1 v c = v ∨ tlC w 3 1 v c = 1 := by
      have q := (hk c List.mem_cons_self).1
      rw [if_neg (by decide)] at q
      have q : ((c.1 = 1 ∨ c.1 = 2) ∧ pcK false c.2.1 c.2.2.1) ∨ (c.1 = 3 ∧ c.2.1 = [] ∧ c.2.2.1 = fun _ => some 1) := q.2
      unfold tlC
      split
      · next z =>
        right
        rcases q with y | y
        · omega
        · rw [y.2.2]; rfl
      · exact Or.inl rfl
    have hr := tl_bar (w := w) R (tlC w 3 1 v c) (fun d hd => hk d (List.mem_cons_of_mem _ hd))
    rcases hr with z | z
    · rw [z]; exact e
    · exact Or.inr z
/-- what the judge makes of a law and what is asked -/
def jN (r W : Int → Int) (k : Int) : Int := if k = 0 then tlR r W 1 999 (if W 5 < 0 then -(W 5) else W 5) else if k = 1 then tlR r W 2 99 1 else bi (tlR r W 3 1 0 = 1)
theorem allV_j (r : Int → Int) (k n : Int) : allV r k n = jN r (nowW r n) k := by
  have e : nowW r n 5 = leapN r n := by
    show (if 0 < n then r n - (if 0 < n then r (n - 1) else 0) else 0) = _
    unfold leapN
    by_cases z : 0 < n
    · rw [if_pos z, if_pos z, if_pos z]
    · rw [if_neg z, if_neg z]
  unfold allV jN costN earnN barN
  rw [e]
/-- a board holds what a row tells, and its laws say what the row's say; Λ: what the law object at an address says -/
def bdX (Λ : Int → List PC) (sh : gS) (r : Int → Int) (g : gM) (b : Int) : Prop := (rowOK r ∧ Λ (-1) = []) ∧ bdR r g b ∧ ∀ i, 0 ≤ i → i < r 43 → rLaw r i = .inr (Λ (g (b + 6) i)) ∧ txL 201 false sh g (g (b + 6) i) ((Λ (g (b + 6) i)).map pcO)
theorem bdX.of {Λ : Int → List PC} {sh : gS} {r : Int → Int} {g g2 : gM} {b : Int} (h : bdX Λ sh r g b) (he : ∀ a k, (b ≤ a ∧ a ≤ b + 6) ∨ 201 ≤ a → g2 a k = g a k) : bdX Λ sh r g2 b := by
  refine ⟨h.1, h.2.1.of (fun a k h1 h2 => he a k (Or.inl ⟨h1, by omega⟩)), fun i h1 h2 => ?_⟩
  rw [he _ _ (Or.inl ⟨by omega, by omega⟩)]
  exact ⟨(h.2.2 i h1 h2).1, (h.2.2 i h1 h2).2.ext (fun x k hx => he x k (Or.inr hx))⟩
theorem bdX.jg {Λ : Int → List PC} {sh : gS} {r : Int → Int} {g g2 : gM} {b : Int} (hb : isBd b) (h : bdX Λ sh r g b) (hj : jgF g g2) : bdX Λ sh r g2 b := h.of (fun a k ha => hj a k (by unfold isBd at hb; omega) (by unfold isBd at hb; omega) (by unfold isBd at hb; omega))
theorem bdX.nums {Λ : Int → List PC} {sh : gS} {r : Int → Int} {g : gM} {b : Int} (h : bdX Λ sh r g b) : (g b 0 = r 41 ∧ 0 ≤ r 41 ∧ r 41 ≤ 12) ∧ (g b 4 = r 42 ∧ 0 ≤ r 42 ∧ r 42 ≤ 6) ∧ (g b 7 = r 43 ∧ 0 ≤ r 43 ∧ r 43 ≤ 6) ∧ (g b 9 = r 44 ∧ -1 ≤ r 44 ∧ r 44 ≤ 6) := by
  obtain ⟨⟨ho, -⟩, hR, -⟩ := h
  obtain ⟨q1, q2, q3, q4, q5, q6, q7, q8, q9, q10, -⟩ := ho
  exact ⟨⟨hR.1, q1⟩, ⟨hR.2.1, q8⟩, ⟨hR.2.2.1, q9⟩, hR.2.2.2.1, by omega, by omega⟩
theorem bdX.note {Λ : Int → List PC} {sh : gS} {r : Int → Int} {g : gM} {b : Int} (h : bdX Λ sh r g b) {i : Int} (hi : 0 ≤ i ∧ i < r 41) : (g (b + 1) i = r (12 + i) ∧ 0 ≤ r (12 + i) ∧ r (12 + i) ≤ 24) ∧ g (b + 2) i = r i ∧ 0 ≤ r i ∧ r i ≤ 24 := by
  have h1 := h.2.1.2.2.2.2.1 i hi.1 hi.2
  have h2 := h.nums.1
  exact ⟨⟨h1.1, ro_pitch h.1.1 (12 + i) (by omega)⟩, h1.2, ro_pitch h.1.1 i (by omega)⟩
/-- the law in force -/
theorem bdX.law {Λ : Int → List PC} {sh : gS} {r : Int → Int} {g : gM} {b : Int} (h : bdX Λ sh r g b) : lwX sh g (bdF g b) (Λ (bdF g b)) ∧ (Λ (bdF g b)).length ≤ 12 ∧ (∀ c ∈ Λ (bdF g b), clK false (pcO c)) ∧ ∀ w k top df, tlR r w k top df = tl w k top df (Λ (bdF g b)) := by
  have hn := h.nums
  have ho := h.1.1.2.2.2.2.2.2.2.2.2.1
  unfold bdF
  rw [hn.2.2.2.1, hn.2.2.1.1]
  by_cases z : 0 ≤ r 44 ∧ r 44 < r 43
  · rw [if_pos z]
    have h1 := h.2.2 (r 44) z.1 z.2
    have h2 := h1.2
    obtain ⟨N3, N5, N6, q1, q2, q3, q4, q5, q6, q7, q8, q9, q10, q11, q12⟩ := h2
    rw [List.length_map] at q8
    refine ⟨Or.inr h1.2, by omega, fun c hc => q12 _ (List.mem_map_of_mem hc), fun w k top df => ?_⟩
    unfold tlR
    rw [if_neg (by omega), h1.1]
  · rw [if_neg z, h.1.2]
    refine ⟨Or.inl ⟨rfl, rfl⟩, by decide, fun c hc => absurd hc (by simp), fun w k top df => ?_⟩
    unfold tlR
    rw [if_pos (by omega)]
    rfl
/-- the judge's words -/
def jwI (r : Int → Int) (n here f ahead : Int) (M : gM) : Prop := ∀ i, 0 ≤ i → i < 10 → M 11 i = askW (askM r n here (f < n) ahead) i
theorem jw_of {Λ : Int → List PC} {sh : gS} {r : Int → Int} {g : gM} {b : Int} (hb : isBd b) (h : bdX Λ sh r g b) {n f : Int} (hn : 0 ≤ n ∧ n < r 41) (hf : 0 ≤ f) (here ahead : Int) : jwI r n here f ahead (soM (plM g b n f) here ahead) := by
  have hbx := hb
  unfold isBd at hbx
  have hN := h.note hn
  have hT := h.2.1.2.2.2.2.2.1
  have h0 := h.nums.1.1
  have hU : f < n → g (b + 1) (n - 1) = r (12 + n - 1) := fun z => by
    have := (h.note (i := n - 1) (by omega)).1.1
    rw [this]; congr 1; omega
  intro i h1 h2
  unfold soM plM
  rcases (show i = 0 ∨ i = 1 ∨ i = 2 ∨ i = 3 ∨ i = 4 ∨ i = 5 ∨ i = 6 ∨ i = 7 ∨ i = 8 ∨ i = 9 by omega) with rfl | rfl | rfl | rfl | rfl | rfl | rfl | rfl | rfl | rfl
  · simp (disch := omega) only [gup_s, gup_k, gup_a]; rfl
  · simp (disch := omega) only [gup_s, gup_k, gup_a]; rfl
  · simp (disch := omega) only [gup_s, gup_k, gup_a]; exact hN.1.1
  · simp (disch := omega) only [gup_s, gup_k, gup_a]; exact congrArg (here - ·) hN.1.1
  · simp (disch := omega) only [gup_s, gup_k, gup_a]
    show _ = if f < n then ahead - r (12 + n - 1) else 0
    by_cases z : f < n
    · rw [bi_0 (by omega), if_pos rfl, if_pos z, if_neg (by omega), hU z]
    · rw [bi_1 (by omega), if_neg (by decide), if_neg z]
  · simp (disch := omega) only [gup_s, gup_k, gup_a]
    show _ = if f < n then here - ahead else 0
    by_cases z : f < n
    · rw [bi_0 (by omega), if_pos rfl, if_pos z]
    · rw [bi_1 (by omega), if_neg (by decide), if_neg z]
  · simp (disch := omega) only [gup_s, gup_k, gup_a]
    show _ = if f < n then r (12 + n) - r (12 + n - 1) else 0
    by_cases z : f < n
    · rw [if_neg (by omega), if_pos z, hU z, hN.1.1]
    · rw [if_pos (by omega), if_neg z]
  · simp (disch := omega) only [gup_s, gup_k, gup_a]; rw [h0]; rfl
  · simp (disch := omega) only [gup_s, gup_k, gup_a]; exact hT.1
  · simp (disch := omega) only [gup_s, gup_k, gup_a]; exact hT.2.2.1
theorem pl_82 (g : gM) (b n f : Int) : plM g b n f 8 2 = bi (n ≤ f) := by
  unfold plM
  simp (disch := omega) only [gup_s, gup_k, gup_a]
/-- words within a thousand -/
theorem jwI.bd {r : Int → Int} (ho : rowOK r) {n here f ahead : Int} {M : gM} (h : jwI r n here f ahead M) (hn : 0 ≤ n ∧ n < r 41) (hh : -500 ≤ here ∧ here ≤ 500) (ha : -400 ≤ ahead ∧ ahead ≤ 400) (hf : 0 ≤ f) : ∀ i, 0 ≤ i → i < 10 → -1000 ≤ M 11 i ∧ M 11 i ≤ 1000 := by
  intro i h1 h2
  rw [h i h1 h2]
  have hm := ho.1
  have p1 := ro_pitch ho (12 + n) (by omega)
  have hd := ho.2.2.1
  have hmo := ho.2.2.2.2.1
  have hbi := bi_01 (n = r 41 - 1)
  have p2 : f < n → 0 ≤ r (12 + n - 1) ∧ r (12 + n - 1) ≤ 24 := fun z => ro_pitch ho (12 + n - 1) (by omega)
  rcases (show i = 0 ∨ i = 1 ∨ i = 2 ∨ i = 3 ∨ i = 4 ∨ i = 5 ∨ i = 6 ∨ i = 7 ∨ i = 8 ∨ i = 9 by omega) with rfl | rfl | rfl | rfl | rfl | rfl | rfl | rfl | rfl | rfl
  · show -1000 ≤ n ∧ n ≤ 1000; omega
  · show -1000 ≤ here ∧ here ≤ 1000; omega
  · show -1000 ≤ r (12 + n) ∧ r (12 + n) ≤ 1000; omega
  · show -1000 ≤ here - r (12 + n) ∧ here - r (12 + n) ≤ 1000; omega
  · show -1000 ≤ (if f < n then ahead - r (12 + n - 1) else 0) ∧ (if f < n then ahead - r (12 + n - 1) else 0) ≤ 1000
    split
    · next z => have := p2 z; omega
    · omega
  · show -1000 ≤ (if f < n then here - ahead else 0) ∧ (if f < n then here - ahead else 0) ≤ 1000
    split <;> omega
  · show -1000 ≤ (if f < n then r (12 + n) - r (12 + n - 1) else 0) ∧ (if f < n then r (12 + n) - r (12 + n - 1) else 0) ≤ 1000
    split
    · next z => have := p2 z; omega
    · omega
  · show -1000 ≤ bi (n = r 41 - 1) ∧ bi (n = r 41 - 1) ≤ 1000; omega
  · show -1000 ≤ r 24 ∧ r 24 ≤ 1000; omega
  · show -1000 ≤ r 38 ∧ r 38 ≤ 1000; omega
theorem tl_rg {w : Int → Int} {k top : Int} (ht : 0 ≤ top) (L : List PC) : -1 ≤ tl w k top (-1) L ∧ tl w k top (-1) L ≤ top := by
  refine ⟨?_, tl_le ht L (-1) (by omega)⟩
  have := tl_df (w := w) (h := k) (df := 0) ht L
  have h0 := tl_nn (w := w) (h := k) ht L 0 (Int.le_refl _)
  by_cases z : tl w k top (-1) L = -1
  · omega
  · rw [if_neg z] at this; omega
theorem topK_nn (k : Int) : 0 ≤ topK k ∧ topK k ≤ 999 := by unfold topK; omega
/-- what was told, or what stands without -/
theorem jq_val {r : Int → Int} {L : List PC} (hk : ∀ c ∈ L, clK false (pcO c)) (hT : ∀ w k top df, tlR r w k top df = tl w k top df L) {w W : Int → Int} (hw : ∀ i, 0 ≤ i → i < 10 → w i = W i) (k : Int) (hk2 : 0 ≤ k ∧ k ≤ 2) : (if tl w (k + 1) (topK k) (-1) L = -1 then (if k = 0 then (if w 5 < 0 then -(w 5) else w 5) else if k = 1 then 1 else 0) else tl w (k + 1) (topK k) (-1) L) = jN r W k := by
  rw [tl_w10 hk hw, hw 5 (by decide) (by decide)]
  unfold jN
  rw [hT, hT, hT]
  rcases (show k = 0 ∨ k = 1 ∨ k = 2 by omega) with rfl | rfl | rfl
  · show (if tl W 1 999 (-1) L = -1 then (if W 5 < 0 then -(W 5) else W 5) else tl W 1 999 (-1) L) = tl W 1 999 (if W 5 < 0 then -(W 5) else W 5) L
    exact (tl_df (by decide) L).symm
  · show (if tl W 2 99 (-1) L = -1 then 1 else tl W 2 99 (-1) L) = tl W 2 99 1 L
    exact (tl_df (by decide) L).symm
  · show (if tl W 3 1 (-1) L = -1 then 0 else tl W 3 1 (-1) L) = bi (tl W 3 1 0 L = 1)
    rw [tl_df (df := 0) (by decide) L]
    rcases tl_bar (w := W) L (-1) hk with z | z
    · rw [if_pos z, bi_0 (by decide)]
    · rw [if_neg (by omega), z, bi_1 rfl]
theorem jq_bar {r : Int → Int} {L : List PC} (hk : ∀ c ∈ L, clK false (pcO c)) (hT : ∀ w k top df, tlR r w k top df = tl w k top df L) {w W : Int → Int} (hw : ∀ i, 0 ≤ i → i < 10 → w i = W i) : tl w (2 + 1) (topK 2) (-1) L = -1 ↔ ¬ bi (tlR r W 3 1 0 = 1) = 1 := by
  rw [tl_w10 hk hw, hT, show topK 2 = 1 from rfl, tl_df (df := 0) (by decide)]
  show tl W 3 1 (-1) L = -1 ↔ _
  rcases tl_bar (w := W) L (-1) hk with z | z
  · rw [z, if_pos rfl]; decide
  · rw [z, if_neg (by decide)]; decide
