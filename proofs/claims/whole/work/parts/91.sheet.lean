/-! ===== sheets ===== -/
def isSh (S k : Int) : Prop := (S = 32 ∧ k = 0) ∨ (S = 48 ∧ k = 1) ∨ (S = 64 ∧ k = 2)
theorem ss {sh : gS} (hx : gFix sh) {S k : Int} (h : isSh S k) : gsz sh S 8 4 ∧ gsz sh (S + 1) 19 12 ∧ gsz sh (S + 14) 16 12 ∧ gsz sh (S + 15) 17 12 := by
  rcases h with ⟨rfl, -⟩ | ⟨rfl, -⟩ | ⟨rfl, -⟩ <;> exact ⟨gAt hx rfl rfl, gAt hx rfl rfl, gAt hx rfl rfl, gAt hx rfl rfl⟩
theorem sp {sh : gS} (hx : gFix sh) {S k : Int} (h : isSh S k) {i : Int} (hi : 0 ≤ i ∧ i < 12) : gsz sh (S + 2 + i) 13 625 := by
  rcases h with ⟨rfl, -⟩ | ⟨rfl, -⟩ | ⟨rfl, -⟩ <;> rcases (show i = 0 ∨ i = 1 ∨ i = 2 ∨ i = 3 ∨ i = 4 ∨ i = 5 ∨ i = 6 ∨ i = 7 ∨ i = 8 ∨ i = 9 ∨ i = 10 ∨ i = 11 by omega) with rfl | rfl | rfl | rfl | rfl | rfl | rfl | rfl | rfl | rfl | rfl | rfl <;> exact gAt hx rfl rfl
theorem sr {g : gM} (hf : gFin g) {S k : Int} (h : isSh S k) : g S 0 = S + 1 ∧ g S 2 = S + 14 ∧ g S 3 = S + 15 := by
  rcases h with ⟨rfl, -⟩ | ⟨rfl, -⟩ | ⟨rfl, -⟩ <;> exact ⟨gRf hf rfl rfl, gRf hf rfl rfl, gRf hf rfl rfl⟩
theorem spr {g : gM} (hf : gFin g) {S k : Int} (h : isSh S k) {i : Int} (hi : 0 ≤ i ∧ i < 12) : g (S + 1) i = S + 2 + i := by
  rcases h with ⟨rfl, -⟩ | ⟨rfl, -⟩ | ⟨rfl, -⟩ <;> rcases (show i = 0 ∨ i = 1 ∨ i = 2 ∨ i = 3 ∨ i = 4 ∨ i = 5 ∨ i = 6 ∨ i = 7 ∨ i = 8 ∨ i = 9 ∨ i = 10 ∨ i = 11 by omega) with rfl | rfl | rfl | rfl | rfl | rfl | rfl | rfl | rfl | rfl | rfl | rfl <;> exact gRf hf rfl rfl
theorem sn {S k : Int} (h : isSh S k) {a : Int} (ha : S + 2 ≤ a ∧ a ≤ S + 15) (j : Nat) : gref a.toNat j = none := by
  rcases (show a = S + 2 ∨ a = S + 3 ∨ a = S + 4 ∨ a = S + 5 ∨ a = S + 6 ∨ a = S + 7 ∨ a = S + 8 ∨ a = S + 9 ∨ a = S + 10 ∨ a = S + 11 ∨ a = S + 12 ∨ a = S + 13 ∨ a = S + 14 ∨ a = S + 15 by omega) with rfl | rfl | rfl | rfl | rfl | rfl | rfl | rfl | rfl | rfl | rfl | rfl | rfl | rfl <;> rcases h with ⟨rfl, -⟩ | ⟨rfl, -⟩ | ⟨rfl, -⟩ <;> rfl
/-- a board holds a row's numbers -/
def bdN (r : Int → Int) (g : gM) (b : Int) : Prop := rowOK r ∧ g b 0 = r 41 ∧ (∀ i, 0 ≤ i → i < r 41 → g (b + 1) i = r (12 + i) ∧ g (b + 2) i = r i) ∧ (g (b + 3) 0 = r 24 ∧ g (b + 3) 1 = r 37 ∧ g (b + 3) 2 = r 38 ∧ g (b + 3) 3 = r 39 ∧ g (b + 3) 4 = r 40)
theorem bdX.bdN {Λ : Int → List PC} {sh : gS} {r : Int → Int} {g : gM} {b : Int} (h : bdX Λ sh r g b) : bdN r g b := ⟨h.1.1, h.2.1.1, h.2.1.2.2.2.2.1, h.2.1.2.2.2.2.2.1⟩
theorem bdN.of {r : Int → Int} {g g2 : gM} {b : Int} (h : bdN r g b) (he : ∀ a k, b ≤ a → a ≤ b + 3 → g2 a k = g a k) : bdN r g2 b := ⟨h.1, by rw [he _ _ (by omega) (by omega)]; exact h.2.1, fun i p q => by rw [he _ _ (by omega) (by omega), he _ _ (by omega) (by omega)]; exact h.2.2.1 i p q, by rw [he _ _ (by omega) (by omega), he _ _ (by omega) (by omega), he _ _ (by omega) (by omega), he _ _ (by omega) (by omega), he _ _ (by omega) (by omega)]; exact h.2.2.2⟩
/-- note i is placed -/
def plK (r : Int → Int) (n f : Int) (M : gM) : Prop := M 8 2 = bi (n ≤ f) ∧ M 8 3 = (if n ≤ f then 0 else r (12 + n - 1)) ∧ M 11 0 = n ∧ M 11 2 = r (12 + n) ∧ M 11 6 = (if n ≤ f then 0 else r (12 + n) - r (12 + n - 1)) ∧ M 11 7 = bi (n = r 41 - 1) ∧ M 11 8 = r 24 ∧ M 11 9 = r 38
theorem plK.of {r : Int → Int} {n f : Int} {M M2 : gM} (h : plK r n f M) (he : ∀ a k, ((a = 8 ∧ 2 ≤ k ∧ k ≤ 3) ∨ (a = 11 ∧ (k = 0 ∨ k = 2 ∨ 6 ≤ k))) → M2 a k = M a k) : plK r n f M2 := by
  unfold plK
  rw [he 8 2 (by omega), he 8 3 (by omega), he 11 0 (by omega), he 11 2 (by omega), he 11 6 (by omega), he 11 7 (by omega), he 11 8 (by omega), he 11 9 (by omega)]
  exact h
theorem plK_of {r : Int → Int} {g : gM} {b : Int} (hb : isBd b) (h : bdN r g b) {n f : Int} (hn : 0 ≤ n ∧ n < r 41) (hf : 0 ≤ f) : plK r n f (plM g b n f) := by
  have hbx := hb
  unfold isBd at hbx
  obtain ⟨ho, h0, hN, hT⟩ := h
  have hNn := hN n hn.1 hn.2
  have hU : ¬ n ≤ f → g (b + 1) (n - 1) = r (12 + n - 1) := fun z => by
    rw [(hN (n - 1) (by omega) (by omega)).1]; congr 1; omega
  unfold plM plK
  simp (disch := omega) only [gup_s, gup_k, gup_a]
  refine ⟨trivial, ?_, trivial, hNn.1, ?_, by rw [h0], hT.1, hT.2.2.1⟩
  · by_cases z : n ≤ f
    · rw [if_pos z, if_pos z]
    · rw [if_neg z, if_neg z, hU z]
  · by_cases z : n ≤ f
    · rw [if_pos z, if_pos z]
    · rw [if_neg z, if_neg z, hU z, hNn.1]
theorem jw_pl {r : Int → Int} {n f : Int} {M : gM} (h : plK r n f M) (here ahead : Int) : jwI r n here f ahead (soM M here ahead) := by
  obtain ⟨h1, h2, h3, h4, h5, h6, h7, h8⟩ := h
  intro i g1 g2
  unfold soM
  rcases (show i = 0 ∨ i = 1 ∨ i = 2 ∨ i = 3 ∨ i = 4 ∨ i = 5 ∨ i = 6 ∨ i = 7 ∨ i = 8 ∨ i = 9 by omega) with rfl | rfl | rfl | rfl | rfl | rfl | rfl | rfl | rfl | rfl
  · simp (disch := omega) only [gup_s, gup_k, gup_a]; exact h3
  · simp (disch := omega) only [gup_s, gup_k, gup_a]; rfl
  · simp (disch := omega) only [gup_s, gup_k, gup_a]; exact h4
  · simp (disch := omega) only [gup_s, gup_k, gup_a]; exact congrArg (here - ·) h4
  · simp (disch := omega) only [gup_s, gup_k, gup_a]
    show _ = if f < n then ahead - r (12 + n - 1) else 0
    rw [h1, h2]
    by_cases z : f < n
    · rw [bi_0 (by omega), if_pos rfl, if_pos z, if_neg (by omega)]
    · rw [bi_1 (by omega), if_neg (by decide), if_neg z]
  · simp (disch := omega) only [gup_s, gup_k, gup_a]
    show _ = if f < n then here - ahead else 0
    rw [h1]
    by_cases z : f < n
    · rw [bi_0 (by omega), if_pos rfl, if_pos z]
    · rw [bi_1 (by omega), if_neg (by decide), if_neg z]
  · simp (disch := omega) only [gup_s, gup_k, gup_a]
    show _ = if f < n then r (12 + n) - r (12 + n - 1) else 0
    rw [h5]
    by_cases z : f < n
    · rw [if_neg (by omega), if_pos z]
    · rw [if_pos (by omega), if_neg z]
  · simp (disch := omega) only [gup_s, gup_k, gup_a]; exact h6
  · simp (disch := omega) only [gup_s, gup_k, gup_a]; exact h7
  · simp (disch := omega) only [gup_s, gup_k, gup_a]; exact h8
theorem plK.so {r : Int → Int} {n f : Int} {M : gM} (h : plK r n f M) (x y : Int) : plK r n f (soM M x y) := h.of (fun a k z => by
  unfold soM
  rcases z with ⟨rfl, z⟩ | ⟨rfl, z⟩ <;> simp (disch := omega) only [gup_s, gup_k, gup_a])
/-- a law to be asked: the object a -/
def lwS (Λ : Int → List PC) (sh : gS) (g : gM) (a : Int) : Prop := lwX sh g a (Λ a) ∧ (Λ a).length ≤ 12 ∧ ∀ c ∈ Λ a, clK false (pcO c)
/-- and what the row's law tells -/
def lwP (Λ : Int → List PC) (sh : gS) (g : gM) (r : Int → Int) (a : Int) : Prop := lwS Λ sh g a ∧ ∀ w k top df, tlR r w k top df = tl w k top df (Λ a)
theorem lwX.ext {sh : gS} {g g2 : gM} {a : Int} {L : List PC} (h : lwX sh g a L) (he : ∀ x k, 201 ≤ x → g2 x k = g x k) : lwX sh g2 a L := h.elim Or.inl (fun z => Or.inr (z.ext he))
theorem lwS.ext {Λ : Int → List PC} {sh : gS} {g g2 : gM} {a : Int} (h : lwS Λ sh g a) (he : ∀ x k, 201 ≤ x → g2 x k = g x k) : lwS Λ sh g2 a := ⟨h.1.ext he, h.2⟩
theorem lwP.ext {Λ : Int → List PC} {sh : gS} {g g2 : gM} {r : Int → Int} {a : Int} (h : lwP Λ sh g r a) (he : ∀ x k, 201 ≤ x → g2 x k = g x k) : lwP Λ sh g2 r a := ⟨h.1.ext he, h.2⟩
theorem bdX.lwP {Λ : Int → List PC} {sh : gS} {r : Int → Int} {g : gM} {b : Int} (h : bdX Λ sh r g b) : lwP Λ sh g r (bdF g b) := ⟨⟨h.law.1, h.law.2.1, h.law.2.2.1⟩, h.law.2.2.2⟩
theorem lwX.bd {sh : gS} {g : gM} {a : Int} {L : List PC} (h : lwX sh g a L) : (a = -1 ∧ L = []) ∨ (201 ≤ a ∧ gsz sh a 10 8 ∧ (g a 2 = 0 ∨ g a 2 = 1) ∧ g a 2 = lbV false 0 ((L.map pcO).flatMap ocK)) := h.elim Or.inl (fun z => by
  obtain ⟨N3, N5, N6, q1, q2, q3, q4, q5, q6, q7, q8, q9, q10, -⟩ := z
  exact Or.inr ⟨q1.1, q2, by rw [q10]; exact lbV_01 _ _ _, q10⟩)
/-- the key of a page -/
def keyR (r : Int → Int) (i : Int) : Int := (((r (12 + i) * 25 + (if 0 < i then r (12 + i - 1) else 0)) * 2 + bi (i = r 41 - 1)) * 1000 + r 24) * 10 + r 38
theorem keyR_bd {r : Int → Int} (ho : rowOK r) {i : Int} (hi : 0 ≤ i ∧ i < 12) : 0 ≤ keyR r i ∧ keyR r i ≤ 100000000 := by
  have p1 := ro_pitch ho (12 + i) (by omega)
  have p2 : 0 ≤ (if 0 < i then r (12 + i - 1) else 0) ∧ (if 0 < i then r (12 + i - 1) else 0) ≤ 24 := by
    split
    · exact ro_pitch ho (12 + i - 1) (by omega)
    · omega
  have p3 := bi_01 (i = r 41 - 1)
  have p4 := ro_day ho
  have p5 := ro_mood ho
  unfold keyR
  omega
/-- rows with one key are asked alike -/
theorem keyR_ask {r r2 : Int → Int} (ho : rowOK r) (ho2 : rowOK r2) {i : Int} (hi : 0 ≤ i ∧ i < 12) (h : keyR r i = keyR r2 i) (x p : Int) : askM r i x (0 < i) p = askM r2 i x (0 < i) p := by
  have p1 := ro_pitch ho (12 + i) (by omega)
  have p1' := ro_pitch ho2 (12 + i) (by omega)
  have p2 : 0 ≤ (if 0 < i then r (12 + i - 1) else 0) ∧ (if 0 < i then r (12 + i - 1) else 0) ≤ 24 := by
    split
    · exact ro_pitch ho (12 + i - 1) (by omega)
    · omega
  have p2' : 0 ≤ (if 0 < i then r2 (12 + i - 1) else 0) ∧ (if 0 < i then r2 (12 + i - 1) else 0) ≤ 24 := by
    split
    · exact ro_pitch ho2 (12 + i - 1) (by omega)
    · omega
  have p3 := bi_01 (i = r 41 - 1)
  have p3' := bi_01 (i = r2 41 - 1)
  have p4 := ro_day ho
  have p4' := ro_day ho2
  have p5 := ro_mood ho
  have p5' := ro_mood ho2
  unfold keyR at h
  have e1 : r (12 + i) = r2 (12 + i) := by omega
  have e2 : (if 0 < i then r (12 + i - 1) else 0) = (if 0 < i then r2 (12 + i - 1) else 0) := by omega
  have e3 : bi (i = r 41 - 1) = bi (i = r2 41 - 1) := by omega
  have e4 : r 24 = r2 24 := by omega
  have e5 : r 38 = r2 38 := by omega
  funext y
  unfold askM
  rw [e1, e3, e4, e5]
  by_cases z : 0 < i
  · rw [if_pos z, if_pos z] at e2
    rw [e2]
  · simp only [if_neg z]
/-- what a law's clauses L say of the words W -/
def jL (L : List PC) (W : Int → Int) (k : Int) : Int := if k = 0 then tl W 1 999 (if W 5 < 0 then -(W 5) else W 5) L else if k = 1 then tl W 2 99 1 L else bi (tl W 3 1 0 L = 1)
theorem jL_N {Λ : Int → List PC} {sh : gS} {g : gM} {r : Int → Int} {a : Int} (h : lwP Λ sh g r a) (W : Int → Int) (k : Int) : jN r W k = jL (Λ a) W k := by
  unfold jN jL
  rw [h.2, h.2, h.2]
theorem jL_bd {L : List PC} {W : Int → Int} (h5 : -999 ≤ W 5 ∧ W 5 ≤ 999) {k : Int} (hk : 0 ≤ k ∧ k ≤ 2) : 0 ≤ jL L W k ∧ jL L W k ≤ 999 := by
  unfold jL
  split
  · exact ⟨tl_nn (by decide) L _ (by split <;> omega), tl_le (by decide) L _ (by split <;> omega)⟩
  · split
    · exact ⟨tl_nn (by decide) L _ (by decide), Int.le_trans (tl_le (by decide) L _ (by decide)) (by decide)⟩
    · have := bi_01 (tl W 3 1 0 L = 1); omega
theorem jL_1 {L : List PC} {W : Int → Int} : 0 ≤ jL L W 1 ∧ jL L W 1 ≤ 99 := by
  show 0 ≤ tl W 2 99 1 L ∧ tl W 2 99 1 L ≤ 99
  exact ⟨tl_nn (by decide) L _ (by decide), tl_le (by decide) L _ (by decide)⟩
theorem jL_2 {L : List PC} {W : Int → Int} : jL L W 2 = 0 ∨ jL L W 2 = 1 := by
  show bi (tl W 3 1 0 L = 1) = 0 ∨ bi (tl W 3 1 0 L = 1) = 1
  exact bi_01 _
theorem jl_val {L : List PC} (hk : ∀ c ∈ L, clK false (pcO c)) (W : Int → Int) (x5 : Int) (h5 : x5 = W 5) (k : Int) (hk2 : 0 ≤ k ∧ k ≤ 2) : (if tl W (k + 1) (topK k) (-1) L = -1 then (if k = 0 then (if x5 < 0 then -x5 else x5) else if k = 1 then 1 else 0) else tl W (k + 1) (topK k) (-1) L) = jL L W k := by
  subst h5
  unfold jL
  rcases (show k = 0 ∨ k = 1 ∨ k = 2 by omega) with rfl | rfl | rfl
  · show (if tl W 1 999 (-1) L = -1 then (if W 5 < 0 then -(W 5) else W 5) else tl W 1 999 (-1) L) = tl W 1 999 (if W 5 < 0 then -(W 5) else W 5) L
    exact (tl_df (by decide) L).symm
  · show (if tl W 2 99 (-1) L = -1 then 1 else tl W 2 99 (-1) L) = tl W 2 99 1 L
    exact (tl_df (by decide) L).symm
  · show (if tl W 3 1 (-1) L = -1 then 0 else tl W 3 1 (-1) L) = bi (tl W 3 1 0 L = 1)
    rw [tl_df (df := 0) (by decide) L]
    rcases tl_bar (w := W) L (-1) hk with z | z
    · rw [if_pos z, bi_0 (by decide)]
    · rw [if_neg (by omega), z, bi_1 rfl]
/-- a law that never looks back tells the same behind each pitch -/
theorem lb_tl {L : List PC} (hk : ∀ c ∈ L, clK false (pcO c)) (h0 : lbV false 0 ((L.map pcO).flatMap ocK) = 0) (r : Int → Int) (i h : Int) (q : Prop) [Decidable q] (p p2 k top df : Int) : tl (askW (askM r i h q p)) k top df L = tl (askW (askM r i h q p2)) k top df L := by
  refine tl_congr L df hk (fun c hc x hx h1 => ?_)
  have hw := (ocK.ops (hk c hc) x hx).wd h1
  have hn : ¬ (x.2 = 4 ∨ x.2 = 5) := fun z => by
    unfold lbV at h0
    rw [if_pos (Or.inr ⟨rfl, List.any_eq_true.mpr ⟨x, List.mem_flatMap.mpr ⟨pcO c, List.mem_map_of_mem hc, hx⟩, decide_eq_true ⟨h1, z⟩⟩⟩)] at h0
    exact absurd h0 (by decide)
  rcases (show x.2 = 0 ∨ x.2 = 1 ∨ x.2 = 2 ∨ x.2 = 3 ∨ x.2 = 6 ∨ x.2 = 7 ∨ x.2 = 8 ∨ x.2 = 9 by omega) with e | e | e | e | e | e | e | e <;> rw [e] <;> rfl
/-! a page -/
def pgK (Λ : Int → List PC) (g : gM) (A a : Int) (r : Int → Int) (i k : Int) : Prop := ∀ h p, 0 ≤ h → h < 25 → 0 ≤ p → p < 25 → (i = 0 → p = 0) → g A (p * 25 + h) = jL (Λ a) (askW (askM r i h (0 < i) p)) k
def shI (Λ : Int → List PC) (sh : gS) (g : gM) (S k : Int) : Prop := g S 1 = k ∧ ∀ i, 0 ≤ i → i < 12 → (-1 ≤ g (S + 15) i ∧ g (S + 15) i < sh.length) ∧ (-1 ≤ g (S + 14) i ∧ g (S + 14) i ≤ 100000000) ∧ (g (S + 14) i = -1 ∨ ∃ r, rowOK r ∧ g (S + 14) i = keyR r i ∧ pgK Λ g (S + 2 + i) (g (S + 15) i) r i k) ∧ ∀ c, 0 ≤ c → c < 625 → 0 ≤ g (S + 2 + i) c ∧ g (S + 2 + i) c ≤ 999
/-- what a page's renewal writes -/
def shW (S i : Int) (g g2 : gM) : Prop := ∀ a k, a ≠ 10 → a ≠ 11 → ¬ (a = 8 ∧ 2 ≤ k ∧ k ≤ 3) → a ≠ S + 2 + i → ¬ (a = S + 14 ∧ k = i) → ¬ (a = S + 15 ∧ k = i) → g2 a k = g a k
theorem shW.rf (S i : Int) (g : gM) : shW S i g g := fun _ _ _ _ _ _ _ _ => rfl
theorem shW.jg {S i : Int} {g g2 g3 : gM} (h : shW S i g g2) (j : jgF g2 g3) : shW S i g g3 := fun a k n m q x y z => (j a k n m q).trans (h a k n m q x y z)
theorem shW.up {S i : Int} {g g2 : gM} (h : shW S i g g2) {a k : Int} (v : Int) (hz : a = S + 2 + i ∨ (a = S + 14 ∧ k = i) ∨ (a = S + 15 ∧ k = i)) : shW S i g (gup g2 a k v) := fun x j n m q u y z => by
  by_cases e : x = a
  · subst e
    rw [gup_k _ _ _ _ (fun t => by subst t; rcases hz with hz | hz | hz <;> contradiction)]; exact h _ _ n m q u y z
  · rw [gup_a _ _ _ _ _ e]; exact h _ _ n m q u y z
def rnI (Λ : Int → List PC) (S k i a : Int) (r : Int → Int) (na h : Int) (g g1 : gM) : Prop := shW S i g g1 ∧ plK r i 0 g1 ∧ g1 (S + 14) i = keyR r i ∧ g1 (S + 15) i = a ∧ (∀ y p, 0 ≤ y → y < h → 0 ≤ p → p < na → g1 (S + 2 + i) (p * 25 + y) = jL (Λ a) (askW (askM r i y (0 < i) p)) k) ∧ ∀ c, 0 ≤ c → c < 625 → 0 ≤ g1 (S + 2 + i) c ∧ g1 (S + 2 + i) c ≤ 999
theorem rnI.jg {Λ : Int → List PC} {S k : Int} (hS : isSh S k) {i a : Int} (hi : 0 ≤ i ∧ i < 12) {r : Int → Int} {na h : Int} {g g1 g2 : gM} (H : rnI Λ S k i a r na h g g1) (j : jgF g1 g2) (hp : plK r i 0 g2) : rnI Λ S k i a r na h g g2 := by
  unfold isSh at hS
  refine ⟨H.1.jg j, hp, ?_, ?_, fun y p a b c d => ?_, fun c a b => ?_⟩
  · rw [j _ _ (by omega) (by omega) (by omega)]; exact H.2.2.1
  · rw [j _ _ (by omega) (by omega) (by omega)]; exact H.2.2.2.1
  · rw [j _ _ (by omega) (by omega) (by omega)]; exact H.2.2.2.2.1 y p a b c d
  · rw [j _ _ (by omega) (by omega) (by omega)]; exact H.2.2.2.2.2 c a b
theorem rnI.up {Λ : Int → List PC} {S k : Int} (hS : isSh S k) {i a : Int} (hi : 0 ≤ i ∧ i < 12) {r : Int → Int} {na h : Int} (hh : h < 25) {g g1 : gM} (H : rnI Λ S k i a r na h g g1) (p v : Int) (hv : 0 ≤ v ∧ v ≤ 999) : rnI Λ S k i a r na h g (gup g1 (S + 2 + i) (p * 25 + h) v) := by
  unfold isSh at hS
  refine ⟨H.1.up _ (Or.inl rfl), H.2.1.of (fun x y z => gup_a _ _ _ _ _ (by omega)), ?_, ?_, fun y q a b c d => ?_, fun c a b => ?_⟩
  · rw [gup_a _ _ _ _ _ (by omega)]; exact H.2.2.1
  · rw [gup_a _ _ _ _ _ (by omega)]; exact H.2.2.2.1
  · rw [gup_k _ _ _ _ (by omega)]; exact H.2.2.2.2.1 y q a b c d
  · by_cases e : c = p * 25 + h
    · rw [e, gup_s]; exact hv
    · rw [gup_k _ _ _ _ e]; exact H.2.2.2.2.2 c a b
/-- the renewed page lies in its sheet -/
theorem shI.next {Λ : Int → List PC} {sh : gS} {S k : Int} (hS : isSh S k) {g g2 : gM} (h : shI Λ sh g S k) {i : Int} (hi : 0 ≤ i ∧ i < 12) (hF : shW S i g g2) (hn : (-1 ≤ g2 (S + 15) i ∧ g2 (S + 15) i < sh.length) ∧ (-1 ≤ g2 (S + 14) i ∧ g2 (S + 14) i ≤ 100000000) ∧ (g2 (S + 14) i = -1 ∨ ∃ r, rowOK r ∧ g2 (S + 14) i = keyR r i ∧ pgK Λ g2 (S + 2 + i) (g2 (S + 15) i) r i k) ∧ ∀ c, 0 ≤ c → c < 625 → 0 ≤ g2 (S + 2 + i) c ∧ g2 (S + 2 + i) c ≤ 999) : shI Λ sh g2 S k := by
  have hSx := hS
  unfold isSh at hSx
  refine ⟨by rw [hF _ _ (by omega) (by omega) (by omega) (by omega) (by omega) (by omega)]; exact h.1, fun j h1 h2 => ?_⟩
  by_cases z : j = i
  · subst z; exact hn
  · have e : ∀ a k, a = S + 2 + j ∨ ((a = S + 14 ∨ a = S + 15) ∧ k = j) → g2 a k = g a k := fun a k y => hF _ _ (by clear hn; omega) (by clear hn; omega) (by clear hn; omega) (by clear hn; omega) (by clear hn; omega) (by clear hn; omega)
    rw [e (S + 15) j (Or.inr ⟨Or.inr rfl, rfl⟩), e (S + 14) j (Or.inr ⟨Or.inl rfl, rfl⟩)]
    have q := h.2 j h1 h2
    refine ⟨q.1, q.2.1, q.2.2.1.elim Or.inl (fun ⟨r, z1, z2, z3⟩ => Or.inr ⟨r, z1, z2, fun h p a b c d x => ?_⟩), fun c a b => ?_⟩
    · rw [e _ _ (Or.inl rfl)]
      exact z3 h p a b c d x
    · rw [e _ _ (Or.inl rfl)]
      exact q.2.2.2 c a b
/-- a page that was kept -/
theorem shI.kept {Λ : Int → List PC} {sh : gS} {S k : Int} {g : gM} (h : shI Λ sh g S k) {r : Int → Int} (ho : rowOK r) {i : Int} (hi : 0 ≤ i ∧ i < 12) (hk : g (S + 14) i = keyR r i) : pgK Λ g (S + 2 + i) (g (S + 15) i) r i k := by
  have q := (h.2 i hi.1 hi.2).2.2.1
  have hb := keyR_bd ho hi
  rcases q with q | ⟨r2, z1, z2, z3⟩
  · omega
  · intro h p a b c d x
    rw [z3 h p a b c d x, keyR_ask ho z1 hi (hk.symm.trans z2)]
theorem gsz.len {sh : gS} {a : Int} {q n : Nat} (h : gsz sh a q n) : a < sh.length := by
  obtain ⟨h1, h2⟩ := h
  have := (List.getElem?_eq_some_iff.mp h2).1
  omega
set_option maxHeartbeats 2000000 in
theorem c_Sheet_keyOf {sh : gS} {g : gM} (hx : gFix sh) (hf : gFin g) {r : Int → Int} {b : Int} (hb : isBd b) (hB : bdN r g b) (i : Int) (hi : 0 ≤ i ∧ i < r 41) : gTri f_Sheet_keyOf 0 0 0 [(2, b), (0, i)] sh g (gR (some (1, keyR r i)) sh g) := by
  have hbx := hb
  unfold isBd at hbx
  have ho := hB.1
  have hm := ro_many ho
  have hp := ro_pitch ho (12 + i) (by omega)
  have hN := (hB.2.2.1 i hi.1 hi.2).1
  have hT := hB.2.2.2
  have hdy := ro_day ho
  have hmd := ro_mood ho
  refine gTri.of (by decide +kernel) rfl ?_
  show gWP f_Sheet_keyOf _ _ _ 0 [(2, b), (0, i), (9, 0), (9, 0)] [] sh g _
  refine gw_aload_n (gc k_Sheet_keyOf_0 0 rfl) rfl rfl ?_
  refine gw_getref (gc k_Sheet_keyOf_0 1 rfl) fl_Sheet_58 (by first | exact (ss hx hS).1 | exact (ss hx hS).2.1 | exact (ss hx hS).2.2.1 | exact (ss hx hS).2.2.2 | exact sp hx hS (by omega) | exact gAt hx rfl rfl | exact (bs hx hb).1 | exact (bs hx hb).2.1 | exact (bs hx hb).2.2.1 | exact (bs hx hb).2.2.2.1 | exact haY.2.1) (by first | exact (sr hf hS).1 | exact (sr hf hS).2.1 | exact (sr hf hS).2.2 | exact (br hf hb).1 | exact (br hf hb).2.1 | exact (br hf hb).2.2.1) ?_
  refine gw_iload_n (gc k_Sheet_keyOf_0 2 rfl) rfl ?_
  refine gw_iald (gc k_Sheet_keyOf_0 3 rfl) (by first | exact (ss hx hS).1 | exact (ss hx hS).2.1 | exact (ss hx hS).2.2.1 | exact (ss hx hS).2.2.2 | exact sp hx hS (by omega) | exact gAt hx rfl rfl | exact (bs hx hb).1 | exact (bs hx hb).2.1 | exact (bs hx hb).2.2.1 | exact (bs hx hb).2.2.2.1 | exact haY.2.1) (by omega) ?_
  rw [hN]
  refine gw_i2l (gc k_Sheet_keyOf_0 4 rfl) (by omega) ?_
  refine gw_lstore_2 (gc k_Sheet_keyOf_0 5 rfl) rfl rfl ?_
  refine gw_lload_n (gc k_Sheet_keyOf_0 6 rfl) rfl ?_
  refine gw_ldc2 (gc k_Sheet_keyOf_0 7 rfl) cn_Sheet_64 ?_
  refine gw_lmul (gc k_Sheet_keyOf_0 8 rfl) ?_
  refine gw_iload_n (gc k_Sheet_keyOf_0 9 rfl) rfl ?_
  refine gw_join1 29 (fun v => v = if 0 < i then r (12 + i - 1) else 0) (fun v14 hv14 => ?_) (fun kj14 => ?_)
  · have hv14b : 0 ≤ v14 ∧ v14 ≤ 24 := by
      rw [hv14]; split
      · exact ro_pitch ho (12 + i - 1) (by omega)
      · omega
    refine gw_i2l (gc k_Sheet_keyOf_0 19 rfl) (by omega) ?_
    refine gw_ladd (gc k_Sheet_keyOf_0 20 rfl) ?_
    refine gw_lstore_2 (gc k_Sheet_keyOf_0 21 rfl) rfl rfl ?_
    refine gw_lload_n (gc k_Sheet_keyOf_0 22 rfl) rfl ?_
    refine gw_ldc2 (gc k_Sheet_keyOf_0 23 rfl) cn_Sheet_66 ?_
    refine gw_lmul (gc k_Sheet_keyOf_0 24 rfl) ?_
    refine gw_iload_n (gc k_Sheet_keyOf_0 25 rfl) rfl ?_
    refine gw_aload_n (gc k_Sheet_keyOf_0 26 rfl) rfl rfl ?_
    refine gw_getf 0 rfl (gc k_Sheet_keyOf_0 27 rfl) fl_Sheet_68 (by first | exact (ss hx hS).1 | exact (ss hx hS).2.1 | exact (ss hx hS).2.2.1 | exact (ss hx hS).2.2.2 | exact sp hx hS (by omega) | exact gAt hx rfl rfl | exact (bs hx hb).1 | exact (bs hx hb).2.1 | exact (bs hx hb).2.2.1 | exact (bs hx hb).2.2.2.1 | exact haY.2.1) ?_
    refine gw_iconst (gc k_Sheet_keyOf_0 28 rfl) ?_
    refine gw_isub (gc k_Sheet_keyOf_0 29 rfl) ?_
    refine gw_join2 52 (fun v => v = bi (i = r 41 - 1)) (fun v44 hv44 => ?_) (fun kj44 => ?_)
    · have hv44b : 0 ≤ v44 ∧ v44 ≤ 1 := by have := bi_01 (i = r 41 - 1); omega
      refine gw_i2l (gc k_Sheet_keyOf_0 34 rfl) (by omega) ?_
      refine gw_ladd (gc k_Sheet_keyOf_0 35 rfl) ?_
      refine gw_lstore_2 (gc k_Sheet_keyOf_0 36 rfl) rfl rfl ?_
      refine gw_lload_n (gc k_Sheet_keyOf_0 37 rfl) rfl ?_
      refine gw_ldc2 (gc k_Sheet_keyOf_0 38 rfl) cn_Sheet_71 ?_
      refine gw_lmul (gc k_Sheet_keyOf_0 39 rfl) ?_
      refine gw_aload_n (gc k_Sheet_keyOf_1 0 rfl) rfl rfl ?_
      refine gw_getref (gc k_Sheet_keyOf_1 1 rfl) fl_Sheet_73 (by first | exact (ss hx hS).1 | exact (ss hx hS).2.1 | exact (ss hx hS).2.2.1 | exact (ss hx hS).2.2.2 | exact sp hx hS (by omega) | exact gAt hx rfl rfl | exact (bs hx hb).1 | exact (bs hx hb).2.1 | exact (bs hx hb).2.2.1 | exact (bs hx hb).2.2.2.1 | exact haY.2.1) (by first | exact (sr hf hS).1 | exact (sr hf hS).2.1 | exact (sr hf hS).2.2 | exact (br hf hb).1 | exact (br hf hb).2.1 | exact (br hf hb).2.2.1) ?_
      refine gw_iconst (gc k_Sheet_keyOf_1 2 rfl) ?_
      refine gw_iald (gc k_Sheet_keyOf_1 3 rfl) (by first | exact (ss hx hS).1 | exact (ss hx hS).2.1 | exact (ss hx hS).2.2.1 | exact (ss hx hS).2.2.2 | exact sp hx hS (by omega) | exact gAt hx rfl rfl | exact (bs hx hb).1 | exact (bs hx hb).2.1 | exact (bs hx hb).2.2.1 | exact (bs hx hb).2.2.2.1 | exact haY.2.1) (by omega) ?_
      rw [hT.1]
      refine gw_i2l (gc k_Sheet_keyOf_1 4 rfl) (by omega) ?_
      refine gw_ladd (gc k_Sheet_keyOf_1 5 rfl) ?_
      refine gw_lstore_2 (gc k_Sheet_keyOf_1 6 rfl) rfl rfl ?_
      refine gw_lload_n (gc k_Sheet_keyOf_1 7 rfl) rfl ?_
      refine gw_getTN (gc k_Sheet_keyOf_1 8 rfl) rfl ?_
      refine gw_iconst (gc k_Sheet_keyOf_1 9 rfl) ?_
      refine gw_ialdT (gc k_Sheet_keyOf_1 10 rfl) (by omega) rfl ?_
      refine gw_iconst (gc k_Sheet_keyOf_1 11 rfl) ?_
      refine gw_iadd (gc k_Sheet_keyOf_1 12 rfl) ?_
      refine gw_i2l (gc k_Sheet_keyOf_1 13 rfl) (by omega) ?_
      refine gw_lmul (gc k_Sheet_keyOf_1 14 rfl) ?_
      refine gw_aload_n (gc k_Sheet_keyOf_1 15 rfl) rfl rfl ?_
      refine gw_getref (gc k_Sheet_keyOf_1 16 rfl) fl_Sheet_73 (by first | exact (ss hx hS).1 | exact (ss hx hS).2.1 | exact (ss hx hS).2.2.1 | exact (ss hx hS).2.2.2 | exact sp hx hS (by omega) | exact gAt hx rfl rfl | exact (bs hx hb).1 | exact (bs hx hb).2.1 | exact (bs hx hb).2.2.1 | exact (bs hx hb).2.2.2.1 | exact haY.2.1) (by first | exact (sr hf hS).1 | exact (sr hf hS).2.1 | exact (sr hf hS).2.2 | exact (br hf hb).1 | exact (br hf hb).2.1 | exact (br hf hb).2.2.1) ?_
      refine gw_iconst (gc k_Sheet_keyOf_1 17 rfl) ?_
      refine gw_iald (gc k_Sheet_keyOf_1 18 rfl) (by first | exact (ss hx hS).1 | exact (ss hx hS).2.1 | exact (ss hx hS).2.2.1 | exact (ss hx hS).2.2.2 | exact sp hx hS (by omega) | exact gAt hx rfl rfl | exact (bs hx hb).1 | exact (bs hx hb).2.1 | exact (bs hx hb).2.2.1 | exact (bs hx hb).2.2.2.1 | exact haY.2.1) (by omega) ?_
      rw [hT.2.2.1]
      refine gw_i2l (gc k_Sheet_keyOf_1 19 rfl) (by omega) ?_
      refine gw_ladd (gc k_Sheet_keyOf_1 20 rfl) ?_
      refine gw_lreturn (gc k_Sheet_keyOf_1 21 rfl) rfl ?_
      refine ⟨?_, rfl, rfl⟩
      rw [hv14, hv44]
      rfl
    · rw [hB.2.1]
      refine gw_icmp_ne (tgt := 51) (gc k_Sheet_keyOf_0 30 rfl) rfl (by omega) (fun c44 => ?_) (fun c44 => ?_)
      · refine gw_iconst (gc k_Sheet_keyOf_0 33 rfl) ?_
        exact kj44 _ ((by first | exact (bi_1 (by omega)).symm | exact (bi_0 (by omega)).symm))
      · refine gw_iconst (gc k_Sheet_keyOf_0 31 rfl) ?_
        refine gw_goto (tgt := 52) (gc k_Sheet_keyOf_0 32 rfl) rfl ?_
        exact kj44 _ ((by first | exact (bi_1 (by omega)).symm | exact (bi_0 (by omega)).symm))
  · refine gw_if_le (tgt := 28) (gc k_Sheet_keyOf_0 10 rfl) rfl (by omega) (fun c14 => ?_) (fun c14 => ?_)
    · refine gw_iconst (gc k_Sheet_keyOf_0 18 rfl) ?_
      exact kj14 _ ((by first | (rw [if_pos (by omega), (hB.2.2.1 (i - 1) (by omega) (by omega)).1]; congr 1; omega) | rw [if_neg (by omega)]))
    · refine gw_aload_n (gc k_Sheet_keyOf_0 11 rfl) rfl rfl ?_
      refine gw_getref (gc k_Sheet_keyOf_0 12 rfl) fl_Sheet_58 (by first | exact (ss hx hS).1 | exact (ss hx hS).2.1 | exact (ss hx hS).2.2.1 | exact (ss hx hS).2.2.2 | exact sp hx hS (by omega) | exact gAt hx rfl rfl | exact (bs hx hb).1 | exact (bs hx hb).2.1 | exact (bs hx hb).2.2.1 | exact (bs hx hb).2.2.2.1 | exact haY.2.1) (by first | exact (sr hf hS).1 | exact (sr hf hS).2.1 | exact (sr hf hS).2.2 | exact (br hf hb).1 | exact (br hf hb).2.1 | exact (br hf hb).2.2.1) ?_
      refine gw_iload_n (gc k_Sheet_keyOf_0 13 rfl) rfl ?_
      refine gw_iconst (gc k_Sheet_keyOf_0 14 rfl) ?_
      refine gw_isub (gc k_Sheet_keyOf_0 15 rfl) ?_
      refine gw_iald (gc k_Sheet_keyOf_0 16 rfl) (by first | exact (ss hx hS).1 | exact (ss hx hS).2.1 | exact (ss hx hS).2.2.1 | exact (ss hx hS).2.2.2 | exact sp hx hS (by omega) | exact gAt hx rfl rfl | exact (bs hx hb).1 | exact (bs hx hb).2.1 | exact (bs hx hb).2.2.1 | exact (bs hx hb).2.2.2.1 | exact haY.2.1) (by omega) ?_
      refine gw_goto (tgt := 29) (gc k_Sheet_keyOf_0 17 rfl) rfl ?_
      exact kj14 _ ((by first | (rw [if_pos (by omega), (hB.2.2.1 (i - 1) (by omega) (by omega)).1]; congr 1; omega) | rw [if_neg (by omega)]))
set_option maxHeartbeats 8000000 in
theorem c_Sheet_renew {sh : gS} {g : gM} (hx : gFix sh) (hf : gFin g) {Λ : Int → List PC} {S k : Int} (hS : isSh S k) (hI : shI Λ sh g S k) {r : Int → Int} {b : Int} (hb : isBd b) (hB : bdN r g b) {a : Int} (hLs : lwS Λ sh g a) (i : Int) (hi : 0 ≤ i ∧ i < r 41) : gTri f_Sheet_renew 4 0 0 [(2, S), (2, b), (0, i), (2, a), (2, 8)] sh g (fun x s2 g2 => x = none ∧ s2 = sh ∧ shW S i g g2 ∧ shI Λ sh g2 S k ∧ pgK Λ g2 (S + 2 + i) a r i k) := by
  have hbx := hb
  unfold isBd at hbx
  have hSx := hS
  unfold isSh at hSx
  have ho := hB.1
  have hm := ro_many ho
  have hi12 : 0 ≤ i ∧ i < 12 := ⟨hi.1, by omega⟩
  have hkb := keyR_bd ho hi12
  have hk2 : 0 ≤ k ∧ k ≤ 2 := by omega
  have hq1 := (hI.2 i hi12.1 hi12.2).1
  have hq2 := (hI.2 i hi12.1 hi12.2).2.1
  have hq3 := (hI.2 i hi12.1 hi12.2).2.2.2
  have haX := hLs.1.bd
  have hal : -1 ≤ a ∧ a < sh.length := by
    rcases haX with z | z
    · have := z.1; omega
    · exact ⟨by omega, z.2.1.len⟩
  have hfr : ∀ M, shW S i g M → gFin M := fun M h => hf.of (fun x y z => h _ _ (fun e => z (by rw [show x = 10 by omega]; rfl)) (fun e => z (by rw [show x = 11 by omega]; rfl)) (fun e => z (by obtain ⟨e1, e2, e3⟩ := e; rcases (show y = 2 ∨ y = 3 by omega) with rfl | rfl <;> rw [show x = 8 by omega] <;> rfl)) (fun e => z (by rw [show x = (S + 2 + i).toNat by omega]; exact sn hS (by omega) y)) (fun e => z (by rw [show x = (S + 14).toNat by omega]; exact sn hS (by omega) y)) (fun e => z (by rw [show x = (S + 15).toNat by omega]; exact sn hS (by omega) y)))
  have hkd : ∀ M, shW S i g M → M S 1 = k := fun M h => (h S 1 (by omega) (by omega) (by omega) (by omega) (by omega) (by omega)).trans hI.1
  have hlw : ∀ M, shW S i g M → lwS Λ sh M a := fun M h => hLs.ext (fun x y z => h _ _ (by omega) (by omega) (by omega) (by omega) (by omega) (by omega))
  have hnb : ¬ (a ≠ -1 ∧ g a 2 ≠ 0) → ∀ p q h, tl (askW (askM r i h (0 < i) p)) (k + 1) (topK k) (-1) (Λ a) = tl (askW (askM r i h (0 < i) q)) (k + 1) (topK k) (-1) (Λ a) := fun y p q h => by
    rcases haX with z | z
    · rw [z.2]; rfl
    · exact lb_tl hLs.2.2 (by rw [← z.2.2.2]; omega) r i h _ p q _ _ _
  refine gTri.of (by decide +kernel) rfl ?_
  show gWP f_Sheet_renew _ _ _ 0 [(2, S), (2, b), (0, i), (2, a), (2, 8), (9, 0), (9, 0), (9, 0), (9, 0), (9, 0), (9, 0), (9, 0)] [] sh g _
  refine gw_aload_n (gc k_Sheet_renew_0 0 rfl) rfl rfl ?_
  refine gw_iload_n (gc k_Sheet_renew_0 1 rfl) rfl ?_
  refine gw_cS1 (gc k_Sheet_renew_0 2 rfl) y_Sheet_keyOf ln_Sheet_32 (c_Sheet_keyOf hx hf hb hB i hi) rfl rfl rfl rfl ?_
  refine gw_lstore_5 (gc k_Sheet_renew_0 3 rfl) rfl rfl ?_
  refine gw_joinN0 30 ?_ (fun kj7 => ?_)
  · refine gw_aload_n (gc k_Sheet_renew_0 18 rfl) rfl rfl ?_
    refine gw_getref (gc k_Sheet_renew_0 19 rfl) fl_Sheet_16 (by first | exact (ss hx hS).1 | exact (ss hx hS).2.1 | exact (ss hx hS).2.2.1 | exact (ss hx hS).2.2.2 | exact sp hx hS (by omega) | exact gAt hx rfl rfl | exact (bs hx hb).1 | exact (bs hx hb).2.1 | exact (bs hx hb).2.2.1 | exact (bs hx hb).2.2.2.1 | exact haY.2.1) (by first | exact (sr hf hS).1 | exact (sr hf hS).2.1 | exact (sr hf hS).2.2 | exact (br hf hb).1 | exact (br hf hb).2.1 | exact (br hf hb).2.2.1) ?_
    refine gw_iload_n (gc k_Sheet_renew_0 20 rfl) rfl ?_
    refine gw_lload (gc k_Sheet_renew_0 21 rfl) rfl ?_
    refine gw_lastF (gc k_Sheet_renew_0 22 rfl) (by first | exact (ss hx hS).1 | exact (ss hx hS).2.1 | exact (ss hx hS).2.2.1 | exact (ss hx hS).2.2.2 | exact sp hx hS (by omega) | exact gAt hx rfl rfl | exact (bs hx hb).1 | exact (bs hx hb).2.1 | exact (bs hx hb).2.2.1 | exact (bs hx hb).2.2.2.1 | exact haY.2.1) (by omega) hf (by first | rfl | exact sn hS (by omega) _) (fun hf => ?_)
    refine gw_aload_n (gc k_Sheet_renew_0 23 rfl) rfl rfl ?_
    refine gw_getref (gc k_Sheet_renew_0 24 rfl) fl_Sheet_22 (by first | exact (ss hx hS).1 | exact (ss hx hS).2.1 | exact (ss hx hS).2.2.1 | exact (ss hx hS).2.2.2 | exact sp hx hS (by omega) | exact gAt hx rfl rfl | exact (bs hx hb).1 | exact (bs hx hb).2.1 | exact (bs hx hb).2.2.1 | exact (bs hx hb).2.2.2.1 | exact haY.2.1) (by first | exact (sr hf hS).1 | exact (sr hf hS).2.1 | exact (sr hf hS).2.2 | exact (br hf hb).1 | exact (br hf hb).2.1 | exact (br hf hb).2.2.1) ?_
    refine gw_iload_n (gc k_Sheet_renew_0 25 rfl) rfl ?_
    refine gw_aload_n (gc k_Sheet_renew_0 26 rfl) rfl rfl ?_
    refine gw_aast_Text (gc k_Sheet_renew_0 27 rfl) (by first | exact (ss hx hS).1 | exact (ss hx hS).2.1 | exact (ss hx hS).2.2.1 | exact (ss hx hS).2.2.2 | exact sp hx hS (by omega) | exact gAt hx rfl rfl | exact (bs hx hb).1 | exact (bs hx hb).2.1 | exact (bs hx hb).2.2.1 | exact (bs hx hb).2.2.2.1 | exact haY.2.1) (by omega) (haX.elim (fun z => Or.inl (by omega)) (fun z => Or.inr z.2.1)) ?_
    have hf := hf.up (a := S + 15) (k := i) (v := a) (sn hS (by omega) _)
    refine gw_aload (gc k_Sheet_renew_0 28 rfl) rfl rfl ?_
    refine gw_aload_n (gc k_Sheet_renew_0 29 rfl) rfl rfl ?_
    refine gw_iload_n (gc k_Sheet_renew_0 30 rfl) rfl ?_
    refine gw_iconst (gc k_Sheet_renew_0 31 rfl) ?_
    refine gw_cV0 (gc k_Sheet_renew_0 32 rfl) y_Judge_place ln_Sheet_36 (c_Judge_place hx hf hb i 0 hi12 (by decide) (by rw [gup_a _ _ _ _ _ (by omega), gup_a _ _ _ _ _ (by omega), hB.2.1]; omega)) rfl rfl (by first | exact (ss hx hS).1 | exact (ss hx hS).2.1 | exact (ss hx hS).2.2.1 | exact (ss hx hS).2.2.2 | exact sp hx hS (by omega) | exact gAt hx rfl rfl | exact (bs hx hb).1 | exact (bs hx hb).2.1 | exact (bs hx hb).2.2.1 | exact (bs hx hb).2.2.2.1 | exact haY.2.1) rfl rfl ?_
    obtain ⟨gw, hgw⟩ : ∃ M, M = gup (gup g (S + 14) i (keyR r i)) (S + 15) i a := ⟨_, rfl⟩
    rw [← hgw]
    obtain ⟨gp, hgp⟩ : ∃ M, M = plM gw b i 0 := ⟨_, rfl⟩
    rw [← hgp]
    have jp : jgF gw gp := by rw [hgp]; exact plM_jg _ _ _ _
    have hf := jp.fin (by rw [hgw]; exact hf)
    have hpl : plK r i 0 gp := by rw [hgp]; exact plK_of hb (hB.of (fun x y z1 z2 => by rw [hgw, gup_a _ _ _ _ _ (by omega), gup_a _ _ _ _ _ (by omega)])) hi (by decide)
    have hR0 : ∀ na, rnI Λ S k i a r na 0 g gp := fun na => ⟨(hgw ▸ ((shW.rf S i g).up _ (Or.inr (Or.inl ⟨rfl, rfl⟩))).up _ (Or.inr (Or.inr ⟨rfl, rfl⟩)) : shW S i g gw).jg jp, hpl, by rw [jp _ _ (by omega) (by omega) (by omega), hgw, gup_a _ _ _ _ _ (by omega), gup_s], by rw [jp _ _ (by omega) (by omega) (by omega), hgw, gup_s], fun y p a b => by omega, fun c x y => by rw [jp _ _ (by omega) (by omega) (by omega), hgw, gup_a _ _ _ _ _ (by omega), gup_a _ _ _ _ _ (by omega)]; exact hq3 c x y⟩
    refine gw_aload_n (gc k_Sheet_renew_0 33 rfl) rfl rfl ?_
    refine gw_getref (gc k_Sheet_renew_0 34 rfl) fl_Sheet_11 (by first | exact (ss hx hS).1 | exact (ss hx hS).2.1 | exact (ss hx hS).2.2.1 | exact (ss hx hS).2.2.2 | exact sp hx hS (by omega) | exact gAt hx rfl rfl | exact (bs hx hb).1 | exact (bs hx hb).2.1 | exact (bs hx hb).2.2.1 | exact (bs hx hb).2.2.2.1 | exact haY.2.1) (by first | exact (sr hf hS).1 | exact (sr hf hS).2.1 | exact (sr hf hS).2.2 | exact (br hf hb).1 | exact (br hf hb).2.1 | exact (br hf hb).2.2.1) ?_
    refine gw_iload_n (gc k_Sheet_renew_0 35 rfl) rfl ?_
    refine gw_aald_ints (gc k_Sheet_renew_0 36 rfl) (by first | exact (ss hx hS).1 | exact (ss hx hS).2.1 | exact (ss hx hS).2.2.1 | exact (ss hx hS).2.2.2 | exact sp hx hS (by omega) | exact gAt hx rfl rfl | exact (bs hx hb).1 | exact (bs hx hb).2.1 | exact (bs hx hb).2.2.1 | exact (bs hx hb).2.2.2.1 | exact haY.2.1) (by omega) ?_
    rw [spr hf hS hi12]
    refine gw_astore_7 (gc k_Sheet_renew_0 37 rfl) rfl rfl rfl ?_
    refine gw_iload_n (gc k_Sheet_renew_0 38 rfl) rfl ?_
    refine gw_join1 71 (fun v => (i = 0 ∧ v = 1) ∨ (¬ i = 0 ∧ v = 25)) (fun v62 hv62 => ?_) (fun kj62 => ?_)
    · have hna : (i = 0 ∧ v62 = 1) ∨ (¬ i = 0 ∧ v62 = 25) := hv62
      refine gw_istore_8 (gc k_Sheet_renew_1 3 rfl) rfl rfl ?_
      refine gw_iconst (gc k_Sheet_renew_1 4 rfl) ?_
      refine gw_istore_9 (gc k_Sheet_renew_1 5 rfl) rfl rfl ?_
      refine gwloop (σ := Int × gV × gV × gM) (fun zs => (0 ≤ (zs.1) ∧ (zs.1) ≤ 25) ∧ rnI Λ S k i a r v62 (zs.1) g (zs.2.2.2)) (fun zs => (25 - (zs.1)).toNat) (fun zs => [(2, S), (2, b), (0, i), (2, a), (2, 8), (1, keyR r i), (9, 0), (2, S + 2 + i), (0, v62), (0, (zs.1)), (zs.2.1), (zs.2.2.1)]) (fun zs => (zs.2.2.2)) (0, (9, 0), (9, 0), gp) (show (0 ≤ (0 : Int) ∧ (0 : Int) ≤ 25) ∧ rnI Λ S k i a r v62 (0 : Int) g gp from ⟨⟨by omega, by omega⟩, hR0 _⟩) rfl rfl (fun zs hI ih => ?_)
      obtain ⟨h, x10, x11, g1⟩ := zs
      replace hI : (0 ≤ h ∧ h ≤ 25) ∧ rnI Λ S k i a r v62 h g g1 := hI
      obtain ⟨hh, hR⟩ := hI
      show gWP _ _ _ _ _ [(2, S), (2, b), (0, i), (2, a), (2, 8), (1, keyR r i), (9, 0), (2, S + 2 + i), (0, v62), (0, h), x10, x11] [] _ (g1) _
      have hf := hfr _ hR.1
      refine gw_iload (gc k_Sheet_renew_1 6 rfl) rfl ?_
      refine gw_bipush (gc k_Sheet_renew_1 7 rfl) (by decide) ?_
      refine gw_icmp_ge (tgt := 167) (gc k_Sheet_renew_1 8 rfl) rfl (by omega) (fun c80 => ?_) (fun c80 => ?_)
      · refine gw_return (gc k_Sheet_renew_2 9 rfl) rfl ?_
        obtain rfl : h = 25 := by omega
        have hpg : pgK Λ g1 (S + 2 + i) a r i k := fun y p x1 x2 x3 x4 x5 => hR.2.2.2.2.1 y p x1 x2 x3 (by omega)
        exact ⟨rfl, rfl, hR.1, hI.next hS hi12 hR.1 ⟨by rw [hR.2.2.2.1]; exact hal, by rw [hR.2.2.1]; omega, Or.inr ⟨r, ho, hR.2.2.1, by rw [hR.2.2.2.1]; exact hpg⟩, hR.2.2.2.2.2⟩, hpg⟩
      · refine gw_iconst (gc k_Sheet_renew_1 9 rfl) ?_
        refine gw_istore_10 (gc k_Sheet_renew_1 10 rfl) rfl rfl ?_
        refine gw_iconst (gc k_Sheet_renew_1 11 rfl) ?_
        refine gw_istore_11 (gc k_Sheet_renew_1 12 rfl) rfl rfl ?_
        refine gwloop (σ := Int × Int × gM) (fun zs => (0 ≤ (zs.1) ∧ (zs.1) ≤ v62) ∧ (-1 ≤ (zs.2.1) ∧ (zs.2.1) ≤ 999) ∧ ((zs.1) = 0 ∨ (a ≠ -1 ∧ g a 2 ≠ 0) ∨ ∀ q, (zs.2.1) = tl (askW (askM r i h (0 < i) q)) (k + 1) (topK k) (-1) (Λ a)) ∧ rnI Λ S k i a r v62 h g (zs.2.2) ∧ ∀ q, 0 ≤ q → q < (zs.1) → (zs.2.2) (S + 2 + i) (q * 25 + h) = jL (Λ a) (askW (askM r i h (0 < i) q)) k) (fun zs => (v62 - (zs.1)).toNat) (fun zs => [(2, S), (2, b), (0, i), (2, a), (2, 8), (1, keyR r i), (9, 0), (2, S + 2 + i), (0, v62), (0, h), (0, (zs.2.1)), (0, (zs.1))]) (fun zs => (zs.2.2)) (0, -1, g1) (show (0 ≤ (0 : Int) ∧ (0 : Int) ≤ v62) ∧ (-1 ≤ (-1 : Int) ∧ (-1 : Int) ≤ 999) ∧ ((0 : Int) = 0 ∨ (a ≠ -1 ∧ g a 2 ≠ 0) ∨ ∀ q, (-1 : Int) = tl (askW (askM r i h (0 < i) q)) (k + 1) (topK k) (-1) (Λ a)) ∧ rnI Λ S k i a r v62 h g g1 ∧ ∀ q, 0 ≤ q → q < (0 : Int) → g1 (S + 2 + i) (q * 25 + h) = jL (Λ a) (askW (askM r i h (0 < i) q)) k from ⟨⟨by omega, by omega⟩, ⟨by omega, by omega⟩, Or.inl rfl, hR, fun q a b => by omega⟩) rfl rfl (fun zs hI ih2 => ?_)
        obtain ⟨p, t, g2⟩ := zs
        replace hI : (0 ≤ p ∧ p ≤ v62) ∧ (-1 ≤ t ∧ t ≤ 999) ∧ (p = 0 ∨ (a ≠ -1 ∧ g a 2 ≠ 0) ∨ ∀ q, t = tl (askW (askM r i h (0 < i) q)) (k + 1) (topK k) (-1) (Λ a)) ∧ rnI Λ S k i a r v62 h g g2 ∧ ∀ q, 0 ≤ q → q < p → g2 (S + 2 + i) (q * 25 + h) = jL (Λ a) (askW (askM r i h (0 < i) q)) k := hI
        obtain ⟨hp, ht, hz, hR2, hC⟩ := hI
        show gWP _ _ _ _ _ [(2, S), (2, b), (0, i), (2, a), (2, 8), (1, keyR r i), (9, 0), (2, S + 2 + i), (0, v62), (0, h), (0, t), (0, p)] [] _ (g2) _
        have hf := hfr _ hR2.1
        have hP2 := hR2.2.1
        refine gw_iload (gc k_Sheet_renew_1 13 rfl) rfl ?_
        refine gw_iload (gc k_Sheet_renew_1 14 rfl) rfl ?_
        refine gw_icmp_ge (tgt := 161) (gc k_Sheet_renew_1 15 rfl) rfl (by omega) (fun c93 => ?_) (fun c93 => ?_)
        · refine gw_iinc_9 (gc k_Sheet_renew_2 7 rfl) rfl rfl ?_
          refine gw_goto (tgt := 76) (gc k_Sheet_renew_2 8 rfl) rfl ?_
          refine ih (h + 1, _, _, g2) ⟨⟨by omega, by omega⟩, hR2.1, hP2, hR2.2.2.1, hR2.2.2.2.1, fun y q x1 x2 x3 x4 => ?_, hR2.2.2.2.2.2⟩ (by show (25 - (h + 1)).toNat < (25 - h).toNat; omega)
          by_cases e : y = h
          · rw [e]; exact hC q x3 (by omega)
          · exact hR2.2.2.2.2.1 y q x1 (by omega) x3 x4
        · refine gw_aload (gc k_Sheet_renew_1 16 rfl) rfl rfl ?_
          refine gw_iload (gc k_Sheet_renew_1 17 rfl) rfl ?_
          refine gw_iload (gc k_Sheet_renew_1 18 rfl) rfl ?_
          refine gw_cV0 (gc k_Sheet_renew_1 19 rfl) y_Judge_sound ln_Sheet_42 (c_Judge_sound hx hf h p (by rw [hP2.1]; exact bi_01 _)) rfl rfl (by first | exact (ss hx hS).1 | exact (ss hx hS).2.1 | exact (ss hx hS).2.2.1 | exact (ss hx hS).2.2.2 | exact sp hx hS (by omega) | exact gAt hx rfl rfl | exact (bs hx hb).1 | exact (bs hx hb).2.1 | exact (bs hx hb).2.2.1 | exact (bs hx hb).2.2.2.1 | exact haY.2.1) rfl rfl ?_
          obtain ⟨gs, hgs⟩ : ∃ M, M = soM g2 h p := ⟨_, rfl⟩
          rw [← hgs]
          have hws : jwI r i h 0 p gs := by rw [hgs]; exact jw_pl hP2 h p
          have hPs : plK r i 0 gs := by rw [hgs]; exact hP2.so h p
          have jgs : jgF g2 gs := by rw [hgs]; exact soM_jg _ _ _
          have hf := jgs.fin hf
          have hRs := hR2.jg hS hi12 jgs hPs
          have hwb := hws.bd ho hi (by omega) (by omega) (by decide)
          have hCs : ∀ q, 0 ≤ q → q < p → gs (S + 2 + i) (q * 25 + h) = jL (Λ a) (askW (askM r i h (0 < i) q)) k := fun q x y => by rw [jgs _ _ (by omega) (by omega) (by omega)]; exact hC q x y
          have hks : gs S 1 = k := hkd _ hRs.1
          have hls := hlw _ hRs.1
          have hjb := jL_bd (L := Λ a) (W := askW (askM r i h (0 < i) p)) (by show -999 ≤ (if 0 < i then h - p else 0) ∧ (if 0 < i then h - p else 0) ≤ 999; split <;> omega) hk2
          refine gw_iload (gc k_Sheet_renew_1 20 rfl) rfl ?_
          refine gw_if_eq (tgt := 121) (gc k_Sheet_renew_1 21 rfl) rfl (by omega) (fun c107 => ?_) (fun c107 => ?_)
          · refine gw_aload (gc k_Sheet_renew_1 27 rfl) rfl rfl ?_
            refine gw_aload_n (gc k_Sheet_renew_1 28 rfl) rfl rfl ?_
            refine gw_aload_n (gc k_Sheet_renew_1 29 rfl) rfl rfl ?_
            refine gw_getf 1 rfl (gc k_Sheet_renew_1 30 rfl) fl_Sheet_26 (by first | exact (ss hx hS).1 | exact (ss hx hS).2.1 | exact (ss hx hS).2.2.1 | exact (ss hx hS).2.2.2 | exact sp hx hS (by omega) | exact gAt hx rfl rfl | exact (bs hx hb).1 | exact (bs hx hb).2.1 | exact (bs hx hb).2.2.1 | exact (bs hx hb).2.2.2.1 | exact haY.2.1) ?_
            rw [hks]
            refine gw_xV1 (gc k_Sheet_renew_1 31 rfl) y_Judge_told ln_Sheet_50 (c_Judge_told hx hf hls.1 hls.2.1 (fun y ya yb => by have := hwb y ya yb; unfold bd9; omega) k (by omega)) rfl rfl (by first | exact (ss hx hS).1 | exact (ss hx hS).2.1 | exact (ss hx hS).2.2.1 | exact (ss hx hS).2.2.2 | exact sp hx hS (by omega) | exact gAt hx rfl rfl | exact (bs hx hb).1 | exact (bs hx hb).2.1 | exact (bs hx hb).2.2.1 | exact (bs hx hb).2.2.2.1 | exact haY.2.1) rfl rfl (fun r128 sh2 g128 hq128 => ?_)
            obtain ⟨rfl, rfl, jt⟩ := hq128
            have hf := jt.fin (Or.inl rfl) hf
            have h5 : g128 11 = gs 11 := jt.fn (by decide)
            obtain ⟨tv, htv⟩ : ∃ tv, tv = tl (gs 11) (k + 1) (topK k) (-1) (Λ a) := ⟨_, rfl⟩
            rw [← htv]
            have htb : -1 ≤ tv ∧ tv ≤ 999 := by have := tl_rg (w := gs 11) (k := k + 1) (topK_nn k).1 (Λ a); have := topK_nn k; omega
            have htw : tv = tl (askW (askM r i h (0 < i) p)) (k + 1) (topK k) (-1) (Λ a) := htv.trans (tl_w10 hLs.2.2 (fun y ya yb => hws y ya yb))
            have hPm : plK r i 0 g128 := hPs.of (fun x y z => jt x y (by rcases z with ⟨rfl, -⟩ | ⟨rfl, -⟩ <;> decide))
            have hRm := hRs.jg hS hi12 jt.jg hPm
            have hCm : ∀ q, 0 ≤ q → q < p → g128 (S + 2 + i) (q * 25 + h) = jL (Λ a) (askW (askM r i h (0 < i) q)) k := fun q x y => by rw [jt.jg _ _ (by omega) (by omega) (by omega)]; exact hCs q x y
            have hkm : g128 S 1 = k := hkd _ hRm.1
            refine gw_istore_10 (gc k_Sheet_renew_1 32 rfl) rfl rfl ?_
            have htz : p + 1 = 0 ∨ (a ≠ -1 ∧ g a 2 ≠ 0) ∨ ∀ q, tv = tl (askW (askM r i h (0 < i) q)) (k + 1) (topK k) (-1) (Λ a) := Or.inr (by
              by_cases y : a ≠ -1 ∧ g a 2 ≠ 0
              · exact Or.inl y
              · exact Or.inr (fun q => htw.trans (hnb y p q h)))
            refine gw_aload (gc k_Sheet_renew_1 33 rfl) rfl rfl ?_
            refine gw_iload (gc k_Sheet_renew_1 34 rfl) rfl ?_
            refine gw_bipush (gc k_Sheet_renew_1 35 rfl) (by decide) ?_
            refine gw_imul (gc k_Sheet_renew_1 36 rfl) ?_
            refine gw_iload (gc k_Sheet_renew_1 37 rfl) rfl ?_
            refine gw_iadd (gc k_Sheet_renew_1 38 rfl) ?_
            refine gw_aload (gc k_Sheet_renew_1 39 rfl) rfl rfl ?_
            refine gw_iload (gc k_Sheet_renew_2 0 rfl) rfl ?_
            refine gw_aload_n (gc k_Sheet_renew_2 1 rfl) rfl rfl ?_
            refine gw_getf 1 rfl (gc k_Sheet_renew_2 2 rfl) fl_Sheet_26 (by first | exact (ss hx hS).1 | exact (ss hx hS).2.1 | exact (ss hx hS).2.2.1 | exact (ss hx hS).2.2.2 | exact sp hx hS (by omega) | exact gAt hx rfl rfl | exact (bs hx hb).1 | exact (bs hx hb).2.1 | exact (bs hx hb).2.2.1 | exact (bs hx hb).2.2.2.1 | exact haY.2.1) ?_
            rw [hkm]
            refine gw_cV1 (gc k_Sheet_renew_2 3 rfl) y_Judge_orElse ln_Sheet_54 (c_Judge_orElse hx hf tv k (by omega) (by omega) (by rw [h5]; exact hwb 5 (by decide) (by decide))) rfl rfl (by first | exact (ss hx hS).1 | exact (ss hx hS).2.1 | exact (ss hx hS).2.2.1 | exact (ss hx hS).2.2.2 | exact sp hx hS (by omega) | exact gAt hx rfl rfl | exact (bs hx hb).1 | exact (bs hx hb).2.1 | exact (bs hx hb).2.2.1 | exact (bs hx hb).2.2.2.1 | exact haY.2.1) rfl rfl ?_
            rw [h5, hws 5 (by decide) (by decide)]
            have hv : (if tv = -1 then (if k = 0 then (if askW (askM r i h (0 < i) p) 5 < 0 then -(askW (askM r i h (0 < i) p) 5) else askW (askM r i h (0 < i) p) 5) else if k = 1 then 1 else 0) else tv) = jL (Λ a) (askW (askM r i h (0 < i) p)) k := by rw [htw]; exact jl_val hLs.2.2 _ _ rfl k (by omega)
            rw [show (if tv = -1 then _ else tv) = _ from hv]
            refine gw_iastF (gc k_Sheet_renew_2 4 rfl) (by first | exact (ss hx hS).1 | exact (ss hx hS).2.1 | exact (ss hx hS).2.2.1 | exact (ss hx hS).2.2.2 | exact sp hx hS (by omega) | exact gAt hx rfl rfl | exact (bs hx hb).1 | exact (bs hx hb).2.1 | exact (bs hx hb).2.2.1 | exact (bs hx hb).2.2.2.1 | exact haY.2.1) (by omega) hf (by first | rfl | exact sn hS (by omega) _) (fun hf => ?_)
            refine gw_iinc_11 (gc k_Sheet_renew_2 5 rfl) rfl rfl ?_
            refine gw_goto (tgt := 89) (gc k_Sheet_renew_2 6 rfl) rfl ?_
            have hnew : (0 ≤ (p + 1) ∧ (p + 1) ≤ v62) ∧ (-1 ≤ tv ∧ tv ≤ 999) ∧ ((p + 1) = 0 ∨ (a ≠ -1 ∧ g a 2 ≠ 0) ∨ ∀ q, tv = tl (askW (askM r i h (0 < i) q)) (k + 1) (topK k) (-1) (Λ a)) ∧ rnI Λ S k i a r v62 h g (gup g128 (S + 2 + i) (p * 25 + h) (jL (Λ a) (askW (askM r i h (0 < i) p)) k)) ∧ ∀ q, 0 ≤ q → q < (p + 1) → (gup g128 (S + 2 + i) (p * 25 + h) (jL (Λ a) (askW (askM r i h (0 < i) p)) k)) (S + 2 + i) (q * 25 + h) = jL (Λ a) (askW (askM r i h (0 < i) q)) k := by
              refine ⟨⟨by omega, by omega⟩, htb, htz, hRm.up hS hi12 (by omega) p _ hjb, fun q x y => ?_⟩
              by_cases e : q = p
              · rw [e, gup_s]
              · rw [gup_k _ _ _ _ (by omega)]; exact hCm q x (by omega)
            exact ih2 (p + 1, tv, gup g128 (S + 2 + i) (p * 25 + h) (jL (Λ a) (askW (askM r i h (0 < i) p)) k)) hnew (by show (v62 - (p + 1)).toNat < (v62 - p).toNat; omega)
          · refine gw_aload_n (gc k_Sheet_renew_1 22 rfl) rfl rfl ?_
            refine gw_ifnull (tgt := 133) (gc k_Sheet_renew_1 23 rfl) rfl  (fun c111 => ?_) (fun c111 => ?_)
            · have htw : ∀ q, t = tl (askW (askM r i h (0 < i) q)) (k + 1) (topK k) (-1) (Λ a) := by
                rcases hz with y | y | y
                · omega
                · omega
                · exact y
              have htz : p + 1 = 0 ∨ (a ≠ -1 ∧ g a 2 ≠ 0) ∨ ∀ q, t = tl (askW (askM r i h (0 < i) q)) (k + 1) (topK k) (-1) (Λ a) := Or.inr (Or.inr htw)
              refine gw_aload (gc k_Sheet_renew_1 33 rfl) rfl rfl ?_
              refine gw_iload (gc k_Sheet_renew_1 34 rfl) rfl ?_
              refine gw_bipush (gc k_Sheet_renew_1 35 rfl) (by decide) ?_
              refine gw_imul (gc k_Sheet_renew_1 36 rfl) ?_
              refine gw_iload (gc k_Sheet_renew_1 37 rfl) rfl ?_
              refine gw_iadd (gc k_Sheet_renew_1 38 rfl) ?_
              refine gw_aload (gc k_Sheet_renew_1 39 rfl) rfl rfl ?_
              refine gw_iload (gc k_Sheet_renew_2 0 rfl) rfl ?_
              refine gw_aload_n (gc k_Sheet_renew_2 1 rfl) rfl rfl ?_
              refine gw_getf 1 rfl (gc k_Sheet_renew_2 2 rfl) fl_Sheet_26 (by first | exact (ss hx hS).1 | exact (ss hx hS).2.1 | exact (ss hx hS).2.2.1 | exact (ss hx hS).2.2.2 | exact sp hx hS (by omega) | exact gAt hx rfl rfl | exact (bs hx hb).1 | exact (bs hx hb).2.1 | exact (bs hx hb).2.2.1 | exact (bs hx hb).2.2.2.1 | exact haY.2.1) ?_
              rw [hks]
              refine gw_cV1 (gc k_Sheet_renew_2 3 rfl) y_Judge_orElse ln_Sheet_54 (c_Judge_orElse hx hf t k (by omega) (by omega) (hwb 5 (by decide) (by decide))) rfl rfl (by first | exact (ss hx hS).1 | exact (ss hx hS).2.1 | exact (ss hx hS).2.2.1 | exact (ss hx hS).2.2.2 | exact sp hx hS (by omega) | exact gAt hx rfl rfl | exact (bs hx hb).1 | exact (bs hx hb).2.1 | exact (bs hx hb).2.2.1 | exact (bs hx hb).2.2.2.1 | exact haY.2.1) rfl rfl ?_
              rw [hws 5 (by decide) (by decide)]
              have hv : (if t = -1 then (if k = 0 then (if askW (askM r i h (0 < i) p) 5 < 0 then -(askW (askM r i h (0 < i) p) 5) else askW (askM r i h (0 < i) p) 5) else if k = 1 then 1 else 0) else t) = jL (Λ a) (askW (askM r i h (0 < i) p)) k := by rw [htw p]; exact jl_val hLs.2.2 _ _ rfl k (by omega)
              rw [show (if t = -1 then _ else t) = _ from hv]
              refine gw_iastF (gc k_Sheet_renew_2 4 rfl) (by first | exact (ss hx hS).1 | exact (ss hx hS).2.1 | exact (ss hx hS).2.2.1 | exact (ss hx hS).2.2.2 | exact sp hx hS (by omega) | exact gAt hx rfl rfl | exact (bs hx hb).1 | exact (bs hx hb).2.1 | exact (bs hx hb).2.2.1 | exact (bs hx hb).2.2.2.1 | exact haY.2.1) (by omega) hf (by first | rfl | exact sn hS (by omega) _) (fun hf => ?_)
              refine gw_iinc_11 (gc k_Sheet_renew_2 5 rfl) rfl rfl ?_
              refine gw_goto (tgt := 89) (gc k_Sheet_renew_2 6 rfl) rfl ?_
              have hnew : (0 ≤ (p + 1) ∧ (p + 1) ≤ v62) ∧ (-1 ≤ t ∧ t ≤ 999) ∧ ((p + 1) = 0 ∨ (a ≠ -1 ∧ g a 2 ≠ 0) ∨ ∀ q, t = tl (askW (askM r i h (0 < i) q)) (k + 1) (topK k) (-1) (Λ a)) ∧ rnI Λ S k i a r v62 h g (gup gs (S + 2 + i) (p * 25 + h) (jL (Λ a) (askW (askM r i h (0 < i) p)) k)) ∧ ∀ q, 0 ≤ q → q < (p + 1) → (gup gs (S + 2 + i) (p * 25 + h) (jL (Λ a) (askW (askM r i h (0 < i) p)) k)) (S + 2 + i) (q * 25 + h) = jL (Λ a) (askW (askM r i h (0 < i) q)) k := by
                refine ⟨⟨by omega, by omega⟩, ht, htz, hRs.up hS hi12 (by omega) p _ hjb, fun q x y => ?_⟩
                by_cases e : q = p
                · rw [e, gup_s]
                · rw [gup_k _ _ _ _ (by omega)]; exact hCs q x (by omega)
              exact ih2 (p + 1, t, gup gs (S + 2 + i) (p * 25 + h) (jL (Λ a) (askW (askM r i h (0 < i) p)) k)) hnew (by show (v62 - (p + 1)).toNat < (v62 - p).toNat; omega)
            · have haY := haX.resolve_left (fun z => by have := z.1; omega)
              have hga : gs a 2 = g a 2 := hRs.1 a 2 (by omega) (by omega) (by omega) (by omega) (by omega) (by omega)
              have hgb : gs a 2 = 0 ∨ gs a 2 = 1 := by rw [hga]; exact haY.2.2.1
              refine gw_aload_n (gc k_Sheet_renew_1 24 rfl) rfl rfl ?_
              refine gw_getf 2 rfl (gc k_Sheet_renew_1 25 rfl) fl_Sheet_46 (by first | exact (ss hx hS).1 | exact (ss hx hS).2.1 | exact (ss hx hS).2.2.1 | exact (ss hx hS).2.2.2 | exact sp hx hS (by omega) | exact gAt hx rfl rfl | exact (bs hx hb).1 | exact (bs hx hb).2.1 | exact (bs hx hb).2.2.1 | exact (bs hx hb).2.2.2.1 | exact haY.2.1) ?_
              refine gw_if_eq (tgt := 133) (gc k_Sheet_renew_1 26 rfl) rfl (by omega) (fun c118 => ?_) (fun c118 => ?_)
              · have htw : ∀ q, t = tl (askW (askM r i h (0 < i) q)) (k + 1) (topK k) (-1) (Λ a) := by
                  rcases hz with y | y | y
                  · omega
                  · omega
                  · exact y
                have htz : p + 1 = 0 ∨ (a ≠ -1 ∧ g a 2 ≠ 0) ∨ ∀ q, t = tl (askW (askM r i h (0 < i) q)) (k + 1) (topK k) (-1) (Λ a) := Or.inr (Or.inr htw)
                refine gw_aload (gc k_Sheet_renew_1 33 rfl) rfl rfl ?_
                refine gw_iload (gc k_Sheet_renew_1 34 rfl) rfl ?_
                refine gw_bipush (gc k_Sheet_renew_1 35 rfl) (by decide) ?_
                refine gw_imul (gc k_Sheet_renew_1 36 rfl) ?_
                refine gw_iload (gc k_Sheet_renew_1 37 rfl) rfl ?_
                refine gw_iadd (gc k_Sheet_renew_1 38 rfl) ?_
                refine gw_aload (gc k_Sheet_renew_1 39 rfl) rfl rfl ?_
                refine gw_iload (gc k_Sheet_renew_2 0 rfl) rfl ?_
                refine gw_aload_n (gc k_Sheet_renew_2 1 rfl) rfl rfl ?_
                refine gw_getf 1 rfl (gc k_Sheet_renew_2 2 rfl) fl_Sheet_26 (by first | exact (ss hx hS).1 | exact (ss hx hS).2.1 | exact (ss hx hS).2.2.1 | exact (ss hx hS).2.2.2 | exact sp hx hS (by omega) | exact gAt hx rfl rfl | exact (bs hx hb).1 | exact (bs hx hb).2.1 | exact (bs hx hb).2.2.1 | exact (bs hx hb).2.2.2.1 | exact haY.2.1) ?_
                rw [hks]
                refine gw_cV1 (gc k_Sheet_renew_2 3 rfl) y_Judge_orElse ln_Sheet_54 (c_Judge_orElse hx hf t k (by omega) (by omega) (hwb 5 (by decide) (by decide))) rfl rfl (by first | exact (ss hx hS).1 | exact (ss hx hS).2.1 | exact (ss hx hS).2.2.1 | exact (ss hx hS).2.2.2 | exact sp hx hS (by omega) | exact gAt hx rfl rfl | exact (bs hx hb).1 | exact (bs hx hb).2.1 | exact (bs hx hb).2.2.1 | exact (bs hx hb).2.2.2.1 | exact haY.2.1) rfl rfl ?_
                rw [hws 5 (by decide) (by decide)]
                have hv : (if t = -1 then (if k = 0 then (if askW (askM r i h (0 < i) p) 5 < 0 then -(askW (askM r i h (0 < i) p) 5) else askW (askM r i h (0 < i) p) 5) else if k = 1 then 1 else 0) else t) = jL (Λ a) (askW (askM r i h (0 < i) p)) k := by rw [htw p]; exact jl_val hLs.2.2 _ _ rfl k (by omega)
                rw [show (if t = -1 then _ else t) = _ from hv]
                refine gw_iastF (gc k_Sheet_renew_2 4 rfl) (by first | exact (ss hx hS).1 | exact (ss hx hS).2.1 | exact (ss hx hS).2.2.1 | exact (ss hx hS).2.2.2 | exact sp hx hS (by omega) | exact gAt hx rfl rfl | exact (bs hx hb).1 | exact (bs hx hb).2.1 | exact (bs hx hb).2.2.1 | exact (bs hx hb).2.2.2.1 | exact haY.2.1) (by omega) hf (by first | rfl | exact sn hS (by omega) _) (fun hf => ?_)
                refine gw_iinc_11 (gc k_Sheet_renew_2 5 rfl) rfl rfl ?_
                refine gw_goto (tgt := 89) (gc k_Sheet_renew_2 6 rfl) rfl ?_
                have hnew : (0 ≤ (p + 1) ∧ (p + 1) ≤ v62) ∧ (-1 ≤ t ∧ t ≤ 999) ∧ ((p + 1) = 0 ∨ (a ≠ -1 ∧ g a 2 ≠ 0) ∨ ∀ q, t = tl (askW (askM r i h (0 < i) q)) (k + 1) (topK k) (-1) (Λ a)) ∧ rnI Λ S k i a r v62 h g (gup gs (S + 2 + i) (p * 25 + h) (jL (Λ a) (askW (askM r i h (0 < i) p)) k)) ∧ ∀ q, 0 ≤ q → q < (p + 1) → (gup gs (S + 2 + i) (p * 25 + h) (jL (Λ a) (askW (askM r i h (0 < i) p)) k)) (S + 2 + i) (q * 25 + h) = jL (Λ a) (askW (askM r i h (0 < i) q)) k := by
                  refine ⟨⟨by omega, by omega⟩, ht, htz, hRs.up hS hi12 (by omega) p _ hjb, fun q x y => ?_⟩
                  by_cases e : q = p
                  · rw [e, gup_s]
                  · rw [gup_k _ _ _ _ (by omega)]; exact hCs q x (by omega)
                exact ih2 (p + 1, t, gup gs (S + 2 + i) (p * 25 + h) (jL (Λ a) (askW (askM r i h (0 < i) p)) k)) hnew (by show (v62 - (p + 1)).toNat < (v62 - p).toNat; omega)
              · refine gw_aload (gc k_Sheet_renew_1 27 rfl) rfl rfl ?_
                refine gw_aload_n (gc k_Sheet_renew_1 28 rfl) rfl rfl ?_
                refine gw_aload_n (gc k_Sheet_renew_1 29 rfl) rfl rfl ?_
                refine gw_getf 1 rfl (gc k_Sheet_renew_1 30 rfl) fl_Sheet_26 (by first | exact (ss hx hS).1 | exact (ss hx hS).2.1 | exact (ss hx hS).2.2.1 | exact (ss hx hS).2.2.2 | exact sp hx hS (by omega) | exact gAt hx rfl rfl | exact (bs hx hb).1 | exact (bs hx hb).2.1 | exact (bs hx hb).2.2.1 | exact (bs hx hb).2.2.2.1 | exact haY.2.1) ?_
                rw [hks]
                refine gw_xV1 (gc k_Sheet_renew_1 31 rfl) y_Judge_told ln_Sheet_50 (c_Judge_told hx hf hls.1 hls.2.1 (fun y ya yb => by have := hwb y ya yb; unfold bd9; omega) k (by omega)) rfl rfl (by first | exact (ss hx hS).1 | exact (ss hx hS).2.1 | exact (ss hx hS).2.2.1 | exact (ss hx hS).2.2.2 | exact sp hx hS (by omega) | exact gAt hx rfl rfl | exact (bs hx hb).1 | exact (bs hx hb).2.1 | exact (bs hx hb).2.2.1 | exact (bs hx hb).2.2.2.1 | exact haY.2.1) rfl rfl (fun r128 sh2 g128 hq128 => ?_)
                obtain ⟨rfl, rfl, jt⟩ := hq128
                have hf := jt.fin (Or.inl rfl) hf
                have h5 : g128 11 = gs 11 := jt.fn (by decide)
                obtain ⟨tv, htv⟩ : ∃ tv, tv = tl (gs 11) (k + 1) (topK k) (-1) (Λ a) := ⟨_, rfl⟩
                rw [← htv]
                have htb : -1 ≤ tv ∧ tv ≤ 999 := by have := tl_rg (w := gs 11) (k := k + 1) (topK_nn k).1 (Λ a); have := topK_nn k; omega
                have htw : tv = tl (askW (askM r i h (0 < i) p)) (k + 1) (topK k) (-1) (Λ a) := htv.trans (tl_w10 hLs.2.2 (fun y ya yb => hws y ya yb))
                have hPm : plK r i 0 g128 := hPs.of (fun x y z => jt x y (by rcases z with ⟨rfl, -⟩ | ⟨rfl, -⟩ <;> decide))
                have hRm := hRs.jg hS hi12 jt.jg hPm
                have hCm : ∀ q, 0 ≤ q → q < p → g128 (S + 2 + i) (q * 25 + h) = jL (Λ a) (askW (askM r i h (0 < i) q)) k := fun q x y => by rw [jt.jg _ _ (by omega) (by omega) (by omega)]; exact hCs q x y
                have hkm : g128 S 1 = k := hkd _ hRm.1
                refine gw_istore_10 (gc k_Sheet_renew_1 32 rfl) rfl rfl ?_
                have htz : p + 1 = 0 ∨ (a ≠ -1 ∧ g a 2 ≠ 0) ∨ ∀ q, tv = tl (askW (askM r i h (0 < i) q)) (k + 1) (topK k) (-1) (Λ a) := Or.inr (Or.inl ⟨by omega, by omega⟩)
                refine gw_aload (gc k_Sheet_renew_1 33 rfl) rfl rfl ?_
                refine gw_iload (gc k_Sheet_renew_1 34 rfl) rfl ?_
                refine gw_bipush (gc k_Sheet_renew_1 35 rfl) (by decide) ?_
                refine gw_imul (gc k_Sheet_renew_1 36 rfl) ?_
                refine gw_iload (gc k_Sheet_renew_1 37 rfl) rfl ?_
                refine gw_iadd (gc k_Sheet_renew_1 38 rfl) ?_
                refine gw_aload (gc k_Sheet_renew_1 39 rfl) rfl rfl ?_
                refine gw_iload (gc k_Sheet_renew_2 0 rfl) rfl ?_
                refine gw_aload_n (gc k_Sheet_renew_2 1 rfl) rfl rfl ?_
                refine gw_getf 1 rfl (gc k_Sheet_renew_2 2 rfl) fl_Sheet_26 (by first | exact (ss hx hS).1 | exact (ss hx hS).2.1 | exact (ss hx hS).2.2.1 | exact (ss hx hS).2.2.2 | exact sp hx hS (by omega) | exact gAt hx rfl rfl | exact (bs hx hb).1 | exact (bs hx hb).2.1 | exact (bs hx hb).2.2.1 | exact (bs hx hb).2.2.2.1 | exact haY.2.1) ?_
                rw [hkm]
                refine gw_cV1 (gc k_Sheet_renew_2 3 rfl) y_Judge_orElse ln_Sheet_54 (c_Judge_orElse hx hf tv k (by omega) (by omega) (by rw [h5]; exact hwb 5 (by decide) (by decide))) rfl rfl (by first | exact (ss hx hS).1 | exact (ss hx hS).2.1 | exact (ss hx hS).2.2.1 | exact (ss hx hS).2.2.2 | exact sp hx hS (by omega) | exact gAt hx rfl rfl | exact (bs hx hb).1 | exact (bs hx hb).2.1 | exact (bs hx hb).2.2.1 | exact (bs hx hb).2.2.2.1 | exact haY.2.1) rfl rfl ?_
                rw [h5, hws 5 (by decide) (by decide)]
                have hv : (if tv = -1 then (if k = 0 then (if askW (askM r i h (0 < i) p) 5 < 0 then -(askW (askM r i h (0 < i) p) 5) else askW (askM r i h (0 < i) p) 5) else if k = 1 then 1 else 0) else tv) = jL (Λ a) (askW (askM r i h (0 < i) p)) k := by rw [htw]; exact jl_val hLs.2.2 _ _ rfl k (by omega)
                rw [show (if tv = -1 then _ else tv) = _ from hv]
                refine gw_iastF (gc k_Sheet_renew_2 4 rfl) (by first | exact (ss hx hS).1 | exact (ss hx hS).2.1 | exact (ss hx hS).2.2.1 | exact (ss hx hS).2.2.2 | exact sp hx hS (by omega) | exact gAt hx rfl rfl | exact (bs hx hb).1 | exact (bs hx hb).2.1 | exact (bs hx hb).2.2.1 | exact (bs hx hb).2.2.2.1 | exact haY.2.1) (by omega) hf (by first | rfl | exact sn hS (by omega) _) (fun hf => ?_)
                refine gw_iinc_11 (gc k_Sheet_renew_2 5 rfl) rfl rfl ?_
                refine gw_goto (tgt := 89) (gc k_Sheet_renew_2 6 rfl) rfl ?_
                have hnew : (0 ≤ (p + 1) ∧ (p + 1) ≤ v62) ∧ (-1 ≤ tv ∧ tv ≤ 999) ∧ ((p + 1) = 0 ∨ (a ≠ -1 ∧ g a 2 ≠ 0) ∨ ∀ q, tv = tl (askW (askM r i h (0 < i) q)) (k + 1) (topK k) (-1) (Λ a)) ∧ rnI Λ S k i a r v62 h g (gup g128 (S + 2 + i) (p * 25 + h) (jL (Λ a) (askW (askM r i h (0 < i) p)) k)) ∧ ∀ q, 0 ≤ q → q < (p + 1) → (gup g128 (S + 2 + i) (p * 25 + h) (jL (Λ a) (askW (askM r i h (0 < i) p)) k)) (S + 2 + i) (q * 25 + h) = jL (Λ a) (askW (askM r i h (0 < i) q)) k := by
                  refine ⟨⟨by omega, by omega⟩, htb, htz, hRm.up hS hi12 (by omega) p _ hjb, fun q x y => ?_⟩
                  by_cases e : q = p
                  · rw [e, gup_s]
                  · rw [gup_k _ _ _ _ (by omega)]; exact hCm q x (by omega)
                exact ih2 (p + 1, tv, gup g128 (S + 2 + i) (p * 25 + h) (jL (Λ a) (askW (askM r i h (0 < i) p)) k)) hnew (by show (v62 - (p + 1)).toNat < (v62 - p).toNat; omega)
    · refine gw_if_ne (tgt := 69) (gc k_Sheet_renew_0 39 rfl) rfl (by omega) (fun c62 => ?_) (fun c62 => ?_)
      · refine gw_bipush (gc k_Sheet_renew_1 2 rfl) (by decide) ?_
        exact kj62 _ (by omega)
      · refine gw_iconst (gc k_Sheet_renew_1 0 rfl) ?_
        refine gw_goto (tgt := 71) (gc k_Sheet_renew_1 1 rfl) rfl ?_
        exact kj62 _ (by omega)
  · refine gw_aload_n (gc k_Sheet_renew_0 4 rfl) rfl rfl ?_
    refine gw_getref (gc k_Sheet_renew_0 5 rfl) fl_Sheet_16 (by first | exact (ss hx hS).1 | exact (ss hx hS).2.1 | exact (ss hx hS).2.2.1 | exact (ss hx hS).2.2.2 | exact sp hx hS (by omega) | exact gAt hx rfl rfl | exact (bs hx hb).1 | exact (bs hx hb).2.1 | exact (bs hx hb).2.2.1 | exact (bs hx hb).2.2.2.1 | exact haY.2.1) (by first | exact (sr hf hS).1 | exact (sr hf hS).2.1 | exact (sr hf hS).2.2 | exact (br hf hb).1 | exact (br hf hb).2.1 | exact (br hf hb).2.2.1) ?_
    refine gw_iload_n (gc k_Sheet_renew_0 6 rfl) rfl ?_
    refine gw_lald (gc k_Sheet_renew_0 7 rfl) (by first | exact (ss hx hS).1 | exact (ss hx hS).2.1 | exact (ss hx hS).2.2.1 | exact (ss hx hS).2.2.2 | exact sp hx hS (by omega) | exact gAt hx rfl rfl | exact (bs hx hb).1 | exact (bs hx hb).2.1 | exact (bs hx hb).2.2.1 | exact (bs hx hb).2.2.2.1 | exact haY.2.1) (by omega) ?_
    refine gw_lload (gc k_Sheet_renew_0 8 rfl) rfl ?_
    refine gw_lc_ne (tgt := 30) (gc k_Sheet_renew_0 9 rfl) (gc k_Sheet_renew_0 10 rfl) rfl (by omega) (fun c16 => ?_) (fun c16 => ?_)
    · exact kj7
    · refine gw_aload_n (gc k_Sheet_renew_0 11 rfl) rfl rfl ?_
      refine gw_getref (gc k_Sheet_renew_0 12 rfl) fl_Sheet_22 (by first | exact (ss hx hS).1 | exact (ss hx hS).2.1 | exact (ss hx hS).2.2.1 | exact (ss hx hS).2.2.2 | exact sp hx hS (by omega) | exact gAt hx rfl rfl | exact (bs hx hb).1 | exact (bs hx hb).2.1 | exact (bs hx hb).2.2.1 | exact (bs hx hb).2.2.2.1 | exact haY.2.1) (by first | exact (sr hf hS).1 | exact (sr hf hS).2.1 | exact (sr hf hS).2.2 | exact (br hf hb).1 | exact (br hf hb).2.1 | exact (br hf hb).2.2.1) ?_
      refine gw_iload_n (gc k_Sheet_renew_0 13 rfl) rfl ?_
      refine gw_aald_Text (gc k_Sheet_renew_0 14 rfl) (by first | exact (ss hx hS).1 | exact (ss hx hS).2.1 | exact (ss hx hS).2.2.1 | exact (ss hx hS).2.2.2 | exact sp hx hS (by omega) | exact gAt hx rfl rfl | exact (bs hx hb).1 | exact (bs hx hb).2.1 | exact (bs hx hb).2.2.1 | exact (bs hx hb).2.2.2.1 | exact haY.2.1) (by omega) ?_
      refine gw_aload_n (gc k_Sheet_renew_0 15 rfl) rfl rfl ?_
      refine gw_acmp_ne (tgt := 30) (gc k_Sheet_renew_0 16 rfl) rfl (by omega) (by omega) (fun c26 => ?_) (fun c26 => ?_)
      · exact kj7
      · refine gw_return (gc k_Sheet_renew_0 17 rfl) rfl ?_
        exact ⟨rfl, rfl, shW.rf S i g, hI, c26 ▸ hI.kept ho hi12 c16⟩
