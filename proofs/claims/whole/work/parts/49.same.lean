/-! ===== loops by a measure; readings that agree ===== -/
theorem gwloop {F : gF} {d mc ms pc : Nat} {st ls : List gV} {sh : gS} {g : gM} {Q : gQ} {σ : Type} (I : σ → Prop) (μ : σ → Nat) (L : σ → List gV) (M : σ → gM) (s0 : σ) (h0 : I s0) (hl : L s0 = ls) (hg : M s0 = g) (hs : ∀ s, I s → (∀ s', I s' → μ s' < μ s → gWP F d mc ms pc (L s') st sh (M s') Q) → gWP F d mc ms pc (L s) st sh (M s) Q) : gWP F d mc ms pc ls st sh g Q := by
  subst hl hg
  exact gloop I μ (fun s => gWP F d mc ms pc (L s) st sh (M s) Q) hs s0 h0
/-- numbers that agree where a number stands -/
def vSame (T V V2 : Int → Int) : Prop := ∀ p, T p = 50 → V2 p = V p
theorem pPartW_V {T V V2 : Int → Int} (h : vSame T V V2) (o : Bool) (sub : Option (Int → Int → PR)) : pPartW T V2 o sub = pPartW T V o sub := by
  funext p n
  unfold pPartW
  have e1 : ∀ {α : Type} (x y : α), (if T p = 50 ∧ V2 p ≤ 1000 then x else y) = (if T p = 50 ∧ V p ≤ 1000 then x else y) := fun x y => by
    by_cases z : T p = 50
    · rw [h p z]
    · rw [if_neg (fun q => z q.1), if_neg (fun q => z q.1)]
  have e2 : (if T (p + 1) = 50 ∧ V2 (p + 1) ≤ 11 then (Sum.inr (p + 2, n + 1, [(1, (if T p = 15 then 5 else 17) + V2 (p + 1))], fun w => some (w ((if T p = 15 then 5 else 17) + V2 (p + 1)))) : PR) else .inl (p + 1)) = (if T (p + 1) = 50 ∧ V (p + 1) ≤ 11 then .inr (p + 2, n + 1, [(1, (if T p = 15 then 5 else 17) + V (p + 1))], fun w => some (w ((if T p = 15 then 5 else 17) + V (p + 1)))) else .inl (p + 1)) := by
    by_cases z : T (p + 1) = 50
    · rw [h _ z]
    · rw [if_neg (fun q => z q.1), if_neg (fun q => z q.1)]
  rw [e1, e2]
  by_cases z : T p = 50
  · rw [h p z]
  · rw [if_neg (show ¬ (T p = 50 ∧ V p ≤ 1000) from fun q => z q.1), if_neg (show ¬ (T p = 50 ∧ V p ≤ 1000) from fun q => z q.1)]
theorem pSum_V {T V V2 : Int → Int} (h : vSame T V V2) (o : Bool) : ∀ k, pSum T V2 o k = pSum T V o k
  | 0 => by unfold pSum; rw [pPartW_V h]
  | k + 1 => by unfold pSum; rw [pPartW_V h, pSum_V h o k]
theorem pTest_V {T V V2 : Int → Int} (h : vSame T V V2) (o : Bool) : ∀ k, pTest T V2 o k = pTest T V o k
  | 0 => by unfold pTest; rw [pSum_V h]
  | k + 1 => by unfold pTest; rw [pSum_V h, pTest_V h o k]
theorem pLaw_V {T V V2 : Int → Int} (h : vSame T V V2) (nt : Int) : pLaw T V2 nt = pLaw T V nt := by
  unfold pLaw
  rw [pSum_V h, pTest_V h]
/-- the same laws -/
def sLaw (r r2 : Int → Int) : Prop := ∀ y, 45 ≤ y → r2 y = r y
theorem rT_eq {r r2 : Int → Int} (h : sLaw r r2) (i : Int) (hi : 0 ≤ i) : rT r2 i = rT r i := by
  funext p
  unfold rT
  rw [h _ (by omega)]
  by_cases z : 0 ≤ p ∧ 400 * i + p < 400 * i + r (45 + i)
  · rw [if_pos z, if_pos z, h _ (by omega)]
  · rw [if_neg z, if_neg z]
theorem rLaw_eq {r r2 : Int → Int} (h : sLaw r r2) (i : Int) (hi : 0 ≤ i) : rLaw r2 i = rLaw r i := by
  unfold rLaw
  rw [h _ (by omega), rT_eq h i hi]
  refine pLaw_V (fun p hp => ?_) _
  have z : 0 ≤ p := by
    unfold rT at hp
    by_cases z : 0 ≤ p ∧ 400 * i + p < 400 * i + r (45 + i)
    · exact z.1
    · rw [if_neg z] at hp; cases hp
  exact h _ (by omega)
theorem lawsOK_eq {r r2 : Int → Int} (h : sLaw r r2) (h43 : r2 43 = r 43) (hl : lawsOK r) : lawsOK r2 := fun i h0 h1 => by
  rw [rLaw_eq h i h0]
  exact hl i h0 (by omega)
theorem tlR_eq {r r2 : Int → Int} (h : sLaw r r2) (h44 : r2 44 = r 44) (hf : -1 ≤ r 44) (w : Int → Int) (hd top df : Int) : tlR r2 w hd top df = tlR r w hd top df := by
  unfold tlR
  rw [h44]
  by_cases z : r 44 = -1
  · rw [if_pos z, if_pos z]
  · rw [if_neg z, if_neg z, rLaw_eq h _ (by omega)]
/-- what a note is asked stays -/
def sAsk (r r2 : Int → Int) (n : Int) : Prop := r2 (12 + n) = r (12 + n) ∧ (0 < n → r2 (12 + n - 1) = r (12 + n - 1)) ∧ r2 41 = r 41 ∧ r2 38 = r 38 ∧ r2 24 = r 24
theorem vW_eq {r r2 : Int → Int} {n : Int} (h : sAsk r r2 n) (a p : Int) : vW r2 n a p = vW r n a p := by
  obtain ⟨h1, h2, h3, h4, h5⟩ := h
  unfold vW
  refine congrArg askW ?_
  funext y
  unfold askM
  rw [h1, h3, h4, h5]
  by_cases z : 0 < n
  · rw [if_pos z, if_pos z, if_pos z, if_pos z, if_pos z, h2 z]
  · rw [if_neg z, if_neg z, if_neg z, if_neg z, if_neg z]
theorem v_eq {r r2 : Int → Int} (h : sLaw r r2) (h44 : r2 44 = r 44) (hf : -1 ≤ r 44) {n : Int} (ha : sAsk r r2 n) (a p : Int) : vBar r2 n a p = vBar r n a p ∧ vPrice r2 n a p = vPrice r n a p ∧ vGain r2 n a p = vGain r n a p := by
  have e : vBar r2 n a p = vBar r n a p := by
    unfold vBar
    rw [vW_eq ha, tlR_eq h h44 hf]
  refine ⟨e, ?_, ?_⟩
  · unfold vPrice vPay
    rw [e, vW_eq ha, tlR_eq h h44 hf]
  · unfold vGain
    rw [e, vW_eq ha, tlR_eq h h44 hf]
/-- the told voice's note n at another pitch -/
def rSh (r : Int → Int) (n p : Int) : Int → Int := fun y => if y = 12 + n then p else r y
theorem rSh_k (r : Int → Int) (n p : Int) {y : Int} (h : y ≠ 12 + n) : rSh r n p y = r y := if_neg h
theorem rSh_s (r : Int → Int) (n p : Int) : rSh r n p (12 + n) = p := if_pos rfl
theorem rSh_ok {r : Int → Int} (h : rowOK r) {n p : Int} (hn : 0 ≤ n ∧ n < 12) (hp : 0 ≤ p ∧ p ≤ 24) : rowOK (rSh r n p) := by
  have k : ∀ y, 24 ≤ y → rSh r n p y = r y := fun y hy => rSh_k _ _ _ (by omega)
  obtain ⟨h1, h2, h3, h4, h5, h6, h7, h8, h9, h10, h11, h12, h13, h14⟩ := h
  refine ⟨by rw [k _ (by omega)]; exact h1, fun i a b => ?_, by rw [k _ (by omega)]; exact h3, by rw [k _ (by omega)]; exact h4, by rw [k _ (by omega)]; exact h5, by rw [k _ (by omega)]; exact h6, by rw [k _ (by omega)]; exact h7, by rw [k _ (by omega)]; exact h8, by rw [k _ (by omega)]; exact h9, by rw [k 44 (by omega), k 43 (by omega)]; exact h10, fun j a b => by rw [k _ (by omega), k _ (by omega)]; exact h11 j a b, fun i a b => by rw [k _ (by omega)]; exact h12 i a b, fun i a b => by rw [k _ (by omega)]; exact h13 i a b, fun i a b => by rw [k _ (by omega)]; exact h14 i a b⟩
  by_cases z : i = 12 + n
  · rw [z, rSh_s]; exact hp
  · rw [rSh_k _ _ _ z]; exact h2 i a b
theorem rSh_law (r : Int → Int) {n : Int} (hn : 0 ≤ n ∧ n < 12) (p : Int) : sLaw r (rSh r n p) := fun y hy => rSh_k _ _ _ (by omega)
theorem rSh_laws {r : Int → Int} (h : lawsOK r) {n : Int} (hn : 0 ≤ n ∧ n < 12) (p : Int) : lawsOK (rSh r n p) := lawsOK_eq (rSh_law r hn p) (rSh_k _ _ _ (by omega)) h
theorem rSh_ask (r : Int → Int) {n m : Int} (hn : 0 ≤ n ∧ n < 12) (hm : 0 ≤ m ∧ m < 12) (h1 : m ≠ n) (h2 : m ≠ n + 1) (p : Int) : sAsk r (rSh r n p) m := ⟨rSh_k _ _ _ (by omega), fun _ => rSh_k _ _ _ (by omega), rSh_k _ _ _ (by omega), rSh_k _ _ _ (by omega), rSh_k _ _ _ (by omega)⟩
theorem rSh_up (g : gM) (n p : Int) : gup g 179 (12 + n) p 179 = rSh (g 179) n p := by
  funext y
  unfold gup rSh
  rw [if_pos rfl]
/-- laid but for a note and that behind it -/
def vLdX (r : Int → Int) (n : Int) (g : gM) : Prop := g 179 = r ∧ ∀ m h p, 0 ≤ m → m < r 41 → m ≠ n → m ≠ n + 1 → 0 ≤ h → (h ≤ 24 ∧ (m = 0 → h = 0)) → 0 ≤ p → p ≤ 24 → g 194 (625 * m + 25 * h + p) = 1 - vBar r m h p ∧ g 192 (625 * m + 25 * h + p) = vPrice r m h p ∧ g 193 (625 * m + 25 * h + p) = vGain r m h p
theorem vLaid.x {r : Int → Int} {g : gM} (h : vLaid r g) (n : Int) : vLdX r n g := ⟨h.1, fun m a p h0 h1 _ _ h2 h3 h4 h5 => h.2 m a p h0 h1 h2 h3 h4 h5⟩
theorem vLdX.lay {r : Int → Int} {n p : Int} {g g2 g3 : gM} (ho : rowOK r) (h : vLdX r n g) (hn : 0 ≤ n ∧ n < r 41) (h2 : vUp (gup g 179 (12 + n) p) n (25 * (if n = 0 then 1 else 25)) g2) (h3 : (n + 1 < r 41 ∧ vUp g2 (n + 1) (25 * (if n + 1 = 0 then 1 else 25)) g3) ∨ (¬ n + 1 < r 41 ∧ g3 = g2)) : vLaid (rSh r n p) g3 := by
  have hm := ro_many ho
  have hfo := ro_force ho
  have e1 : gup g 179 (12 + n) p 179 = rSh r n p := by rw [rSh_up, h.1]
  have e2 : g2 179 = rSh r n p := by rw [h2.row, e1]
  have e3 : g3 179 = rSh r n p := by
    rcases h3 with z | z
    · rw [z.2.row, e2]
    · rw [z.2, e2]
  have e41 : rSh r n p 41 = r 41 := rSh_k _ _ _ (by omega)
  refine ⟨e3, fun m a q b1 b2 b3 b4 b5 b6 => ?_⟩
  rw [e41] at b2
  by_cases z1 : m = n + 1
  · rcases h3 with z | z
    · have q1 := z.2.2 a q b3 b5 b6 (by rw [if_neg (by omega)]; omega)
      rw [e2] at q1
      rw [z1]; exact q1
    · exact absurd (by omega) z.1
  · have k3 : ∀ c, c = 192 ∨ c = 193 ∨ c = 194 → g3 c (625 * m + 25 * a + q) = g2 c (625 * m + 25 * a + q) := fun c hc => by
      rcases h3 with z | z
      · refine z.2.1 c _ (by omega) (by omega) (Or.inr ?_)
        rw [if_neg (by omega)]
        omega
      · rw [z.2]
    rw [k3 194 (by omega), k3 192 (by omega), k3 193 (by omega)]
    by_cases z2 : m = n
    · have q1 := h2.2 a q b3 b5 b6 (by split <;> omega)
      rw [e1] at q1
      rw [z2]; exact q1
    · have k2 : ∀ c, c = 192 ∨ c = 193 ∨ c = 194 → g2 c (625 * m + 25 * a + q) = g c (625 * m + 25 * a + q) := fun c hc => by
        refine (h2.1 c _ (by omega) (by omega) (Or.inr (by split <;> omega))).trans (gup_a _ _ _ _ _ (by omega))
      rw [k2 194 (by omega), k2 192 (by omega), k2 193 (by omega)]
      have q2 := v_eq (rSh_law r (n := n) (by omega) p) (rSh_k _ _ _ (by omega)) (by omega) (rSh_ask r (by omega) (by omega) z2 z1 p) a q
      rw [q2.1, q2.2.1, q2.2.2]
      exact h.2 m a q b1 b2 z2 z1 b3 b4 b5 b6
theorem vUp.vo {g0 g : gM} {n j : Int} (h : vUp g0 n j g) : gVo g0 g := fun a k x y => h.1 a k x (fun z => y (Or.inl z)) (Or.inl (fun z => y (Or.inr (by omega))))
/-- the best one's costs, a note under at a pitch -/
def chT (r : Int → Int) (n p : Int) : Int := if p = r (12 + n) then -1 else loF (rSh r n p) 0
def chF (f : Int → Int) : Nat → Int × Int
  | 0 => (-1, 100000000)
  | m + 1 => if f m = -1 ∨ (chF f m).2 ≤ f m then chF f m else ((m : Int), f m)
def chR (r : Int → Int) (n k : Int) : Int := if (0 ≤ n ∧ n ≤ r 41 - 1) ∧ 0 ≤ k ∧ k ≤ 1 then (if (chF (chT r n) 25).1 = -1 ∨ k = 0 then (chF (chT r n) 25).1 else (chF (chT r n) 25).2) else -1
theorem chF_bd {f : Int → Int} (hf : ∀ p, -1 ≤ f p ∧ f p ≤ 100000000) : ∀ m : Nat, (-1 ≤ (chF f m).1 ∧ (chF f m).1 < m) ∧ -1 ≤ (chF f m).2 ∧ (chF f m).2 ≤ 100000000
  | 0 => by unfold chF; exact ⟨⟨by decide, by decide⟩, by decide, by decide⟩
  | m + 1 => by
    have := chF_bd hf m
    have := hf m
    unfold chF
    split
    · omega
    · dsimp only; omega
theorem chT_bd (r : Int → Int) (n p : Int) : -1 ≤ chT r n p ∧ chT r n p ≤ 100000000 := by
  unfold chT
  split
  · omega
  · exact loF_bd
theorem chF_0 {f : Int → Int} {m : Nat} (h : f m = -1 ∨ (chF f m).2 ≤ f m) : chF f (m + 1) = chF f m := if_pos h
theorem chF_1 {f : Int → Int} {m : Nat} (h : ¬ (f m = -1 ∨ (chF f m).2 ≤ f m)) : chF f (m + 1) = ((m : Int), f m) := if_neg h
