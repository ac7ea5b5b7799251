/-! ===== questions about voices ===== -/
/-- behind a question on paper -/
def ppQ (Λ : Int → List PC) (sh : gS) (g g2 : gM) : Prop := ppF g g2 ∧ gFin g2 ∧ ppS Λ sh g2
/-- what a least question keeps -/
def ppK (g g2 : gM) : Prop := ∀ a k, a ≠ 10 → a ≠ 11 → ¬ (a = 8 ∧ 2 ≤ k ∧ k ≤ 3) → ¬ ppA a → a ≠ 132 → a ≠ 133 → g2 a k = g a k
theorem ppK.pf {g g2 : gM} (h : ppK g g2) : ppF g g2 := fun a k n m q z => h a k n m q (fun e => z (by unfold ppA at e; omega)) (by omega) (by omega)
theorem ppK.of {g g1 g2 : gM} (hF : ∀ a k, a ≠ 132 → a ≠ 133 → g1 a k = g a k) (h : ppJ g1 g2) : ppK g g2 := fun a k n m q z x y => (h a k n m q z).trans (hF a k x y)
theorem kw_fin {g g2 : gM} (hf : gFin g) (hF : ∀ a k, a ≠ 132 → a ≠ 133 → g2 a k = g a k) : gFin g2 := hf.of (fun x y z => hF _ _ (fun e => z (ppA.nr (Or.inr (by omega)) y)) (fun e => z (ppA.nr (Or.inr (by omega)) y)))
theorem kw_bd {r : Int → Int} {b : Int} (hb : isBd b) {g g2 : gM} (hF : ∀ a k, a ≠ 132 → a ≠ 133 → g2 a k = g a k) (hB : bdN r g b) : bdN r g2 b := hB.of (fun a k h1 h2 => by
  unfold isBd at hb
  exact hF a k (by omega) (by omega))
theorem kw_lw {Λ : Int → List PC} {sh : gS} {r : Int → Int} {a : Int} {g g2 : gM} (hF : ∀ a k, a ≠ 132 → a ≠ 133 → g2 a k = g a k) (hL : lwP Λ sh g r a) : lwP Λ sh g2 r a := hL.ext (fun x k hx => hF x k (by omega) (by omega))
theorem kw_s {Λ : Int → List PC} {sh : gS} {g g2 : gM} (hF : ∀ a k, a ≠ 132 → a ≠ 133 → g2 a k = g a k) (h : ppS Λ sh g) : ppS Λ sh g2 := h.keep (fun a k _ _ => hF a k (by omega) (by omega))
theorem kw_pf {g g2 : gM} (hF : ∀ a k, a ≠ 132 → a ≠ 133 → g2 a k = g a k) : ppF g g2 := fun a k _ _ _ z => hF a k (by omega) (by omega)
def kF (v : Int) : Int → Int := fun _ => v
theorem ckF_hit {C P : Int → Int} {lo : Int} : ∀ k : Nat, (ckF C P lo k).1 < 1000000 → (lo ≤ (ckF C P lo k).2 ∧ (ckF C P lo k).2 < lo + k) ∧ C (ckF C P lo k).2 = 1 ∧ P (ckF C P lo k).2 = (ckF C P lo k).1
  | 0, h => by unfold ckF at h; omega
  | k + 1, h => by
    unfold ckF at h ⊢
    by_cases z : C (lo + k) = 1 ∧ P (lo + k) < (ckF C P lo k).1
    · rw [if_pos z] at h ⊢
      exact ⟨⟨by show lo ≤ lo + k; omega, by show lo + k < lo + (k + 1 : Nat); omega⟩, z.1, rfl⟩
    · rw [if_neg z] at h ⊢
      have q := ckF_hit k h
      exact ⟨⟨q.1.1, by omega⟩, q.2⟩
/-- the voice found: the pitch ahead of note n -/
def vcK (r : Int → Int) (aim : Int) (lo hi : Int → Int) : Nat → Int
  | 0 => 0
  | n + 1 => (laV r aim lo hi n (vcK r aim lo hi n)).2
theorem vcK_ok {Λ : Int → List PC} {sh : gS} {g : gM} {r : Int → Int} {a : Int} (hL : lwP Λ sh g r a) (ho : rowOK r) {aim : Int} {lo hi : Int → Int} (hb : ∀ i, 0 ≤ i → i < 12 → (0 ≤ lo i ∧ lo i ≤ 24) ∧ (0 ≤ hi i ∧ hi i ≤ 24)) (h : (laV r aim lo hi 0 0).1 < 1000000) : ∀ n : Nat, (n : Int) < r 41 → (faL lo n ≤ vcK r aim lo hi n ∧ vcK r aim lo hi n ≤ faL hi n) ∧ (0 ≤ vcK r aim lo hi n ∧ vcK r aim lo hi n ≤ 24) ∧ (laV r aim lo hi n (vcK r aim lo hi n)).1 < 1000000
  | 0, _ => ⟨⟨Int.le_refl _, Int.le_refl _⟩, ⟨Int.le_refl _, show (0 : Int) ≤ 24 by decide⟩, h⟩
  | n + 1, hn => by
    have hm := ro_many ho
    have q := vcK_ok hL ho hb h n (by omega)
    have e := laV_eq r aim lo hi (n := n) (by omega) (vcK r aim lo hi n)
    have w := hb n (by omega) (by omega)
    have q2 := q.2.2
    rw [e] at q2
    have t := ckF_hit _ q2
    rw [← e] at t
    have hv : vcK r aim lo hi (n + 1) = (laV r aim lo hi n (vcK r aim lo hi n)).2 := rfl
    rw [← hv] at t
    have c := caF_bd hL aim n (vcK r aim lo hi n) (vcK r aim lo hi (n + 1)) q.2.1 (by omega)
    have t2 : caF r aim n (vcK r aim lo hi n) (vcK r aim lo hi (n + 1)) + raR r aim lo hi n (vcK r aim lo hi (n + 1)) = (laV r aim lo hi n (vcK r aim lo hi n)).1 := t.2.2
    have t3 : raR r aim lo hi n (vcK r aim lo hi (n + 1)) = (laV r aim lo hi (n + 1) (vcK r aim lo hi (n + 1))).1 := if_pos (by omega)
    refine ⟨?_, by omega, ?_⟩
    · unfold faL
      rw [if_neg (by omega), if_neg (by omega), show ((n + 1 : Nat) : Int) - 1 = n by omega]
      omega
    · rw [show ((n + 1 : Nat) : Int) = (n : Int) + 1 by omega, ← t3]
      omega
def meR (r : Int → Int) : Int := if laR r 1 (kF (r 39)) (kF (r 40)) = -1 then -1 else 99 * r 41 - laR r 1 (kF (r 39)) (kF (r 40))
def bwL (r : Int → Int) (p q : Int) (v : Int) : Int → Int := fun i => if i = r 41 - 1 then q else if i = 0 then p else v
def bwR (r : Int → Int) (p q : Int) : Int := if r 41 = 0 ∨ (if q < p then q else p) < r 39 ∨ r 40 < (if p < q then q else p) then -1 else if r 41 = 1 ∧ p ≠ q then -1 else laR r 0 (bwL r p q (r 39)) (bwL r p q (r 40))
/-- how many: the rows below note i are laid -/
def waI (Λ : Int → List PC) (sh : gS) (r : Int → Int) (i : Int) (g g1 : gM) : Prop := ppJ g g1 ∧ ppS Λ sh g1 ∧ ∀ n p, i < n → n < r 41 → faL (kF (r 39)) n ≤ p → p ≤ faL (kF (r 40)) n → g1 (107 + n) p = wyV r n p
theorem ppS.renew {Λ : Int → List PC} {sh : gS} {i : Int} (hi2 : 0 ≤ i ∧ i < 12) {g1 g2 : gM} (h : ppS Λ sh g1) {S k : Int} (hS : isSh S k) (hF : shW S i g1 g2) (hI : shI Λ sh g2 S k) : ppS Λ sh g2 := by
  have hSx := hS
  unfold isSh at hSx
  rcases hSx with ⟨rfl, rfl⟩ | ⟨rfl, rfl⟩ | ⟨rfl, rfl⟩
  · exact ⟨hI, h.2.1.oth iS1 hS (by decide) hi2 hF, h.2.2.oth iS2 hS (by decide) hi2 hF⟩
  · exact ⟨h.1.oth iS0 hS (by decide) hi2 hF, hI, h.2.2.oth iS2 hS (by decide) hi2 hF⟩
  · exact ⟨h.1.oth iS0 hS (by decide) hi2 hF, h.2.1.oth iS1 hS (by decide) hi2 hF, hI⟩
theorem waI.renew {Λ : Int → List PC} {sh : gS} {r : Int → Int} {i : Int} (hi2 : 0 ≤ i ∧ i < 12) {g g1 g2 : gM} (h : waI Λ sh r i g g1) (hF : shW 64 i g1 g2) (hI : shI Λ sh g2 64 2) : waI Λ sh r i g g2 := by
  refine ⟨h.1.tr (hF.pp iS2 hi2), h.2.1.renew hi2 iS2 hF hI, fun n p a b c d => ?_⟩
  rw [hF _ _ (by omega) (by omega) (by omega) (by omega) (by omega) (by omega)]
  exact h.2.2 n p a b c d
theorem waI.cell {Λ : Int → List PC} {sh : gS} {r : Int → Int} (hm : r 41 ≤ 12) {i : Int} (hi2 : 0 ≤ i ∧ i < 12) {g g1 : gM} (h : waI Λ sh r i g g1) (p v : Int) : waI Λ sh r i g (gup g1 (107 + i) p v) := by
  refine ⟨h.1.up _ _ (by unfold ppA; omega), h.2.1.keep (fun x y _ _ => by rw [gup_a _ _ _ _ _ (by omega)]), fun n q a b c d => ?_⟩
  rw [gup_a _ _ _ _ _ (by omega)]
  exact h.2.2 n q a b c d
theorem pgB {Λ : Int → List PC} {sh : gS} {g0 g : gM} {r : Int → Int} {a i : Int} (hL : lwP Λ sh g0 r a) (h : pgK Λ g (66 + i) a r i 2) {p q : Int} (hp : (0 ≤ p ∧ p < 25) ∧ (i = 0 → p = 0)) (hq : 0 ≤ q ∧ q < 25) : g (66 + i) (p * 25 + q) = vBar r i p q ∧ (vBar r i p q = 0 ∨ vBar r i p q = 1) := by
  have e := h q p hq.1 hq.2 hp.1.1 hp.1.2 hp.2
  have e2 : jL (Λ a) (askW (askM r i q (0 < i) p)) 2 = vBar r i p q := (vBar_j hL i p q).symm
  have := vBar_01 r i p q
  rw [e, e2]
  exact ⟨rfl, by omega⟩
set_option maxHeartbeats 1000000 in
theorem c_Paper_leastCosts {sh : gS} {g : gM} (hx : gFix sh) (hf : gFin g) {Λ : Int → List PC} {r : Int → Int} {b : Int} (hb : isBd b) (hB : bdN r g b) {a : Int} (hL : lwP Λ sh g r a) (hS : ppS Λ sh g) : gTri f_Paper_leastCosts 6 0 0 [(2, 31), (2, b), (2, a)] sh g (fun x s2 g2 => x = some (0, laR r 0 (kF (r 39)) (kF (r 40))) ∧ s2 = sh ∧ ppK g g2 ∧ gFin g2 ∧ ppS Λ sh g2 ∧ pkR r 0 (kF (r 39)) (kF (r 40)) g2) := by
  refine gTri.of (by decide +kernel) rfl ?_
  show gWP f_Paper_leastCosts _ _ _ 0 [(2, 31), (2, b), (2, a)] [] sh g _
  refine gw_aload_n (gc k_Paper_leastCosts_0 0 rfl) rfl rfl ?_
  refine gw_aload_n (gc k_Paper_leastCosts_0 1 rfl) rfl rfl ?_
  refine gw_xV1 (gc k_Paper_leastCosts_0 2 rfl) y_Paper_keepWithin ln_Paper_60 (c_Paper_keepWithin hx hf hb hB) rfl rfl (by first | exact gAt hx rfl rfl | exact (ps5 hx (by omega)).1.1 | exact (ps5 hx (by omega)).1.2.1 | exact (ps5 hx (by omega)).1.2.2 | exact (ps5 hx (by omega)).2.1 | exact (ps5 hx (by omega)).2.2.1 | exact (ps5 hx (by omega)).2.2.2.1 | exact (ps5 hx (by omega)).2.2.2.2 | exact (bs hx hb).1 | exact (bs hx hb).2.1 | exact (bs hx hb).2.2.1 | exact (bs hx hb).2.2.2.1) rfl rfl (fun r2 sh2 g2 hq2 => ?_)
  obtain ⟨rfl, hsh, hF2, hw2⟩ := hq2
  subst sh2
  have hf2 := kw_fin hf hF2
  have hB2 := kw_bd hb hF2 hB
  have hL2 := kw_lw hF2 hL
  have hS2 := kw_s hF2 hS
  have hf := hf2
  have hw3 : ppW (kF (r 39)) (kF (r 40)) g2 := hw2
  refine gw_aload_n (gc k_Paper_leastCosts_0 3 rfl) rfl rfl ?_
  refine gw_aload_n (gc k_Paper_leastCosts_0 4 rfl) rfl rfl ?_
  refine gw_aload_n (gc k_Paper_leastCosts_0 5 rfl) rfl rfl ?_
  refine gw_iconst (gc k_Paper_leastCosts_0 6 rfl) ?_
  refine gw_xV1 (gc k_Paper_leastCosts_0 7 rfl) y_Paper_leastOf ln_Paper_64 (c_Paper_leastOf hx hf hb hB2 hL2 hS2 hw3 0 (Or.inl rfl)) rfl rfl (by first | exact gAt hx rfl rfl | exact (ps5 hx (by omega)).1.1 | exact (ps5 hx (by omega)).1.2.1 | exact (ps5 hx (by omega)).1.2.2 | exact (ps5 hx (by omega)).2.1 | exact (ps5 hx (by omega)).2.2.1 | exact (ps5 hx (by omega)).2.2.2.1 | exact (ps5 hx (by omega)).2.2.2.2 | exact (bs hx hb).1 | exact (bs hx hb).2.1 | exact (bs hx hb).2.2.1 | exact (bs hx hb).2.2.2.1) rfl rfl (fun r9 sh2 g9 hq9 => ?_)
  obtain ⟨rfl, hsh, hJ, hS9, hpk⟩ := hq9
  subst sh2
  refine gw_ireturn (gc k_Paper_leastCosts_0 8 rfl) rfl ?_
  exact ⟨rfl, rfl, ppK.of hF2 hJ, hJ.fin hf, hS9, hpk⟩
set_option maxHeartbeats 1000000 in
theorem c_Paper_leastMended {sh : gS} {g : gM} (hx : gFix sh) (hf : gFin g) {Λ : Int → List PC} {r : Int → Int} {b : Int} (hb : isBd b) (hB : bdN r g b) {a : Int} (hL : lwP Λ sh g r a) (hS : ppS Λ sh g) : gTri f_Paper_leastMended 6 0 0 [(2, 31), (2, b), (2, a)] sh g (fun x s2 g2 => x = some (0, laR r 3 (kF (r 39)) (kF (r 40))) ∧ s2 = sh ∧ ppK g g2 ∧ gFin g2 ∧ ppS Λ sh g2 ∧ pkR r 3 (kF (r 39)) (kF (r 40)) g2) := by
  refine gTri.of (by decide +kernel) rfl ?_
  show gWP f_Paper_leastMended _ _ _ 0 [(2, 31), (2, b), (2, a)] [] sh g _
  refine gw_aload_n (gc k_Paper_leastMended_0 0 rfl) rfl rfl ?_
  refine gw_aload_n (gc k_Paper_leastMended_0 1 rfl) rfl rfl ?_
  refine gw_xV1 (gc k_Paper_leastMended_0 2 rfl) y_Paper_keepWithin ln_Paper_60 (c_Paper_keepWithin hx hf hb hB) rfl rfl (by first | exact gAt hx rfl rfl | exact (ps5 hx (by omega)).1.1 | exact (ps5 hx (by omega)).1.2.1 | exact (ps5 hx (by omega)).1.2.2 | exact (ps5 hx (by omega)).2.1 | exact (ps5 hx (by omega)).2.2.1 | exact (ps5 hx (by omega)).2.2.2.1 | exact (ps5 hx (by omega)).2.2.2.2 | exact (bs hx hb).1 | exact (bs hx hb).2.1 | exact (bs hx hb).2.2.1 | exact (bs hx hb).2.2.2.1) rfl rfl (fun r2 sh2 g2 hq2 => ?_)
  obtain ⟨rfl, hsh, hF2, hw2⟩ := hq2
  subst sh2
  have hf2 := kw_fin hf hF2
  have hB2 := kw_bd hb hF2 hB
  have hL2 := kw_lw hF2 hL
  have hS2 := kw_s hF2 hS
  have hf := hf2
  have hw3 : ppW (kF (r 39)) (kF (r 40)) g2 := hw2
  refine gw_aload_n (gc k_Paper_leastMended_0 3 rfl) rfl rfl ?_
  refine gw_aload_n (gc k_Paper_leastMended_0 4 rfl) rfl rfl ?_
  refine gw_aload_n (gc k_Paper_leastMended_0 5 rfl) rfl rfl ?_
  refine gw_iconst (gc k_Paper_leastMended_0 6 rfl) ?_
  refine gw_xV1 (gc k_Paper_leastMended_0 7 rfl) y_Paper_leastOf ln_Paper_64 (c_Paper_leastOf hx hf hb hB2 hL2 hS2 hw3 3 (Or.inr (Or.inr rfl))) rfl rfl (by first | exact gAt hx rfl rfl | exact (ps5 hx (by omega)).1.1 | exact (ps5 hx (by omega)).1.2.1 | exact (ps5 hx (by omega)).1.2.2 | exact (ps5 hx (by omega)).2.1 | exact (ps5 hx (by omega)).2.2.1 | exact (ps5 hx (by omega)).2.2.2.1 | exact (ps5 hx (by omega)).2.2.2.2 | exact (bs hx hb).1 | exact (bs hx hb).2.1 | exact (bs hx hb).2.2.1 | exact (bs hx hb).2.2.2.1) rfl rfl (fun r9 sh2 g9 hq9 => ?_)
  obtain ⟨rfl, hsh, hJ, hS9, hpk⟩ := hq9
  subst sh2
  refine gw_ireturn (gc k_Paper_leastMended_0 8 rfl) rfl ?_
  exact ⟨rfl, rfl, ppK.of hF2 hJ, hJ.fin hf, hS9, hpk⟩
set_option maxHeartbeats 1000000 in
theorem c_Paper_mostEarned {sh : gS} {g : gM} (hx : gFix sh) (hf : gFin g) {Λ : Int → List PC} {r : Int → Int} {b : Int} (hb : isBd b) (hB : bdN r g b) {a : Int} (hL : lwP Λ sh g r a) (hS : ppS Λ sh g) : gTri f_Paper_mostEarned 6 0 0 [(2, 31), (2, b), (2, a)] sh g (fun x s2 g2 => x = some (0, meR r) ∧ s2 = sh ∧ ppQ Λ sh g g2) := by
  have hbx := hb
  unfold isBd at hbx
  have hm := ro_many hB.1
  refine gTri.of (by decide +kernel) rfl ?_
  show gWP f_Paper_mostEarned _ _ _ 0 [(2, 31), (2, b), (2, a), (9, 0)] [] sh g _
  refine gw_aload_n (gc k_Paper_mostEarned_0 0 rfl) rfl rfl ?_
  refine gw_aload_n (gc k_Paper_mostEarned_0 1 rfl) rfl rfl ?_
  refine gw_xV1 (gc k_Paper_mostEarned_0 2 rfl) y_Paper_keepWithin ln_Paper_60 (c_Paper_keepWithin hx hf hb hB) rfl rfl (by first | exact gAt hx rfl rfl | exact (ps5 hx (by omega)).1.1 | exact (ps5 hx (by omega)).1.2.1 | exact (ps5 hx (by omega)).1.2.2 | exact (ps5 hx (by omega)).2.1 | exact (ps5 hx (by omega)).2.2.1 | exact (ps5 hx (by omega)).2.2.2.1 | exact (ps5 hx (by omega)).2.2.2.2 | exact (bs hx hb).1 | exact (bs hx hb).2.1 | exact (bs hx hb).2.2.1 | exact (bs hx hb).2.2.2.1) rfl rfl (fun r2 sh2 g2 hq2 => ?_)
  obtain ⟨rfl, hsh, hF2, hw2⟩ := hq2
  subst sh2
  have hf2 := kw_fin hf hF2
  have hB2 := kw_bd hb hF2 hB
  have hL2 := kw_lw hF2 hL
  have hS2 := kw_s hF2 hS
  have hf := hf2
  have hw3 : ppW (kF (r 39)) (kF (r 40)) g2 := hw2
  refine gw_aload_n (gc k_Paper_mostEarned_0 3 rfl) rfl rfl ?_
  refine gw_aload_n (gc k_Paper_mostEarned_0 4 rfl) rfl rfl ?_
  refine gw_aload_n (gc k_Paper_mostEarned_0 5 rfl) rfl rfl ?_
  refine gw_iconst (gc k_Paper_mostEarned_0 6 rfl) ?_
  refine gw_xV1 (gc k_Paper_mostEarned_0 7 rfl) y_Paper_leastOf ln_Paper_64 (c_Paper_leastOf hx hf hb hB2 hL2 hS2 hw3 1 (Or.inr (Or.inl rfl))) rfl rfl (by first | exact gAt hx rfl rfl | exact (ps5 hx (by omega)).1.1 | exact (ps5 hx (by omega)).1.2.1 | exact (ps5 hx (by omega)).1.2.2 | exact (ps5 hx (by omega)).2.1 | exact (ps5 hx (by omega)).2.2.1 | exact (ps5 hx (by omega)).2.2.2.1 | exact (ps5 hx (by omega)).2.2.2.2 | exact (bs hx hb).1 | exact (bs hx hb).2.1 | exact (bs hx hb).2.2.1 | exact (bs hx hb).2.2.2.1) rfl rfl (fun r9 sh2 g9 hq9 => ?_)
  obtain ⟨rfl, hsh, hJ, hS9, hpk⟩ := hq9
  subst sh2
  have hf := hJ.fin hf
  have hB3 := hJ.bdN hb hB2
  obtain ⟨lv, hlv⟩ : ∃ v, v = laR r 1 (kF (r 39)) (kF (r 40)) := ⟨_, rfl⟩
  rw [← hlv]
  have hlb : -1 ≤ lv ∧ lv ≤ 1000000 := by rw [hlv]; unfold laR; have := laK_bd hL 1 hw3.bd (r 41 - 1 - 0).toNat 0 0 (by decide) (by omega) (by decide); have e : laV r 1 (kF (r 39)) (kF (r 40)) 0 0 = laK r 1 (kF (r 39)) (kF (r 40)) (r 41 - 1 - 0).toNat 0 0 := rfl; rw [e]; (repeat' split) <;> omega
  refine gw_istore_3 (gc k_Paper_mostEarned_0 8 rfl) rfl rfl ?_
  refine gw_iload_n (gc k_Paper_mostEarned_0 9 rfl) rfl ?_
  refine gw_iconst (gc k_Paper_mostEarned_0 10 rfl) ?_
  refine gw_icmp_ne (tgt := 22) (gc k_Paper_mostEarned_0 11 rfl) rfl (by omega) (fun c15 => ?_) (fun c15 => ?_)
  · refine gw_bipush (gc k_Paper_mostEarned_0 14 rfl) (by decide) ?_
    refine gw_aload_n (gc k_Paper_mostEarned_0 15 rfl) rfl rfl ?_
    refine gw_getf 0 rfl (gc k_Paper_mostEarned_0 16 rfl) fl_Paper_68 (by first | exact gAt hx rfl rfl | exact (ps5 hx (by omega)).1.1 | exact (ps5 hx (by omega)).1.2.1 | exact (ps5 hx (by omega)).1.2.2 | exact (ps5 hx (by omega)).2.1 | exact (ps5 hx (by omega)).2.2.1 | exact (ps5 hx (by omega)).2.2.2.1 | exact (ps5 hx (by omega)).2.2.2.2 | exact (bs hx hb).1 | exact (bs hx hb).2.1 | exact (bs hx hb).2.2.1 | exact (bs hx hb).2.2.2.1) ?_
    rw [hB3.2.1]
    refine gw_imul (gc k_Paper_mostEarned_0 17 rfl) ?_
    refine gw_iload_n (gc k_Paper_mostEarned_0 18 rfl) rfl ?_
    refine gw_isub (gc k_Paper_mostEarned_0 19 rfl) ?_
    refine gw_ireturn (gc k_Paper_mostEarned_0 20 rfl) rfl ?_
    refine ⟨?_, rfl, (kw_pf hF2).tr hJ.pf, hf, hS9⟩
    unfold meR
    rw [← hlv]
    rw [if_neg (by omega)]
  · refine gw_iconst (gc k_Paper_mostEarned_0 12 rfl) ?_
    refine gw_goto (tgt := 31) (gc k_Paper_mostEarned_0 13 rfl) rfl ?_
    refine gw_ireturn (gc k_Paper_mostEarned_0 20 rfl) rfl ?_
    refine ⟨?_, rfl, (kw_pf hF2).tr hJ.pf, hf, hS9⟩
    unfold meR
    rw [← hlv]
    rw [if_pos (by omega)]
set_option maxHeartbeats 4000000 in
theorem c_Paper_leastBetween {sh : gS} {g : gM} (hx : gFix sh) (hf : gFin g) {Λ : Int → List PC} {r : Int → Int} {b : Int} (hb : isBd b) (hB : bdN r g b) {a : Int} (hL : lwP Λ sh g r a) (hS : ppS Λ sh g) (p q : Int) (hp : -2147483648 ≤ p ∧ p ≤ 2147483647) (hq : -2147483648 ≤ q ∧ q ≤ 2147483647) : gTri f_Paper_leastBetween 6 0 0 [(2, 31), (2, b), (2, a), (0, p), (0, q)] sh g (fun x s2 g2 => x = some (0, bwR r p q) ∧ s2 = sh ∧ ppQ Λ sh g g2) := by
  have hbx := hb
  unfold isBd at hbx
  have hm := ro_many hB.1
  have hlo := ro_low hB.1
  have hhi := ro_high hB.1
  have hT3 := hB.2.2.2.2.2.2.1
  have hT4 := hB.2.2.2.2.2.2.2
  refine gTri.of (by decide +kernel) rfl ?_
  show gWP f_Paper_leastBetween _ _ _ 0 [(2, 31), (2, b), (2, a), (0, p), (0, q), (9, 0)] [] sh g _
  refine gw_aload_n (gc k_Paper_leastBetween_0 0 rfl) rfl rfl ?_
  refine gw_getf 0 rfl (gc k_Paper_leastBetween_0 1 rfl) fl_Paper_68 (by first | exact gAt hx rfl rfl | exact (ps5 hx (by omega)).1.1 | exact (ps5 hx (by omega)).1.2.1 | exact (ps5 hx (by omega)).1.2.2 | exact (ps5 hx (by omega)).2.1 | exact (ps5 hx (by omega)).2.2.1 | exact (ps5 hx (by omega)).2.2.2.1 | exact (ps5 hx (by omega)).2.2.2.2 | exact (bs hx hb).1 | exact (bs hx hb).2.1 | exact (bs hx hb).2.2.1 | exact (bs hx hb).2.2.2.1) ?_
  rw [hB.2.1]
  refine gw_iconst (gc k_Paper_leastBetween_0 2 rfl) ?_
  refine gw_isub (gc k_Paper_leastBetween_0 3 rfl) ?_
  refine gw_istore_5 (gc k_Paper_leastBetween_0 4 rfl) rfl rfl ?_
  refine gw_iload (gc k_Paper_leastBetween_0 5 rfl) rfl ?_
  refine gw_if_lt (tgt := 43) (gc k_Paper_leastBetween_0 6 rfl) rfl (by omega) (fun c10 => ?_) (fun c10 => ?_)
  · refine gw_iconst (gc k_Paper_leastBetween_0 23 rfl) ?_
    refine gw_ireturn (gc k_Paper_leastBetween_0 24 rfl) rfl ?_
    refine ⟨?_, rfl, ⟨fun _ _ _ _ _ _ => rfl, hf, hS⟩⟩
    unfold bwR
    rw [if_pos (Or.inl (by omega))]
  · refine gw_iload_n (gc k_Paper_leastBetween_0 7 rfl) rfl ?_
    refine gw_iload (gc k_Paper_leastBetween_0 8 rfl) rfl ?_
    refine gw_mmin (gc k_Paper_leastBetween_0 9 rfl) y_Math_min ln_Paper_72 (by omega) rfl rfl ?_
    refine gw_aload_n (gc k_Paper_leastBetween_0 10 rfl) rfl rfl ?_
    refine gw_getref (gc k_Paper_leastBetween_0 11 rfl) fl_Paper_78 (by first | exact gAt hx rfl rfl | exact (ps5 hx (by omega)).1.1 | exact (ps5 hx (by omega)).1.2.1 | exact (ps5 hx (by omega)).1.2.2 | exact (ps5 hx (by omega)).2.1 | exact (ps5 hx (by omega)).2.2.1 | exact (ps5 hx (by omega)).2.2.2.1 | exact (ps5 hx (by omega)).2.2.2.2 | exact (bs hx hb).1 | exact (bs hx hb).2.1 | exact (bs hx hb).2.2.1 | exact (bs hx hb).2.2.2.1) (by first | exact gRf hf rfl rfl | exact (br hf hb).1 | exact (br hf hb).2.1 | exact (br hf hb).2.2.1 | exact (br hf hb).2.2.2.1 | exact (br hf hb).2.2.2.2.1 | exact (br hf hb).2.2.2.2.2) ?_
    refine gw_iconst (gc k_Paper_leastBetween_0 12 rfl) ?_
    refine gw_iald (gc k_Paper_leastBetween_0 13 rfl) (by first | exact gAt hx rfl rfl | exact (ps5 hx (by omega)).1.1 | exact (ps5 hx (by omega)).1.2.1 | exact (ps5 hx (by omega)).1.2.2 | exact (ps5 hx (by omega)).2.1 | exact (ps5 hx (by omega)).2.2.1 | exact (ps5 hx (by omega)).2.2.2.1 | exact (ps5 hx (by omega)).2.2.2.2 | exact (bs hx hb).1 | exact (bs hx hb).2.1 | exact (bs hx hb).2.2.1 | exact (bs hx hb).2.2.2.1) (by omega) ?_
    rw [hT3]
    obtain ⟨mn, hmn⟩ : ∃ v, v = (if q < p then q else p) := ⟨_, rfl⟩
    rw [← hmn]
    have hmb : -2147483648 ≤ mn ∧ mn ≤ 2147483647 := by rw [hmn]; split <;> omega
    refine gw_icmp_lt (tgt := 43) (gc k_Paper_leastBetween_0 14 rfl) rfl (by omega) (fun c25 => ?_) (fun c25 => ?_)
    · refine gw_iconst (gc k_Paper_leastBetween_0 23 rfl) ?_
      refine gw_ireturn (gc k_Paper_leastBetween_0 24 rfl) rfl ?_
      refine ⟨?_, rfl, ⟨fun _ _ _ _ _ _ => rfl, hf, hS⟩⟩
      unfold bwR
      rw [if_pos (Or.inr (Or.inl (hmn ▸ (by omega))))]
    · refine gw_iload_n (gc k_Paper_leastBetween_0 15 rfl) rfl ?_
      refine gw_iload (gc k_Paper_leastBetween_0 16 rfl) rfl ?_
      refine gw_mmax (gc k_Paper_leastBetween_0 17 rfl) y_Math_max ln_Paper_81 (by omega) rfl rfl ?_
      refine gw_aload_n (gc k_Paper_leastBetween_0 18 rfl) rfl rfl ?_
      refine gw_getref (gc k_Paper_leastBetween_0 19 rfl) fl_Paper_78 (by first | exact gAt hx rfl rfl | exact (ps5 hx (by omega)).1.1 | exact (ps5 hx (by omega)).1.2.1 | exact (ps5 hx (by omega)).1.2.2 | exact (ps5 hx (by omega)).2.1 | exact (ps5 hx (by omega)).2.2.1 | exact (ps5 hx (by omega)).2.2.2.1 | exact (ps5 hx (by omega)).2.2.2.2 | exact (bs hx hb).1 | exact (bs hx hb).2.1 | exact (bs hx hb).2.2.1 | exact (bs hx hb).2.2.2.1) (by first | exact gRf hf rfl rfl | exact (br hf hb).1 | exact (br hf hb).2.1 | exact (br hf hb).2.2.1 | exact (br hf hb).2.2.2.1 | exact (br hf hb).2.2.2.2.1 | exact (br hf hb).2.2.2.2.2) ?_
      refine gw_iconst (gc k_Paper_leastBetween_0 20 rfl) ?_
      refine gw_iald (gc k_Paper_leastBetween_0 21 rfl) (by first | exact gAt hx rfl rfl | exact (ps5 hx (by omega)).1.1 | exact (ps5 hx (by omega)).1.2.1 | exact (ps5 hx (by omega)).1.2.2 | exact (ps5 hx (by omega)).2.1 | exact (ps5 hx (by omega)).2.2.1 | exact (ps5 hx (by omega)).2.2.2.1 | exact (ps5 hx (by omega)).2.2.2.2 | exact (bs hx hb).1 | exact (bs hx hb).2.1 | exact (bs hx hb).2.2.1 | exact (bs hx hb).2.2.2.1) (by omega) ?_
      rw [hT4]
      obtain ⟨mx, hmx⟩ : ∃ v, v = (if p < q then q else p) := ⟨_, rfl⟩
      rw [← hmx]
      have hxb : -2147483648 ≤ mx ∧ mx ≤ 2147483647 := by rw [hmx]; split <;> omega
      refine gw_icmp_le (tgt := 45) (gc k_Paper_leastBetween_0 22 rfl) rfl (by omega) (fun c40 => ?_) (fun c40 => ?_)
      · refine gw_iload (gc k_Paper_leastBetween_0 25 rfl) rfl ?_
        refine gw_if_ne (tgt := 58) (gc k_Paper_leastBetween_0 26 rfl) rfl (by omega) (fun c47 => ?_) (fun c47 => ?_)
        · refine gw_aload_n (gc k_Paper_leastBetween_0 32 rfl) rfl rfl ?_
          refine gw_aload_n (gc k_Paper_leastBetween_0 33 rfl) rfl rfl ?_
          refine gw_xV1 (gc k_Paper_leastBetween_0 34 rfl) y_Paper_keepWithin ln_Paper_60 (c_Paper_keepWithin hx hf hb hB) rfl rfl (by first | exact gAt hx rfl rfl | exact (ps5 hx (by omega)).1.1 | exact (ps5 hx (by omega)).1.2.1 | exact (ps5 hx (by omega)).1.2.2 | exact (ps5 hx (by omega)).2.1 | exact (ps5 hx (by omega)).2.2.1 | exact (ps5 hx (by omega)).2.2.2.1 | exact (ps5 hx (by omega)).2.2.2.2 | exact (bs hx hb).1 | exact (bs hx hb).2.1 | exact (bs hx hb).2.2.1 | exact (bs hx hb).2.2.2.1) rfl rfl (fun r60 sh2 g60 hq60 => ?_)
          obtain ⟨rfl, hsh, hF2, hw2⟩ := hq60
          subst sh2
          have hf2 := kw_fin hf hF2
          have hB2 := kw_bd hb hF2 hB
          have hL2 := kw_lw hF2 hL
          have hS2 := kw_s hF2 hS
          have hf := hf2
          have hw3 : ppW (kF (r 39)) (kF (r 40)) g60 := hw2
          refine gw_aload_n (gc k_Paper_leastBetween_0 35 rfl) rfl rfl ?_
          refine gw_getref (gc k_Paper_leastBetween_0 36 rfl) fl_Paper_42 (by first | exact gAt hx rfl rfl | exact (ps5 hx (by omega)).1.1 | exact (ps5 hx (by omega)).1.2.1 | exact (ps5 hx (by omega)).1.2.2 | exact (ps5 hx (by omega)).2.1 | exact (ps5 hx (by omega)).2.2.1 | exact (ps5 hx (by omega)).2.2.2.1 | exact (ps5 hx (by omega)).2.2.2.2 | exact (bs hx hb).1 | exact (bs hx hb).2.1 | exact (bs hx hb).2.2.1 | exact (bs hx hb).2.2.2.1) (by first | exact gRf hf rfl rfl | exact (br hf hb).1 | exact (br hf hb).2.1 | exact (br hf hb).2.2.1 | exact (br hf hb).2.2.2.1 | exact (br hf hb).2.2.2.2.1 | exact (br hf hb).2.2.2.2.2) ?_
          refine gw_iconst (gc k_Paper_leastBetween_0 37 rfl) ?_
          refine gw_iload_n (gc k_Paper_leastBetween_0 38 rfl) rfl ?_
          refine gw_iastF (gc k_Paper_leastBetween_0 39 rfl) (by first | exact gAt hx rfl rfl | exact (ps5 hx (by omega)).1.1 | exact (ps5 hx (by omega)).1.2.1 | exact (ps5 hx (by omega)).1.2.2 | exact (ps5 hx (by omega)).2.1 | exact (ps5 hx (by omega)).2.2.1 | exact (ps5 hx (by omega)).2.2.2.1 | exact (ps5 hx (by omega)).2.2.2.2 | exact (bs hx hb).1 | exact (bs hx hb).2.1 | exact (bs hx hb).2.2.1 | exact (bs hx hb).2.2.2.1) (by omega) hf (by first | rfl | exact ppA.nr (Or.inr (by omega)) _ | exact ppA.nr (Or.inl (by unfold ppA; omega)) _) (fun hf => ?_)
          refine gw_aload_n (gc k_Paper_leastBetween_1 0 rfl) rfl rfl ?_
          refine gw_getref (gc k_Paper_leastBetween_1 1 rfl) fl_Paper_46 (by first | exact gAt hx rfl rfl | exact (ps5 hx (by omega)).1.1 | exact (ps5 hx (by omega)).1.2.1 | exact (ps5 hx (by omega)).1.2.2 | exact (ps5 hx (by omega)).2.1 | exact (ps5 hx (by omega)).2.2.1 | exact (ps5 hx (by omega)).2.2.2.1 | exact (ps5 hx (by omega)).2.2.2.2 | exact (bs hx hb).1 | exact (bs hx hb).2.1 | exact (bs hx hb).2.2.1 | exact (bs hx hb).2.2.2.1) (by first | exact gRf hf rfl rfl | exact (br hf hb).1 | exact (br hf hb).2.1 | exact (br hf hb).2.2.1 | exact (br hf hb).2.2.2.1 | exact (br hf hb).2.2.2.2.1 | exact (br hf hb).2.2.2.2.2) ?_
          refine gw_iconst (gc k_Paper_leastBetween_1 2 rfl) ?_
          refine gw_iload_n (gc k_Paper_leastBetween_1 3 rfl) rfl ?_
          refine gw_iastF (gc k_Paper_leastBetween_1 4 rfl) (by first | exact gAt hx rfl rfl | exact (ps5 hx (by omega)).1.1 | exact (ps5 hx (by omega)).1.2.1 | exact (ps5 hx (by omega)).1.2.2 | exact (ps5 hx (by omega)).2.1 | exact (ps5 hx (by omega)).2.2.1 | exact (ps5 hx (by omega)).2.2.2.1 | exact (ps5 hx (by omega)).2.2.2.2 | exact (bs hx hb).1 | exact (bs hx hb).2.1 | exact (bs hx hb).2.2.1 | exact (bs hx hb).2.2.2.1) (by omega) hf (by first | rfl | exact ppA.nr (Or.inr (by omega)) _ | exact ppA.nr (Or.inl (by unfold ppA; omega)) _) (fun hf => ?_)
          refine gw_aload_n (gc k_Paper_leastBetween_1 5 rfl) rfl rfl ?_
          refine gw_getref (gc k_Paper_leastBetween_1 6 rfl) fl_Paper_42 (by first | exact gAt hx rfl rfl | exact (ps5 hx (by omega)).1.1 | exact (ps5 hx (by omega)).1.2.1 | exact (ps5 hx (by omega)).1.2.2 | exact (ps5 hx (by omega)).2.1 | exact (ps5 hx (by omega)).2.2.1 | exact (ps5 hx (by omega)).2.2.2.1 | exact (ps5 hx (by omega)).2.2.2.2 | exact (bs hx hb).1 | exact (bs hx hb).2.1 | exact (bs hx hb).2.2.1 | exact (bs hx hb).2.2.2.1) (by first | exact gRf hf rfl rfl | exact (br hf hb).1 | exact (br hf hb).2.1 | exact (br hf hb).2.2.1 | exact (br hf hb).2.2.2.1 | exact (br hf hb).2.2.2.2.1 | exact (br hf hb).2.2.2.2.2) ?_
          refine gw_iload (gc k_Paper_leastBetween_1 7 rfl) rfl ?_
          refine gw_iload (gc k_Paper_leastBetween_1 8 rfl) rfl ?_
          refine gw_iastF (gc k_Paper_leastBetween_1 9 rfl) (by first | exact gAt hx rfl rfl | exact (ps5 hx (by omega)).1.1 | exact (ps5 hx (by omega)).1.2.1 | exact (ps5 hx (by omega)).1.2.2 | exact (ps5 hx (by omega)).2.1 | exact (ps5 hx (by omega)).2.2.1 | exact (ps5 hx (by omega)).2.2.2.1 | exact (ps5 hx (by omega)).2.2.2.2 | exact (bs hx hb).1 | exact (bs hx hb).2.1 | exact (bs hx hb).2.2.1 | exact (bs hx hb).2.2.2.1) (by omega) hf (by first | rfl | exact ppA.nr (Or.inr (by omega)) _ | exact ppA.nr (Or.inl (by unfold ppA; omega)) _) (fun hf => ?_)
          refine gw_aload_n (gc k_Paper_leastBetween_1 10 rfl) rfl rfl ?_
          refine gw_getref (gc k_Paper_leastBetween_1 11 rfl) fl_Paper_46 (by first | exact gAt hx rfl rfl | exact (ps5 hx (by omega)).1.1 | exact (ps5 hx (by omega)).1.2.1 | exact (ps5 hx (by omega)).1.2.2 | exact (ps5 hx (by omega)).2.1 | exact (ps5 hx (by omega)).2.2.1 | exact (ps5 hx (by omega)).2.2.2.1 | exact (ps5 hx (by omega)).2.2.2.2 | exact (bs hx hb).1 | exact (bs hx hb).2.1 | exact (bs hx hb).2.2.1 | exact (bs hx hb).2.2.2.1) (by first | exact gRf hf rfl rfl | exact (br hf hb).1 | exact (br hf hb).2.1 | exact (br hf hb).2.2.1 | exact (br hf hb).2.2.2.1 | exact (br hf hb).2.2.2.2.1 | exact (br hf hb).2.2.2.2.2) ?_
          refine gw_iload (gc k_Paper_leastBetween_1 12 rfl) rfl ?_
          refine gw_iload (gc k_Paper_leastBetween_1 13 rfl) rfl ?_
          refine gw_iastF (gc k_Paper_leastBetween_1 14 rfl) (by first | exact gAt hx rfl rfl | exact (ps5 hx (by omega)).1.1 | exact (ps5 hx (by omega)).1.2.1 | exact (ps5 hx (by omega)).1.2.2 | exact (ps5 hx (by omega)).2.1 | exact (ps5 hx (by omega)).2.2.1 | exact (ps5 hx (by omega)).2.2.2.1 | exact (ps5 hx (by omega)).2.2.2.2 | exact (bs hx hb).1 | exact (bs hx hb).2.1 | exact (bs hx hb).2.2.1 | exact (bs hx hb).2.2.2.1) (by omega) hf (by first | rfl | exact ppA.nr (Or.inr (by omega)) _ | exact ppA.nr (Or.inl (by unfold ppA; omega)) _) (fun hf => ?_)
          obtain ⟨gq, hgq⟩ : ∃ M, M = gup (gup (gup (gup g60 132 0 p) 133 0 p) 132 (r 41 - 1) q) 133 (r 41 - 1) q := ⟨_, rfl⟩
          rw [← hgq]
          have hF3 : ∀ a k, a ≠ 132 → a ≠ 133 → gq a k = g60 a k := fun x y z1 z2 => by rw [hgq, gup_a _ _ _ _ _ z2, gup_a _ _ _ _ _ z1, gup_a _ _ _ _ _ z2, gup_a _ _ _ _ _ z1]
          have hf := kw_fin hf2 hF3
          have hpq : (r 39 ≤ p ∧ p ≤ r 40) ∧ (r 39 ≤ q ∧ q ≤ r 40) := by
            rw [hmn] at c25
            rw [hmx] at c40
            by_cases z : q < p
            · rw [if_pos z] at c25; rw [if_neg (by omega)] at c40; omega
            · rw [if_neg z] at c25
              by_cases z2 : p < q
              · rw [if_pos z2] at c40; omega
              · rw [if_neg z2] at c40; omega
          have hwq : ppW (bwL r p q (r 39)) (bwL r p q (r 40)) gq := by
            intro i x y
            have e := hw2 i x y
            unfold bwL
            by_cases z : i = r 41 - 1
            · rw [if_pos z, if_pos z, hgq, z]
              simp (disch := omega) only [gup_s, gup_k, gup_a, true_and, and_true]
              omega
            · rw [if_neg z, if_neg z]
              by_cases z2 : i = 0
              · rw [if_pos z2, if_pos z2, hgq, z2]
                simp (disch := omega) only [gup_s, gup_k, gup_a, true_and, and_true]
                omega
              · rw [if_neg z2, if_neg z2, hgq]
                simp (disch := omega) only [gup_s, gup_k, gup_a]
                exact ⟨e.1, by omega, by omega⟩
          refine gw_aload_n (gc k_Paper_leastBetween_1 15 rfl) rfl rfl ?_
          refine gw_aload_n (gc k_Paper_leastBetween_1 16 rfl) rfl rfl ?_
          refine gw_aload_n (gc k_Paper_leastBetween_1 17 rfl) rfl rfl ?_
          refine gw_iconst (gc k_Paper_leastBetween_1 18 rfl) ?_
          refine gw_xV1 (gc k_Paper_leastBetween_1 19 rfl) y_Paper_leastOf ln_Paper_64 (c_Paper_leastOf hx hf hb (kw_bd hb hF3 hB2) (kw_lw hF3 hL2) (kw_s hF3 hS2) hwq 0 (Or.inl rfl)) rfl rfl (by first | exact gAt hx rfl rfl | exact (ps5 hx (by omega)).1.1 | exact (ps5 hx (by omega)).1.2.1 | exact (ps5 hx (by omega)).1.2.2 | exact (ps5 hx (by omega)).2.1 | exact (ps5 hx (by omega)).2.2.1 | exact (ps5 hx (by omega)).2.2.2.1 | exact (ps5 hx (by omega)).2.2.2.2 | exact (bs hx hb).1 | exact (bs hx hb).2.1 | exact (bs hx hb).2.2.1 | exact (bs hx hb).2.2.2.1) rfl rfl (fun r99 sh2 g99 hq99 => ?_)
          obtain ⟨rfl, hsh, hJ, hS9, hpk⟩ := hq99
          subst sh2
          refine gw_ireturn (gc k_Paper_leastBetween_1 20 rfl) rfl ?_
          refine ⟨?_, rfl, ⟨((kw_pf hF2).tr (kw_pf hF3)).tr hJ.pf, hJ.fin hf, hS9⟩⟩
          unfold bwR
          rw [← hmn, ← hmx, if_neg (by omega), if_neg (fun z => by have := z.1; have := z.2; omega)]
        · refine gw_iload_n (gc k_Paper_leastBetween_0 27 rfl) rfl ?_
          refine gw_iload (gc k_Paper_leastBetween_0 28 rfl) rfl ?_
          refine gw_icmp_eq (tgt := 58) (gc k_Paper_leastBetween_0 29 rfl) rfl (by omega) (fun c53 => ?_) (fun c53 => ?_)
          · refine gw_aload_n (gc k_Paper_leastBetween_0 32 rfl) rfl rfl ?_
            refine gw_aload_n (gc k_Paper_leastBetween_0 33 rfl) rfl rfl ?_
            refine gw_xV1 (gc k_Paper_leastBetween_0 34 rfl) y_Paper_keepWithin ln_Paper_60 (c_Paper_keepWithin hx hf hb hB) rfl rfl (by first | exact gAt hx rfl rfl | exact (ps5 hx (by omega)).1.1 | exact (ps5 hx (by omega)).1.2.1 | exact (ps5 hx (by omega)).1.2.2 | exact (ps5 hx (by omega)).2.1 | exact (ps5 hx (by omega)).2.2.1 | exact (ps5 hx (by omega)).2.2.2.1 | exact (ps5 hx (by omega)).2.2.2.2 | exact (bs hx hb).1 | exact (bs hx hb).2.1 | exact (bs hx hb).2.2.1 | exact (bs hx hb).2.2.2.1) rfl rfl (fun r60 sh2 g60 hq60 => ?_)
            obtain ⟨rfl, hsh, hF2, hw2⟩ := hq60
            subst sh2
            have hf2 := kw_fin hf hF2
            have hB2 := kw_bd hb hF2 hB
            have hL2 := kw_lw hF2 hL
            have hS2 := kw_s hF2 hS
            have hf := hf2
            have hw3 : ppW (kF (r 39)) (kF (r 40)) g60 := hw2
            refine gw_aload_n (gc k_Paper_leastBetween_0 35 rfl) rfl rfl ?_
            refine gw_getref (gc k_Paper_leastBetween_0 36 rfl) fl_Paper_42 (by first | exact gAt hx rfl rfl | exact (ps5 hx (by omega)).1.1 | exact (ps5 hx (by omega)).1.2.1 | exact (ps5 hx (by omega)).1.2.2 | exact (ps5 hx (by omega)).2.1 | exact (ps5 hx (by omega)).2.2.1 | exact (ps5 hx (by omega)).2.2.2.1 | exact (ps5 hx (by omega)).2.2.2.2 | exact (bs hx hb).1 | exact (bs hx hb).2.1 | exact (bs hx hb).2.2.1 | exact (bs hx hb).2.2.2.1) (by first | exact gRf hf rfl rfl | exact (br hf hb).1 | exact (br hf hb).2.1 | exact (br hf hb).2.2.1 | exact (br hf hb).2.2.2.1 | exact (br hf hb).2.2.2.2.1 | exact (br hf hb).2.2.2.2.2) ?_
            refine gw_iconst (gc k_Paper_leastBetween_0 37 rfl) ?_
            refine gw_iload_n (gc k_Paper_leastBetween_0 38 rfl) rfl ?_
            refine gw_iastF (gc k_Paper_leastBetween_0 39 rfl) (by first | exact gAt hx rfl rfl | exact (ps5 hx (by omega)).1.1 | exact (ps5 hx (by omega)).1.2.1 | exact (ps5 hx (by omega)).1.2.2 | exact (ps5 hx (by omega)).2.1 | exact (ps5 hx (by omega)).2.2.1 | exact (ps5 hx (by omega)).2.2.2.1 | exact (ps5 hx (by omega)).2.2.2.2 | exact (bs hx hb).1 | exact (bs hx hb).2.1 | exact (bs hx hb).2.2.1 | exact (bs hx hb).2.2.2.1) (by omega) hf (by first | rfl | exact ppA.nr (Or.inr (by omega)) _ | exact ppA.nr (Or.inl (by unfold ppA; omega)) _) (fun hf => ?_)
            refine gw_aload_n (gc k_Paper_leastBetween_1 0 rfl) rfl rfl ?_
            refine gw_getref (gc k_Paper_leastBetween_1 1 rfl) fl_Paper_46 (by first | exact gAt hx rfl rfl | exact (ps5 hx (by omega)).1.1 | exact (ps5 hx (by omega)).1.2.1 | exact (ps5 hx (by omega)).1.2.2 | exact (ps5 hx (by omega)).2.1 | exact (ps5 hx (by omega)).2.2.1 | exact (ps5 hx (by omega)).2.2.2.1 | exact (ps5 hx (by omega)).2.2.2.2 | exact (bs hx hb).1 | exact (bs hx hb).2.1 | exact (bs hx hb).2.2.1 | exact (bs hx hb).2.2.2.1) (by first | exact gRf hf rfl rfl | exact (br hf hb).1 | exact (br hf hb).2.1 | exact (br hf hb).2.2.1 | exact (br hf hb).2.2.2.1 | exact (br hf hb).2.2.2.2.1 | exact (br hf hb).2.2.2.2.2) ?_
            refine gw_iconst (gc k_Paper_leastBetween_1 2 rfl) ?_
            refine gw_iload_n (gc k_Paper_leastBetween_1 3 rfl) rfl ?_
            refine gw_iastF (gc k_Paper_leastBetween_1 4 rfl) (by first | exact gAt hx rfl rfl | exact (ps5 hx (by omega)).1.1 | exact (ps5 hx (by omega)).1.2.1 | exact (ps5 hx (by omega)).1.2.2 | exact (ps5 hx (by omega)).2.1 | exact (ps5 hx (by omega)).2.2.1 | exact (ps5 hx (by omega)).2.2.2.1 | exact (ps5 hx (by omega)).2.2.2.2 | exact (bs hx hb).1 | exact (bs hx hb).2.1 | exact (bs hx hb).2.2.1 | exact (bs hx hb).2.2.2.1) (by omega) hf (by first | rfl | exact ppA.nr (Or.inr (by omega)) _ | exact ppA.nr (Or.inl (by unfold ppA; omega)) _) (fun hf => ?_)
            refine gw_aload_n (gc k_Paper_leastBetween_1 5 rfl) rfl rfl ?_
            refine gw_getref (gc k_Paper_leastBetween_1 6 rfl) fl_Paper_42 (by first | exact gAt hx rfl rfl | exact (ps5 hx (by omega)).1.1 | exact (ps5 hx (by omega)).1.2.1 | exact (ps5 hx (by omega)).1.2.2 | exact (ps5 hx (by omega)).2.1 | exact (ps5 hx (by omega)).2.2.1 | exact (ps5 hx (by omega)).2.2.2.1 | exact (ps5 hx (by omega)).2.2.2.2 | exact (bs hx hb).1 | exact (bs hx hb).2.1 | exact (bs hx hb).2.2.1 | exact (bs hx hb).2.2.2.1) (by first | exact gRf hf rfl rfl | exact (br hf hb).1 | exact (br hf hb).2.1 | exact (br hf hb).2.2.1 | exact (br hf hb).2.2.2.1 | exact (br hf hb).2.2.2.2.1 | exact (br hf hb).2.2.2.2.2) ?_
            refine gw_iload (gc k_Paper_leastBetween_1 7 rfl) rfl ?_
            refine gw_iload (gc k_Paper_leastBetween_1 8 rfl) rfl ?_
            refine gw_iastF (gc k_Paper_leastBetween_1 9 rfl) (by first | exact gAt hx rfl rfl | exact (ps5 hx (by omega)).1.1 | exact (ps5 hx (by omega)).1.2.1 | exact (ps5 hx (by omega)).1.2.2 | exact (ps5 hx (by omega)).2.1 | exact (ps5 hx (by omega)).2.2.1 | exact (ps5 hx (by omega)).2.2.2.1 | exact (ps5 hx (by omega)).2.2.2.2 | exact (bs hx hb).1 | exact (bs hx hb).2.1 | exact (bs hx hb).2.2.1 | exact (bs hx hb).2.2.2.1) (by omega) hf (by first | rfl | exact ppA.nr (Or.inr (by omega)) _ | exact ppA.nr (Or.inl (by unfold ppA; omega)) _) (fun hf => ?_)
            refine gw_aload_n (gc k_Paper_leastBetween_1 10 rfl) rfl rfl ?_
            refine gw_getref (gc k_Paper_leastBetween_1 11 rfl) fl_Paper_46 (by first | exact gAt hx rfl rfl | exact (ps5 hx (by omega)).1.1 | exact (ps5 hx (by omega)).1.2.1 | exact (ps5 hx (by omega)).1.2.2 | exact (ps5 hx (by omega)).2.1 | exact (ps5 hx (by omega)).2.2.1 | exact (ps5 hx (by omega)).2.2.2.1 | exact (ps5 hx (by omega)).2.2.2.2 | exact (bs hx hb).1 | exact (bs hx hb).2.1 | exact (bs hx hb).2.2.1 | exact (bs hx hb).2.2.2.1) (by first | exact gRf hf rfl rfl | exact (br hf hb).1 | exact (br hf hb).2.1 | exact (br hf hb).2.2.1 | exact (br hf hb).2.2.2.1 | exact (br hf hb).2.2.2.2.1 | exact (br hf hb).2.2.2.2.2) ?_
            refine gw_iload (gc k_Paper_leastBetween_1 12 rfl) rfl ?_
            refine gw_iload (gc k_Paper_leastBetween_1 13 rfl) rfl ?_
            refine gw_iastF (gc k_Paper_leastBetween_1 14 rfl) (by first | exact gAt hx rfl rfl | exact (ps5 hx (by omega)).1.1 | exact (ps5 hx (by omega)).1.2.1 | exact (ps5 hx (by omega)).1.2.2 | exact (ps5 hx (by omega)).2.1 | exact (ps5 hx (by omega)).2.2.1 | exact (ps5 hx (by omega)).2.2.2.1 | exact (ps5 hx (by omega)).2.2.2.2 | exact (bs hx hb).1 | exact (bs hx hb).2.1 | exact (bs hx hb).2.2.1 | exact (bs hx hb).2.2.2.1) (by omega) hf (by first | rfl | exact ppA.nr (Or.inr (by omega)) _ | exact ppA.nr (Or.inl (by unfold ppA; omega)) _) (fun hf => ?_)
            obtain ⟨gq, hgq⟩ : ∃ M, M = gup (gup (gup (gup g60 132 0 p) 133 0 p) 132 (r 41 - 1) q) 133 (r 41 - 1) q := ⟨_, rfl⟩
            rw [← hgq]
            have hF3 : ∀ a k, a ≠ 132 → a ≠ 133 → gq a k = g60 a k := fun x y z1 z2 => by rw [hgq, gup_a _ _ _ _ _ z2, gup_a _ _ _ _ _ z1, gup_a _ _ _ _ _ z2, gup_a _ _ _ _ _ z1]
            have hf := kw_fin hf2 hF3
            have hpq : (r 39 ≤ p ∧ p ≤ r 40) ∧ (r 39 ≤ q ∧ q ≤ r 40) := by
              rw [hmn] at c25
              rw [hmx] at c40
              by_cases z : q < p
              · rw [if_pos z] at c25; rw [if_neg (by omega)] at c40; omega
              · rw [if_neg z] at c25
                by_cases z2 : p < q
                · rw [if_pos z2] at c40; omega
                · rw [if_neg z2] at c40; omega
            have hwq : ppW (bwL r p q (r 39)) (bwL r p q (r 40)) gq := by
              intro i x y
              have e := hw2 i x y
              unfold bwL
              by_cases z : i = r 41 - 1
              · rw [if_pos z, if_pos z, hgq, z]
                simp (disch := omega) only [gup_s, gup_k, gup_a, true_and, and_true]
                omega
              · rw [if_neg z, if_neg z]
                by_cases z2 : i = 0
                · rw [if_pos z2, if_pos z2, hgq, z2]
                  simp (disch := omega) only [gup_s, gup_k, gup_a, true_and, and_true]
                  omega
                · rw [if_neg z2, if_neg z2, hgq]
                  simp (disch := omega) only [gup_s, gup_k, gup_a]
                  exact ⟨e.1, by omega, by omega⟩
            refine gw_aload_n (gc k_Paper_leastBetween_1 15 rfl) rfl rfl ?_
            refine gw_aload_n (gc k_Paper_leastBetween_1 16 rfl) rfl rfl ?_
            refine gw_aload_n (gc k_Paper_leastBetween_1 17 rfl) rfl rfl ?_
            refine gw_iconst (gc k_Paper_leastBetween_1 18 rfl) ?_
            refine gw_xV1 (gc k_Paper_leastBetween_1 19 rfl) y_Paper_leastOf ln_Paper_64 (c_Paper_leastOf hx hf hb (kw_bd hb hF3 hB2) (kw_lw hF3 hL2) (kw_s hF3 hS2) hwq 0 (Or.inl rfl)) rfl rfl (by first | exact gAt hx rfl rfl | exact (ps5 hx (by omega)).1.1 | exact (ps5 hx (by omega)).1.2.1 | exact (ps5 hx (by omega)).1.2.2 | exact (ps5 hx (by omega)).2.1 | exact (ps5 hx (by omega)).2.2.1 | exact (ps5 hx (by omega)).2.2.2.1 | exact (ps5 hx (by omega)).2.2.2.2 | exact (bs hx hb).1 | exact (bs hx hb).2.1 | exact (bs hx hb).2.2.1 | exact (bs hx hb).2.2.2.1) rfl rfl (fun r99 sh2 g99 hq99 => ?_)
            obtain ⟨rfl, hsh, hJ, hS9, hpk⟩ := hq99
            subst sh2
            refine gw_ireturn (gc k_Paper_leastBetween_1 20 rfl) rfl ?_
            refine ⟨?_, rfl, ⟨((kw_pf hF2).tr (kw_pf hF3)).tr hJ.pf, hJ.fin hf, hS9⟩⟩
            unfold bwR
            rw [← hmn, ← hmx, if_neg (by omega), if_neg (fun z => by have := z.1; have := z.2; omega)]
          · refine gw_iconst (gc k_Paper_leastBetween_0 30 rfl) ?_
            refine gw_ireturn (gc k_Paper_leastBetween_0 31 rfl) rfl ?_
            refine ⟨?_, rfl, ⟨fun _ _ _ _ _ _ => rfl, hf, hS⟩⟩
            unfold bwR
            rw [← hmn, ← hmx, if_neg (by omega), if_pos ⟨by omega, by omega⟩]
      · refine gw_iconst (gc k_Paper_leastBetween_0 23 rfl) ?_
        refine gw_ireturn (gc k_Paper_leastBetween_0 24 rfl) rfl ?_
        refine ⟨?_, rfl, ⟨fun _ _ _ _ _ _ => rfl, hf, hS⟩⟩
        unfold bwR
        rw [if_pos (Or.inr (Or.inr (hmx ▸ (by omega))))]
set_option maxHeartbeats 1000000 in
theorem c_Paper_voice {sh : gS} {g : gM} (hx : gFix sh) (hf : gFin g) {Λ : Int → List PC} {r : Int → Int} {b : Int} (hb : isBd b) (hB : bdN r g b) {a : Int} (hL : lwP Λ sh g r a) {aim : Int} {lo hi : Int → Int} (hwb : ∀ i, 0 ≤ i → i < 12 → (0 ≤ lo i ∧ lo i ≤ 24) ∧ (0 ≤ hi i ∧ hi i ≤ 24)) (hpk : pkR r aim lo hi g) (h0 : (laV r aim lo hi 0 0).1 < 1000000) (j : Int) (hj : 0 ≤ j ∧ j < r 41) : gTri f_Paper_voice 0 0 0 [(2, 31), (2, b), (0, j)] sh g (gR (some (0, vcK r aim lo hi (j + 1).toNat)) sh g) := by
  have hbx := hb
  unfold isBd at hbx
  have hm := ro_many hB.1
  refine gTri.of (by decide +kernel) rfl ?_
  show gWP f_Paper_voice _ _ _ 0 [(2, 31), (2, b), (0, j), (9, 0), (9, 0)] [] sh g _
  refine gw_iconst (gc k_Paper_voice_0 0 rfl) ?_
  refine gw_istore_3 (gc k_Paper_voice_0 1 rfl) rfl rfl ?_
  refine gw_iconst (gc k_Paper_voice_0 2 rfl) ?_
  refine gw_istore_4 (gc k_Paper_voice_0 3 rfl) rfl rfl ?_
  refine gwloop (σ := Int) (fun zs => (0 ≤ zs ∧ zs ≤ j + 1)) (fun zs => (j + 1 - zs).toNat) (fun zs => [(2, 31), (2, b), (0, j), (0, vcK r aim lo hi zs.toNat), (0, zs)]) (fun zs => g) (0) (show (0 ≤ (0 : Int) ∧ (0 : Int) ≤ j + 1) from ⟨by omega, by omega⟩) rfl rfl (fun zs hI ih => ?_)
  obtain ⟨i, hzz⟩ : ∃ x, x = zs := ⟨_, rfl⟩
  subst hzz
  replace hI : (0 ≤ i ∧ i ≤ j + 1) := hI
  have hii := hI
  show gWP _ _ _ _ _ [(2, 31), (2, b), (0, j), (0, vcK r aim lo hi i.toNat), (0, i)] [] _ (g) _
  
  refine gw_iload (gc k_Paper_voice_0 4 rfl) rfl ?_
  refine gw_iload_n (gc k_Paper_voice_0 5 rfl) rfl ?_
  refine gw_icmp_gt (tgt := 36) (gc k_Paper_voice_0 6 rfl) rfl (by omega) (fun c8 => ?_) (fun c8 => ?_)
  · refine gw_iload_n (gc k_Paper_voice_0 20 rfl) rfl ?_
    refine gw_ireturn (gc k_Paper_voice_0 21 rfl) rfl ?_
    obtain rfl : i = j + 1 := by omega
    exact ⟨rfl, rfl, rfl⟩
  · refine gw_iload (gc k_Paper_voice_0 7 rfl) rfl ?_
    refine gw_aload_n (gc k_Paper_voice_0 8 rfl) rfl rfl ?_
    refine gw_getf 0 rfl (gc k_Paper_voice_0 9 rfl) fl_Paper_68 (by first | exact gAt hx rfl rfl | exact (ps5 hx (by omega)).1.1 | exact (ps5 hx (by omega)).1.2.1 | exact (ps5 hx (by omega)).1.2.2 | exact (ps5 hx (by omega)).2.1 | exact (ps5 hx (by omega)).2.2.1 | exact (ps5 hx (by omega)).2.2.2.1 | exact (ps5 hx (by omega)).2.2.2.2 | exact (bs hx hb).1 | exact (bs hx hb).2.1 | exact (bs hx hb).2.2.1 | exact (bs hx hb).2.2.2.1) ?_
    rw [hB.2.1]
    refine gw_icmp_ge (tgt := 36) (gc k_Paper_voice_0 10 rfl) rfl (by omega) (fun c17 => ?_) (fun c17 => ?_)
    · refine gw_iload_n (gc k_Paper_voice_0 20 rfl) rfl ?_
      refine gw_ireturn (gc k_Paper_voice_0 21 rfl) rfl ?_
      obtain rfl : i = j + 1 := by omega
      exact ⟨rfl, rfl, rfl⟩
    · have hv := vcK_ok hL hB.1 hwb h0 i.toNat (by omega)
      rw [show ((i.toNat : Nat) : Int) = i by omega] at hv
      refine gw_aload_n (gc k_Paper_voice_0 11 rfl) rfl rfl ?_
      refine gw_getref (gc k_Paper_voice_0 12 rfl) fl_Paper_31 (by first | exact gAt hx rfl rfl | exact (ps5 hx (by omega)).1.1 | exact (ps5 hx (by omega)).1.2.1 | exact (ps5 hx (by omega)).1.2.2 | exact (ps5 hx (by omega)).2.1 | exact (ps5 hx (by omega)).2.2.1 | exact (ps5 hx (by omega)).2.2.2.1 | exact (ps5 hx (by omega)).2.2.2.2 | exact (bs hx hb).1 | exact (bs hx hb).2.1 | exact (bs hx hb).2.2.1 | exact (bs hx hb).2.2.2.1) (by first | exact gRf hf rfl rfl | exact (br hf hb).1 | exact (br hf hb).2.1 | exact (br hf hb).2.2.1 | exact (br hf hb).2.2.2.1 | exact (br hf hb).2.2.2.2.1 | exact (br hf hb).2.2.2.2.2) ?_
      refine gw_iload (gc k_Paper_voice_0 13 rfl) rfl ?_
      refine gw_aald_ints (gc k_Paper_voice_0 14 rfl) (by first | exact gAt hx rfl rfl | exact (ps5 hx (by omega)).1.1 | exact (ps5 hx (by omega)).1.2.1 | exact (ps5 hx (by omega)).1.2.2 | exact (ps5 hx (by omega)).2.1 | exact (ps5 hx (by omega)).2.2.1 | exact (ps5 hx (by omega)).2.2.2.1 | exact (ps5 hx (by omega)).2.2.2.2 | exact (bs hx hb).1 | exact (bs hx hb).2.1 | exact (bs hx hb).2.2.1 | exact (bs hx hb).2.2.2.1) (by omega) ?_
      rw [(pr5 hf (i := i) (by omega)).2.2.1]
      refine gw_iload_n (gc k_Paper_voice_0 15 rfl) rfl ?_
      refine gw_iald (gc k_Paper_voice_0 16 rfl) (by first | exact gAt hx rfl rfl | exact (ps5 hx (by omega)).1.1 | exact (ps5 hx (by omega)).1.2.1 | exact (ps5 hx (by omega)).1.2.2 | exact (ps5 hx (by omega)).2.1 | exact (ps5 hx (by omega)).2.2.1 | exact (ps5 hx (by omega)).2.2.2.1 | exact (ps5 hx (by omega)).2.2.2.2 | exact (bs hx hb).1 | exact (bs hx hb).2.1 | exact (bs hx hb).2.2.1 | exact (bs hx hb).2.2.2.1) (by omega) ?_
      rw [hpk i _ (by omega) (by omega) hv.1.1 hv.1.2]
      refine gw_istore_3 (gc k_Paper_voice_0 17 rfl) rfl rfl ?_
      refine gw_iinc_4 (gc k_Paper_voice_0 18 rfl) rfl rfl ?_
      refine gw_goto (tgt := 5) (gc k_Paper_voice_0 19 rfl) rfl ?_
      have hs : (laV r aim lo hi i (vcK r aim lo hi i.toNat)).2 = vcK r aim lo hi (i + 1).toNat := by
        rw [show (i + 1).toNat = i.toNat + 1 by omega]
        show _ = (laV r aim lo hi (i.toNat : Int) (vcK r aim lo hi i.toNat)).2
        rw [show ((i.toNat : Nat) : Int) = i by omega]
      rw [hs]
      exact ih (i + 1) ⟨by omega, by omega⟩ (by show (j + 1 - (i + 1)).toNat < (j + 1 - i).toNat; omega)
set_option maxHeartbeats 8000000 in
theorem c_Paper_howMany {sh : gS} {g : gM} (hx : gFix sh) (hf : gFin g) {Λ : Int → List PC} {r : Int → Int} {b : Int} (hb : isBd b) (hB : bdN r g b) {a : Int} (hL : lwP Λ sh g r a) (hS : ppS Λ sh g) : gTri f_Paper_howMany 5 0 0 [(2, 31), (2, b), (2, a)] sh g (fun x s2 g2 => x = some (1, waR r) ∧ s2 = sh ∧ ppQ Λ sh g g2) := by
  have hbx := hb
  unfold isBd at hbx
  have hm := ro_many hB.1
  have hlo := ro_low hB.1
  have hhi := ro_high hB.1
  refine gTri.of (by decide +kernel) rfl ?_
  show gWP f_Paper_howMany _ _ _ 0 [(2, 31), (2, b), (2, a), (9, 0), (9, 0), (9, 0), (9, 0), (9, 0)] [] sh g _
  refine gw_aload_n (gc k_Paper_howMany_0 0 rfl) rfl rfl ?_
  refine gw_aload_n (gc k_Paper_howMany_0 1 rfl) rfl rfl ?_
  refine gw_xV1 (gc k_Paper_howMany_0 2 rfl) y_Paper_keepWithin ln_Paper_60 (c_Paper_keepWithin hx hf hb hB) rfl rfl (by first | exact gAt hx rfl rfl | exact (ps5 hx (by omega)).1.1 | exact (ps5 hx (by omega)).1.2.1 | exact (ps5 hx (by omega)).1.2.2 | exact (ps5 hx (by omega)).2.1 | exact (ps5 hx (by omega)).2.2.1 | exact (ps5 hx (by omega)).2.2.2.1 | exact (ps5 hx (by omega)).2.2.2.2 | exact (bs hx hb).1 | exact (bs hx hb).2.1 | exact (bs hx hb).2.2.1 | exact (bs hx hb).2.2.2.1) rfl rfl (fun r2 sh2 g2 hq2 => ?_)
  obtain ⟨rfl, hsh, hF2, hw2⟩ := hq2
  subst sh2
  have hf2 := kw_fin hf hF2
  have hB2 := kw_bd hb hF2 hB
  have hL2 := kw_lw hF2 hL
  have hS2 := kw_s hF2 hS
  have hf := hf2
  have hw3 : ppW (kF (r 39)) (kF (r 40)) g2 := hw2
  refine gw_aload_n (gc k_Paper_howMany_0 3 rfl) rfl rfl ?_
  refine gw_getf 0 rfl (gc k_Paper_howMany_0 4 rfl) fl_Paper_68 (by first | exact gAt hx rfl rfl | exact (ps5 hx (by omega)).1.1 | exact (ps5 hx (by omega)).1.2.1 | exact (ps5 hx (by omega)).1.2.2 | exact (ps5 hx (by omega)).2.1 | exact (ps5 hx (by omega)).2.2.1 | exact (ps5 hx (by omega)).2.2.2.1 | exact (ps5 hx (by omega)).2.2.2.2 | exact (bs hx hb).1 | exact (bs hx hb).2.1 | exact (bs hx hb).2.2.1 | exact (bs hx hb).2.2.2.1) ?_
  rw [hB2.2.1]
  refine gw_iconst (gc k_Paper_howMany_0 5 rfl) ?_
  refine gw_isub (gc k_Paper_howMany_0 6 rfl) ?_
  refine gw_istore_3 (gc k_Paper_howMany_0 7 rfl) rfl rfl ?_
  refine gwloop (σ := Int × gV × gV × gV × gV × gM) (fun zs => (-1 ≤ (zs.1) ∧ (zs.1) < r 41) ∧ waI Λ sh r (zs.1) g2 (zs.2.2.2.2.2)) (fun zs => ((zs.1) + 1).toNat) (fun zs => [(2, 31), (2, b), (2, a), (0, (zs.1)), (zs.2.1), (zs.2.2.1), (zs.2.2.2.1), (zs.2.2.2.2.1)]) (fun zs => (zs.2.2.2.2.2)) (r 41 - 1, (9, 0), (9, 0), (9, 0), (9, 0), g2) (show (-1 ≤ (r 41 - 1) ∧ (r 41 - 1) < r 41) ∧ waI Λ sh r (r 41 - 1) g2 g2 from ⟨⟨by omega, by omega⟩, ppJ.rf g2, hS2, fun n p x y => by omega⟩) rfl rfl (fun zs hI ih => ?_)
  obtain ⟨i, x4, x5, x6, x7, g1⟩ := zs
  replace hI : (-1 ≤ i ∧ i < r 41) ∧ waI Λ sh r i g2 g1 := hI
  obtain ⟨hi, hI1⟩ := hI
  show gWP _ _ _ _ _ [(2, 31), (2, b), (2, a), (0, i), x4, x5, x6, x7] [] _ (g1) _
  have hf := hI1.1.fin hf2
  refine gw_iload_n (gc k_Paper_howMany_0 8 rfl) rfl ?_
  refine gw_if_lt (tgt := 149) (gc k_Paper_howMany_0 9 rfl) rfl (by omega) (fun c13 => ?_) (fun c13 => ?_)
  · refine gw_aload_n (gc k_Paper_howMany_2 4 rfl) rfl rfl ?_
    refine gw_getf 0 rfl (gc k_Paper_howMany_2 5 rfl) fl_Paper_68 (by first | exact gAt hx rfl rfl | exact (ps5 hx (by omega)).1.1 | exact (ps5 hx (by omega)).1.2.1 | exact (ps5 hx (by omega)).1.2.2 | exact (ps5 hx (by omega)).2.1 | exact (ps5 hx (by omega)).2.2.1 | exact (ps5 hx (by omega)).2.2.2.1 | exact (ps5 hx (by omega)).2.2.2.2 | exact (bs hx hb).1 | exact (bs hx hb).2.1 | exact (bs hx hb).2.2.1 | exact (bs hx hb).2.2.2.1) ?_
    rw [(hI1.1.bdN hb hB2).2.1]
    refine gw_if_ne (tgt := 160) (gc k_Paper_howMany_2 6 rfl) rfl (by omega) (fun c153 => ?_) (fun c153 => ?_)
    · refine gw_aload_n (gc k_Paper_howMany_2 9 rfl) rfl rfl ?_
      refine gw_getref (gc k_Paper_howMany_2 10 rfl) fl_Paper_36 (by first | exact gAt hx rfl rfl | exact (ps5 hx (by omega)).1.1 | exact (ps5 hx (by omega)).1.2.1 | exact (ps5 hx (by omega)).1.2.2 | exact (ps5 hx (by omega)).2.1 | exact (ps5 hx (by omega)).2.2.1 | exact (ps5 hx (by omega)).2.2.2.1 | exact (ps5 hx (by omega)).2.2.2.2 | exact (bs hx hb).1 | exact (bs hx hb).2.1 | exact (bs hx hb).2.2.1 | exact (bs hx hb).2.2.2.1) (by first | exact gRf hf rfl rfl | exact (br hf hb).1 | exact (br hf hb).2.1 | exact (br hf hb).2.2.1 | exact (br hf hb).2.2.2.1 | exact (br hf hb).2.2.2.2.1 | exact (br hf hb).2.2.2.2.2) ?_
      refine gw_iconst (gc k_Paper_howMany_2 11 rfl) ?_
      refine gw_aald_longs (gc k_Paper_howMany_2 12 rfl) (by first | exact gAt hx rfl rfl | exact (ps5 hx (by omega)).1.1 | exact (ps5 hx (by omega)).1.2.1 | exact (ps5 hx (by omega)).1.2.2 | exact (ps5 hx (by omega)).2.1 | exact (ps5 hx (by omega)).2.2.1 | exact (ps5 hx (by omega)).2.2.2.1 | exact (ps5 hx (by omega)).2.2.2.2 | exact (bs hx hb).1 | exact (bs hx hb).2.1 | exact (bs hx hb).2.2.1 | exact (bs hx hb).2.2.2.1) (by omega) ?_
      rw [show g1 106 0 = 107 from gRf hf rfl rfl]
      refine gw_iconst (gc k_Paper_howMany_2 13 rfl) ?_
      refine gw_lald (gc k_Paper_howMany_2 14 rfl) (by first | exact gAt hx rfl rfl | exact (ps5 hx (by omega)).1.1 | exact (ps5 hx (by omega)).1.2.1 | exact (ps5 hx (by omega)).1.2.2 | exact (ps5 hx (by omega)).2.1 | exact (ps5 hx (by omega)).2.2.1 | exact (ps5 hx (by omega)).2.2.2.1 | exact (ps5 hx (by omega)).2.2.2.2 | exact (bs hx hb).1 | exact (bs hx hb).2.1 | exact (bs hx hb).2.2.1 | exact (bs hx hb).2.2.2.1) (by omega) ?_
      refine gw_lreturn (gc k_Paper_howMany_2 15 rfl) rfl ?_
      refine ⟨?_, rfl, ⟨(kw_pf hF2).tr hI1.1.pf, hf, hI1.2.1⟩⟩
      unfold waR
      rw [if_neg (by omega)]
      have q := hI1.2.2 0 0 (by omega) (by omega) (Int.le_refl _) (Int.le_refl _)
      exact congrArg (fun y => some (1, y)) q
    · refine gw_lconst1 (gc k_Paper_howMany_2 7 rfl) ?_
      refine gw_goto (tgt := 168) (gc k_Paper_howMany_2 8 rfl) rfl ?_
      refine gw_lreturn (gc k_Paper_howMany_2 15 rfl) rfl ?_
      refine ⟨?_, rfl, ⟨(kw_pf hF2).tr hI1.1.pf, hf, hI1.2.1⟩⟩
      unfold waR
      rw [if_pos (by omega)]
  · have hi12 : 0 ≤ i ∧ i < 12 := by omega
    refine gw_aload_n (gc k_Paper_howMany_0 10 rfl) rfl rfl ?_
    refine gw_getref (gc k_Paper_howMany_0 11 rfl) fl_Paper_23 (by first | exact gAt hx rfl rfl | exact (ps5 hx (by omega)).1.1 | exact (ps5 hx (by omega)).1.2.1 | exact (ps5 hx (by omega)).1.2.2 | exact (ps5 hx (by omega)).2.1 | exact (ps5 hx (by omega)).2.2.1 | exact (ps5 hx (by omega)).2.2.2.1 | exact (ps5 hx (by omega)).2.2.2.2 | exact (bs hx hb).1 | exact (bs hx hb).2.1 | exact (bs hx hb).2.2.1 | exact (bs hx hb).2.2.2.1) (by first | exact gRf hf rfl rfl | exact (br hf hb).1 | exact (br hf hb).2.1 | exact (br hf hb).2.2.1 | exact (br hf hb).2.2.2.1 | exact (br hf hb).2.2.2.2.1 | exact (br hf hb).2.2.2.2.2) ?_
    refine gw_aload_n (gc k_Paper_howMany_0 12 rfl) rfl rfl ?_
    refine gw_iload_n (gc k_Paper_howMany_0 13 rfl) rfl ?_
    refine gw_aload_n (gc k_Paper_howMany_0 14 rfl) rfl rfl ?_
    refine gw_aload_n (gc k_Paper_howMany_0 15 rfl) rfl rfl ?_
    refine gw_getref (gc k_Paper_howMany_0 16 rfl) fl_Paper_56 (by first | exact gAt hx rfl rfl | exact (ps5 hx (by omega)).1.1 | exact (ps5 hx (by omega)).1.2.1 | exact (ps5 hx (by omega)).1.2.2 | exact (ps5 hx (by omega)).2.1 | exact (ps5 hx (by omega)).2.2.1 | exact (ps5 hx (by omega)).2.2.2.1 | exact (ps5 hx (by omega)).2.2.2.2 | exact (bs hx hb).1 | exact (bs hx hb).2.1 | exact (bs hx hb).2.2.1 | exact (bs hx hb).2.2.2.1) (by first | exact gRf hf rfl rfl | exact (br hf hb).1 | exact (br hf hb).2.1 | exact (br hf hb).2.2.1 | exact (br hf hb).2.2.2.1 | exact (br hf hb).2.2.2.2.1 | exact (br hf hb).2.2.2.2.2) ?_
    refine gw_xV1 (gc k_Paper_howMany_0 17 rfl) y_Sheet_renew ln_Paper_84 (c_Sheet_renew hx hf iS2 hI1.2.1.2.2 hb (hI1.1.bdN hb hB2) (hI1.1.lw hL2.1) i (by omega)) rfl rfl (by first | exact gAt hx rfl rfl | exact (ps5 hx (by omega)).1.1 | exact (ps5 hx (by omega)).1.2.1 | exact (ps5 hx (by omega)).1.2.2 | exact (ps5 hx (by omega)).2.1 | exact (ps5 hx (by omega)).2.2.1 | exact (ps5 hx (by omega)).2.2.2.1 | exact (ps5 hx (by omega)).2.2.2.2 | exact (bs hx hb).1 | exact (bs hx hb).2.1 | exact (bs hx hb).2.2.1 | exact (bs hx hb).2.2.2.1) rfl rfl (fun r27 sh2 g27 hq27 => ?_)
    obtain ⟨rfl, hsh, hF27, hN27, hG27⟩ := hq27
    subst sh2
    have hI27 := hI1.renew hi12 hF27 hN27
    have hf := hI27.1.fin hf2
    refine gw_aload_n (gc k_Paper_howMany_0 18 rfl) rfl rfl ?_
    refine gw_iload_n (gc k_Paper_howMany_0 19 rfl) rfl ?_
    refine gw_cV1 (gc k_Paper_howMany_0 20 rfl) y_Paper_firstAhead ln_Paper_88 (c_Paper_firstAhead hx hf i hi12) rfl rfl (by first | exact gAt hx rfl rfl | exact (ps5 hx (by omega)).1.1 | exact (ps5 hx (by omega)).1.2.1 | exact (ps5 hx (by omega)).1.2.2 | exact (ps5 hx (by omega)).2.1 | exact (ps5 hx (by omega)).2.2.1 | exact (ps5 hx (by omega)).2.2.2.1 | exact (ps5 hx (by omega)).2.2.2.2 | exact (bs hx hb).1 | exact (bs hx hb).2.1 | exact (bs hx hb).2.2.1 | exact (bs hx hb).2.2.2.1) rfl rfl ?_
    rw [fa_lo (hI27.1.w hw3) hi12]
    have hfa := faL_bd hw3 hi12
    refine gw_istore_4 (gc k_Paper_howMany_0 21 rfl) rfl rfl ?_
    refine gwloop (σ := Int × gV × gV × gV × gM) (fun zs => (faL (kF (r 39)) i ≤ (zs.1) ∧ ((zs.1) ≤ faL (kF (r 40)) i + 1 ∨ (zs.1) = faL (kF (r 39)) i)) ∧ waI Λ sh r i g2 (zs.2.2.2.2) ∧ pgK Λ (zs.2.2.2.2) (66 + i) a r i 2 ∧ ∀ q, faL (kF (r 39)) i ≤ q → q < (zs.1) → (zs.2.2.2.2) (107 + i) q = wyV r i q) (fun zs => (25 - (zs.1)).toNat) (fun zs => [(2, 31), (2, b), (2, a), (0, i), (0, (zs.1)), (zs.2.1), (zs.2.2.1), (zs.2.2.2.1)]) (fun zs => (zs.2.2.2.2)) (faL (kF (r 39)) i, x5, x6, x7, g27) (show (faL (kF (r 39)) i ≤ (faL (kF (r 39)) i) ∧ ((faL (kF (r 39)) i) ≤ faL (kF (r 40)) i + 1 ∨ (faL (kF (r 39)) i) = faL (kF (r 39)) i)) ∧ waI Λ sh r i g2 g27 ∧ pgK Λ g27 (66 + i) a r i 2 ∧ ∀ q, faL (kF (r 39)) i ≤ q → q < (faL (kF (r 39)) i) → g27 (107 + i) q = wyV r i q from ⟨⟨Int.le_refl _, Or.inr rfl⟩, hI27, hG27, fun q x y => by omega⟩) rfl rfl (fun zs hI ih2 => ?_)
    obtain ⟨p, x5, x6, x7, g3⟩ := zs
    replace hI : (faL (kF (r 39)) i ≤ p ∧ (p ≤ faL (kF (r 40)) i + 1 ∨ p = faL (kF (r 39)) i)) ∧ waI Λ sh r i g2 g3 ∧ pgK Λ g3 (66 + i) a r i 2 ∧ ∀ q, faL (kF (r 39)) i ≤ q → q < p → g3 (107 + i) q = wyV r i q := hI
    obtain ⟨hp, hI3, hP3, hC⟩ := hI
    show gWP _ _ _ _ _ [(2, 31), (2, b), (2, a), (0, i), (0, p), x5, x6, x7] [] _ (g3) _
    have hf := hI3.1.fin hf2
    have hw4 := hI3.1.w hw3
    refine gw_iload (gc k_Paper_howMany_0 22 rfl) rfl ?_
    refine gw_aload_n (gc k_Paper_howMany_0 23 rfl) rfl rfl ?_
    refine gw_iload_n (gc k_Paper_howMany_0 24 rfl) rfl ?_
    refine gw_cV1 (gc k_Paper_howMany_0 25 rfl) y_Paper_lastAhead ln_Paper_92 (c_Paper_lastAhead hx hf i hi12) rfl rfl (by first | exact gAt hx rfl rfl | exact (ps5 hx (by omega)).1.1 | exact (ps5 hx (by omega)).1.2.1 | exact (ps5 hx (by omega)).1.2.2 | exact (ps5 hx (by omega)).2.1 | exact (ps5 hx (by omega)).2.2.1 | exact (ps5 hx (by omega)).2.2.2.1 | exact (ps5 hx (by omega)).2.2.2.2 | exact (bs hx hb).1 | exact (bs hx hb).2.1 | exact (bs hx hb).2.2.1 | exact (bs hx hb).2.2.2.1) rfl rfl ?_
    rw [fa_hi hw4 hi12]
    refine gw_icmp_gt (tgt := 143) (gc k_Paper_howMany_0 26 rfl) rfl (by omega) (fun c44 => ?_) (fun c44 => ?_)
    · refine gw_iinc_3 (gc k_Paper_howMany_2 2 rfl) rfl rfl ?_
      refine gw_goto (tgt := 12) (gc k_Paper_howMany_2 3 rfl) rfl ?_
      refine ih (i - 1, _, _, _, _, g3) ⟨⟨by omega, by omega⟩, hI3.1, hI3.2.1, fun n q x y z1 z2 => ?_⟩ (by show (i - 1 + 1).toNat < (i + 1).toNat; omega)
      by_cases e : n = i
      · subst e; exact hC q z1 (by omega)
      · exact hI3.2.2 n q (by omega) y z1 z2
    · refine gw_lconst0 (gc k_Paper_howMany_0 27 rfl) ?_
      refine gw_lstore_5 (gc k_Paper_howMany_0 28 rfl) rfl rfl ?_
      refine gw_aload_n (gc k_Paper_howMany_0 29 rfl) rfl rfl ?_
      refine gw_getref (gc k_Paper_howMany_0 30 rfl) fl_Paper_42 (by first | exact gAt hx rfl rfl | exact (ps5 hx (by omega)).1.1 | exact (ps5 hx (by omega)).1.2.1 | exact (ps5 hx (by omega)).1.2.2 | exact (ps5 hx (by omega)).2.1 | exact (ps5 hx (by omega)).2.2.1 | exact (ps5 hx (by omega)).2.2.2.1 | exact (ps5 hx (by omega)).2.2.2.2 | exact (bs hx hb).1 | exact (bs hx hb).2.1 | exact (bs hx hb).2.2.1 | exact (bs hx hb).2.2.2.1) (by first | exact gRf hf rfl rfl | exact (br hf hb).1 | exact (br hf hb).2.1 | exact (br hf hb).2.2.1 | exact (br hf hb).2.2.2.1 | exact (br hf hb).2.2.2.2.1 | exact (br hf hb).2.2.2.2.2) ?_
      refine gw_iload_n (gc k_Paper_howMany_0 31 rfl) rfl ?_
      refine gw_iald (gc k_Paper_howMany_0 32 rfl) (by first | exact gAt hx rfl rfl | exact (ps5 hx (by omega)).1.1 | exact (ps5 hx (by omega)).1.2.1 | exact (ps5 hx (by omega)).1.2.2 | exact (ps5 hx (by omega)).2.1 | exact (ps5 hx (by omega)).2.2.1 | exact (ps5 hx (by omega)).2.2.2.1 | exact (ps5 hx (by omega)).2.2.2.2 | exact (bs hx hb).1 | exact (bs hx hb).2.1 | exact (bs hx hb).2.2.1 | exact (bs hx hb).2.2.2.1) (by omega) ?_
      rw [(hw4 i hi12.1 hi12.2).1.1]
      show gWP _ _ _ _ _ _ ((0, r 39) :: []) _ _ _
      refine gw_istore_7 (gc k_Paper_howMany_0 33 rfl) rfl rfl ?_
      have e0 : sgF (vwC r i p) (fun q => wyR r i q) (r 39) (r 39 - r 39).toNat = 0 := by rw [show (r 39 - r 39).toNat = 0 by omega]; rfl
      refine gwloop (σ := Int) (fun zs => (r 39 ≤ zs ∧ (zs ≤ r 40 + 1 ∨ zs = r 39))) (fun zs => (r 40 + 1 - zs).toNat) (fun zs => [(2, 31), (2, b), (2, a), (0, i), (0, p), (1, sgF (vwC r i p) (fun q => wyR r i q) (r 39) (zs - r 39).toNat), (9, 0), (0, zs)]) (fun zs => g3) (r 39) (show (r 39 ≤ (r 39) ∧ ((r 39) ≤ r 40 + 1 ∨ (r 39) = r 39)) from ⟨Int.le_refl _, Or.inr rfl⟩) (by show [(2, 31), (2, b), (2, a), (0, i), (0, p), (1, sgF (vwC r i p) (fun q => wyR r i q) (r 39) ((r 39) - r 39).toNat), (9, 0), (0, (r 39))] = _; rw [e0]) rfl (fun zs hI ih3 => ?_)
      obtain ⟨h, hzz⟩ : ∃ x, x = zs := ⟨_, rfl⟩
      subst hzz
      replace hI : (r 39 ≤ h ∧ (h ≤ r 40 + 1 ∨ h = r 39)) := hI
      have hh := hI
      show gWP _ _ _ _ _ [(2, 31), (2, b), (2, a), (0, i), (0, p), (1, sgF (vwC r i p) (fun q => wyR r i q) (r 39) (h - r 39).toNat), (9, 0), (0, h)] [] _ (g3) _
      
      refine gw_iload (gc k_Paper_howMany_0 34 rfl) rfl ?_
      refine gw_aload_n (gc k_Paper_howMany_0 35 rfl) rfl rfl ?_
      refine gw_getref (gc k_Paper_howMany_0 36 rfl) fl_Paper_46 (by first | exact gAt hx rfl rfl | exact (ps5 hx (by omega)).1.1 | exact (ps5 hx (by omega)).1.2.1 | exact (ps5 hx (by omega)).1.2.2 | exact (ps5 hx (by omega)).2.1 | exact (ps5 hx (by omega)).2.2.1 | exact (ps5 hx (by omega)).2.2.2.1 | exact (ps5 hx (by omega)).2.2.2.2 | exact (bs hx hb).1 | exact (bs hx hb).2.1 | exact (bs hx hb).2.2.1 | exact (bs hx hb).2.2.2.1) (by first | exact gRf hf rfl rfl | exact (br hf hb).1 | exact (br hf hb).2.1 | exact (br hf hb).2.2.1 | exact (br hf hb).2.2.2.1 | exact (br hf hb).2.2.2.2.1 | exact (br hf hb).2.2.2.2.2) ?_
      refine gw_iload_n (gc k_Paper_howMany_0 37 rfl) rfl ?_
      refine gw_iald (gc k_Paper_howMany_0 38 rfl) (by first | exact gAt hx rfl rfl | exact (ps5 hx (by omega)).1.1 | exact (ps5 hx (by omega)).1.2.1 | exact (ps5 hx (by omega)).1.2.2 | exact (ps5 hx (by omega)).2.1 | exact (ps5 hx (by omega)).2.2.1 | exact (ps5 hx (by omega)).2.2.2.1 | exact (ps5 hx (by omega)).2.2.2.2 | exact (bs hx hb).1 | exact (bs hx hb).2.1 | exact (bs hx hb).2.2.1 | exact (bs hx hb).2.2.2.1) (by omega) ?_
      rw [(hw4 i hi12.1 hi12.2).1.2]
      show gWP _ _ _ _ _ _ ((0, r 40) :: _) _ _ _
      refine gw_icmp_gt (tgt := 126) (gc k_Paper_howMany_0 39 rfl) rfl (by omega) (fun c66 => ?_) (fun c66 => ?_)
      · refine gw_aload_n (gc k_Paper_howMany_1 33 rfl) rfl rfl ?_
        refine gw_getref (gc k_Paper_howMany_1 34 rfl) fl_Paper_36 (by first | exact gAt hx rfl rfl | exact (ps5 hx (by omega)).1.1 | exact (ps5 hx (by omega)).1.2.1 | exact (ps5 hx (by omega)).1.2.2 | exact (ps5 hx (by omega)).2.1 | exact (ps5 hx (by omega)).2.2.1 | exact (ps5 hx (by omega)).2.2.2.1 | exact (ps5 hx (by omega)).2.2.2.2 | exact (bs hx hb).1 | exact (bs hx hb).2.1 | exact (bs hx hb).2.2.1 | exact (bs hx hb).2.2.2.1) (by first | exact gRf hf rfl rfl | exact (br hf hb).1 | exact (br hf hb).2.1 | exact (br hf hb).2.2.1 | exact (br hf hb).2.2.2.1 | exact (br hf hb).2.2.2.2.1 | exact (br hf hb).2.2.2.2.2) ?_
        refine gw_iload_n (gc k_Paper_howMany_1 35 rfl) rfl ?_
        refine gw_aald_longs (gc k_Paper_howMany_1 36 rfl) (by first | exact gAt hx rfl rfl | exact (ps5 hx (by omega)).1.1 | exact (ps5 hx (by omega)).1.2.1 | exact (ps5 hx (by omega)).1.2.2 | exact (ps5 hx (by omega)).2.1 | exact (ps5 hx (by omega)).2.2.1 | exact (ps5 hx (by omega)).2.2.2.1 | exact (ps5 hx (by omega)).2.2.2.2 | exact (bs hx hb).1 | exact (bs hx hb).2.1 | exact (bs hx hb).2.2.1 | exact (bs hx hb).2.2.2.1) (by omega) ?_
        rw [(pr5 hf (i := i) (by omega)).2.2.2.1]
        refine gw_iload (gc k_Paper_howMany_1 37 rfl) rfl ?_
        refine gw_lload (gc k_Paper_howMany_1 38 rfl) rfl ?_
        refine gw_lastF (gc k_Paper_howMany_1 39 rfl) (by first | exact gAt hx rfl rfl | exact (ps5 hx (by omega)).1.1 | exact (ps5 hx (by omega)).1.2.1 | exact (ps5 hx (by omega)).1.2.2 | exact (ps5 hx (by omega)).2.1 | exact (ps5 hx (by omega)).2.2.1 | exact (ps5 hx (by omega)).2.2.2.1 | exact (ps5 hx (by omega)).2.2.2.2 | exact (bs hx hb).1 | exact (bs hx hb).2.1 | exact (bs hx hb).2.2.1 | exact (bs hx hb).2.2.2.1) (by omega) hf (by first | rfl | exact ppA.nr (Or.inr (by omega)) _ | exact ppA.nr (Or.inl (by unfold ppA; omega)) _) (fun hf => ?_)
        refine gw_iinc_4 (gc k_Paper_howMany_2 0 rfl) rfl rfl ?_
        refine gw_goto (tgt := 37) (gc k_Paper_howMany_2 1 rfl) rfl ?_
        have hsv : sgF (vwC r i p) (fun q => wyR r i q) (r 39) (h - r 39).toNat = wyV r i p := by
          rw [show (h - r 39).toNat = (r 40 + 1 - r 39).toNat by omega]
          rfl
        rw [hsv]
        have hnew : (faL (kF (r 39)) i ≤ (p + 1) ∧ ((p + 1) ≤ faL (kF (r 40)) i + 1 ∨ (p + 1) = faL (kF (r 39)) i)) ∧ waI Λ sh r i g2 (gup g3 (107 + i) p (wyV r i p)) ∧ pgK Λ (gup g3 (107 + i) p (wyV r i p)) (66 + i) a r i 2 ∧ ∀ q, faL (kF (r 39)) i ≤ q → q < (p + 1) → (gup g3 (107 + i) p (wyV r i p)) (107 + i) q = wyV r i q := by
          refine ⟨⟨by omega, Or.inl (by omega)⟩, hI3.cell (by omega) hi12 p _, hP3.eq (fun y => gup_a _ _ _ _ _ (by omega)), fun q x y => ?_⟩
          by_cases e : q = p
          · rw [e, gup_s]
          · rw [gup_k _ _ _ _ e]; exact hC q x (by omega)
        exact ih2 (p + 1, _, _, _, gup g3 (107 + i) p (wyV r i p)) hnew (by show (25 - (p + 1)).toNat < (25 - p).toNat; omega)
      · have hbar := pgB hL2 hP3 (p := p) (q := h) (by omega) (by omega)
        refine gw_aload_n (gc k_Paper_howMany_1 0 rfl) rfl rfl ?_
        refine gw_getref (gc k_Paper_howMany_1 1 rfl) fl_Paper_23 (by first | exact gAt hx rfl rfl | exact (ps5 hx (by omega)).1.1 | exact (ps5 hx (by omega)).1.2.1 | exact (ps5 hx (by omega)).1.2.2 | exact (ps5 hx (by omega)).2.1 | exact (ps5 hx (by omega)).2.2.1 | exact (ps5 hx (by omega)).2.2.2.1 | exact (ps5 hx (by omega)).2.2.2.2 | exact (bs hx hb).1 | exact (bs hx hb).2.1 | exact (bs hx hb).2.2.1 | exact (bs hx hb).2.2.2.1) (by first | exact gRf hf rfl rfl | exact (br hf hb).1 | exact (br hf hb).2.1 | exact (br hf hb).2.2.1 | exact (br hf hb).2.2.2.1 | exact (br hf hb).2.2.2.2.1 | exact (br hf hb).2.2.2.2.2) ?_
        refine gw_getref (gc k_Paper_howMany_1 2 rfl) fl_Paper_95 (by first | exact gAt hx rfl rfl | exact (ps5 hx (by omega)).1.1 | exact (ps5 hx (by omega)).1.2.1 | exact (ps5 hx (by omega)).1.2.2 | exact (ps5 hx (by omega)).2.1 | exact (ps5 hx (by omega)).2.2.1 | exact (ps5 hx (by omega)).2.2.2.1 | exact (ps5 hx (by omega)).2.2.2.2 | exact (bs hx hb).1 | exact (bs hx hb).2.1 | exact (bs hx hb).2.2.1 | exact (bs hx hb).2.2.2.1) (by first | exact gRf hf rfl rfl | exact (br hf hb).1 | exact (br hf hb).2.1 | exact (br hf hb).2.2.1 | exact (br hf hb).2.2.2.1 | exact (br hf hb).2.2.2.2.1 | exact (br hf hb).2.2.2.2.2) ?_
        refine gw_iload_n (gc k_Paper_howMany_1 3 rfl) rfl ?_
        refine gw_aald_ints (gc k_Paper_howMany_1 4 rfl) (by first | exact gAt hx rfl rfl | exact (ps5 hx (by omega)).1.1 | exact (ps5 hx (by omega)).1.2.1 | exact (ps5 hx (by omega)).1.2.2 | exact (ps5 hx (by omega)).2.1 | exact (ps5 hx (by omega)).2.2.1 | exact (ps5 hx (by omega)).2.2.2.1 | exact (ps5 hx (by omega)).2.2.2.2 | exact (bs hx hb).1 | exact (bs hx hb).2.1 | exact (bs hx hb).2.2.1 | exact (bs hx hb).2.2.2.1) (by omega) ?_
        rw [(pr5 hf (i := i) (by omega)).1.2.2]
        refine gw_iload (gc k_Paper_howMany_1 5 rfl) rfl ?_
        refine gw_bipush (gc k_Paper_howMany_1 6 rfl) (by decide) ?_
        refine gw_imul (gc k_Paper_howMany_1 7 rfl) ?_
        refine gw_iload (gc k_Paper_howMany_1 8 rfl) rfl ?_
        refine gw_iadd (gc k_Paper_howMany_1 9 rfl) ?_
        refine gw_iald (gc k_Paper_howMany_1 10 rfl) (by first | exact gAt hx rfl rfl | exact (ps5 hx (by omega)).1.1 | exact (ps5 hx (by omega)).1.2.1 | exact (ps5 hx (by omega)).1.2.2 | exact (ps5 hx (by omega)).2.1 | exact (ps5 hx (by omega)).2.2.1 | exact (ps5 hx (by omega)).2.2.2.1 | exact (ps5 hx (by omega)).2.2.2.2 | exact (bs hx hb).1 | exact (bs hx hb).2.1 | exact (bs hx hb).2.2.1 | exact (bs hx hb).2.2.2.1) (by omega) ?_
        rw [hbar.1]
        refine gw_if_ne (tgt := 120) (gc k_Paper_howMany_1 11 rfl) rfl (by omega) (fun c87 => ?_) (fun c87 => ?_)
        · refine gw_iinc_7 (gc k_Paper_howMany_1 31 rfl) rfl rfl ?_
          refine gw_goto (tgt := 58) (gc k_Paper_howMany_1 32 rfl) rfl ?_
          have hs : sgF (vwC r i p) (fun q => wyR r i q) (r 39) (h + 1 - r 39).toNat = sgF (vwC r i p) (fun q => wyR r i q) (r 39) (h - r 39).toNat := by
            rw [show (h + 1 - r 39).toNat = (h - r 39).toNat + 1 by omega]
            show sgF (vwC r i p) (fun q => wyR r i q) (r 39) (h - r 39).toNat + (if 1 - vBar r i p (r 39 + ((h - r 39).toNat : Int)) = 1 then wyR r i (r 39 + ((h - r 39).toNat : Int)) else 0) = _
            rw [show r 39 + ((h - r 39).toNat : Int) = h by omega]
            rw [if_neg (show ¬ 1 - vBar r i p h = 1 by omega), Int.add_zero]
          rw [← hs]
          exact ih3 (h + 1) ⟨by omega, Or.inl (by omega)⟩ (by show (r 40 + 1 - (h + 1)).toNat < (r 40 + 1 - h).toNat; omega)
        · refine gw_lload (gc k_Paper_howMany_1 12 rfl) rfl ?_
          refine gw_iload_n (gc k_Paper_howMany_1 13 rfl) rfl ?_
          refine gw_iconst (gc k_Paper_howMany_1 14 rfl) ?_
          refine gw_iadd (gc k_Paper_howMany_1 15 rfl) ?_
          refine gw_aload_n (gc k_Paper_howMany_1 16 rfl) rfl rfl ?_
          refine gw_getf 0 rfl (gc k_Paper_howMany_1 17 rfl) fl_Paper_68 (by first | exact gAt hx rfl rfl | exact (ps5 hx (by omega)).1.1 | exact (ps5 hx (by omega)).1.2.1 | exact (ps5 hx (by omega)).1.2.2 | exact (ps5 hx (by omega)).2.1 | exact (ps5 hx (by omega)).2.2.1 | exact (ps5 hx (by omega)).2.2.2.1 | exact (ps5 hx (by omega)).2.2.2.2 | exact (bs hx hb).1 | exact (bs hx hb).2.1 | exact (bs hx hb).2.2.1 | exact (bs hx hb).2.2.2.1) ?_
          rw [(hI3.1.bdN hb hB2).2.1]
          refine gw_icmp_ge (tgt := 116) (gc k_Paper_howMany_1 18 rfl) rfl (by omega) (fun c99 => ?_) (fun c99 => ?_)
          · refine gw_lconst1 (gc k_Paper_howMany_1 28 rfl) ?_
            refine gw_ladd (gc k_Paper_howMany_1 29 rfl) ?_
            refine gw_lstore_5 (gc k_Paper_howMany_1 30 rfl) rfl rfl ?_
            refine gw_iinc_7 (gc k_Paper_howMany_1 31 rfl) rfl rfl ?_
            refine gw_goto (tgt := 58) (gc k_Paper_howMany_1 32 rfl) rfl ?_
            have hs : sgF (vwC r i p) (fun q => wyR r i q) (r 39) (h + 1 - r 39).toNat = sgF (vwC r i p) (fun q => wyR r i q) (r 39) (h - r 39).toNat + 1 := by
              rw [show (h + 1 - r 39).toNat = (h - r 39).toNat + 1 by omega]
              show sgF (vwC r i p) (fun q => wyR r i q) (r 39) (h - r 39).toNat + (if 1 - vBar r i p (r 39 + ((h - r 39).toNat : Int)) = 1 then wyR r i (r 39 + ((h - r 39).toNat : Int)) else 0) = _
              rw [show r 39 + ((h - r 39).toNat : Int) = h by omega]
              rw [if_pos (show 1 - vBar r i p h = 1 by omega), wyR_last (by omega)]
            rw [← hs]
            exact ih3 (h + 1) ⟨by omega, Or.inl (by omega)⟩ (by show (r 40 + 1 - (h + 1)).toNat < (r 40 + 1 - h).toNat; omega)
          · refine gw_aload_n (gc k_Paper_howMany_1 19 rfl) rfl rfl ?_
            refine gw_getref (gc k_Paper_howMany_1 20 rfl) fl_Paper_36 (by first | exact gAt hx rfl rfl | exact (ps5 hx (by omega)).1.1 | exact (ps5 hx (by omega)).1.2.1 | exact (ps5 hx (by omega)).1.2.2 | exact (ps5 hx (by omega)).2.1 | exact (ps5 hx (by omega)).2.2.1 | exact (ps5 hx (by omega)).2.2.2.1 | exact (ps5 hx (by omega)).2.2.2.2 | exact (bs hx hb).1 | exact (bs hx hb).2.1 | exact (bs hx hb).2.2.1 | exact (bs hx hb).2.2.2.1) (by first | exact gRf hf rfl rfl | exact (br hf hb).1 | exact (br hf hb).2.1 | exact (br hf hb).2.2.1 | exact (br hf hb).2.2.2.1 | exact (br hf hb).2.2.2.2.1 | exact (br hf hb).2.2.2.2.2) ?_
            refine gw_iload_n (gc k_Paper_howMany_1 21 rfl) rfl ?_
            refine gw_iconst (gc k_Paper_howMany_1 22 rfl) ?_
            refine gw_iadd (gc k_Paper_howMany_1 23 rfl) ?_
            refine gw_aald_longs (gc k_Paper_howMany_1 24 rfl) (by first | exact gAt hx rfl rfl | exact (ps5 hx (by omega)).1.1 | exact (ps5 hx (by omega)).1.2.1 | exact (ps5 hx (by omega)).1.2.2 | exact (ps5 hx (by omega)).2.1 | exact (ps5 hx (by omega)).2.2.1 | exact (ps5 hx (by omega)).2.2.2.1 | exact (ps5 hx (by omega)).2.2.2.2 | exact (bs hx hb).1 | exact (bs hx hb).2.1 | exact (bs hx hb).2.2.1 | exact (bs hx hb).2.2.2.1) (by omega) ?_
            rw [(pr5 hf (i := i + 1) (by omega)).2.2.2.1]
            refine gw_iload (gc k_Paper_howMany_1 25 rfl) rfl ?_
            refine gw_lald (gc k_Paper_howMany_1 26 rfl) (by first | exact gAt hx rfl rfl | exact (ps5 hx (by omega)).1.1 | exact (ps5 hx (by omega)).1.2.1 | exact (ps5 hx (by omega)).1.2.2 | exact (ps5 hx (by omega)).2.1 | exact (ps5 hx (by omega)).2.2.1 | exact (ps5 hx (by omega)).2.2.2.1 | exact (ps5 hx (by omega)).2.2.2.2 | exact (bs hx hb).1 | exact (bs hx hb).2.1 | exact (bs hx hb).2.2.1 | exact (bs hx hb).2.2.2.1) (by omega) ?_
            have hrow := hI3.2.2 (i + 1) h (by omega) (by omega) (by unfold faL; rw [if_neg (by omega)]; exact hh.1) (by unfold faL; rw [if_neg (by omega)]; show h ≤ r 40; omega)
            rw [hrow, ← wyR_step (by omega)]
            refine gw_goto (tgt := 117) (gc k_Paper_howMany_1 27 rfl) rfl ?_
            refine gw_ladd (gc k_Paper_howMany_1 29 rfl) ?_
            refine gw_lstore_5 (gc k_Paper_howMany_1 30 rfl) rfl rfl ?_
            refine gw_iinc_7 (gc k_Paper_howMany_1 31 rfl) rfl rfl ?_
            refine gw_goto (tgt := 58) (gc k_Paper_howMany_1 32 rfl) rfl ?_
            have hs : sgF (vwC r i p) (fun q => wyR r i q) (r 39) (h + 1 - r 39).toNat = sgF (vwC r i p) (fun q => wyR r i q) (r 39) (h - r 39).toNat + wyR r i h := by
              rw [show (h + 1 - r 39).toNat = (h - r 39).toNat + 1 by omega]
              show sgF (vwC r i p) (fun q => wyR r i q) (r 39) (h - r 39).toNat + (if 1 - vBar r i p (r 39 + ((h - r 39).toNat : Int)) = 1 then wyR r i (r 39 + ((h - r 39).toNat : Int)) else 0) = _
              rw [show r 39 + ((h - r 39).toNat : Int) = h by omega]
              rw [if_pos (show 1 - vBar r i p h = 1 by omega)]
            rw [← hs]
            exact ih3 (h + 1) ⟨by omega, Or.inl (by omega)⟩ (by show (r 40 + 1 - (h + 1)).toNat < (r 40 + 1 - h).toNat; omega)
