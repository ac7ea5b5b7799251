/-! ===== the reference: orders run ===== -/
def kpN (u : Int) : Int := if u = 16 then 15 else u
def kpF (ρ L : Int → Int) (u what : Int) : Int → Int := fun y => if y = 26 * kpN u + 25 then what else cpF (if u = 16 then cpF L L 0 26 390 else L) ρ (26 * kpN u) 0 25 y
theorem keep_eq (g : gM) (what : Int) : keepM g what = gup (gfr g 190 (kpF (g 179) (g 190) (g 177 33) what)) 177 33 (kpN (g 177 33) + 1) := rfl
/-- the row, what can be undone, how much -/
abbrev OS : Type := (Int → Int) × (Int → Int) × Int
def rPt (r : Int → Int) (y v : Int) : Int → Int := fun x => if x = y then v else r x
def sMv (what voice n p : Int) (σ : OS) : Option (Int × OS) := if (0 ≤ p ∧ p ≤ 24) ∧ (0 ≤ n ∧ n ≤ σ.1 41 - 1) ∧ ¬ σ.1 (voice + n) = p then some (σ.1 (voice + n), rPt σ.1 (voice + n) p, kpF σ.1 σ.2.1 σ.2.2 what, kpN σ.2.2 + 1) else none
def sSw (σ : OS) : Option (Int × OS) := if σ.1 41 = 0 then none else some (σ.1 41, exF σ.1 (σ.1 41), kpF σ.1 σ.2.1 σ.2.2 2, kpN σ.2.2 + 1)
def sPs (σ : OS) : Option (Int × OS) := if σ.1 24 = 999 then none else some (allN σ.1 2, rDa σ.1, kpF σ.1 σ.2.1 σ.2.2 3, kpN σ.2.2 + 1)
def stepO (kd v1 v2 : Int) (σ : OS) : Option (Int × OS) := if kd = 22 then sMv 0 0 v1 v2 σ else if kd = 23 then sMv 1 12 v1 v2 σ else if kd = 24 then sSw σ else sPs σ
def osOK (r : Int → Int) (σ : OS) : Prop := rowOK σ.1 ∧ sLow r σ.1 ∧ 0 ≤ σ.2.2 ∧ σ.2.2 ≤ 16
theorem kpN_bd {u : Int} (h : 0 ≤ u ∧ u ≤ 16) : 0 ≤ kpN u + 1 ∧ kpN u + 1 ≤ 16 := by unfold kpN; split <;> omega
theorem rPt_low (r : Int → Int) {y : Int} (hy : 0 ≤ y ∧ y < 25) (v : Int) : sLow r (rPt r y v) := fun x hx => if_neg (by omega)
theorem rPt_ok {r : Int → Int} (ho : rowOK r) {y v : Int} (hy : 0 ≤ y ∧ y < 24) (hv : 0 ≤ v ∧ v ≤ 24) : rowOK (rPt r y v) := ho.low (rPt_low r (by omega) v) (fun i a b => by
  unfold rPt
  by_cases z : i = y
  · rw [if_pos z]; exact hv
  · rw [if_neg z]; exact ro_pitch ho i ⟨a, b⟩) (by
  unfold rPt
  rw [if_neg (by omega)]; exact ro_day ho)
theorem sMv_ok {r : Int → Int} {what voice n p v : Int} {σ σ' : OS} (hv : voice = 0 ∨ voice = 12) (h : osOK r σ) (e : sMv what voice n p σ = some (v, σ')) : osOK r σ' ∧ 0 ≤ v ∧ v ≤ 24 := by
  unfold sMv at e
  split at e
  · next z =>
    cases e
    have hm := ro_many h.1
    exact ⟨⟨rPt_ok h.1 (by omega) z.1, h.2.1.tr (rPt_low _ (by omega) _), kpN_bd h.2.2⟩, ro_pitch h.1 _ (by omega)⟩
  · cases e
theorem sSw_ok {r : Int → Int} {v : Int} {σ σ' : OS} (h : osOK r σ) (e : sSw σ = some (v, σ')) : osOK r σ' ∧ 0 ≤ v ∧ v ≤ 24 := by
  unfold sSw at e
  split at e
  · cases e
  · cases e
    have hm := ro_many h.1
    exact ⟨⟨exF_ok h.1, h.2.1.tr (exF_low _ hm), kpN_bd h.2.2⟩, by omega⟩
theorem sPs_ok {r : Int → Int} {v : Int} {σ σ' : OS} (h : osOK r σ) (e : sPs σ = some (v, σ')) : osOK r σ' ∧ 0 ≤ v ∧ v ≤ 12 := by
  unfold sPs at e
  split at e
  · cases e
  · next z =>
    cases e
    have hd := ro_day h.1
    have ha := allN_bd2 h.1
    exact ⟨⟨rDa_ok h.1 (by omega), h.2.1.tr (rDa_low _), kpN_bd h.2.2⟩, ha⟩
theorem stepO_ok {r : Int → Int} {kd v1 v2 v : Int} {σ σ' : OS} (h : osOK r σ) (e : stepO kd v1 v2 σ = some (v, σ')) : osOK r σ' ∧ (0 ≤ v ∧ v ≤ 24) ∧ (¬ (kd = 22 ∨ kd = 23 ∨ kd = 24) → v ≤ 12) := by
  unfold stepO at e
  split at e
  · have q := sMv_ok (Or.inl rfl) h e
    exact ⟨q.1, q.2, fun z => absurd (by omega) z⟩
  · split at e
    · have q := sMv_ok (Or.inr rfl) h e
      exact ⟨q.1, q.2, fun z => absurd (by omega) z⟩
    · split at e
      · have q := sSw_ok h e
        exact ⟨q.1, q.2, fun z => absurd (by omega) z⟩
      · have q := sPs_ok h e
        exact ⟨q.1, by omega, fun z => by omega⟩
def orF (g0 g : gM) : Prop := ∀ a k, ¬ (a = 179 ∨ a = 190 ∨ a = 199 ∨ a = 189) → ¬ (a = 177 ∧ ((22 ≤ k ∧ k ≤ 25) ∨ (27 ≤ k ∧ k ≤ 30) ∨ k = 33 ∨ (42 ≤ k ∧ k ≤ 46))) → g a k = g0 a k
theorem gref_or {a k : Nat} (h : ((a : Int) = 179 ∨ (a : Int) = 190 ∨ (a : Int) = 199 ∨ (a : Int) = 189) ∨ ((a : Int) = 177 ∧ ((22 ≤ (k : Int) ∧ (k : Int) ≤ 25) ∨ (27 ≤ (k : Int) ∧ (k : Int) ≤ 30) ∨ (k : Int) = 33 ∨ (42 ≤ (k : Int) ∧ (k : Int) ≤ 46)))) : gref a k = none := by
  rcases (show a = 179 ∨ a = 190 ∨ a = 199 ∨ a = 189 ∨ (a = 177 ∧ (k = 22 ∨ k = 23 ∨ k = 24 ∨ k = 25 ∨ k = 27 ∨ k = 28 ∨ k = 29 ∨ k = 30 ∨ k = 33 ∨ k = 42 ∨ k = 43 ∨ k = 44 ∨ k = 45 ∨ k = 46)) by omega) with z | z | z | z | ⟨z, z2⟩
  · subst z; rfl
  · subst z; rfl
  · subst z; rfl
  · subst z; rfl
  · subst z
    rcases z2 with z2 | z2 | z2 | z2 | z2 | z2 | z2 | z2 | z2 | z2 | z2 | z2 | z2 | z2 <;> (subst z2; rfl)
theorem orF.fin {g g2 : gM} (h : orF g g2) (hf : gFin g) : gFin g2 := hf.of fun a k z => h _ _ (fun q => z (gref_or (by omega))) (fun q => z (gref_or (by omega)))
theorem orF.rf (g : gM) : orF g g := fun _ _ _ _ => rfl
theorem orF.tr {g g2 g3 : gM} (h : orF g g2) (h2 : orF g2 g3) : orF g g3 := fun a k n m => (h2 a k n m).trans (h a k n m)
theorem gaF.orf {g g2 : gM} (h : gaF g g2) : orF g g2 := fun a k n m => h a k (fun z => n (by omega)) (fun z => n (by omega)) (fun z => m (by omega))
/-- a memory that holds a state of orders -/
def stI (g0 : gM) (σ : OS) (dn la : Int) (g : gM) : Prop := orF g0 g ∧ g 179 = σ.1 ∧ g 190 = σ.2.1 ∧ g 177 33 = σ.2.2 ∧ g 177 27 = dn ∧ g 177 28 = la
theorem stI.ga {g0 g g2 : gM} {σ : OS} {dn la : Int} (h : stI g0 σ dn la g) (h2 : gaF g g2) : stI g0 σ dn la g2 := ⟨h.1.tr h2.orf, (funext fun k => h2 179 k (by decide) (by decide) (by omega)).trans h.2.1, (funext fun k => h2 190 k (by decide) (by decide) (by omega)).trans h.2.2.1, (h2 _ _ (by decide) (by decide) (by omega)).trans h.2.2.2.1, (h2 _ _ (by decide) (by decide) (by omega)).trans h.2.2.2.2.1, (h2 _ _ (by decide) (by decide) (by omega)).trans h.2.2.2.2.2⟩
theorem stI.keep {g0 g : gM} {σ : OS} {dn la : Int} (h : stI g0 σ dn la g) (what y v : Int) : stI g0 (rPt σ.1 y v, kpF σ.1 σ.2.1 σ.2.2 what, kpN σ.2.2 + 1) dn la (gup (keepM g what) 179 y v) := by
  obtain ⟨h1, h2, h3, h4, h5, h6⟩ := h
  rw [keep_eq, h2, h3, h4]
  refine ⟨fun a k n m => ?_, ?_, ?_, ?_, ?_, ?_⟩
  · rw [gup_a _ _ _ _ _ (by omega)]
    by_cases z : a = 177
    · subst z; rw [gup_k _ _ _ _ (by omega), gfr_a _ _ _ _ (by decide)]; exact h1 _ _ n m
    · rw [gup_a _ _ _ _ _ z, gfr_a _ _ _ _ (by omega)]; exact h1 _ _ n m
  · funext x
    show (if (179 : Int) = 179 then (if x = y then v else gup (gfr g 190 _) 177 33 _ 179 x) else _) = (if x = y then v else σ.1 x)
    rw [if_pos rfl, gup_a _ _ _ _ _ (by decide), gfr_a _ _ _ _ (by decide), h2]
  · rw [gup_fn _ _ _ _ (by decide), gup_fn _ _ _ _ (by decide), gfr_fs]
  · rw [gup_a _ _ _ _ _ (by decide), gup_s]
  · rw [gup_a _ _ _ _ _ (by decide), gup_k _ _ _ _ (by decide), gfr_a _ _ _ _ (by decide)]; exact h5
  · rw [gup_a _ _ _ _ _ (by decide), gup_k _ _ _ _ (by decide), gfr_a _ _ _ _ (by decide)]; exact h6
theorem stI.sw {g0 g : gM} {σ : OS} {dn la : Int} (h : stI g0 σ dn la g) : stI g0 (exF σ.1 (σ.1 41), kpF σ.1 σ.2.1 σ.2.2 2, kpN σ.2.2 + 1) dn la (exM (keepM g 2)) := by
  obtain ⟨h1, h2, h3, h4, h5, h6⟩ := h
  unfold exM
  rw [keep_eq, h2, h3, h4]
  have e : gup (gfr g 190 (kpF σ.1 σ.2.1 σ.2.2 2)) 177 33 (kpN σ.2.2 + 1) 179 = σ.1 := by rw [gup_fn _ _ _ _ (by decide), gfr_fn _ _ _ (by decide), h2]
  rw [e]
  refine ⟨fun a k n m => ?_, ?_, ?_, ?_, ?_, ?_⟩
  · rw [gfr_a _ _ _ _ (by omega)]
    by_cases z : a = 177
    · subst z; rw [gup_k _ _ _ _ (by omega), gfr_a _ _ _ _ (by decide)]; exact h1 _ _ n m
    · rw [gup_a _ _ _ _ _ z, gfr_a _ _ _ _ (by omega)]; exact h1 _ _ n m
  · rw [gfr_fs]
  · rw [gfr_fn _ _ _ (by decide), gup_fn _ _ _ _ (by decide), gfr_fs]
  · rw [gfr_a _ _ _ _ (by decide), gup_s]
  · rw [gfr_a _ _ _ _ (by decide), gup_k _ _ _ _ (by decide), gfr_a _ _ _ _ (by decide)]; exact h5
  · rw [gfr_a _ _ _ _ (by decide), gup_k _ _ _ _ (by decide), gfr_a _ _ _ _ (by decide)]; exact h6
theorem stI.lat {g0 g : gM} {σ : OS} {dn la : Int} (h : stI g0 σ dn la g) (v : Int) : stI g0 σ dn v (gup g 177 28 v) := ⟨fun a k n m => by
  by_cases z : a = 177
  · subst z; rw [gup_k _ _ _ _ (by omega)]; exact h.1 _ _ n m
  · rw [gup_a _ _ _ _ _ z]; exact h.1 _ _ n m, (gup_fn _ _ _ _ (by decide)).trans h.2.1, (gup_fn _ _ _ _ (by decide)).trans h.2.2.1, (gup_k _ _ _ _ (by decide)).trans h.2.2.2.1, (gup_k _ _ _ _ (by decide)).trans h.2.2.2.2.1, gup_s _ _ _ _⟩
theorem stI.don {g0 g : gM} {σ : OS} {dn la : Int} (h : stI g0 σ dn la g) (v : Int) : stI g0 σ v la (gup g 177 27 v) := ⟨fun a k n m => by
  by_cases z : a = 177
  · subst z; rw [gup_k _ _ _ _ (by omega)]; exact h.1 _ _ n m
  · rw [gup_a _ _ _ _ _ z]; exact h.1 _ _ n m, (gup_fn _ _ _ _ (by decide)).trans h.2.1, (gup_fn _ _ _ _ (by decide)).trans h.2.2.1, (gup_k _ _ _ _ (by decide)).trans h.2.2.2.1, gup_s _ _ _ _, (gup_k _ _ _ _ (by decide)).trans h.2.2.2.2.2⟩
theorem stI.sk {g0 g g2 : gM} {σ : OS} {dn la : Int} (h : stI g0 σ dn la g) (h2 : gSk g g2) : stI g0 σ dn la g2 := h.ga (fun a k _ h3 h4 => h2 a k (fun z => h4 ⟨z.1, Or.inl z.2⟩) h3)
theorem stI.at {g0 g : gM} {σ : OS} {dn la : Int} (h : stI g0 σ dn la g) (v : Int) : stI g0 σ dn la (gup g 177 42 v) := ⟨fun a k n m => by
  by_cases z : a = 177
  · subst z; rw [gup_k _ _ _ _ (by omega)]; exact h.1 _ _ n m
  · rw [gup_a _ _ _ _ _ z]; exact h.1 _ _ n m, (gup_fn _ _ _ _ (by decide)).trans h.2.1, (gup_fn _ _ _ _ (by decide)).trans h.2.2.1, (gup_k _ _ _ _ (by decide)).trans h.2.2.2.1, (gup_k _ _ _ _ (by decide)).trans h.2.2.2.2.1, (gup_k _ _ _ _ (by decide)).trans h.2.2.2.2.2⟩
def smI (v : Int) : Int := if v < 0 ∨ 1000000 < v then -1 else v
theorem smI_bd (v : Int) : -1 ≤ smI v ∧ smI v ≤ 1000000 := by unfold smI; split <;> omega
/-- what obeying answers -/
def obQ (g0 : gM) (ρ : Int → Int) (r : Option (Int × OS)) (kd dn la o42 : Int) (x : Option gV) (g2 : gM) : Prop := g2 177 42 = o42 ∧ ∃ v, x = some (0, v) ∧ ((r = none ∧ (-10 ≤ v ∧ v < 0) ∧ orF g0 g2 ∧ g2 179 = ρ) ∨ (∃ σ', r = some (v, σ') ∧ (0 ≤ v ∧ v ≤ 24) ∧ stI g0 σ' dn (if kd = 25 then v else la) g2))
theorem ob_mv {g0 g g1 : gM} {r0 : Int → Int} {σ : OS} {dn la what voice v1 v2 v kd : Int} (hk : kd = 22 ∧ what = 0 ∧ voice = 0 ∨ kd = 23 ∧ what = 1 ∧ voice = 12) (ho : osOK r0 σ) (h : stI g0 σ dn la g) (hq : mvQ g what voice (smI v1) (smI v2) v g1) : obQ g0 σ.1 (stepO kd v1 v2 σ) kd dn la (g 177 42) (some (0, v)) g1 := by
  have hm := ro_many ho.1
  have e : stepO kd v1 v2 σ = sMv what voice v1 v2 σ := by
    unfold stepO
    rcases hk with ⟨rfl, rfl, rfl⟩ | ⟨rfl, rfl, rfl⟩
    · exact if_pos rfl
    · rw [if_neg (by decide), if_pos rfl]
  rw [e]
  have k2 : (0 ≤ smI v2 ∧ smI v2 ≤ 24) ↔ (0 ≤ v2 ∧ v2 ≤ 24) := by unfold smI; split <;> omega
  have k1 : (0 ≤ smI v1 ∧ smI v1 ≤ σ.1 41 - 1) ↔ (0 ≤ v1 ∧ v1 ≤ σ.1 41 - 1) := by unfold smI; split <;> omega
  have k3 : (0 ≤ v1 ∧ v1 ≤ σ.1 41 - 1) → smI v1 = v1 := fun z => if_neg (by omega)
  have k4 : (0 ≤ v2 ∧ v2 ≤ 24) → smI v2 = v2 := fun z => if_neg (by omega)
  have k42 : ∀ w y z : Int, gup (keepM g w) 179 y z 177 42 = g 177 42 := fun w y z => by
    rw [gup_a _ _ _ _ _ (by decide), keep_eq, gup_k _ _ _ _ (by decide), gfr_a _ _ _ _ (by decide)]
  unfold mvQ at hq
  rw [h.2.1] at hq
  rcases hq with ⟨q1, q2, q3⟩ | ⟨q1, q2, q3, q4⟩ | ⟨q1, q2, q3, q4, q5⟩ | ⟨q1, q2, q3, q4, q5⟩
  · exact ⟨by rw [q3], v, rfl, Or.inl ⟨if_neg (fun z => q1 (k2.mpr z.1)), by omega, by rw [q3]; exact h.1, by rw [q3]; exact h.2.1⟩⟩
  · exact ⟨by rw [q4], v, rfl, Or.inl ⟨if_neg (fun z => q2 (k1.mpr z.2.1)), by omega, by rw [q4]; exact h.1, by rw [q4]; exact h.2.1⟩⟩
  · rw [k3 (k1.mp q2), k4 (k2.mp q1)] at q3
    exact ⟨by rw [q5], v, rfl, Or.inl ⟨if_neg (fun z => z.2.2 q3), by omega, by rw [q5]; exact h.1, by rw [q5]; exact h.2.1⟩⟩
  · rw [k3 (k1.mp q2), k4 (k2.mp q1)] at q3 q5
    rw [k3 (k1.mp q2)] at q4
    have q6 := k1.mp q2
    have hp := ro_pitch ho.1 (voice + v1) (by omega)
    subst q4 q5
    refine ⟨k42 _ _ _, _, rfl, Or.inr ⟨_, if_pos ⟨k2.mp q1, k1.mp q2, q3⟩, hp, ?_⟩⟩
    rw [if_neg (by omega)]
    exact h.keep what (voice + v1) v2
set_option maxHeartbeats 1000000 in
theorem c_Model_obeys {sh : gS} {g : gM} (hx : gFix sh) (hf : gFin g) {g0 : gM} {r0 : Int → Int} {σ : OS} {dn la : Int} (ho : osOK r0 σ) (hl : lawsOK σ.1) (h : stI g0 σ dn la g) {kd v1 v2 : Int} (hkd : 22 ≤ kd ∧ kd ≤ 25) (h44 : g 177 44 = kd) (hf00 : gFin g0) (hs : (kd = 22 ∨ kd = 23) → g 199 0 = v1 ∧ g 199 1 = v2) (hv1 : -1000000000 ≤ v1 ∧ v1 ≤ 1000000000) (hv2 : -1000000000 ≤ v2 ∧ v2 ≤ 1000000000) : gTri f_Model_obeys 46 0 0 [(2, 177)] sh g (fun x s2 g2 => s2 = sh ∧ obQ g0 σ.1 (stepO kd v1 v2 σ) kd dn la (g 177 42) x g2) := by
  have hm := ro_many ho.1
  have h179 := h.2.1
  have b1 := smI_bd v1
  have b2 := smI_bd v2
  refine gTri.of (by decide +kernel) rfl ?_
  show gWP f_Model_obeys _ _ _ 0 [(2, 177), (9, 0)] [] sh g _
  refine gw_aload_n (gc k_Model_obeys_0 0 rfl) rfl rfl ?_
  refine gw_getf 44 rfl (gc k_Model_obeys_0 1 rfl) fl_Model_455 (gAt hx rfl rfl) ?_
  rw [h44]
  rcases (show kd = 22 ∨ kd = 23 ∨ kd = 24 ∨ (kd < 22 ∨ 24 < kd) by omega) with hs4 | hs4 | hs4 | hs4
  · refine gw_tableIn (tgt := 32) (gc k_Model_obeys_0 2 rfl) (by omega) (by omega) (by rw [hs4]; rfl) rfl ?_
    refine gw_aload_n (gc k_Model_obeys_0 3 rfl) rfl rfl ?_
    refine gw_iconst (gc k_Model_obeys_0 4 rfl) ?_
    refine gw_iconst (gc k_Model_obeys_0 5 rfl) ?_
    refine gw_aload_n (gc k_Model_obeys_0 6 rfl) rfl rfl ?_
    refine gw_getref (gc k_Model_obeys_0 7 rfl) fl_Model_97 (gAt hx rfl rfl) (gRf hf rfl rfl) ?_
    refine gw_iconst (gc k_Model_obeys_0 8 rfl) ?_
    refine gw_lald (gc k_Model_obeys_0 9 rfl) (gAt hx rfl rfl) (by omega) ?_
    rw [(hs (by omega)).1]
    refine gw_cS1 (gc k_Model_obeys_0 10 rfl) y_Model_small ln_Model_469 (c_Model_small v1 (by omega)) rfl rfl rfl rfl ?_
    show gWP _ _ _ _ 44 _ ((0, smI v1) :: _) _ _ _
    refine gw_aload_n (gc k_Model_obeys_0 11 rfl) rfl rfl ?_
    refine gw_getref (gc k_Model_obeys_0 12 rfl) fl_Model_97 (gAt hx rfl rfl) (gRf hf rfl rfl) ?_
    refine gw_iconst (gc k_Model_obeys_0 13 rfl) ?_
    refine gw_lald (gc k_Model_obeys_0 14 rfl) (gAt hx rfl rfl) (by omega) ?_
    rw [(hs (by omega)).2]
    refine gw_cS1 (gc k_Model_obeys_0 15 rfl) y_Model_small ln_Model_469 (c_Model_small v2 (by omega)) rfl rfl rfl rfl ?_
    show gWP _ _ _ _ 53 _ ((0, smI v2) :: _) _ _ _
    refine gw_xV1 (gc k_Model_obeys_0 16 rfl) y_Model_movesKept ln_Model_341 (c_Model_movesKept hx hf 0 0 _ _ (by omega) (Or.inl rfl) (by rw [h179]; exact ho.1) (by rw [h.2.2.2.1]; exact ho.2.2)) rfl rfl (gAt hx rfl rfl) rfl rfl (fun r53 sh2 g53 hq53 => ?_)
    obtain ⟨rfl, v, rfl, hq⟩ := hq53
    refine gw_ireturn (gc k_Model_obeys_0 17 rfl) rfl ?_
    exact ⟨rfl, ob_mv (Or.inl ⟨hs4, rfl, rfl⟩) ho h hq⟩
  · refine gw_tableIn (tgt := 57) (gc k_Model_obeys_0 2 rfl) (by omega) (by omega) (by rw [hs4]; rfl) rfl ?_
    refine gw_aload_n (gc k_Model_obeys_0 18 rfl) rfl rfl ?_
    refine gw_iconst (gc k_Model_obeys_0 19 rfl) ?_
    refine gw_bipush (gc k_Model_obeys_0 20 rfl) (by decide) ?_
    refine gw_aload_n (gc k_Model_obeys_0 21 rfl) rfl rfl ?_
    refine gw_getref (gc k_Model_obeys_0 22 rfl) fl_Model_97 (gAt hx rfl rfl) (gRf hf rfl rfl) ?_
    refine gw_iconst (gc k_Model_obeys_0 23 rfl) ?_
    refine gw_lald (gc k_Model_obeys_0 24 rfl) (gAt hx rfl rfl) (by omega) ?_
    rw [(hs (by omega)).1]
    refine gw_cS1 (gc k_Model_obeys_0 25 rfl) y_Model_small ln_Model_469 (c_Model_small v1 (by omega)) rfl rfl rfl rfl ?_
    show gWP _ _ _ _ 70 _ ((0, smI v1) :: _) _ _ _
    refine gw_aload_n (gc k_Model_obeys_0 26 rfl) rfl rfl ?_
    refine gw_getref (gc k_Model_obeys_0 27 rfl) fl_Model_97 (gAt hx rfl rfl) (gRf hf rfl rfl) ?_
    refine gw_iconst (gc k_Model_obeys_0 28 rfl) ?_
    refine gw_lald (gc k_Model_obeys_0 29 rfl) (gAt hx rfl rfl) (by omega) ?_
    rw [(hs (by omega)).2]
    refine gw_cS1 (gc k_Model_obeys_0 30 rfl) y_Model_small ln_Model_469 (c_Model_small v2 (by omega)) rfl rfl rfl rfl ?_
    show gWP _ _ _ _ 79 _ ((0, smI v2) :: _) _ _ _
    refine gw_xV1 (gc k_Model_obeys_0 31 rfl) y_Model_movesKept ln_Model_341 (c_Model_movesKept hx hf 1 12 _ _ (by omega) (Or.inr rfl) (by rw [h179]; exact ho.1) (by rw [h.2.2.2.1]; exact ho.2.2)) rfl rfl (gAt hx rfl rfl) rfl rfl (fun r79 sh2 g79 hq79 => ?_)
    obtain ⟨rfl, v, rfl, hq⟩ := hq79
    refine gw_ireturn (gc k_Model_obeys_0 32 rfl) rfl ?_
    exact ⟨rfl, ob_mv (Or.inr ⟨hs4, rfl, rfl⟩) ho h hq⟩
  · refine gw_tableIn (tgt := 83) (gc k_Model_obeys_0 2 rfl) (by omega) (by omega) (by rw [hs4]; rfl) rfl ?_
    refine gw_aload_n (gc k_Model_obeys_0 33 rfl) rfl rfl ?_
    refine gw_xV1 (gc k_Model_obeys_0 34 rfl) y_Model_swapsKept ln_Model_348 (c_Model_swapsKept hx hf (by rw [h179]; exact hm) (by rw [h.2.2.2.1]; exact ho.2.2)) rfl rfl (gAt hx rfl rfl) rfl rfl (fun r84 sh2 g84 hq84 => ?_)
    obtain ⟨rfl, v, rfl, hq⟩ := hq84
    refine gw_ireturn (gc k_Model_obeys_0 35 rfl) rfl ?_
    refine ⟨rfl, by unfold swQ at hq; rcases hq with ⟨-, -, q⟩ | ⟨-, -, q⟩ <;> first | (rw [q]; done) | (rw [q]; unfold exM; rw [gfr_a _ _ _ _ (by decide), keep_eq, gup_k _ _ _ _ (by decide), gfr_a _ _ _ _ (by decide)]), v, rfl, ?_⟩
    have e : stepO kd v1 v2 σ = sSw σ := by unfold stepO; rw [if_neg (by omega), if_neg (by omega), if_pos hs4]
    rw [e, if_neg (by omega)]
    unfold swQ at hq
    rw [h179] at hq
    rcases hq with ⟨q1, q2, q3⟩ | ⟨q1, q2, q3⟩
    · exact Or.inl ⟨if_pos q1, by omega, by rw [q3]; exact h.1, by rw [q3]; exact h.2.1⟩
    · subst q2 q3
      exact Or.inr ⟨_, if_neg (by omega), by omega, h.sw⟩
  · refine gw_tableOut (tgt := 88) (gc k_Model_obeys_0 2 rfl) (by omega) (by omega) rfl ?_
    refine gw_aload_n (gc k_Model_obeys_0 36 rfl) rfl rfl ?_
    refine gw_xV1 (gc k_Model_obeys_0 37 rfl) y_Model_passesKept ln_Model_351 (c_Model_passesKept hx hf (by rw [h179]; exact ho.1) (by rw [h179]; exact hl) (by rw [h.2.2.2.1]; exact ho.2.2)) rfl rfl (gAt hx rfl rfl) rfl rfl (fun r89 sh2 g89 hq89 => ?_)
    rw [h179] at hq89
    have hP42 : g89 177 42 = g 177 42 := by
      rcases hq89.2 with ⟨-, -, q3⟩ | ⟨-, -, g1, q3, q4⟩
      · rw [q3]
      · rw [q4, gup_a _ _ _ _ _ (by decide), keep_eq, gup_k _ _ _ _ (by decide), gfr_a _ _ _ _ (by decide), q3.fl (by omega)]
    obtain ⟨rfl, v, rfl, hvb, hP⟩ : _ ∧ ∃ v, _ = some (0, v) ∧ (-10 ≤ v ∧ v ≤ 24) ∧ ((sPs σ = none ∧ v < 0 ∧ g89 = g) ∨ (∃ σ2, sPs σ = some (v, σ2) ∧ 0 ≤ v ∧ stI g0 σ2 dn la g89)) := by
      obtain ⟨q0, q⟩ := hq89
      refine ⟨q0, ?_⟩
      rcases q with ⟨q1, q2, q3⟩ | ⟨q1, q2, g1, q3, q4⟩
      · exact ⟨-3, q2, by omega, Or.inl ⟨if_pos q1, by omega, q3⟩⟩
      · have hab := allN_bd2 ho.1
        refine ⟨_, q2, by omega, Or.inr ⟨_, if_neg q1, by omega, ?_⟩⟩
        rw [q4]
        exact (h.sk q3).keep 3 24 _
    have hfp : gFin g89 := by
      rcases hP with ⟨-, -, q⟩ | ⟨σ2, -, -, q⟩
      · rw [q]; exact hf
      · exact q.1.fin hf00
    refine gw_istore_1 (gc k_Model_obeys_0 38 rfl) rfl rfl ?_
    refine gw_aload_n (gc k_Model_obeys_0 39 rfl) rfl rfl ?_
    refine gw_iload_n (gc k_Model_obeys_1 0 rfl) rfl ?_
    have hf := hfp
    refine gw_if_ge (tgt := 105) (gc k_Model_obeys_1 1 rfl) rfl (by omega) (fun c95 => ?_) (fun c95 => ?_)
    · refine gw_iload_n (gc k_Model_obeys_1 5 rfl) rfl ?_
      refine gw_putIK 28 rfl (gc k_Model_obeys_1 6 rfl) fl_Model_300 (gAt hx rfl rfl) hf rfl (fun hf => ?_)
      refine gw_iload_n (gc k_Model_obeys_1 7 rfl) rfl ?_
      refine gw_ireturn (gc k_Model_obeys_1 8 rfl) rfl ?_
      refine ⟨rfl, by rw [gup_k _ _ _ _ (by decide)]; exact hP42, v, rfl, ?_⟩
      have e : stepO kd v1 v2 σ = sPs σ := by unfold stepO; rw [if_neg (by omega), if_neg (by omega), if_neg (by omega)]
      rw [e, if_pos (by omega)]
      rcases hP with ⟨q1, q2, q3⟩ | ⟨σ2, q1, q2, q3⟩
      · rw [q3]
        exact Or.inl ⟨q1, by omega, (h.lat _).1, (h.lat _).2.1⟩
      · exact Or.inr ⟨σ2, q1, by omega, by first | exact q3.lat _ | (exfalso; omega)⟩
    · refine gw_aload_n (gc k_Model_obeys_1 2 rfl) rfl rfl ?_
      refine gw_getf 28 rfl (gc k_Model_obeys_1 3 rfl) fl_Model_300 (gAt hx rfl rfl) ?_
      refine gw_goto (tgt := 106) (gc k_Model_obeys_1 4 rfl) rfl ?_
      refine gw_putIK 28 rfl (gc k_Model_obeys_1 6 rfl) fl_Model_300 (gAt hx rfl rfl) hf rfl (fun hf => ?_)
      refine gw_iload_n (gc k_Model_obeys_1 7 rfl) rfl ?_
      refine gw_ireturn (gc k_Model_obeys_1 8 rfl) rfl ?_
      refine ⟨rfl, by rw [gup_k _ _ _ _ (by decide)]; exact hP42, v, rfl, ?_⟩
      have e : stepO kd v1 v2 σ = sPs σ := by unfold stepO; rw [if_neg (by omega), if_neg (by omega), if_neg (by omega)]
      rw [e, if_pos (by omega)]
      rcases hP with ⟨q1, q2, q3⟩ | ⟨σ2, q1, q2, q3⟩
      · rw [q3]
        exact Or.inl ⟨q1, by omega, (h.lat _).1, (h.lat _).2.1⟩
      · exact Or.inr ⟨σ2, q1, by omega, by first | exact q3.lat _ | (exfalso; omega)⟩
