/-! ===== calls that change what stands ===== -/
def sNt (u h : Int) (σ : OS) : Option (Int × OS) := if ((0 ≤ u ∧ u ≤ 24) ∧ 0 ≤ h ∧ h ≤ 24) ∧ σ.1 41 < 12 then some (σ.1 41, rAdd σ.1 u h, σ.2.1, 0) else none
def eNt (u h : Int) : Int := if (0 ≤ u ∧ u ≤ 24) ∧ 0 ≤ h ∧ h ≤ 24 then -5 else -1
def sHd (f n : Int) (σ : OS) : Option (Int × OS) := if ((0 ≤ f ∧ f ≤ 3) ∧ -24 ≤ n ∧ n ≤ 999) ∧ σ.1 42 < 6 then some (σ.1 42 + 1, rPt (rPt (rPt σ.1 (25 + 2 * σ.1 42) f) (25 + 2 * σ.1 42 + 1) n) 42 (σ.1 42 + 1), σ.2.1, σ.2.2) else none
def eHd (f n : Int) : Int := if (0 ≤ f ∧ f ≤ 3) ∧ -24 ≤ n ∧ n ≤ 999 then -5 else -1
def sFo (v : Int) (σ : OS) : Option (Int × OS) := if -1 ≤ v ∧ v ≤ σ.1 43 - 1 then some (σ.1 44, rPt σ.1 44 v, σ.2.1, σ.2.2) else none
def sTm (w v : Int) (σ : OS) : Option (Int × OS) := if 0 ≤ v ∧ ((w = 0 ∧ v ≤ 999) ∨ (w = 1 ∧ v ≤ 10) ∨ (w = 2 ∧ v ≤ 9) ∨ (w = 3 ∧ v ≤ 24) ∨ (w = 4 ∧ v ≤ 24)) then some (σ.1 (tmI w), rPt σ.1 (tmI w) v, σ.2.1, 0) else none
def sBk (I D : Int → Int) (k : Int) (σ : OS) : Option (Int × OS) := if (0 ≤ k ∧ k ≤ 1) ∧ D k = 1 then some (0, cpF σ.1 I 0 (5652 * k) 5652, σ.2.1, 0) else none
def eBk (k : Int) : Int := if 0 ≤ k ∧ k ≤ 1 then -2 else -1
def sUn (σ : OS) : Option (Int × OS) := if σ.2.2 = 0 then none else some (σ.2.1 (26 * (σ.2.2 - 1) + 25), bkR σ.1 σ.2.1 σ.2.2, σ.2.1, σ.2.2 - 1)
theorem keepM_os (g : gM) (w : Int) : keepM g w 179 = g 179 ∧ keepM g w 190 = kpF (g 179) (g 190) (g 177 33) w ∧ keepM g w 177 33 = kpN (g 177 33) + 1 := by
  have h := os_kp g w
  unfold osM at h
  simp only [Prod.mk.injEq] at h
  exact h
theorem ms_mv {sh : gS} {g1 G : gM} {what voice n p v : Int} (hv : voice = 0 ∨ voice = 12) (hq : mvQ g1 what voice n p v G) (ho : rowOK (g1 179)) : msQ sh g1 (mvE (g1 179) n p) (sMv what voice n p (osM g1)) (some (0, v)) sh (if v < 0 then refM G v else goodM G) := by
  have hm := ro_many ho
  rcases hq with ⟨z, rfl, rfl⟩ | ⟨z, z2, rfl, rfl⟩ | ⟨z, z2, z3, rfl, rfl⟩ | ⟨z, z2, z3, rfl, rfl⟩
  · have e : mvE (G 179) n p = -1 := if_pos z
    rw [e]
    exact ⟨rfl, Or.inl ⟨if_neg (fun y => z y.1), rfl, if_pos (by decide)⟩⟩
  · have e : mvE (G 179) n p = -2 := by
      unfold mvE; rw [if_neg (by omega), if_pos (by omega)]
    rw [e]
    exact ⟨rfl, Or.inl ⟨if_neg (fun y => z2 y.2.1), rfl, if_pos (by decide)⟩⟩
  · have e : mvE (G 179) n p = -3 := by
      unfold mvE; rw [if_neg (by omega), if_neg (by omega)]
    rw [e]
    exact ⟨rfl, Or.inl ⟨if_neg (fun y => y.2.2 z3), rfl, if_pos (by decide)⟩⟩
  · have hp := ro_pitch ho (voice + n) (by omega)
    refine ⟨rfl, Or.inr ⟨_, _, ?_, rfl, if_neg (by omega), (((mvF.rf g1).kp what).up _ _)⟩⟩
    have k := keepM_os g1 what
    rw [os_up, k.1, k.2.1, k.2.2]
    exact if_pos ⟨z, z2, z3⟩
theorem ms_sw {sh : gS} {g1 G : gM} {v : Int} (hq : swQ g1 v G) : msQ sh g1 (-3) (sSw (osM g1)) (some (0, v)) sh (if v < 0 then refM G v else goodM G) := by
  rcases hq with ⟨z, rfl, rfl⟩ | ⟨z, rfl, rfl⟩
  · exact ⟨rfl, Or.inl ⟨if_pos z, rfl, if_pos (by decide)⟩⟩
  · refine ⟨rfl, Or.inr ⟨_, _, ?_, rfl, if_neg (by omega), (((mvF.rf g1).kp 2).fr _)⟩⟩
    have k := keepM_os g1 2
    unfold exM
    rw [os_fr, k.1, k.2.1, k.2.2]
    exact if_neg (show ¬ g1 179 41 = 0 by omega)
theorem ms_ps {sh : gS} {g1 : gM} {y : Option gV} {g2 : gM} (h : (g1 179 24 = 999 ∧ y = some (0, -3) ∧ g2 = refM g1 (-3)) ∨ (¬ g1 179 24 = 999 ∧ y = some (0, allN (g1 179) 2) ∧ ∃ G, gSk g1 G ∧ g2 = goodM (gup (keepM G 3) 179 24 (g1 179 24 + 1)))) : msQ sh g1 (-3) (sPs (osM g1)) y sh g2 := by
  rcases h with ⟨z, rfl, rfl⟩ | ⟨z, rfl, G, hG, rfl⟩
  · exact ⟨rfl, Or.inl ⟨if_pos z, rfl, rfl⟩⟩
  · refine ⟨rfl, Or.inr ⟨_, _, ?_, rfl, rfl, ((((mvF.rf g1).sk hG).kp 3).up _ _)⟩⟩
    have k := keepM_os G 3
    have o := os_sk hG
    unfold osM at o
    simp only [Prod.mk.injEq] at o
    rw [os_up, k.1, k.2.1, k.2.2, o.1, o.2.1, o.2.2]
    exact if_neg z
theorem ms_un {sh : gS} {g1 : gM} {y : Option gV} {g2 : gM} (h : (g1 177 33 = 0 ∧ y = some (0, -3) ∧ g2 = refM g1 (-3)) ∨ (0 < g1 177 33 ∧ y = some (0, g1 190 (26 * (g1 177 33 - 1) + 25)) ∧ g2 = goodM (gfr (gup g1 177 33 (g1 177 33 - 1)) 179 (cpF (g1 179) (g1 190) 0 (26 * (g1 177 33 - 1)) 25)))) : msQ sh g1 (-3) (sUn (osM g1)) y sh g2 := by
  rcases h with ⟨z, rfl, rfl⟩ | ⟨z, rfl, rfl⟩
  · exact ⟨rfl, Or.inl ⟨if_pos z, rfl, rfl⟩⟩
  · refine ⟨rfl, Or.inr ⟨_, _, ?_, rfl, rfl, (((mvF.rf g1).un _).fr _)⟩⟩
    rw [os_fr, gup_fn _ _ _ _ (by decide), gup_s]
    exact if_neg (show ¬ g1 177 33 = 0 by omega)
theorem ms_nt {sh : gS} {g1 : gM} {u h : Int} {y : Option gV} {g2 : gM} (q : (¬ ((0 ≤ u ∧ u ≤ 24) ∧ 0 ≤ h ∧ h ≤ 24) ∧ y = some (0, -1) ∧ g2 = refM g1 (-1)) ∨ (((0 ≤ u ∧ u ≤ 24) ∧ 0 ≤ h ∧ h ≤ 24) ∧ g1 179 41 = 12 ∧ y = some (0, -5) ∧ g2 = refM g1 (-5)) ∨ (((0 ≤ u ∧ u ≤ 24) ∧ 0 ≤ h ∧ h ≤ 24) ∧ g1 179 41 < 12 ∧ y = some (0, g1 179 41) ∧ g2 = setM (addM g1 u h))) : msQ sh g1 (eNt u h) (sNt u h (osM g1)) y sh g2 := by
  rcases q with ⟨z, rfl, rfl⟩ | ⟨z, z2, rfl, rfl⟩ | ⟨z, z2, rfl, rfl⟩
  · rw [show eNt u h = -1 from if_neg z]
    exact ⟨rfl, Or.inl ⟨if_neg (fun y => z y.1), rfl, rfl⟩⟩
  · rw [show eNt u h = -5 from if_pos z]
    exact ⟨rfl, Or.inl ⟨if_neg (fun y => by have : g1 179 41 < 12 := y.2; omega), rfl, rfl⟩⟩
  · refine ⟨rfl, Or.inr ⟨_, gup (addM g1 u h) 177 33 0, ?_, rfl, rfl, ((((mvF.rf g1).up _ _).up _ _).up _ _).un 0⟩⟩
    rw [os_un]
    unfold addM
    rw [gup_row, gup_row, gup_row, gup_fn _ _ _ _ (by decide), gup_fn _ _ _ _ (by decide), gup_fn _ _ _ _ (by decide)]
    exact if_pos ⟨z, z2⟩
theorem ms_tm {sh : gS} {g1 : gM} {w v : Int} {y : Option gV} {g2 : gM} (q : (¬ (0 ≤ v ∧ ((w = 0 ∧ v ≤ 999) ∨ (w = 1 ∧ v ≤ 10) ∨ (w = 2 ∧ v ≤ 9) ∨ (w = 3 ∧ v ≤ 24) ∨ (w = 4 ∧ v ≤ 24))) ∧ y = some (0, -1) ∧ g2 = refM g1 (-1)) ∨ ((0 ≤ v ∧ ((w = 0 ∧ v ≤ 999) ∨ (w = 1 ∧ v ≤ 10) ∨ (w = 2 ∧ v ≤ 9) ∨ (w = 3 ∧ v ≤ 24) ∨ (w = 4 ∧ v ≤ 24))) ∧ y = some (0, g1 179 (if w = 0 then 24 else 36 + w)) ∧ g2 = setM (gup g1 179 (if w = 0 then 24 else 36 + w) v))) : msQ sh g1 (-1) (sTm w v (osM g1)) y sh g2 := by
  rcases q with ⟨z, rfl, rfl⟩ | ⟨z, rfl, rfl⟩
  · exact ⟨rfl, Or.inl ⟨if_neg z, rfl, rfl⟩⟩
  · refine ⟨rfl, Or.inr ⟨_, gup (gup g1 179 (tmI w) v) 177 33 0, ?_, rfl, rfl, ((mvF.rf g1).up _ _).un 0⟩⟩
    rw [os_un, gup_row, gup_fn _ _ _ _ (by decide)]
    exact if_pos z
theorem ms_hd {sh : gS} {g1 : gM} {f n : Int} {y : Option gV} {g2 : gM} (q : (¬ ((0 ≤ f ∧ f ≤ 3) ∧ -24 ≤ n ∧ n ≤ 999) ∧ y = some (0, -1) ∧ g2 = refM g1 (-1)) ∨ (((0 ≤ f ∧ f ≤ 3) ∧ -24 ≤ n ∧ n ≤ 999) ∧ g1 179 42 = 6 ∧ y = some (0, -5) ∧ g2 = refM g1 (-5)) ∨ (((0 ≤ f ∧ f ≤ 3) ∧ -24 ≤ n ∧ n ≤ 999) ∧ g1 179 42 < 6 ∧ y = some (0, g1 179 42 + 1) ∧ g2 = goodM (gup (gup (gup g1 179 (25 + 2 * g1 179 42) f) 179 (25 + 2 * g1 179 42 + 1) n) 179 42 (g1 179 42 + 1)))) : msQ sh g1 (eHd f n) (sHd f n (osM g1)) y sh g2 := by
  rcases q with ⟨z, rfl, rfl⟩ | ⟨z, z2, rfl, rfl⟩ | ⟨z, z2, rfl, rfl⟩
  · rw [show eHd f n = -1 from if_neg z]
    exact ⟨rfl, Or.inl ⟨if_neg (fun y => z y.1), rfl, rfl⟩⟩
  · rw [show eHd f n = -5 from if_pos z]
    exact ⟨rfl, Or.inl ⟨if_neg (fun y => by have : g1 179 42 < 6 := y.2; omega), rfl, rfl⟩⟩
  · refine ⟨rfl, Or.inr ⟨_, _, ?_, rfl, rfl, (((mvF.rf g1).up _ _).up _ _).up _ _⟩⟩
    rw [os_up, gup_row, gup_row, gup_fn _ _ _ _ (by decide), gup_fn _ _ _ _ (by decide), gup_a _ _ _ _ _ (by decide), gup_a _ _ _ _ _ (by decide)]
    exact if_pos ⟨z, z2⟩
theorem ms_fo {sh : gS} {g1 : gM} {n : Int} {y : Option gV} {g2 : gM} (q : (¬ (-1 ≤ n ∧ n ≤ g1 179 43 - 1) ∧ y = some (0, -2) ∧ g2 = refM g1 (-2)) ∨ ((-1 ≤ n ∧ n ≤ g1 179 43 - 1) ∧ y = some (0, g1 179 44) ∧ g2 = goodM (gup g1 179 44 n))) : msQ sh g1 (-2) (sFo n (osM g1)) y sh g2 := by
  rcases q with ⟨z, rfl, rfl⟩ | ⟨z, rfl, rfl⟩
  · exact ⟨rfl, Or.inl ⟨if_neg z, rfl, rfl⟩⟩
  · refine ⟨rfl, Or.inr ⟨_, _, ?_, rfl, rfl, (mvF.rf g1).up _ _⟩⟩
    rw [os_up]
    exact if_pos z
theorem ms_bk {sh : gS} {g1 : gM} {k : Int} {y : Option gV} {g2 : gM} (q : (¬ (0 ≤ k ∧ k ≤ 1) ∧ y = some (0, -1) ∧ g2 = refM g1 (-1)) ∨ ((0 ≤ k ∧ k ≤ 1) ∧ g1 181 k = 0 ∧ y = some (0, -2) ∧ g2 = refM g1 (-2)) ∨ ((0 ≤ k ∧ k ≤ 1) ∧ g1 181 k = 1 ∧ y = some (0, 0) ∧ g2 = setM (gfr g1 179 (cpF (g1 179) (g1 180) 0 (5652 * k) 5652)))) : msQ sh g1 (eBk k) (sBk (g1 180) (g1 181) k (osM g1)) y sh g2 := by
  rcases q with ⟨z, rfl, rfl⟩ | ⟨z, z2, rfl, rfl⟩ | ⟨z, z2, rfl, rfl⟩
  · rw [show eBk k = -1 from if_neg z]
    exact ⟨rfl, Or.inl ⟨if_neg (fun y => z y.1), rfl, rfl⟩⟩
  · rw [show eBk k = -2 from if_pos z]
    exact ⟨rfl, Or.inl ⟨if_neg (fun y => by have := y.2; omega), rfl, rfl⟩⟩
  · refine ⟨rfl, Or.inr ⟨_, gup (gfr g1 179 (cpF (g1 179) (g1 180) 0 (5652 * k) 5652)) 177 33 0, ?_, rfl, rfl, ((mvF.rf g1).fr _).un 0⟩⟩
    rw [os_un, gfr_fs, gfr_fn _ _ _ (by decide)]
    exact if_pos ⟨z, z2⟩
theorem sv_eq {x y : Int} (h : (some (0, x) : Option gV) = some (0, y)) : x = y := (Prod.mk.inj (Option.some.inj h)).2
set_option maxHeartbeats 2000000 in
theorem c_Desk_set {sh : gS} {g : gM} (hx : gFix sh) (hf : gFin g) {Λ : Int → List PC} (hR : relR Λ sh g) (n : Int) (p : Int) (hn : (-2147483648 ≤ n ∧ n ≤ 2147483647)) (hp : (-2147483648 ≤ p ∧ p ≤ 2147483647)) : gTri f_Desk_set 7 0 0 [(2, 0), (0, n), (0, p)] sh g (dsQ Λ sh g (mvE (g 179) n p) (sMv 0 0 n p (osM g))) := by
  have hro := hR.ro
  have hm := ro_many hro
  have h0 := hR.X.nums.1.1
  have hX := hR.X
  have hC := hR.2.1.1
  refine gTri.of (by decide +kernel) rfl ?_
  show gWP f_Desk_set _ _ _ 0 [(2, 0), (0, n), (0, p)] [] sh g _
  refine gw_aload_n (gc k_Desk_set_0 0 rfl) rfl rfl ?_
  refine gw_aload_n (gc k_Desk_set_0 1 rfl) rfl rfl ?_
  refine gw_getref (gc k_Desk_set_0 2 rfl) fl_Desk_28 (by first | exact gAt hx rfl rfl) (by first | exact gRf hf rfl rfl) ?_
  refine gw_iload_n (gc k_Desk_set_0 3 rfl) rfl ?_
  refine gw_iload_n (gc k_Desk_set_0 4 rfl) rfl ?_
  refine gw_xV1 (gc k_Desk_set_0 5 rfl) y_Clerk_moveHere ln_Desk_176 (c_Clerk_moveHere hx hf hC n p ⟨hn, hp⟩) rfl rfl (by first | exact gAt hx rfl rfl) rfl rfl (fun r7 sh2 g7 hq7 => ?_)
  obtain ⟨hsh, hF, hf, v, rfl, hvb, hQ⟩ := stQ_v hq7 hf (mvE_bd _ _ _) (fun v σ' e => (sMv_ok (Or.inl rfl) hC.os e).2)
  subst sh2
  refine gw_cV1 (gc k_Desk_set_0 6 rfl) y_Desk_answer ln_Desk_86 (c_Desk_answer hx hf v (by omega)) rfl rfl (by first | exact gAt hx rfl rfl) rfl rfl ?_
  refine gw_ireturn (gc k_Desk_set_0 7 rfl) rfl ?_
  rcases hQ with ⟨z, z2, z3, z4⟩ | ⟨z, σ', z2, z3⟩
  · exact ⟨rfl, Or.inl ⟨z2, by rw [z3]; try rfl, by rw [z4, z3]; try rfl⟩⟩
  · exact ⟨rfl, Or.inr ⟨v, σ', g7, z2, rfl, ansM_nn _ z, z3, hR.2.1.2.keep (fun k => hF _ _ (by decide) (by decide) (by decide) (by omega) (by decide)), hf, fun a k q => hF a k (by unfold cS1 at q; omega) (by unfold cS1 at q; omega) (by unfold cS1 at q; omega) (by unfold cS1 at q; omega) (by unfold cS1 at q; omega)⟩⟩
set_option maxHeartbeats 2000000 in
theorem c_Desk_shift {sh : gS} {g : gM} (hx : gFix sh) (hf : gFin g) {Λ : Int → List PC} (hR : relR Λ sh g) (n : Int) (p : Int) (hn : (-2147483648 ≤ n ∧ n ≤ 2147483647)) (hp : (-2147483648 ≤ p ∧ p ≤ 2147483647)) : gTri f_Desk_shift 7 0 0 [(2, 0), (0, n), (0, p)] sh g (dsQ Λ sh g (mvE (g 179) n p) (sMv 1 12 n p (osM g))) := by
  have hro := hR.ro
  have hm := ro_many hro
  have h0 := hR.X.nums.1.1
  have hX := hR.X
  have hC := hR.2.1.1
  refine gTri.of (by decide +kernel) rfl ?_
  show gWP f_Desk_shift _ _ _ 0 [(2, 0), (0, n), (0, p)] [] sh g _
  refine gw_aload_n (gc k_Desk_shift_0 0 rfl) rfl rfl ?_
  refine gw_aload_n (gc k_Desk_shift_0 1 rfl) rfl rfl ?_
  refine gw_getref (gc k_Desk_shift_0 2 rfl) fl_Desk_28 (by first | exact gAt hx rfl rfl) (by first | exact gRf hf rfl rfl) ?_
  refine gw_iload_n (gc k_Desk_shift_0 3 rfl) rfl ?_
  refine gw_iload_n (gc k_Desk_shift_0 4 rfl) rfl ?_
  refine gw_xV1 (gc k_Desk_shift_0 5 rfl) y_Clerk_moveUnder ln_Desk_180 (c_Clerk_moveUnder hx hf hC n p ⟨hn, hp⟩) rfl rfl (by first | exact gAt hx rfl rfl) rfl rfl (fun r7 sh2 g7 hq7 => ?_)
  obtain ⟨hsh, hF, hf, v, rfl, hvb, hQ⟩ := stQ_v hq7 hf (mvE_bd _ _ _) (fun v σ' e => (sMv_ok (Or.inr rfl) hC.os e).2)
  subst sh2
  refine gw_cV1 (gc k_Desk_shift_0 6 rfl) y_Desk_answer ln_Desk_86 (c_Desk_answer hx hf v (by omega)) rfl rfl (by first | exact gAt hx rfl rfl) rfl rfl ?_
  refine gw_ireturn (gc k_Desk_shift_0 7 rfl) rfl ?_
  rcases hQ with ⟨z, z2, z3, z4⟩ | ⟨z, σ', z2, z3⟩
  · exact ⟨rfl, Or.inl ⟨z2, by rw [z3]; try rfl, by rw [z4, z3]; try rfl⟩⟩
  · exact ⟨rfl, Or.inr ⟨v, σ', g7, z2, rfl, ansM_nn _ z, z3, hR.2.1.2.keep (fun k => hF _ _ (by decide) (by decide) (by decide) (by omega) (by decide)), hf, fun a k q => hF a k (by unfold cS1 at q; omega) (by unfold cS1 at q; omega) (by unfold cS1 at q; omega) (by unfold cS1 at q; omega) (by unfold cS1 at q; omega)⟩⟩
set_option maxHeartbeats 2000000 in
theorem c_Desk_swap {sh : gS} {g : gM} (hx : gFix sh) (hf : gFin g) {Λ : Int → List PC} (hR : relR Λ sh g) : gTri f_Desk_swap 6 0 0 [(2, 0)] sh g (dsQ Λ sh g (-3) (sSw (osM g))) := by
  have hro := hR.ro
  have hm := ro_many hro
  have h0 := hR.X.nums.1.1
  have hX := hR.X
  have hC := hR.2.1.1
  refine gTri.of (by decide +kernel) rfl ?_
  show gWP f_Desk_swap _ _ _ 0 [(2, 0)] [] sh g _
  refine gw_aload_n (gc k_Desk_swap_0 0 rfl) rfl rfl ?_
  refine gw_aload_n (gc k_Desk_swap_0 1 rfl) rfl rfl ?_
  refine gw_getref (gc k_Desk_swap_0 2 rfl) fl_Desk_28 (by first | exact gAt hx rfl rfl) (by first | exact gRf hf rfl rfl) ?_
  refine gw_xV1 (gc k_Desk_swap_0 3 rfl) y_Clerk_exchange ln_Desk_183 (c_Clerk_exchange hx hf hC) rfl rfl (by first | exact gAt hx rfl rfl) rfl rfl (fun r5 sh2 g5 hq5 => ?_)
  obtain ⟨hsh, hF, hf, v, rfl, hvb, hQ⟩ := stQ_v hq5 hf (by decide) (fun v σ' e => (sSw_ok hC.os e).2)
  subst sh2
  refine gw_cV1 (gc k_Desk_swap_0 4 rfl) y_Desk_answer ln_Desk_86 (c_Desk_answer hx hf v (by omega)) rfl rfl (by first | exact gAt hx rfl rfl) rfl rfl ?_
  refine gw_ireturn (gc k_Desk_swap_0 5 rfl) rfl ?_
  rcases hQ with ⟨z, z2, z3, z4⟩ | ⟨z, σ', z2, z3⟩
  · exact ⟨rfl, Or.inl ⟨z2, by rw [z3]; try rfl, by rw [z4, z3]; try rfl⟩⟩
  · exact ⟨rfl, Or.inr ⟨v, σ', g5, z2, rfl, ansM_nn _ z, z3, hR.2.1.2.keep (fun k => hF _ _ (by decide) (by decide) (by decide) (by omega) (by decide)), hf, fun a k q => hF a k (by unfold cS1 at q; omega) (by unfold cS1 at q; omega) (by unfold cS1 at q; omega) (by unfold cS1 at q; omega) (by unfold cS1 at q; omega)⟩⟩
set_option maxHeartbeats 2000000 in
theorem c_Desk_pass {sh : gS} {g : gM} (hx : gFix sh) (hf : gFin g) {Λ : Int → List PC} (hR : relR Λ sh g) : gTri f_Desk_pass 6 0 0 [(2, 0)] sh g (dsQ Λ sh g (-3) (sPs (osM g))) := by
  have hro := hR.ro
  have hm := ro_many hro
  have h0 := hR.X.nums.1.1
  have hX := hR.X
  have hC := hR.2.1.1
  refine gTri.of (by decide +kernel) rfl ?_
  show gWP f_Desk_pass _ _ _ 0 [(2, 0)] [] sh g _
  refine gw_aload_n (gc k_Desk_pass_0 0 rfl) rfl rfl ?_
  refine gw_aload_n (gc k_Desk_pass_0 1 rfl) rfl rfl ?_
  refine gw_getref (gc k_Desk_pass_0 2 rfl) fl_Desk_28 (by first | exact gAt hx rfl rfl) (by first | exact gRf hf rfl rfl) ?_
  refine gw_xV1 (gc k_Desk_pass_0 3 rfl) y_Clerk_nextDay ln_Desk_187 (c_Clerk_nextDay hx hf hC) rfl rfl (by first | exact gAt hx rfl rfl) rfl rfl (fun r5 sh2 g5 hq5 => ?_)
  obtain ⟨hsh, hF, hf, v, rfl, hvb, hQ⟩ := stQ_v hq5 hf (by decide) (fun v σ' e => (by have := (sPs_ok hC.os e).2; omega))
  subst sh2
  refine gw_cV1 (gc k_Desk_pass_0 4 rfl) y_Desk_answer ln_Desk_86 (c_Desk_answer hx hf v (by omega)) rfl rfl (by first | exact gAt hx rfl rfl) rfl rfl ?_
  refine gw_ireturn (gc k_Desk_pass_0 5 rfl) rfl ?_
  rcases hQ with ⟨z, z2, z3, z4⟩ | ⟨z, σ', z2, z3⟩
  · exact ⟨rfl, Or.inl ⟨z2, by rw [z3]; try rfl, by rw [z4, z3]; try rfl⟩⟩
  · exact ⟨rfl, Or.inr ⟨v, σ', g5, z2, rfl, ansM_nn _ z, z3, hR.2.1.2.keep (fun k => hF _ _ (by decide) (by decide) (by decide) (by omega) (by decide)), hf, fun a k q => hF a k (by unfold cS1 at q; omega) (by unfold cS1 at q; omega) (by unfold cS1 at q; omega) (by unfold cS1 at q; omega) (by unfold cS1 at q; omega)⟩⟩
set_option maxHeartbeats 2000000 in
theorem c_Desk_undo {sh : gS} {g : gM} (hx : gFix sh) (hf : gFin g) {Λ : Int → List PC} (hR : relR Λ sh g) : gTri f_Desk_undo 3 0 0 [(2, 0)] sh g (dsQ Λ sh g (-3) (sUn (osM g))) := by
  have hro := hR.ro
  have hm := ro_many hro
  have h0 := hR.X.nums.1.1
  have hX := hR.X
  have hC := hR.2.1.1
  refine gTri.of (by decide +kernel) rfl ?_
  show gWP f_Desk_undo _ _ _ 0 [(2, 0)] [] sh g _
  refine gw_aload_n (gc k_Desk_undo_0 0 rfl) rfl rfl ?_
  refine gw_aload_n (gc k_Desk_undo_0 1 rfl) rfl rfl ?_
  refine gw_getref (gc k_Desk_undo_0 2 rfl) fl_Desk_28 (by first | exact gAt hx rfl rfl) (by first | exact gRf hf rfl rfl) ?_
  refine gw_xV1 (gc k_Desk_undo_0 3 rfl) y_Clerk_takeBack ln_Desk_190 (c_Clerk_takeBack hx hf hC) rfl rfl (by first | exact gAt hx rfl rfl) rfl rfl (fun r5 sh2 g5 hq5 => ?_)
  obtain ⟨hsh, hQ⟩ := hq5
  subst sh2
  have hr : ∃ v, r5 = some (0, v) ∧ (-3 ≤ v ∧ v ≤ 3) ∧ gFin g5 := by
    rcases hQ with ⟨-, e, e2⟩ | ⟨q0, e, -, -, e3⟩
    · exact ⟨_, e, by decide, by rw [e2]; exact hf⟩
    · refine ⟨_, e, ?_, e3⟩
      have q1 := (hC.2.2.2 ((osM g).2.2 - 1) (by omega) (by omega)).1
      omega
  obtain ⟨v, rfl, hvb, hf⟩ := hr
  refine gw_cV1 (gc k_Desk_undo_0 4 rfl) y_Desk_answer ln_Desk_86 (c_Desk_answer hx hf v (by omega)) rfl rfl (by first | exact gAt hx rfl rfl) rfl rfl ?_
  refine gw_ireturn (gc k_Desk_undo_0 5 rfl) rfl ?_
  rcases hQ with ⟨z, e, e2⟩ | ⟨z, e, hI, hF, -⟩
  · exact ⟨rfl, Or.inl ⟨if_pos z, by rw [sv_eq e], by rw [e2, sv_eq e]⟩⟩
  · have hv0 : 0 ≤ v := by
      have q1 := (hC.2.2.2 ((osM g).2.2 - 1) (by omega) (by omega)).1
      have := sv_eq e
      omega
    refine ⟨rfl, Or.inr ⟨v, _, g5, ?_, rfl, ansM_nn _ hv0, hI, hR.2.1.2.keep (fun k => hF _ _ (by decide) (by decide) (by decide) (by omega) (by decide)), hf, fun a k q => hF a k (by unfold cS1 at q; omega) (by unfold cS1 at q; omega) (by unfold cS1 at q; omega) (by unfold cS1 at q; omega) (by unfold cS1 at q; omega)⟩⟩
    rw [sv_eq e]
    exact if_neg (by omega)
set_option maxHeartbeats 2000000 in
theorem c_Desk_note {sh : gS} {g : gM} (hx : gFix sh) (hf : gFin g) {Λ : Int → List PC} (hR : relR Λ sh g) (u : Int) (h : Int) (hu : (-2147483648 ≤ u ∧ u ≤ 2147483647)) (hh : (-2147483648 ≤ h ∧ h ≤ 2147483647)) : gTri f_Desk_note 2 0 0 [(2, 0), (0, u), (0, h)] sh g (dsQ Λ sh g (eNt u h) (sNt u h (osM g))) := by
  have hro := hR.ro
  have hm := ro_many hro
  have h0 := hR.X.nums.1.1
  have hX := hR.X
  have hC := hR.2.1.1
  refine gTri.of (by decide +kernel) rfl ?_
  show gWP f_Desk_note _ _ _ 0 [(2, 0), (0, u), (0, h)] [] sh g _
  refine gw_iload_n (gc k_Desk_note_0 0 rfl) rfl ?_
  refine gw_cS1 (gc k_Desk_note_0 1 rfl) y_Desk_isPitch ln_Desk_82 (c_Desk_isPitch u hu) rfl rfl rfl rfl ?_
  refine gw_beq (tgt := 14) (gc k_Desk_note_0 2 rfl) rfl (fun c4 => ?_) (fun c4 => ?_)
  · refine gw_aload_n (gc k_Desk_note_0 6 rfl) rfl rfl ?_
    refine gw_iconst (gc k_Desk_note_0 7 rfl) ?_
    refine gw_cV1 (gc k_Desk_note_0 8 rfl) y_Desk_answer ln_Desk_86 (c_Desk_answer hx hf (-1) (by decide)) rfl rfl (by first | exact gAt hx rfl rfl) rfl rfl ?_
    refine gw_ireturn (gc k_Desk_note_0 9 rfl) rfl ?_
    rw [show eNt u h = -1 from if_neg (by omega)]
    exact ⟨rfl, Or.inl ⟨if_neg (by omega), rfl, rfl⟩⟩
  · refine gw_iload_n (gc k_Desk_note_0 3 rfl) rfl ?_
    refine gw_cS1 (gc k_Desk_note_0 4 rfl) y_Desk_isPitch ln_Desk_82 (c_Desk_isPitch h hh) rfl rfl rfl rfl ?_
    refine gw_bne (tgt := 20) (gc k_Desk_note_0 5 rfl) rfl (fun c11 => ?_) (fun c11 => ?_)
    · refine gw_aload_n (gc k_Desk_note_0 10 rfl) rfl rfl ?_
      refine gw_getref (gc k_Desk_note_0 11 rfl) fl_Desk_12 (by first | exact gAt hx rfl rfl) (by first | exact gRf hf rfl rfl) ?_
      refine gw_iload_n (gc k_Desk_note_0 12 rfl) rfl ?_
      refine gw_iload_n (gc k_Desk_note_0 13 rfl) rfl ?_
      refine gw_xV1 (gc k_Desk_note_0 14 rfl) y_Board_add ln_Desk_90 (c_Board_add hx hf i1 u h hu hh (by omega)) rfl rfl (by first | exact gAt hx rfl rfl) rfl rfl (fun r26 sh2 g26 hq26 => ?_)
      obtain ⟨hsh, hA⟩ := hq26
      subst sh2
      have hr : ∃ w, r26 = some (0, w) ∧ (w = 0 ∨ w = 1) ∧ (w = 0 → ¬ g 1 0 < 12 ∧ g26 = g) ∧ (w = 1 → g 1 0 < 12 ∧ g26 = gup (gup (gup g (1 + 1) (g 1 0) u) (1 + 2) (g 1 0) h) 1 0 (g 1 0 + 1)) := by
        rcases hA with ⟨z, e, e2⟩ | ⟨z, e, e2⟩
        · exact ⟨0, e, Or.inl rfl, fun _ => ⟨fun y => z ⟨by omega, by omega, y⟩, e2⟩, fun y => absurd y (by decide)⟩
        · exact ⟨1, e, Or.inr rfl, fun y => absurd y (by decide), fun _ => ⟨z.2.2, e2⟩⟩
      obtain ⟨w, rfl, hw01, hw0, hw1⟩ := hr
      refine gw_if_ne (tgt := 39) (gc k_Desk_note_0 15 rfl) rfl (by omega) (fun c29 => ?_) (fun c29 => ?_)
      · obtain ⟨hroom, e26⟩ := hw1 (by omega)
        have hf : gFin g26 := by rw [e26]; exact ((hf.up rfl).up rfl).up rfl
        refine gw_aload_n (gc k_Desk_note_0 20 rfl) rfl rfl ?_
        refine gw_getref (gc k_Desk_note_0 21 rfl) fl_Desk_28 (by first | exact gAt hx rfl rfl) (by first | exact gRf hf rfl rfl) ?_
        refine gw_getref (gc k_Desk_note_0 22 rfl) fl_Desk_94 (by first | exact gAt hx rfl rfl) (by first | exact gRf hf rfl rfl) ?_
        refine gw_iconst (gc k_Desk_note_0 23 rfl) ?_
        refine gw_putIK 3 rfl (gc k_Desk_note_0 24 rfl) fl_Desk_98 (by first | exact gAt hx rfl rfl) hf (by rfl) (fun hf => ?_)
        refine gw_aload_n (gc k_Desk_note_0 25 rfl) rfl rfl ?_
        refine gw_aload_n (gc k_Desk_note_0 26 rfl) rfl rfl ?_
        refine gw_getref (gc k_Desk_note_0 27 rfl) fl_Desk_12 (by first | exact gAt hx rfl rfl) (by first | exact gRf hf rfl rfl) ?_
        refine gw_getf 0 rfl (gc k_Desk_note_0 28 rfl) fl_Desk_103 (by first | exact gAt hx rfl rfl) ?_
        rw [show gup g26 13 3 0 1 0 = g 179 41 + 1 from by rw [gup_a _ _ _ _ _ (by decide), e26, gup_s, h0]]
        refine gw_iconst (gc k_Desk_note_0 29 rfl) ?_
        refine gw_isub (gc k_Desk_note_0 30 rfl) ?_
        rw [show g 179 41 + 1 - 1 = g 179 41 by omega]
        refine gw_cV1 (gc k_Desk_note_0 31 rfl) y_Desk_answer ln_Desk_86 (c_Desk_answer hx hf (g 179 41) (by omega)) rfl rfl (by first | exact gAt hx rfl rfl) rfl rfl ?_
        refine gw_ireturn (gc k_Desk_note_0 32 rfl) rfl ?_
        have hXn : bdX Λ sh (rAdd (g 179) u h) g26 1 := by rw [e26]; exact hX.add i1 (by omega) (by omega) (by omega)
        have hF26 : ∀ a k, ¬ (1 ≤ a ∧ a ≤ 3) → g26 a k = g a k := fun a k z => by rw [e26, gup_a _ _ _ _ _ (by omega), gup_a _ _ _ _ _ (by omega), gup_a _ _ _ _ _ (by omega)]
        refine ⟨rfl, Or.inr ⟨_, _, gup g26 13 3 0, if_pos ⟨by omega, by show g 179 41 < 12; omega⟩, rfl, ansM_nn _ (by omega), ⟨hXn.of (fun a k z => gup_a _ _ _ _ _ (by omega)), trI.zero _ _ (gup_s _ _ _ _)⟩, hR.2.1.2.keep (fun k => (gup_a _ _ _ _ _ (by decide)).trans (hF26 _ _ (by decide))), hf, fun a k z => ?_⟩⟩
        unfold cS1 at z
        rw [gup_a _ _ _ _ _ (by omega)]
        exact hF26 a k (by omega)
      · obtain ⟨hfull, e26⟩ := hw0 (by omega)
        subst e26
        refine gw_aload_n (gc k_Desk_note_0 16 rfl) rfl rfl ?_
        refine gw_bipush (gc k_Desk_note_0 17 rfl) (by decide) ?_
        refine gw_cV1 (gc k_Desk_note_0 18 rfl) y_Desk_answer ln_Desk_86 (c_Desk_answer hx hf (-5) (by decide)) rfl rfl (by first | exact gAt hx rfl rfl) rfl rfl ?_
        refine gw_ireturn (gc k_Desk_note_0 19 rfl) rfl ?_
        rw [show eNt u h = -5 from if_pos (by omega)]
        exact ⟨rfl, Or.inl ⟨if_neg (fun z => hfull (by rw [h0]; exact z.2)), rfl, rfl⟩⟩
    · refine gw_aload_n (gc k_Desk_note_0 6 rfl) rfl rfl ?_
      refine gw_iconst (gc k_Desk_note_0 7 rfl) ?_
      refine gw_cV1 (gc k_Desk_note_0 8 rfl) y_Desk_answer ln_Desk_86 (c_Desk_answer hx hf (-1) (by decide)) rfl rfl (by first | exact gAt hx rfl rfl) rfl rfl ?_
      refine gw_ireturn (gc k_Desk_note_0 9 rfl) rfl ?_
      rw [show eNt u h = -1 from if_neg (by omega)]
      exact ⟨rfl, Or.inl ⟨if_neg (by omega), rfl, rfl⟩⟩
set_option maxHeartbeats 2000000 in
theorem c_Desk_terms {sh : gS} {g : gM} (hx : gFix sh) (hf : gFin g) {Λ : Int → List PC} (hR : relR Λ sh g) (w : Int) (v : Int) (hw : (-2147483648 ≤ w ∧ w ≤ 2147483647)) (hv : (-2147483648 ≤ v ∧ v ≤ 2147483647)) : gTri f_Desk_terms 1 0 0 [(2, 0), (0, w), (0, v)] sh g (dsQ Λ sh g (-1) (sTm w v (osM g))) := by
  have hro := hR.ro
  have hm := ro_many hro
  have h0 := hR.X.nums.1.1
  have hX := hR.X
  have hC := hR.2.1.1
  refine gTri.of (by decide +kernel) rfl ?_
  show gWP f_Desk_terms _ _ _ 0 [(2, 0), (0, w), (0, v), (9, 0)] [] sh g _
  refine gw_iload_n (gc k_Desk_terms_0 0 rfl) rfl ?_
  refine gw_if_lt (tgt := 22) (gc k_Desk_terms_0 1 rfl) rfl (by omega) (fun c1 => ?_) (fun c1 => ?_)
  · refine gw_aload_n (gc k_Desk_terms_0 12 rfl) rfl rfl ?_
    refine gw_iconst (gc k_Desk_terms_0 13 rfl) ?_
    refine gw_cV1 (gc k_Desk_terms_0 14 rfl) y_Desk_answer ln_Desk_86 (c_Desk_answer hx hf (-1) (by decide)) rfl rfl (by first | exact gAt hx rfl rfl) rfl rfl ?_
    refine gw_ireturn (gc k_Desk_terms_0 15 rfl) rfl ?_
    exact ⟨rfl, Or.inl ⟨if_neg (by omega), rfl, rfl⟩⟩
  · refine gw_iload_n (gc k_Desk_terms_0 2 rfl) rfl ?_
    refine gw_iconst (gc k_Desk_terms_0 3 rfl) ?_
    refine gw_icmp_ge (tgt := 22) (gc k_Desk_terms_0 4 rfl) rfl (by omega) (fun c6 => ?_) (fun c6 => ?_)
    · refine gw_aload_n (gc k_Desk_terms_0 12 rfl) rfl rfl ?_
      refine gw_iconst (gc k_Desk_terms_0 13 rfl) ?_
      refine gw_cV1 (gc k_Desk_terms_0 14 rfl) y_Desk_answer ln_Desk_86 (c_Desk_answer hx hf (-1) (by decide)) rfl rfl (by first | exact gAt hx rfl rfl) rfl rfl ?_
      refine gw_ireturn (gc k_Desk_terms_0 15 rfl) rfl ?_
      exact ⟨rfl, Or.inl ⟨if_neg (by omega), rfl, rfl⟩⟩
    · refine gw_iload_n (gc k_Desk_terms_0 5 rfl) rfl ?_
      refine gw_if_lt (tgt := 22) (gc k_Desk_terms_0 6 rfl) rfl (by omega) (fun c10 => ?_) (fun c10 => ?_)
      · refine gw_aload_n (gc k_Desk_terms_0 12 rfl) rfl rfl ?_
        refine gw_iconst (gc k_Desk_terms_0 13 rfl) ?_
        refine gw_cV1 (gc k_Desk_terms_0 14 rfl) y_Desk_answer ln_Desk_86 (c_Desk_answer hx hf (-1) (by decide)) rfl rfl (by first | exact gAt hx rfl rfl) rfl rfl ?_
        refine gw_ireturn (gc k_Desk_terms_0 15 rfl) rfl ?_
        exact ⟨rfl, Or.inl ⟨if_neg (by omega), rfl, rfl⟩⟩
      · refine gw_iload_n (gc k_Desk_terms_0 7 rfl) rfl ?_
        refine gw_getT (gc k_Desk_terms_0 8 rfl) (gm3 58 rfl rfl) ?_
        refine gw_iload_n (gc k_Desk_terms_0 9 rfl) rfl ?_
        obtain ⟨x5, hx5, hxv⟩ : ∃ x, gTm[w.toNat]? = some x ∧ ((w = 0 ∧ x = 999) ∨ (w = 1 ∧ x = 10) ∨ (w = 2 ∧ x = 9) ∨ (w = 3 ∧ x = 24) ∨ (w = 4 ∧ x = 24)) := by
          rcases (show w = 0 ∨ w = 1 ∨ w = 2 ∨ w = 3 ∨ w = 4 by omega) with rfl | rfl | rfl | rfl | rfl
          · exact ⟨999, rfl, by decide⟩
          · exact ⟨10, rfl, by decide⟩
          · exact ⟨9, rfl, by decide⟩
          · exact ⟨24, rfl, by decide⟩
          · exact ⟨24, rfl, by decide⟩
        refine gw_ialdT (gc k_Desk_terms_0 10 rfl) (by omega) hx5 ?_
        refine gw_icmp_le (tgt := 28) (gc k_Desk_terms_0 11 rfl) rfl (by omega) (fun c19 => ?_) (fun c19 => ?_)
        · refine gw_aload_n (gc k_Desk_terms_0 16 rfl) rfl rfl ?_
          refine gw_getref (gc k_Desk_terms_0 17 rfl) fl_Desk_12 (by first | exact gAt hx rfl rfl) (by first | exact gRf hf rfl rfl) ?_
          refine gw_getref (gc k_Desk_terms_0 18 rfl) fl_Desk_129 (by first | exact gAt hx rfl rfl) (by first | exact gRf hf rfl rfl) ?_
          refine gw_iload_n (gc k_Desk_terms_0 19 rfl) rfl ?_
          refine gw_iald (gc k_Desk_terms_0 20 rfl) (by first | exact gAt hx rfl rfl) (by omega) ?_
          have hTw : g 4 w = g 179 (tmI w) ∧ 0 ≤ g 179 (tmI w) ∧ g 179 (tmI w) ≤ 999 := by
            obtain ⟨t0, t1, t2, t3, t4⟩ := hX.bdN.2.2.2
            have b0 := ro_day hro
            have b1 := ro_slips hro
            have b2 := ro_mood hro
            have b3 := ro_low hro
            have b4 := ro_high hro
            rcases (show w = 0 ∨ w = 1 ∨ w = 2 ∨ w = 3 ∨ w = 4 by omega) with rfl | rfl | rfl | rfl | rfl
            · exact ⟨t0, b0⟩
            · exact ⟨t1, b1.1, by show g 179 37 ≤ 999; omega⟩
            · exact ⟨t2, b2.1, by show g 179 38 ≤ 999; omega⟩
            · exact ⟨t3, b3.1, by show g 179 39 ≤ 999; omega⟩
            · exact ⟨t4, b4.1, by show g 179 40 ≤ 999; omega⟩
          rw [hTw.1]
          refine gw_istore_3 (gc k_Desk_terms_0 21 rfl) rfl rfl ?_
          refine gw_aload_n (gc k_Desk_terms_0 22 rfl) rfl rfl ?_
          refine gw_getref (gc k_Desk_terms_0 23 rfl) fl_Desk_12 (by first | exact gAt hx rfl rfl) (by first | exact gRf hf rfl rfl) ?_
          refine gw_getref (gc k_Desk_terms_0 24 rfl) fl_Desk_129 (by first | exact gAt hx rfl rfl) (by first | exact gRf hf rfl rfl) ?_
          refine gw_iload_n (gc k_Desk_terms_0 25 rfl) rfl ?_
          refine gw_iload_n (gc k_Desk_terms_0 26 rfl) rfl ?_
          refine gw_iastF (gc k_Desk_terms_0 27 rfl) (by first | exact gAt hx rfl rfl) (by omega) hf (by rfl) (fun hf => ?_)
          refine gw_aload_n (gc k_Desk_terms_0 28 rfl) rfl rfl ?_
          refine gw_getref (gc k_Desk_terms_0 29 rfl) fl_Desk_28 (by first | exact gAt hx rfl rfl) (by first | exact gRf hf rfl rfl) ?_
          refine gw_getref (gc k_Desk_terms_0 30 rfl) fl_Desk_94 (by first | exact gAt hx rfl rfl) (by first | exact gRf hf rfl rfl) ?_
          refine gw_iconst (gc k_Desk_terms_0 31 rfl) ?_
          refine gw_putIK 3 rfl (gc k_Desk_terms_0 32 rfl) fl_Desk_98 (by first | exact gAt hx rfl rfl) hf (by rfl) (fun hf => ?_)
          refine gw_aload_n (gc k_Desk_terms_0 33 rfl) rfl rfl ?_
          refine gw_iload_n (gc k_Desk_terms_0 34 rfl) rfl ?_
          refine gw_cV1 (gc k_Desk_terms_0 35 rfl) y_Desk_answer ln_Desk_86 (c_Desk_answer hx hf (g 179 (tmI w)) (by omega)) rfl rfl (by first | exact gAt hx rfl rfl) rfl rfl ?_
          refine gw_ireturn (gc k_Desk_terms_0 36 rfl) rfl ?_
          refine ⟨rfl, Or.inr ⟨_, _, gup (gup g 4 w v) 13 3 0, if_pos (by omega), rfl, ansM_nn _ hTw.2.1, ⟨(hX.term i1 (w := w) (v := v) (by unfold tmOK; omega)).of (fun a k z => gup_a _ _ _ _ _ (by omega)), trI.zero _ _ (gup_s _ _ _ _)⟩, hR.2.1.2.keep (fun k => (gup_a _ _ _ _ _ (by decide)).trans (gup_a _ _ _ _ _ (by decide))), hf, fun a k z => ?_⟩⟩
          unfold cS1 at z
          rw [gup_a _ _ _ _ _ (by omega), gup_a _ _ _ _ _ (by omega)]
        · refine gw_aload_n (gc k_Desk_terms_0 12 rfl) rfl rfl ?_
          refine gw_iconst (gc k_Desk_terms_0 13 rfl) ?_
          refine gw_cV1 (gc k_Desk_terms_0 14 rfl) y_Desk_answer ln_Desk_86 (c_Desk_answer hx hf (-1) (by decide)) rfl rfl (by first | exact gAt hx rfl rfl) rfl rfl ?_
          refine gw_ireturn (gc k_Desk_terms_0 15 rfl) rfl ?_
          exact ⟨rfl, Or.inl ⟨if_neg (by omega), rfl, rfl⟩⟩
set_option maxHeartbeats 2000000 in
theorem c_Desk_heard {sh : gS} {g : gM} (hx : gFix sh) (hf : gFin g) {Λ : Int → List PC} (hR : relR Λ sh g) (fa : Int) (n : Int) (hfa : (-2147483648 ≤ fa ∧ fa ≤ 2147483647)) (hn : (-2147483648 ≤ n ∧ n ≤ 2147483647)) : gTri f_Desk_heard 1 0 0 [(2, 0), (0, fa), (0, n)] sh g (dsQ Λ sh g (eHd fa n) (sHd fa n (osM g))) := by
  have hro := hR.ro
  have hm := ro_many hro
  have h0 := hR.X.nums.1.1
  have hX := hR.X
  have hC := hR.2.1.1
  have h4 : g 1 4 = g 179 42 := hX.nums.2.1.1
  have h4b := hX.nums.2.1.2
  refine gTri.of (by decide +kernel) rfl ?_
  show gWP f_Desk_heard _ _ _ 0 [(2, 0), (0, fa), (0, n)] [] sh g _
  refine gw_iload_n (gc k_Desk_heard_0 0 rfl) rfl ?_
  refine gw_if_lt (tgt := 22) (gc k_Desk_heard_0 1 rfl) rfl (by omega) (fun c1 => ?_) (fun c1 => ?_)
  · refine gw_aload_n (gc k_Desk_heard_0 11 rfl) rfl rfl ?_
    refine gw_iconst (gc k_Desk_heard_0 12 rfl) ?_
    refine gw_cV1 (gc k_Desk_heard_0 13 rfl) y_Desk_answer ln_Desk_86 (c_Desk_answer hx hf (-1) (by decide)) rfl rfl (by first | exact gAt hx rfl rfl) rfl rfl ?_
    refine gw_ireturn (gc k_Desk_heard_0 14 rfl) rfl ?_
    rw [show eHd fa n = -1 from if_neg (by omega)]
    exact ⟨rfl, Or.inl ⟨if_neg (by omega), rfl, rfl⟩⟩
  · refine gw_iload_n (gc k_Desk_heard_0 2 rfl) rfl ?_
    refine gw_iconst (gc k_Desk_heard_0 3 rfl) ?_
    refine gw_icmp_ge (tgt := 22) (gc k_Desk_heard_0 4 rfl) rfl (by omega) (fun c6 => ?_) (fun c6 => ?_)
    · refine gw_aload_n (gc k_Desk_heard_0 11 rfl) rfl rfl ?_
      refine gw_iconst (gc k_Desk_heard_0 12 rfl) ?_
      refine gw_cV1 (gc k_Desk_heard_0 13 rfl) y_Desk_answer ln_Desk_86 (c_Desk_answer hx hf (-1) (by decide)) rfl rfl (by first | exact gAt hx rfl rfl) rfl rfl ?_
      refine gw_ireturn (gc k_Desk_heard_0 14 rfl) rfl ?_
      rw [show eHd fa n = -1 from if_neg (by omega)]
      exact ⟨rfl, Or.inl ⟨if_neg (by omega), rfl, rfl⟩⟩
    · refine gw_iload_n (gc k_Desk_heard_0 5 rfl) rfl ?_
      refine gw_bipush (gc k_Desk_heard_0 6 rfl) (by decide) ?_
      refine gw_icmp_lt (tgt := 22) (gc k_Desk_heard_0 7 rfl) rfl (by omega) (fun c12 => ?_) (fun c12 => ?_)
      · refine gw_aload_n (gc k_Desk_heard_0 11 rfl) rfl rfl ?_
        refine gw_iconst (gc k_Desk_heard_0 12 rfl) ?_
        refine gw_cV1 (gc k_Desk_heard_0 13 rfl) y_Desk_answer ln_Desk_86 (c_Desk_answer hx hf (-1) (by decide)) rfl rfl (by first | exact gAt hx rfl rfl) rfl rfl ?_
        refine gw_ireturn (gc k_Desk_heard_0 14 rfl) rfl ?_
        rw [show eHd fa n = -1 from if_neg (by omega)]
        exact ⟨rfl, Or.inl ⟨if_neg (by omega), rfl, rfl⟩⟩
      · refine gw_iload_n (gc k_Desk_heard_0 8 rfl) rfl ?_
        refine gw_sipush (gc k_Desk_heard_0 9 rfl) (by decide) ?_
        refine gw_icmp_le (tgt := 28) (gc k_Desk_heard_0 10 rfl) rfl (by omega) (fun c19 => ?_) (fun c19 => ?_)
        · refine gw_aload_n (gc k_Desk_heard_0 15 rfl) rfl rfl ?_
          refine gw_getref (gc k_Desk_heard_0 16 rfl) fl_Desk_12 (by first | exact gAt hx rfl rfl) (by first | exact gRf hf rfl rfl) ?_
          refine gw_getf 4 rfl (gc k_Desk_heard_0 17 rfl) fl_Desk_237 (by first | exact gAt hx rfl rfl) ?_
          rw [h4]
          refine gw_bipush (gc k_Desk_heard_0 18 rfl) (by decide) ?_
          refine gw_icmp_lt (tgt := 47) (gc k_Desk_heard_0 19 rfl) rfl (by omega) (fun c37 => ?_) (fun c37 => ?_)
          · refine gw_aload_n (gc k_Desk_heard_0 24 rfl) rfl rfl ?_
            refine gw_getref (gc k_Desk_heard_0 25 rfl) fl_Desk_12 (by first | exact gAt hx rfl rfl) (by first | exact gRf hf rfl rfl) ?_
            refine gw_getref (gc k_Desk_heard_0 26 rfl) fl_Desk_240 (by first | exact gAt hx rfl rfl) (by first | exact gRf hf rfl rfl) ?_
            refine gw_aload_n (gc k_Desk_heard_0 27 rfl) rfl rfl ?_
            refine gw_getref (gc k_Desk_heard_0 28 rfl) fl_Desk_12 (by first | exact gAt hx rfl rfl) (by first | exact gRf hf rfl rfl) ?_
            refine gw_getf 4 rfl (gc k_Desk_heard_0 29 rfl) fl_Desk_237 (by first | exact gAt hx rfl rfl) ?_
            rw [h4]
            refine gw_iload_n (gc k_Desk_heard_0 30 rfl) rfl ?_
            refine gw_iastF (gc k_Desk_heard_0 31 rfl) (by first | exact gAt hx rfl rfl) (by omega) hf (by rfl) (fun hf => ?_)
            refine gw_aload_n (gc k_Desk_heard_0 32 rfl) rfl rfl ?_
            refine gw_getref (gc k_Desk_heard_0 33 rfl) fl_Desk_12 (by first | exact gAt hx rfl rfl) (by first | exact gRf hf rfl rfl) ?_
            refine gw_getref (gc k_Desk_heard_0 34 rfl) fl_Desk_243 (by first | exact gAt hx rfl rfl) (by first | exact gRf hf rfl rfl) ?_
            refine gw_aload_n (gc k_Desk_heard_0 35 rfl) rfl rfl ?_
            refine gw_getref (gc k_Desk_heard_0 36 rfl) fl_Desk_12 (by first | exact gAt hx rfl rfl) (by first | exact gRf hf rfl rfl) ?_
            refine gw_getf 4 rfl (gc k_Desk_heard_0 37 rfl) fl_Desk_237 (by first | exact gAt hx rfl rfl) ?_
            rw [gup_a _ _ _ _ _ (by decide), h4]
            refine gw_iload_n (gc k_Desk_heard_0 38 rfl) rfl ?_
            refine gw_iastF (gc k_Desk_heard_0 39 rfl) (by first | exact gAt hx rfl rfl) (by omega) hf (by rfl) (fun hf => ?_)
            refine gw_aload_n (gc k_Desk_heard_1 0 rfl) rfl rfl ?_
            refine gw_getref (gc k_Desk_heard_1 1 rfl) fl_Desk_12 (by first | exact gAt hx rfl rfl) (by first | exact gRf hf rfl rfl) ?_
            refine gw_dup (gc k_Desk_heard_1 2 rfl) rfl ?_
            refine gw_getf 4 rfl (gc k_Desk_heard_1 3 rfl) fl_Desk_237 (by first | exact gAt hx rfl rfl) ?_
            rw [gup_a _ _ _ _ _ (by decide), gup_a _ _ _ _ _ (by decide), h4]
            refine gw_iconst (gc k_Desk_heard_1 4 rfl) ?_
            refine gw_iadd (gc k_Desk_heard_1 5 rfl) ?_
            refine gw_putIK 4 rfl (gc k_Desk_heard_1 6 rfl) fl_Desk_237 (by first | exact gAt hx rfl rfl) hf (by rfl) (fun hf => ?_)
            refine gw_aload_n (gc k_Desk_heard_1 7 rfl) rfl rfl ?_
            refine gw_aload_n (gc k_Desk_heard_1 8 rfl) rfl rfl ?_
            refine gw_getref (gc k_Desk_heard_1 9 rfl) fl_Desk_12 (by first | exact gAt hx rfl rfl) (by first | exact gRf hf rfl rfl) ?_
            refine gw_getf 4 rfl (gc k_Desk_heard_1 10 rfl) fl_Desk_237 (by first | exact gAt hx rfl rfl) ?_
            rw [gup_s]
            refine gw_cV1 (gc k_Desk_heard_1 11 rfl) y_Desk_answer ln_Desk_86 (c_Desk_answer hx hf (g 179 42 + 1) (by omega)) rfl rfl (by first | exact gAt hx rfl rfl) rfl rfl ?_
            refine gw_ireturn (gc k_Desk_heard_1 12 rfl) rfl ?_
            have hk : ∀ y, (y < 25 ∨ y = 41) → rPt (rPt (rPt (g 179) (25 + 2 * g 179 42) fa) (25 + 2 * g 179 42 + 1) n) 42 (g 179 42 + 1) y = g 179 y := fun y z => by
              unfold rPt
              rw [if_neg (by omega), if_neg (by omega), if_neg (by omega)]
            refine ⟨rfl, Or.inr ⟨_, _, _, if_pos ⟨by omega, by show g 179 42 < 6; omega⟩, rfl, ansM_nn _ (by omega), ⟨hX.hrd i1 (by omega) (f := fa) (n := n) (by omega) (by omega), ?_⟩, hR.2.1.2.keep (fun k => (gup_a _ _ _ _ _ (by decide)).trans ((gup_a _ _ _ _ _ (by decide)).trans (gup_a _ _ _ _ _ (by decide)))), hf, fun a k z => ?_⟩⟩
            · refine (hC.2.row hm (fun y a b => hk y (by omega)) (hk 41 (by omega))).of (fun a k z1 z2 => ?_)
              · rw [gup_a _ _ _ _ _ (by omega), gup_a _ _ _ _ _ (by omega), gup_a _ _ _ _ _ (by omega)]
            · unfold cS1 at z
              rw [gup_a _ _ _ _ _ (by omega), gup_a _ _ _ _ _ (by omega), gup_a _ _ _ _ _ (by omega)]
          · refine gw_aload_n (gc k_Desk_heard_0 20 rfl) rfl rfl ?_
            refine gw_bipush (gc k_Desk_heard_0 21 rfl) (by decide) ?_
            refine gw_cV1 (gc k_Desk_heard_0 22 rfl) y_Desk_answer ln_Desk_86 (c_Desk_answer hx hf (-5) (by decide)) rfl rfl (by first | exact gAt hx rfl rfl) rfl rfl ?_
            refine gw_ireturn (gc k_Desk_heard_0 23 rfl) rfl ?_
            rw [show eHd fa n = -5 from if_pos (by omega)]
            exact ⟨rfl, Or.inl ⟨if_neg (fun z => by have : g 179 42 < 6 := z.2; omega), rfl, rfl⟩⟩
        · refine gw_aload_n (gc k_Desk_heard_0 11 rfl) rfl rfl ?_
          refine gw_iconst (gc k_Desk_heard_0 12 rfl) ?_
          refine gw_cV1 (gc k_Desk_heard_0 13 rfl) y_Desk_answer ln_Desk_86 (c_Desk_answer hx hf (-1) (by decide)) rfl rfl (by first | exact gAt hx rfl rfl) rfl rfl ?_
          refine gw_ireturn (gc k_Desk_heard_0 14 rfl) rfl ?_
          rw [show eHd fa n = -1 from if_neg (by omega)]
          exact ⟨rfl, Or.inl ⟨if_neg (by omega), rfl, rfl⟩⟩
set_option maxHeartbeats 2000000 in
theorem c_Desk_force {sh : gS} {g : gM} (hx : gFix sh) (hf : gFin g) {Λ : Int → List PC} (hR : relR Λ sh g) (v : Int) (hv : (-2147483648 ≤ v ∧ v ≤ 2147483647)) : gTri f_Desk_force 1 0 0 [(2, 0), (0, v)] sh g (dsQ Λ sh g (-2) (sFo v (osM g))) := by
  have hro := hR.ro
  have hm := ro_many hro
  have h0 := hR.X.nums.1.1
  have hX := hR.X
  have hC := hR.2.1.1
  have hm43 := hX.nums.2.2.1
  have h9 : g 1 9 = g 179 44 := hX.nums.2.2.2.1
  refine gTri.of (by decide +kernel) rfl ?_
  show gWP f_Desk_force _ _ _ 0 [(2, 0), (0, v), (9, 0)] [] sh g _
  refine gw_iload_n (gc k_Desk_force_0 0 rfl) rfl ?_
  refine gw_iconst (gc k_Desk_force_0 1 rfl) ?_
  refine gw_icmp_eq (tgt := 23) (gc k_Desk_force_0 2 rfl) rfl (by omega) (fun c2 => ?_) (fun c2 => ?_)
  · refine gw_aload_n (gc k_Desk_force_0 12 rfl) rfl rfl ?_
    refine gw_getref (gc k_Desk_force_0 13 rfl) fl_Desk_12 (by first | exact gAt hx rfl rfl) (by first | exact gRf hf rfl rfl) ?_
    refine gw_getf 9 rfl (gc k_Desk_force_0 14 rfl) fl_Desk_173 (by first | exact gAt hx rfl rfl) ?_
    rw [h9]
    refine gw_istore_2 (gc k_Desk_force_0 15 rfl) rfl rfl ?_
    refine gw_aload_n (gc k_Desk_force_0 16 rfl) rfl rfl ?_
    refine gw_getref (gc k_Desk_force_0 17 rfl) fl_Desk_12 (by first | exact gAt hx rfl rfl) (by first | exact gRf hf rfl rfl) ?_
    refine gw_iload_n (gc k_Desk_force_0 18 rfl) rfl ?_
    refine gw_putIK 9 rfl (gc k_Desk_force_0 19 rfl) fl_Desk_173 (by first | exact gAt hx rfl rfl) hf (by rfl) (fun hf => ?_)
    refine gw_aload_n (gc k_Desk_force_0 20 rfl) rfl rfl ?_
    refine gw_iconst (gc k_Desk_force_0 21 rfl) ?_
    refine gw_cV1 (gc k_Desk_force_0 22 rfl) y_Desk_answer ln_Desk_86 (c_Desk_answer hx hf 0 (by decide)) rfl rfl (by first | exact gAt hx rfl rfl) rfl rfl ?_
    refine gw_pop (gc k_Desk_force_0 23 rfl) rfl ?_
    refine gw_iload_n (gc k_Desk_force_0 24 rfl) rfl ?_
    refine gw_ireturn (gc k_Desk_force_0 25 rfl) rfl ?_
    refine ⟨rfl, Or.inr ⟨_, _, gup g 1 9 v, if_pos (show -1 ≤ v ∧ v ≤ g 179 43 - 1 by omega), rfl, rfl, ⟨hX.fo i1 (by omega), ?_⟩, hR.2.1.2.keep (fun k => gup_a _ _ _ _ _ (by decide)), hf, fun a k z => ?_⟩⟩
    · refine (hC.2.row hm (fun y a b => if_neg (by omega)) (if_neg (by decide))).of (fun a k z1 z2 => gup_a _ _ _ _ _ (by omega))
    · unfold cS1 at z
      exact gup_a _ _ _ _ _ (by omega)
  · refine gw_aload_n (gc k_Desk_force_0 3 rfl) rfl rfl ?_
    refine gw_getref (gc k_Desk_force_0 4 rfl) fl_Desk_12 (by first | exact gAt hx rfl rfl) (by first | exact gRf hf rfl rfl) ?_
    refine gw_iload_n (gc k_Desk_force_0 5 rfl) rfl ?_
    refine gw_cV1 (gc k_Desk_force_0 6 rfl) y_Board_hasLaw ln_Desk_170 (c_Board_hasLaw hx hf i1 v (by omega) (by omega)) rfl rfl (by first | exact gAt hx rfl rfl) rfl rfl ?_
    rw [hm43.1]
    refine gw_bne (tgt := 23) (gc k_Desk_force_0 7 rfl) rfl (fun c13 => ?_) (fun c13 => ?_)
    · refine gw_aload_n (gc k_Desk_force_0 12 rfl) rfl rfl ?_
      refine gw_getref (gc k_Desk_force_0 13 rfl) fl_Desk_12 (by first | exact gAt hx rfl rfl) (by first | exact gRf hf rfl rfl) ?_
      refine gw_getf 9 rfl (gc k_Desk_force_0 14 rfl) fl_Desk_173 (by first | exact gAt hx rfl rfl) ?_
      rw [h9]
      refine gw_istore_2 (gc k_Desk_force_0 15 rfl) rfl rfl ?_
      refine gw_aload_n (gc k_Desk_force_0 16 rfl) rfl rfl ?_
      refine gw_getref (gc k_Desk_force_0 17 rfl) fl_Desk_12 (by first | exact gAt hx rfl rfl) (by first | exact gRf hf rfl rfl) ?_
      refine gw_iload_n (gc k_Desk_force_0 18 rfl) rfl ?_
      refine gw_putIK 9 rfl (gc k_Desk_force_0 19 rfl) fl_Desk_173 (by first | exact gAt hx rfl rfl) hf (by rfl) (fun hf => ?_)
      refine gw_aload_n (gc k_Desk_force_0 20 rfl) rfl rfl ?_
      refine gw_iconst (gc k_Desk_force_0 21 rfl) ?_
      refine gw_cV1 (gc k_Desk_force_0 22 rfl) y_Desk_answer ln_Desk_86 (c_Desk_answer hx hf 0 (by decide)) rfl rfl (by first | exact gAt hx rfl rfl) rfl rfl ?_
      refine gw_pop (gc k_Desk_force_0 23 rfl) rfl ?_
      refine gw_iload_n (gc k_Desk_force_0 24 rfl) rfl ?_
      refine gw_ireturn (gc k_Desk_force_0 25 rfl) rfl ?_
      refine ⟨rfl, Or.inr ⟨_, _, gup g 1 9 v, if_pos (show -1 ≤ v ∧ v ≤ g 179 43 - 1 by omega), rfl, rfl, ⟨hX.fo i1 (by omega), ?_⟩, hR.2.1.2.keep (fun k => gup_a _ _ _ _ _ (by decide)), hf, fun a k z => ?_⟩⟩
      · refine (hC.2.row hm (fun y a b => if_neg (by omega)) (if_neg (by decide))).of (fun a k z1 z2 => gup_a _ _ _ _ _ (by omega))
      · unfold cS1 at z
        exact gup_a _ _ _ _ _ (by omega)
    · refine gw_aload_n (gc k_Desk_force_0 8 rfl) rfl rfl ?_
      refine gw_bipush (gc k_Desk_force_0 9 rfl) (by decide) ?_
      refine gw_cV1 (gc k_Desk_force_0 10 rfl) y_Desk_answer ln_Desk_86 (c_Desk_answer hx hf (-2) (by decide)) rfl rfl (by first | exact gAt hx rfl rfl) rfl rfl ?_
      refine gw_ireturn (gc k_Desk_force_0 11 rfl) rfl ?_
      exact ⟨rfl, Or.inl ⟨if_neg (fun z => by have z2 : v ≤ g 179 43 - 1 := z.2; omega), rfl, rfl⟩⟩
set_option maxHeartbeats 2000000 in
theorem c_Desk_back {sh : gS} {g : gM} (hx : gFix sh) (hf : gFin g) {Λ : Int → List PC} (hR : relR Λ sh g) (k : Int) (hk : (-2147483648 ≤ k ∧ k ≤ 2147483647)) : gTri f_Desk_back 4 0 0 [(2, 0), (0, k)] sh g (dsQ Λ sh g (eBk k) (sBk (g 180) (g 181) k (osM g))) := by
  have hro := hR.ro
  have hm := ro_many hro
  have h0 := hR.X.nums.1.1
  have hX := hR.X
  have hC := hR.2.1.1
  refine gTri.of (by decide +kernel) rfl ?_
  show gWP f_Desk_back _ _ _ 0 [(2, 0), (0, k)] [] sh g _
  refine gw_iload_n (gc k_Desk_back_0 0 rfl) rfl ?_
  refine gw_if_lt (tgt := 9) (gc k_Desk_back_0 1 rfl) rfl (by omega) (fun c1 => ?_) (fun c1 => ?_)
  · refine gw_aload_n (gc k_Desk_back_0 5 rfl) rfl rfl ?_
    refine gw_iconst (gc k_Desk_back_0 6 rfl) ?_
    refine gw_cV1 (gc k_Desk_back_0 7 rfl) y_Desk_answer ln_Desk_86 (c_Desk_answer hx hf (-1) (by decide)) rfl rfl (by first | exact gAt hx rfl rfl) rfl rfl ?_
    refine gw_ireturn (gc k_Desk_back_0 8 rfl) rfl ?_
    rw [show eBk k = -1 from if_neg (by omega)]
    exact ⟨rfl, Or.inl ⟨if_neg (by omega), rfl, rfl⟩⟩
  · refine gw_iload_n (gc k_Desk_back_0 2 rfl) rfl ?_
    refine gw_iconst (gc k_Desk_back_0 3 rfl) ?_
    refine gw_icmp_lt (tgt := 15) (gc k_Desk_back_0 4 rfl) rfl (by omega) (fun c6 => ?_) (fun c6 => ?_)
    · refine gw_aload_n (gc k_Desk_back_0 9 rfl) rfl rfl ?_
      refine gw_getref (gc k_Desk_back_0 10 rfl) fl_Desk_66 (by first | exact gAt hx rfl rfl) (by first | exact gRf hf rfl rfl) ?_
      have hk2 : 0 ≤ k ∧ k ≤ 1 := by omega
      have him := hR.2.2.2.2.2.2.1 k hk2.1 hk2.2
      have hiI := iIm hk2
      refine gw_iload_n (gc k_Desk_back_0 11 rfl) rfl ?_
      refine gw_zald (gc k_Desk_back_0 12 rfl) (by first | exact gAt hx rfl rfl) (by omega) ?_
      rw [him.1]
      have h01 : g 181 k = 0 ∨ g 181 k = 1 := him.2.elim Or.inl (fun z => Or.inr z.1)
      refine gw_if_ne (tgt := 31) (gc k_Desk_back_0 13 rfl) rfl (by omega) (fun c21 => ?_) (fun c21 => ?_)
      · obtain ⟨hk1, hXi, hTi⟩ := him.2.resolve_left c21
        refine gw_aload_n (gc k_Desk_back_0 18 rfl) rfl rfl ?_
        refine gw_getref (gc k_Desk_back_0 19 rfl) fl_Desk_12 (by first | exact gAt hx rfl rfl) (by first | exact gRf hf rfl rfl) ?_
        refine gw_aload_n (gc k_Desk_back_0 20 rfl) rfl rfl ?_
        refine gw_getref (gc k_Desk_back_0 21 rfl) fl_Desk_62 (by first | exact gAt hx rfl rfl) (by first | exact gRf hf rfl rfl) ?_
        refine gw_iload_n (gc k_Desk_back_0 22 rfl) rfl ?_
        refine gw_aald_Board (gc k_Desk_back_0 23 rfl) (by first | exact gAt hx rfl rfl) (by omega) ?_
        rw [show g 159 k = 160 + 7 * k from by
          rcases (show k = 0 ∨ k = 1 by omega) with rfl | rfl
          · exact gRf hf rfl rfl
          · exact gRf hf rfl rfl]
        refine gw_xV1 (gc k_Desk_back_0 24 rfl) y_Board_copyFrom ln_Desk_270 (c_Board_copyFrom hx hf i1 hiI (by omega) hTi) rfl rfl (by first | exact gAt hx rfl rfl) rfl rfl (fun r41 sh2 g41 hq41 => ?_)
        obtain ⟨rfl, hsh, hcp⟩ := hq41
        subst sh2
        have hf := cpS.fin i1 (by decide) hcp hf
        refine gw_aload_n (gc k_Desk_back_0 25 rfl) rfl rfl ?_
        refine gw_getref (gc k_Desk_back_0 26 rfl) fl_Desk_28 (by first | exact gAt hx rfl rfl) (by first | exact gRf hf rfl rfl) ?_
        refine gw_getref (gc k_Desk_back_0 27 rfl) fl_Desk_94 (by first | exact gAt hx rfl rfl) (by first | exact gRf hf rfl rfl) ?_
        refine gw_iconst (gc k_Desk_back_0 28 rfl) ?_
        refine gw_putIK 3 rfl (gc k_Desk_back_0 29 rfl) fl_Desk_98 (by first | exact gAt hx rfl rfl) hf (by rfl) (fun hf => ?_)
        refine gw_aload_n (gc k_Desk_back_0 30 rfl) rfl rfl ?_
        refine gw_iconst (gc k_Desk_back_0 31 rfl) ?_
        refine gw_cV1 (gc k_Desk_back_0 32 rfl) y_Desk_answer ln_Desk_86 (c_Desk_answer hx hf 0 (by decide)) rfl rfl (by first | exact gAt hx rfl rfl) rfl rfl ?_
        refine gw_ireturn (gc k_Desk_back_0 33 rfl) rfl ?_
        have he : ∀ y, 0 ≤ y → y < 5652 → cpF (g 179) (g 180) 0 (5652 * k) 5652 y = imR g k y := fun y a b => by
          rw [cpF_in _ _ (by omega)]
          show _ = g 180 (5652 * k + y)
          congr 1; omega
        have hXb : bdX Λ sh (cpF (g 179) (g 180) 0 (5652 * k) 5652) g41 1 := (hcp.bdX i1 hXi).row (hXi.1.1.eq he) (fun y z => he y (by omega) (by omega))
        refine ⟨rfl, Or.inr ⟨_, _, gup g41 13 3 0, if_pos ⟨hk2, hk1⟩, rfl, rfl, ⟨hXb.of (fun a k z => gup_a _ _ _ _ _ (by omega)), trI.zero _ _ (gup_s _ _ _ _)⟩, (cpS.tx hcp hTi).keep (fun k => gup_a _ _ _ _ _ (by decide)), hf, fun a k z => ?_⟩⟩
        unfold cS1 at z
        rw [gup_a _ _ _ _ _ (by omega)]
        exact hcp.1 a k (by omega)
      · refine gw_aload_n (gc k_Desk_back_0 14 rfl) rfl rfl ?_
        refine gw_bipush (gc k_Desk_back_0 15 rfl) (by decide) ?_
        refine gw_cV1 (gc k_Desk_back_0 16 rfl) y_Desk_answer ln_Desk_86 (c_Desk_answer hx hf (-2) (by decide)) rfl rfl (by first | exact gAt hx rfl rfl) rfl rfl ?_
        refine gw_ireturn (gc k_Desk_back_0 17 rfl) rfl ?_
        rw [show eBk k = -2 from if_pos hk2]
        exact ⟨rfl, Or.inl ⟨if_neg (fun z => by have := z.2; omega), rfl, rfl⟩⟩
    · refine gw_aload_n (gc k_Desk_back_0 5 rfl) rfl rfl ?_
      refine gw_iconst (gc k_Desk_back_0 6 rfl) ?_
      refine gw_cV1 (gc k_Desk_back_0 7 rfl) y_Desk_answer ln_Desk_86 (c_Desk_answer hx hf (-1) (by decide)) rfl rfl (by first | exact gAt hx rfl rfl) rfl rfl ?_
      refine gw_ireturn (gc k_Desk_back_0 8 rfl) rfl ?_
      rw [show eBk k = -1 from if_neg (by omega)]
      exact ⟨rfl, Or.inl ⟨if_neg (by omega), rfl, rfl⟩⟩
theorem pr_set {sh : gS} {g : gM} {Λ : Int → List PC} (hR : relR Λ sh g) (n : Int) (p : Int) (hn : (-2147483648 ≤ n ∧ n ≤ 2147483647)) (hp : (-2147483648 ≤ p ∧ p ≤ 2147483647)) : prP f_Desk_set f_Model_set 7 3 0 0 [(0, n), (0, p)] Λ sh g := by
  refine prP.S (E := mvE (g 179) n p) (S := sMv 0 0 n p (osM g)) hR (by unfold mvE; (repeat' split) <;> omega) (c_Desk_set hR.1.1 hR.1.2 hR n p hn hp) (fun g1 hf1 ho1 he => ?_)
  have e179 : g1 179 = g 179 := congrArg Prod.fst ho1
  have e33 : g1 177 33 = g 177 33 := congrArg (fun z : OS => z.2.2) ho1
  have hro : rowOK (g1 179) := by rw [e179]; exact hR.ro
  have hlw : lawsOK (g1 179) := by rw [e179]; exact hR.lw
  have hun : 0 ≤ g1 177 33 ∧ g1 177 33 ≤ 16 := by rw [e33]; exact hR.un.1
  have hx := hR.1.1
  refine (c_Model_set hx hf1 n p ⟨hn, hp⟩ hro hun).mono (fun y s2 g2 hq => ?_)
  obtain ⟨rfl, v, G, rfl, hq, rfl⟩ := hq
  have q := ms_mv (sh := s2) (Or.inl rfl) hq hro
  rw [e179, ho1] at q
  exact q
theorem pr_shift {sh : gS} {g : gM} {Λ : Int → List PC} (hR : relR Λ sh g) (n : Int) (p : Int) (hn : (-2147483648 ≤ n ∧ n ≤ 2147483647)) (hp : (-2147483648 ≤ p ∧ p ≤ 2147483647)) : prP f_Desk_shift f_Model_shift 7 3 0 0 [(0, n), (0, p)] Λ sh g := by
  refine prP.S (E := mvE (g 179) n p) (S := sMv 1 12 n p (osM g)) hR (by unfold mvE; (repeat' split) <;> omega) (c_Desk_shift hR.1.1 hR.1.2 hR n p hn hp) (fun g1 hf1 ho1 he => ?_)
  have e179 : g1 179 = g 179 := congrArg Prod.fst ho1
  have e33 : g1 177 33 = g 177 33 := congrArg (fun z : OS => z.2.2) ho1
  have hro : rowOK (g1 179) := by rw [e179]; exact hR.ro
  have hlw : lawsOK (g1 179) := by rw [e179]; exact hR.lw
  have hun : 0 ≤ g1 177 33 ∧ g1 177 33 ≤ 16 := by rw [e33]; exact hR.un.1
  have hx := hR.1.1
  refine (c_Model_shift hx hf1 n p ⟨hn, hp⟩ hro hun).mono (fun y s2 g2 hq => ?_)
  obtain ⟨rfl, v, G, rfl, hq, rfl⟩ := hq
  have q := ms_mv (sh := s2) (Or.inr rfl) hq hro
  rw [e179, ho1] at q
  exact q
theorem pr_swap {sh : gS} {g : gM} {Λ : Int → List PC} (hR : relR Λ sh g) : prP f_Desk_swap f_Model_swap 6 3 0 0 [] Λ sh g := by
  refine prP.S (E := -3) (S := sSw (osM g)) hR (by decide) (c_Desk_swap hR.1.1 hR.1.2 hR) (fun g1 hf1 ho1 he => ?_)
  have e179 : g1 179 = g 179 := congrArg Prod.fst ho1
  have e33 : g1 177 33 = g 177 33 := congrArg (fun z : OS => z.2.2) ho1
  have hro : rowOK (g1 179) := by rw [e179]; exact hR.ro
  have hlw : lawsOK (g1 179) := by rw [e179]; exact hR.lw
  have hun : 0 ≤ g1 177 33 ∧ g1 177 33 ≤ 16 := by rw [e33]; exact hR.un.1
  have hx := hR.1.1
  refine (c_Model_swap hx hf1 hro hun).mono (fun y s2 g2 hq => ?_)
  obtain ⟨rfl, v, G, rfl, hq, rfl⟩ := hq
  have q := ms_sw (sh := s2) hq
  rw [ho1] at q
  exact q
theorem pr_pass {sh : gS} {g : gM} {Λ : Int → List PC} (hR : relR Λ sh g) : prP f_Desk_pass f_Model_pass 6 46 0 0 [] Λ sh g := by
  refine prP.S (E := -3) (S := sPs (osM g)) hR (by decide) (c_Desk_pass hR.1.1 hR.1.2 hR) (fun g1 hf1 ho1 he => ?_)
  have e179 : g1 179 = g 179 := congrArg Prod.fst ho1
  have e33 : g1 177 33 = g 177 33 := congrArg (fun z : OS => z.2.2) ho1
  have hro : rowOK (g1 179) := by rw [e179]; exact hR.ro
  have hlw : lawsOK (g1 179) := by rw [e179]; exact hR.lw
  have hun : 0 ≤ g1 177 33 ∧ g1 177 33 ≤ 16 := by rw [e33]; exact hR.un.1
  have hx := hR.1.1
  refine (c_Model_pass hx hf1 hro hlw hun).mono (fun y s2 g2 hq => ?_)
  obtain ⟨rfl, hq⟩ := hq
  have q := ms_ps (sh := s2) hq
  rw [ho1] at q
  exact q
theorem pr_undo {sh : gS} {g : gM} {Λ : Int → List PC} (hR : relR Λ sh g) : prP f_Desk_undo f_Model_undo 3 1 0 0 [] Λ sh g := by
  refine prP.S (E := -3) (S := sUn (osM g)) hR (by decide) (c_Desk_undo hR.1.1 hR.1.2 hR) (fun g1 hf1 ho1 he => ?_)
  have e179 : g1 179 = g 179 := congrArg Prod.fst ho1
  have e33 : g1 177 33 = g 177 33 := congrArg (fun z : OS => z.2.2) ho1
  have hro : rowOK (g1 179) := by rw [e179]; exact hR.ro
  have hlw : lawsOK (g1 179) := by rw [e179]; exact hR.lw
  have hun : 0 ≤ g1 177 33 ∧ g1 177 33 ≤ 16 := by rw [e33]; exact hR.un.1
  have hx := hR.1.1
  refine (c_Model_undo hx hf1 hun).mono (fun y s2 g2 hq => ?_)
  obtain ⟨rfl, hq⟩ := hq
  have q := ms_un (sh := s2) hq
  rw [ho1] at q
  exact q
theorem pr_note {sh : gS} {g : gM} {Λ : Int → List PC} (hR : relR Λ sh g) (u : Int) (h : Int) (hu : (-2147483648 ≤ u ∧ u ≤ 2147483647)) (hh : (-2147483648 ≤ h ∧ h ≤ 2147483647)) : prP f_Desk_note f_Model_note 2 2 0 0 [(0, u), (0, h)] Λ sh g := by
  refine prP.S (E := eNt u h) (S := sNt u h (osM g)) hR (by unfold eNt; split <;> omega) (c_Desk_note hR.1.1 hR.1.2 hR u h hu hh) (fun g1 hf1 ho1 he => ?_)
  have e179 : g1 179 = g 179 := congrArg Prod.fst ho1
  have e33 : g1 177 33 = g 177 33 := congrArg (fun z : OS => z.2.2) ho1
  have hro : rowOK (g1 179) := by rw [e179]; exact hR.ro
  have hlw : lawsOK (g1 179) := by rw [e179]; exact hR.lw
  have hun : 0 ≤ g1 177 33 ∧ g1 177 33 ≤ 16 := by rw [e33]; exact hR.un.1
  have hx := hR.1.1
  refine (c_Model_note hx hf1 u h ⟨hu, hh⟩ hro).mono (fun y s2 g2 hq => ?_)
  obtain ⟨rfl, hq⟩ := hq
  have q := ms_nt (sh := s2) hq
  rw [ho1] at q
  exact q
theorem pr_terms {sh : gS} {g : gM} {Λ : Int → List PC} (hR : relR Λ sh g) (w : Int) (v : Int) (hw : (-2147483648 ≤ w ∧ w ≤ 2147483647)) (hv : (-2147483648 ≤ v ∧ v ≤ 2147483647)) : prP f_Desk_terms f_Model_terms 1 3 0 0 [(0, w), (0, v)] Λ sh g := by
  refine prP.S (E := -1) (S := sTm w v (osM g)) hR (by decide) (c_Desk_terms hR.1.1 hR.1.2 hR w v hw hv) (fun g1 hf1 ho1 he => ?_)
  have e179 : g1 179 = g 179 := congrArg Prod.fst ho1
  have e33 : g1 177 33 = g 177 33 := congrArg (fun z : OS => z.2.2) ho1
  have hro : rowOK (g1 179) := by rw [e179]; exact hR.ro
  have hlw : lawsOK (g1 179) := by rw [e179]; exact hR.lw
  have hun : 0 ≤ g1 177 33 ∧ g1 177 33 ≤ 16 := by rw [e33]; exact hR.un.1
  have hx := hR.1.1
  refine (c_Model_terms hx hf1 w v ⟨hw, hv⟩).mono (fun y s2 g2 hq => ?_)
  obtain ⟨rfl, hq⟩ := hq
  have q := ms_tm (sh := s2) hq
  rw [ho1] at q
  exact q
theorem pr_heard {sh : gS} {g : gM} {Λ : Int → List PC} (hR : relR Λ sh g) (fa : Int) (n : Int) (hfa : (-2147483648 ≤ fa ∧ fa ≤ 2147483647)) (hn : (-2147483648 ≤ n ∧ n ≤ 2147483647)) : prP f_Desk_heard f_Model_heard 1 1 0 0 [(0, fa), (0, n)] Λ sh g := by
  refine prP.S (E := eHd fa n) (S := sHd fa n (osM g)) hR (by unfold eHd; split <;> omega) (c_Desk_heard hR.1.1 hR.1.2 hR fa n hfa hn) (fun g1 hf1 ho1 he => ?_)
  have e179 : g1 179 = g 179 := congrArg Prod.fst ho1
  have e33 : g1 177 33 = g 177 33 := congrArg (fun z : OS => z.2.2) ho1
  have hro : rowOK (g1 179) := by rw [e179]; exact hR.ro
  have hlw : lawsOK (g1 179) := by rw [e179]; exact hR.lw
  have hun : 0 ≤ g1 177 33 ∧ g1 177 33 ≤ 16 := by rw [e33]; exact hR.un.1
  have hx := hR.1.1
  refine (c_Model_heard hx hf1 fa n ⟨hfa, hn⟩ hro).mono (fun y s2 g2 hq => ?_)
  obtain ⟨rfl, hq⟩ := hq
  have q := ms_hd (sh := s2) hq
  rw [ho1] at q
  exact q
theorem pr_force {sh : gS} {g : gM} {Λ : Int → List PC} (hR : relR Λ sh g) (v : Int) (hv : (-2147483648 ≤ v ∧ v ≤ 2147483647)) : prP f_Desk_force f_Model_force 1 2 0 0 [(0, v)] Λ sh g := by
  refine prP.S (E := -2) (S := sFo v (osM g)) hR (by decide) (c_Desk_force hR.1.1 hR.1.2 hR v hv) (fun g1 hf1 ho1 he => ?_)
  have e179 : g1 179 = g 179 := congrArg Prod.fst ho1
  have e33 : g1 177 33 = g 177 33 := congrArg (fun z : OS => z.2.2) ho1
  have hro : rowOK (g1 179) := by rw [e179]; exact hR.ro
  have hlw : lawsOK (g1 179) := by rw [e179]; exact hR.lw
  have hun : 0 ≤ g1 177 33 ∧ g1 177 33 ≤ 16 := by rw [e33]; exact hR.un.1
  have hx := hR.1.1
  refine (c_Model_force hx hf1 v hv (ro_told hro)).mono (fun y s2 g2 hq => ?_)
  obtain ⟨rfl, hq⟩ := hq
  have q := ms_fo (sh := s2) hq
  rw [ho1] at q
  exact q
theorem pr_back {sh : gS} {g : gM} {Λ : Int → List PC} (hR : relR Λ sh g) (k : Int) (hk : (-2147483648 ≤ k ∧ k ≤ 2147483647)) : prP f_Desk_back f_Model_back 4 2 0 0 [(0, k)] Λ sh g := by
  refine prP.S (E := eBk k) (S := sBk (g 180) (g 181) k (osM g)) hR (by unfold eBk; split <;> omega) (c_Desk_back hR.1.1 hR.1.2 hR k hk) (fun g1 hf1 ho1 he => ?_)
  have e179 : g1 179 = g 179 := congrArg Prod.fst ho1
  have e33 : g1 177 33 = g 177 33 := congrArg (fun z : OS => z.2.2) ho1
  have hro : rowOK (g1 179) := by rw [e179]; exact hR.ro
  have hlw : lawsOK (g1 179) := by rw [e179]; exact hR.lw
  have hun : 0 ≤ g1 177 33 ∧ g1 177 33 ≤ 16 := by rw [e33]; exact hR.un.1
  have hx := hR.1.1
  refine (c_Model_back hx hf1 k hk (fun j a b => by rw [he 181 j (by decide) (by decide)]; exact (hR.2.2.2.2.2.2.1 j a b).2.elim Or.inl (fun z => Or.inr z.1))).mono (fun y s2 g2 hq => ?_)
  obtain ⟨rfl, hq⟩ := hq
  have q := ms_bk (sh := s2) hq
  rw [ho1, show g1 180 = g 180 from funext fun y => he _ _ (by decide) (by decide), show g1 181 = g 181 from funext fun y => he _ _ (by decide) (by decide)] at q
  exact q
