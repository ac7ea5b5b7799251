/-! ===== the desk's questions ===== -/
theorem cmOut_nn {r : Int → Int} : ∀ (m : Nat) (w v t : Int), 0 ≤ w → cmOut r m w = some (v, t) → 0 ≤ v
  | 0, w, v, t, h, e => by cases e
  | m + 1, w, v, t, h, e => by
    unfold cmOut at e
    split at e
    · cases e; exact h
    · exact cmOut_nn m (w + 1) v t (by omega) e
theorem comR_no {r : Int → Int} (h : comR r 0 = -1) : comR r 1 = -1 := by
  unfold comR at h ⊢
  rw [if_pos (by decide)] at h ⊢
  cases hq : cmOut r (r 40 + 1 - r 39).toNat 0 with
  | none => rfl
  | some p =>
    obtain ⟨v, t⟩ := p
    exfalso
    have := cmOut_nn _ _ v t (Int.le_refl 0) hq
    rw [hq] at h
    have h : (if (0 : Int) = 0 then v else t) = -1 := h
    rw [if_pos rfl] at h
    omega
theorem chT_bd2 (r : Int → Int) (n p : Int) : -1 ≤ chT r n p ∧ chT r n p ≤ 100000000 := by
  unfold chT
  split
  · omega
  · exact loF_bd
theorem comR_out {r : Int → Int} {k : Int} (h : ¬ (0 ≤ k ∧ k ≤ 1)) : comR r k = -1 := if_neg h
/-- another law in force: what stands on paper -/
theorem bdN_fo {r : Int → Int} {g : gM} {b v : Int} (h : bdN r g b) (hv : -1 ≤ v ∧ v ≤ r 43 - 1) : bdN (rFo r v) g b := by
  obtain ⟨h1, h2, h3, h4⟩ := h
  refine ⟨rFo_ok h1 hv, by rw [rFo_k _ _ (by decide)]; exact h2, fun i a c => ?_, ?_⟩
  · rw [rFo_k _ _ (by decide)] at c
    have := ro_many h1
    rw [rFo_k _ _ (by omega), rFo_k _ _ (by omega)]
    exact h3 i a c
  · rw [rFo_k _ _ (by decide), rFo_k _ _ (by decide), rFo_k _ _ (by decide), rFo_k _ _ (by decide), rFo_k _ _ (by decide)]
    exact h4
theorem tlR_no (r : Int → Int) (w : Int → Int) (k top df : Int) : tlR (rFo r (-1)) w k top df = df := if_pos rfl
theorem tlR_in {r : Int → Int} {v : Int} {L : List PC} (hv : 0 ≤ v) (e : rLaw r v = .inr L) (w : Int → Int) (k top df : Int) : tlR (rFo r v) w k top df = tl w k top df L := by
  unfold tlR
  rw [rFo_s, if_neg (by omega), rLaw_eq (r := r) (fun y hy => rFo_k _ _ (by omega)) v hv, e]
theorem lwP_fo {Λ : Int → List PC} {sh : gS} {g : gM} {r : Int → Int} (hX : bdX Λ sh r g 1) {v : Int} (hv : -1 ≤ v ∧ v < r 43) : lwP Λ sh g (rFo r v) (if v = -1 then -1 else g 7 v) := by
  by_cases z : v = -1
  · subst z
    rw [if_pos rfl]
    refine ⟨⟨Or.inl ⟨rfl, hX.1.2⟩, by rw [hX.1.2]; decide, by rw [hX.1.2]; exact fun c h => absurd h List.not_mem_nil⟩, fun w k top df => ?_⟩
    rw [tlR_no, hX.1.2]
    rfl
  · rw [if_neg z]
    have q := hX.2.2 v (by omega) (by omega)
    have q2 : txL 201 false sh g (g 7 v) ((Λ (g 7 v)).map pcO) := q.2
    have q1 : rLaw r v = .inr (Λ (g 7 v)) := q.1
    refine ⟨⟨Or.inr q2, ?_, ?_⟩, fun w k top df => tlR_in (by omega) q1 w k top df⟩
    · obtain ⟨N3, N5, N6, a1, a2, a3, a4, a5, a6, a7, ⟨a8, a8b, -⟩, -⟩ := q2
      rw [List.length_map] at a8
      omega
    · obtain ⟨N3, N5, N6, a1, a2, a3, a4, a5, a6, a7, a8, a9, a10, -, a12⟩ := q2
      exact fun c hc => a12 _ (List.mem_map_of_mem hc)
theorem cm_e {Λ : Int → List PC} {sh : gS} {g : gM} {r : Int → Int} {v a : Int} (ho : rowOK r) (hv : -1 ≤ v ∧ v ≤ r 43 - 1) (hL : lwP Λ sh g (rFo r v) a) : cmR r v = laR (rFo r v) 0 (kF (rFo r v 39)) (kF (rFo r v 40)) := by
  unfold cmR
  rw [if_pos hv]
  unfold voR
  rw [if_neg (by omega), if_pos (Or.inr rfl)]
  exact (lo_la hL (rFo_ok ho hv) (kp := 0) (by decide)).1
theorem comR_bd (r : Int → Int) (k : Int) (ho : rowOK r) : -1 ≤ comR r k ∧ comR r k ≤ 2147483647 := by
  have h1 := ro_low ho
  have h2 := ro_high ho
  have key : ∀ (m : Nat) (w v t : Int), 0 ≤ w → cmOut r m w = some (v, t) → (0 ≤ v ∧ v < w + m) ∧ 0 ≤ t ∧ t ≤ 100 := by
    have k2 : ∀ (w : Int) (m : Nat) (lo t : Int), cmIn r w m lo = some t → lo ≤ t ∧ t < lo + m := by
      intro w m
      induction m with
      | zero => intro lo t e; cases e
      | succ m ih =>
        intro lo t e
        unfold cmIn at e
        split at e
        · cases e; omega
        · have := ih _ _ e; omega
    intro m
    induction m with
    | zero => intro w v t h e; cases e
    | succ m ih =>
      intro w v t h e
      unfold cmOut at e
      split at e
      · next lo hq =>
        cases e
        have := k2 _ _ _ _ hq
        omega
      · have := ih _ v t (by omega) e
        omega
  unfold comR
  split
  · cases hq : cmOut r (r 40 + 1 - r 39).toNat 0 with
    | none => exact (by decide : -1 ≤ (-1 : Int) ∧ (-1 : Int) ≤ 2147483647)
    | some p =>
      obtain ⟨v, t⟩ := p
      have := key _ _ v t (Int.le_refl 0) hq
      show -1 ≤ (if k = 0 then v else t) ∧ (if k = 0 then v else t) ≤ 2147483647
      split <;> omega
  · exact ⟨by decide, by decide⟩
set_option maxHeartbeats 1000000 in
theorem c_Desk_of {sh : gS} {g : gM} (hx : gFix sh) (hf : gFin g) {Λ : Int → List PC} (hR : relR Λ sh g) (n : Int) (w : Int) (hn : (-2147483648 ≤ n ∧ n ≤ 2147483647)) (hw : (-2147483648 ≤ w ∧ w ≤ 2147483647)) : gTri f_Desk_of 5 0 0 [(2, 0), (0, n), (0, w)] sh g (fun x s2 g2 => dqQ Λ sh g (0, ofR (g 179) n w) x s2 g2) := by
  have hro := hR.ro
  have hm := ro_many hro
  have h0 := hR.X.nums.1.1
  have hX := hR.X
  refine gTri.of (by decide +kernel) rfl ?_
  show gWP f_Desk_of _ _ _ 0 [(2, 0), (0, n), (0, w)] [] sh g _
  refine gw_aload_n (gc k_Desk_of_0 0 rfl) rfl rfl ?_
  refine gw_getref (gc k_Desk_of_0 1 rfl) fl_Desk_12 (by first | exact gAt hx rfl rfl) (by first | exact gRf hf rfl rfl) ?_
  refine gw_iload_n (gc k_Desk_of_0 2 rfl) rfl ?_
  refine gw_cV1 (gc k_Desk_of_0 3 rfl) y_Board_has ln_Desk_106 (c_Board_has hx hf i1 n (by omega) (by omega)) rfl rfl (by first | exact gAt hx rfl rfl) rfl rfl ?_
  rw [h0]
  refine gw_bne (tgt := 13) (gc k_Desk_of_0 4 rfl) rfl (fun c8 => ?_) (fun c8 => ?_)
  · refine gw_iload_n (gc k_Desk_of_0 7 rfl) rfl ?_
    rcases (show w = 0 ∨ w = 1 ∨ w = 2 ∨ w = 3 ∨ w = 4 ∨ (w < 0 ∨ 4 < w) by omega) with hs14 | hs14 | hs14 | hs14 | hs14 | hs14
    · refine gw_tableIn (tgt := 48) (gc k_Desk_of_0 8 rfl) (by omega) (by omega) (by rw [hs14]; rfl) rfl ?_
      refine gw_aload_n (gc k_Desk_of_0 9 rfl) rfl rfl ?_
      refine gw_getref (gc k_Desk_of_0 10 rfl) fl_Desk_12 (by first | exact gAt hx rfl rfl) (by first | exact gRf hf rfl rfl) ?_
      refine gw_getref (gc k_Desk_of_0 11 rfl) fl_Desk_109 (by first | exact gAt hx rfl rfl) (by first | exact gRf hf rfl rfl) ?_
      refine gw_iload_n (gc k_Desk_of_0 12 rfl) rfl ?_
      refine gw_iald (gc k_Desk_of_0 13 rfl) (by first | exact gAt hx rfl rfl) (by omega) ?_
      refine gw_ireturn (gc k_Desk_of_0 14 rfl) rfl ?_
      have e : ofR (g 179) n w = g 2 n := by
        unfold ofR
        rw [if_pos (by omega), if_pos hs14]
        exact (hX.note (i := n) (by omega)).1.1.symm
      rw [e]
      exact dqQ.rf hR _
    · refine gw_tableIn (tgt := 58) (gc k_Desk_of_0 8 rfl) (by omega) (by omega) (by rw [hs14]; rfl) rfl ?_
      refine gw_aload_n (gc k_Desk_of_0 15 rfl) rfl rfl ?_
      refine gw_getref (gc k_Desk_of_0 16 rfl) fl_Desk_12 (by first | exact gAt hx rfl rfl) (by first | exact gRf hf rfl rfl) ?_
      refine gw_getref (gc k_Desk_of_0 17 rfl) fl_Desk_112 (by first | exact gAt hx rfl rfl) (by first | exact gRf hf rfl rfl) ?_
      refine gw_iload_n (gc k_Desk_of_0 18 rfl) rfl ?_
      refine gw_iald (gc k_Desk_of_0 19 rfl) (by first | exact gAt hx rfl rfl) (by omega) ?_
      refine gw_ireturn (gc k_Desk_of_0 20 rfl) rfl ?_
      have e : ofR (g 179) n w = g 3 n := by
        unfold ofR
        rw [if_pos (by omega), if_neg (by omega), if_pos hs14]
        exact (hX.note (i := n) (by omega)).2.1.symm
      rw [e]
      exact dqQ.rf hR _
    · refine gw_tableIn (tgt := 68) (gc k_Desk_of_0 8 rfl) (by omega) (by omega) (by rw [hs14]; rfl) rfl ?_
      refine gw_aload_n (gc k_Desk_of_0 21 rfl) rfl rfl ?_
      refine gw_getref (gc k_Desk_of_0 22 rfl) fl_Desk_19 (by first | exact gAt hx rfl rfl) (by first | exact gRf hf rfl rfl) ?_
      refine gw_aload_n (gc k_Desk_of_0 23 rfl) rfl rfl ?_
      refine gw_getref (gc k_Desk_of_0 24 rfl) fl_Desk_12 (by first | exact gAt hx rfl rfl) (by first | exact gRf hf rfl rfl) ?_
      refine gw_iload_n (gc k_Desk_of_0 25 rfl) rfl ?_
      refine gw_iconst (gc k_Desk_of_0 26 rfl) ?_
      refine gw_xV1 (gc k_Desk_of_0 27 rfl) y_Judge_weigh ln_Desk_115 (c_Judge_weigh hx hf i1 hX n 0 (by omega) (by decide)) rfl rfl (by first | exact gAt hx rfl rfl) rfl rfl (fun r78 sh2 g78 hq78 => ?_)
      obtain ⟨rfl, hsh, hj⟩ := hq78
      subst sh2
      refine gw_ireturn (gc k_Desk_of_0 28 rfl) rfl ?_
      have e : ofR (g 179) n w = jN (g 179) (nowW (g 179) n) 0 := by
        unfold ofR
        rw [if_pos (by omega), if_neg (by omega), if_neg (by omega), if_pos hs14]
        exact allV_j (g 179) 0 n
      rw [e]
      exact dqQ.jg hR hj _
    · refine gw_tableIn (tgt := 82) (gc k_Desk_of_0 8 rfl) (by omega) (by omega) (by rw [hs14]; rfl) rfl ?_
      refine gw_aload_n (gc k_Desk_of_0 29 rfl) rfl rfl ?_
      refine gw_getref (gc k_Desk_of_0 30 rfl) fl_Desk_19 (by first | exact gAt hx rfl rfl) (by first | exact gRf hf rfl rfl) ?_
      refine gw_aload_n (gc k_Desk_of_0 31 rfl) rfl rfl ?_
      refine gw_getref (gc k_Desk_of_0 32 rfl) fl_Desk_12 (by first | exact gAt hx rfl rfl) (by first | exact gRf hf rfl rfl) ?_
      refine gw_iload_n (gc k_Desk_of_0 33 rfl) rfl ?_
      refine gw_iconst (gc k_Desk_of_0 34 rfl) ?_
      refine gw_xV1 (gc k_Desk_of_0 35 rfl) y_Judge_weigh ln_Desk_115 (c_Judge_weigh hx hf i1 hX n 1 (by omega) (by decide)) rfl rfl (by first | exact gAt hx rfl rfl) rfl rfl (fun r92 sh2 g92 hq92 => ?_)
      obtain ⟨rfl, hsh, hj⟩ := hq92
      subst sh2
      refine gw_ireturn (gc k_Desk_of_0 36 rfl) rfl ?_
      have e : ofR (g 179) n w = jN (g 179) (nowW (g 179) n) 1 := by
        unfold ofR
        rw [if_pos (by omega), if_neg (by omega), if_neg (by omega), if_neg (by omega), if_pos hs14]
        exact allV_j (g 179) 1 n
      rw [e]
      exact dqQ.jg hR hj _
    · refine gw_tableIn (tgt := 96) (gc k_Desk_of_0 8 rfl) (by omega) (by omega) (by rw [hs14]; rfl) rfl ?_
      refine gw_aload_n (gc k_Desk_of_0 37 rfl) rfl rfl ?_
      refine gw_getref (gc k_Desk_of_0 38 rfl) fl_Desk_19 (by first | exact gAt hx rfl rfl) (by first | exact gRf hf rfl rfl) ?_
      refine gw_aload_n (gc k_Desk_of_0 39 rfl) rfl rfl ?_
      refine gw_getref (gc k_Desk_of_1 0 rfl) fl_Desk_12 (by first | exact gAt hx rfl rfl) (by first | exact gRf hf rfl rfl) ?_
      refine gw_iload_n (gc k_Desk_of_1 1 rfl) rfl ?_
      refine gw_iconst (gc k_Desk_of_1 2 rfl) ?_
      refine gw_xV1 (gc k_Desk_of_1 3 rfl) y_Judge_weigh ln_Desk_115 (c_Judge_weigh hx hf i1 hX n 2 (by omega) (by decide)) rfl rfl (by first | exact gAt hx rfl rfl) rfl rfl (fun r106 sh2 g106 hq106 => ?_)
      obtain ⟨rfl, hsh, hj⟩ := hq106
      subst sh2
      refine gw_ireturn (gc k_Desk_of_1 4 rfl) rfl ?_
      have e : ofR (g 179) n w = jN (g 179) (nowW (g 179) n) 2 := by
        unfold ofR
        rw [if_pos (by omega), if_neg (by omega), if_neg (by omega), if_neg (by omega), if_neg (by omega), if_pos hs14]
        exact allV_j (g 179) 2 n
      rw [e]
      exact dqQ.jg hR hj _
    · refine gw_tableOut (tgt := 110) (gc k_Desk_of_0 8 rfl) (by omega) (by omega) rfl ?_
      refine gw_iconst (gc k_Desk_of_1 5 rfl) ?_
      refine gw_ireturn (gc k_Desk_of_1 6 rfl) rfl ?_
      have e : ofR (g 179) n w = -1 := by
        unfold ofR
        rw [if_pos (by omega), if_neg (by omega), if_neg (by omega), if_neg (by omega), if_neg (by omega), if_neg (by omega)]
      rw [e]
      exact dqQ.rf hR _
  · refine gw_iconst (gc k_Desk_of_0 5 rfl) ?_
    refine gw_ireturn (gc k_Desk_of_0 6 rfl) rfl ?_
    have e : ofR (g 179) n w = -1 := by
      unfold ofR; rw [if_neg (by omega)]
    rw [e]
    exact dqQ.rf hR _
set_option maxHeartbeats 1000000 in
theorem c_Desk_at {sh : gS} {g : gM} (hx : gFix sh) (hf : gFin g) {Λ : Int → List PC} (hR : relR Λ sh g) (n : Int) (w : Int) (hn : (-2147483648 ≤ n ∧ n ≤ 2147483647)) (hw : (-2147483648 ≤ w ∧ w ≤ 2147483647)) : gTri f_Desk_at 6 0 0 [(2, 0), (0, n), (0, w)] sh g (fun x s2 g2 => dqQ Λ sh g (0, (if 0 ≤ n ∧ n ≤ g 179 41 - 1 ∧ 0 ≤ w ∧ w ≤ 1 then (if w = 0 then g 179 n - g 179 (12 + n) else if n = 0 then 0 else g 179 n - g 179 (n - 1)) else -1000)) x s2 g2) := by
  have hro := hR.ro
  have hm := ro_many hro
  have h0 := hR.X.nums.1.1
  have hX := hR.X
  refine gTri.of (by decide +kernel) rfl ?_
  show gWP f_Desk_at _ _ _ 0 [(2, 0), (0, n), (0, w)] [] sh g _
  refine gw_aload_n (gc k_Desk_at_0 0 rfl) rfl rfl ?_
  refine gw_getref (gc k_Desk_at_0 1 rfl) fl_Desk_12 (by first | exact gAt hx rfl rfl) (by first | exact gRf hf rfl rfl) ?_
  refine gw_iload_n (gc k_Desk_at_0 2 rfl) rfl ?_
  refine gw_cV1 (gc k_Desk_at_0 3 rfl) y_Board_has ln_Desk_106 (c_Board_has hx hf i1 n (by omega) (by omega)) rfl rfl (by first | exact gAt hx rfl rfl) rfl rfl ?_
  rw [h0]
  refine gw_beq (tgt := 20) (gc k_Desk_at_0 4 rfl) rfl (fun c8 => ?_) (fun c8 => ?_)
  · refine gw_sipush (gc k_Desk_at_0 10 rfl) (by decide) ?_
    refine gw_ireturn (gc k_Desk_at_0 11 rfl) rfl ?_
    rw [if_neg (by omega)]
    exact dqQ.rf hR _
  · refine gw_iload_n (gc k_Desk_at_0 5 rfl) rfl ?_
    refine gw_if_lt (tgt := 20) (gc k_Desk_at_0 6 rfl) rfl (by omega) (fun c12 => ?_) (fun c12 => ?_)
    · refine gw_sipush (gc k_Desk_at_0 10 rfl) (by decide) ?_
      refine gw_ireturn (gc k_Desk_at_0 11 rfl) rfl ?_
      rw [if_neg (by omega)]
      exact dqQ.rf hR _
    · refine gw_iload_n (gc k_Desk_at_0 7 rfl) rfl ?_
      refine gw_iconst (gc k_Desk_at_0 8 rfl) ?_
      refine gw_icmp_le (tgt := 24) (gc k_Desk_at_0 9 rfl) rfl (by omega) (fun c17 => ?_) (fun c17 => ?_)
      · refine gw_aload_n (gc k_Desk_at_0 12 rfl) rfl rfl ?_
        refine gw_getref (gc k_Desk_at_0 13 rfl) fl_Desk_19 (by first | exact gAt hx rfl rfl) (by first | exact gRf hf rfl rfl) ?_
        refine gw_aload_n (gc k_Desk_at_0 14 rfl) rfl rfl ?_
        refine gw_getref (gc k_Desk_at_0 15 rfl) fl_Desk_12 (by first | exact gAt hx rfl rfl) (by first | exact gRf hf rfl rfl) ?_
        refine gw_iload_n (gc k_Desk_at_0 16 rfl) rfl ?_
        refine gw_iload_n (gc k_Desk_at_0 17 rfl) rfl ?_
        refine gw_xV1 (gc k_Desk_at_0 18 rfl) y_Judge_fact ln_Desk_119 (c_Judge_fact hx hf i1 hX n w (by omega) (by omega)) rfl rfl (by first | exact gAt hx rfl rfl) rfl rfl (fun r34 sh2 g34 hq34 => ?_)
        obtain ⟨rfl, hsh, hj⟩ := hq34
        subst sh2
        refine gw_ireturn (gc k_Desk_at_0 19 rfl) rfl ?_
        have e : (if 0 ≤ n ∧ n ≤ g 179 41 - 1 ∧ 0 ≤ w ∧ w ≤ 1 then (if w = 0 then g 179 n - g 179 (12 + n) else if n = 0 then 0 else g 179 n - g 179 (n - 1)) else -1000) = factN (g 179) n w := by
          rw [if_pos (by omega)]
          unfold factN leapN
          (repeat' split) <;> first | rfl | omega
        rw [e]
        exact dqQ.jg hR hj _
      · refine gw_sipush (gc k_Desk_at_0 10 rfl) (by decide) ?_
        refine gw_ireturn (gc k_Desk_at_0 11 rfl) rfl ?_
        rw [if_neg (by omega)]
        exact dqQ.rf hR _
set_option maxHeartbeats 1000000 in
theorem c_Desk_all {sh : gS} {g : gM} (hx : gFix sh) (hf : gFin g) {Λ : Int → List PC} (hR : relR Λ sh g) (k : Int) (hk : (-2147483648 ≤ k ∧ k ≤ 2147483647)) : gTri f_Desk_all 5 0 0 [(2, 0), (0, k)] sh g (fun x s2 g2 => dqQ Λ sh g (0, (if 0 ≤ k ∧ k ≤ 2 then allN (g 179) k else -1)) x s2 g2) := by
  have hro := hR.ro
  have hm := ro_many hro
  have h0 := hR.X.nums.1.1
  have hX := hR.X
  refine gTri.of (by decide +kernel) rfl ?_
  show gWP f_Desk_all _ _ _ 0 [(2, 0), (0, k)] [] sh g _
  refine gw_iload_n (gc k_Desk_all_0 0 rfl) rfl ?_
  refine gw_if_lt (tgt := 9) (gc k_Desk_all_0 1 rfl) rfl (by omega) (fun c1 => ?_) (fun c1 => ?_)
  · refine gw_iconst (gc k_Desk_all_0 5 rfl) ?_
    refine gw_ireturn (gc k_Desk_all_0 6 rfl) rfl ?_
    rw [if_neg (by omega)]
    exact dqQ.rf hR _
  · refine gw_iload_n (gc k_Desk_all_0 2 rfl) rfl ?_
    refine gw_iconst (gc k_Desk_all_0 3 rfl) ?_
    refine gw_icmp_le (tgt := 11) (gc k_Desk_all_0 4 rfl) rfl (by omega) (fun c6 => ?_) (fun c6 => ?_)
    · refine gw_aload_n (gc k_Desk_all_0 7 rfl) rfl rfl ?_
      refine gw_getref (gc k_Desk_all_0 8 rfl) fl_Desk_19 (by first | exact gAt hx rfl rfl) (by first | exact gRf hf rfl rfl) ?_
      refine gw_aload_n (gc k_Desk_all_0 9 rfl) rfl rfl ?_
      refine gw_getref (gc k_Desk_all_0 10 rfl) fl_Desk_12 (by first | exact gAt hx rfl rfl) (by first | exact gRf hf rfl rfl) ?_
      refine gw_iload_n (gc k_Desk_all_0 11 rfl) rfl ?_
      refine gw_xV1 (gc k_Desk_all_0 12 rfl) y_Judge_total ln_Desk_122 (c_Judge_total hx hf i1 hX k (by omega)) rfl rfl (by first | exact gAt hx rfl rfl) rfl rfl (fun r20 sh2 g20 hq20 => ?_)
      obtain ⟨rfl, hsh, hj⟩ := hq20
      subst sh2
      refine gw_ireturn (gc k_Desk_all_0 13 rfl) rfl ?_
      rw [if_pos (by omega)]
      exact dqQ.jg hR hj _
    · refine gw_iconst (gc k_Desk_all_0 5 rfl) ?_
      refine gw_ireturn (gc k_Desk_all_0 6 rfl) rfl ?_
      rw [if_neg (by omega)]
      exact dqQ.rf hR _
set_option maxHeartbeats 1000000 in
theorem c_Desk_blots {sh : gS} {g : gM} (hx : gFix sh) (hf : gFin g) {Λ : Int → List PC} (hR : relR Λ sh g) : gTri f_Desk_blots 0 0 0 [(2, 0)] sh g (fun x s2 g2 => dqQ Λ sh g (0, g 0 11) x s2 g2) := by
  have hro := hR.ro
  have hm := ro_many hro
  have h0 := hR.X.nums.1.1
  have hX := hR.X
  refine gTri.of (by decide +kernel) rfl ?_
  show gWP f_Desk_blots _ _ _ 0 [(2, 0)] [] sh g _
  refine gw_aload_n (gc k_Desk_blots_0 0 rfl) rfl rfl ?_
  refine gw_getf 11 rfl (gc k_Desk_blots_0 1 rfl) fl_Desk_137 (by first | exact gAt hx rfl rfl) ?_
  refine gw_ireturn (gc k_Desk_blots_0 2 rfl) rfl ?_
  exact dqQ.rf hR _
set_option maxHeartbeats 1000000 in
theorem c_Desk_fault {sh : gS} {g : gM} (hx : gFix sh) (hf : gFin g) {Λ : Int → List PC} (hR : relR Λ sh g) : gTri f_Desk_fault 0 0 0 [(2, 0)] sh g (fun x s2 g2 => dqQ Λ sh g (0, g 0 12) x s2 g2) := by
  have hro := hR.ro
  have hm := ro_many hro
  have h0 := hR.X.nums.1.1
  have hX := hR.X
  refine gTri.of (by decide +kernel) rfl ?_
  show gWP f_Desk_fault _ _ _ 0 [(2, 0)] [] sh g _
  refine gw_aload_n (gc k_Desk_fault_0 0 rfl) rfl rfl ?_
  refine gw_getf 12 rfl (gc k_Desk_fault_0 1 rfl) fl_Desk_78 (by first | exact gAt hx rfl rfl) ?_
  refine gw_ireturn (gc k_Desk_fault_0 2 rfl) rfl ?_
  exact dqQ.rf hR _
set_option maxHeartbeats 1000000 in
theorem c_Desk_stopped {sh : gS} {g : gM} (hx : gFix sh) (hf : gFin g) {Λ : Int → List PC} (hR : relR Λ sh g) : gTri f_Desk_stopped 0 0 0 [(2, 0)] sh g (fun x s2 g2 => dqQ Λ sh g (0, g 12 1) x s2 g2) := by
  have hro := hR.ro
  have hm := ro_many hro
  have h0 := hR.X.nums.1.1
  have hX := hR.X
  refine gTri.of (by decide +kernel) rfl ?_
  show gWP f_Desk_stopped _ _ _ 0 [(2, 0)] [] sh g _
  refine gw_aload_n (gc k_Desk_stopped_0 0 rfl) rfl rfl ?_
  refine gw_getref (gc k_Desk_stopped_0 1 rfl) fl_Desk_28 (by first | exact gAt hx rfl rfl) (by first | exact gRf hf rfl rfl) ?_
  refine gw_getf 1 rfl (gc k_Desk_stopped_0 2 rfl) fl_Desk_163 (by first | exact gAt hx rfl rfl) ?_
  refine gw_ireturn (gc k_Desk_stopped_0 3 rfl) rfl ?_
  exact dqQ.rf hR _
set_option maxHeartbeats 1000000 in
theorem c_Desk_status {sh : gS} {g : gM} (hx : gFix sh) (hf : gFin g) {Λ : Int → List PC} (hR : relR Λ sh g) : gTri f_Desk_status 0 0 0 [(2, 0)] sh g (fun x s2 g2 => dqQ Λ sh g (0, g 0 13) x s2 g2) := by
  have hro := hR.ro
  have hm := ro_many hro
  have h0 := hR.X.nums.1.1
  have hX := hR.X
  refine gTri.of (by decide +kernel) rfl ?_
  show gWP f_Desk_status _ _ _ 0 [(2, 0)] [] sh g _
  refine gw_aload_n (gc k_Desk_status_0 0 rfl) rfl rfl ?_
  refine gw_getf 13 rfl (gc k_Desk_status_0 1 rfl) fl_Desk_277 (by first | exact gAt hx rfl rfl) ?_
  refine gw_ireturn (gc k_Desk_status_0 2 rfl) rfl ?_
  exact dqQ.rf hR _
set_option maxHeartbeats 1000000 in
theorem c_Desk_best {sh : gS} {g : gM} (hx : gFix sh) (hf : gFin g) {Λ : Int → List PC} (hR : relR Λ sh g) (i : Int) (hi : (-2147483648 ≤ i ∧ i ≤ 2147483647)) : gTri f_Desk_best 7 0 0 [(2, 0), (0, i)] sh g (fun x s2 g2 => dqQ Λ sh g (0, voR (g 179) 0 i) x s2 g2) := by
  have hro := hR.ro
  have hm := ro_many hro
  have h0 := hR.X.nums.1.1
  have hX := hR.X
  refine gTri.of (by decide +kernel) rfl ?_
  show gWP f_Desk_best _ _ _ 0 [(2, 0), (0, i), (9, 0)] [] sh g _
  refine gw_iload_n (gc k_Desk_best_0 0 rfl) rfl ?_
  refine gw_iconst (gc k_Desk_best_0 1 rfl) ?_
  refine gw_icmp_eq (tgt := 18) (gc k_Desk_best_0 2 rfl) rfl (by omega) (fun c2 => ?_) (fun c2 => ?_)
  · refine gw_aload_n (gc k_Desk_best_0 10 rfl) rfl rfl ?_
    refine gw_getref (gc k_Desk_best_0 11 rfl) fl_Desk_37 (by first | exact gAt hx rfl rfl) (by first | exact gRf hf rfl rfl) ?_
    refine gw_aload_n (gc k_Desk_best_0 12 rfl) rfl rfl ?_
    refine gw_getref (gc k_Desk_best_0 13 rfl) fl_Desk_12 (by first | exact gAt hx rfl rfl) (by first | exact gRf hf rfl rfl) ?_
    refine gw_aload_n (gc k_Desk_best_0 14 rfl) rfl rfl ?_
    refine gw_getref (gc k_Desk_best_0 15 rfl) fl_Desk_12 (by first | exact gAt hx rfl rfl) (by first | exact gRf hf rfl rfl) ?_
    refine gw_cV1 (gc k_Desk_best_0 16 rfl) y_Board_lawInForce ln_Desk_193 (c_Board_lawInForce hx hf i1 (by have := hR.X.nums.2.2.1; omega) (by have := hR.X.nums.2.2.2; omega)) rfl rfl (by first | exact gAt hx rfl rfl) rfl rfl ?_
    refine gw_xV1 (gc k_Desk_best_0 17 rfl) y_Paper_leastCosts ln_Desk_197 (c_Paper_leastCosts hx hf i1 hX.bdN hX.lwP hR.S) rfl rfl (by first | exact gAt hx rfl rfl) rfl rfl (fun r33 sh2 g33 hq33 => ?_)
    obtain ⟨rfl, hsh, hK, hf3, hS3, hpk⟩ := hq33
    subst sh2
    have hf := hf3
    have hlo := lo_la hX.lwP hro (kp := 0) (by decide)
    have hlb := @loF_bd (g 179) 0
    rw [show laR (g 179) 0 (kF (g 179 39)) (kF (g 179 40)) = loF (g 179) 0 from hlo.1.symm]
    refine gw_istore_2 (gc k_Desk_best_0 18 rfl) rfl rfl ?_
    refine gw_iload_n (gc k_Desk_best_0 19 rfl) rfl ?_
    refine gw_iconst (gc k_Desk_best_0 20 rfl) ?_
    refine gw_icmp_eq (tgt := 47) (gc k_Desk_best_0 21 rfl) rfl (by omega) (fun c39 => ?_) (fun c39 => ?_)
    · refine gw_iload_n (gc k_Desk_best_0 25 rfl) rfl ?_
      refine gw_goto (tgt := 63) (gc k_Desk_best_0 26 rfl) rfl ?_
      refine gw_ireturn (gc k_Desk_best_0 33 rfl) rfl ?_
      have e : voR (g 179) 0 i = loF (g 179) 0 := by
        unfold voR
        rw [if_neg (by omega), if_pos (by omega)]
      rw [e]
      exact dqQ.pp ⟨hK.pf, hf, hS3⟩ _
    · refine gw_iload_n (gc k_Desk_best_0 22 rfl) rfl ?_
      refine gw_iconst (gc k_Desk_best_0 23 rfl) ?_
      refine gw_icmp_ne (tgt := 51) (gc k_Desk_best_0 24 rfl) rfl (by omega) (fun c44 => ?_) (fun c44 => ?_)
      · refine gw_aload_n (gc k_Desk_best_0 27 rfl) rfl rfl ?_
        refine gw_getref (gc k_Desk_best_0 28 rfl) fl_Desk_37 (by first | exact gAt hx rfl rfl) (by first | exact gRf hf rfl rfl) ?_
        refine gw_aload_n (gc k_Desk_best_0 29 rfl) rfl rfl ?_
        refine gw_getref (gc k_Desk_best_0 30 rfl) fl_Desk_12 (by first | exact gAt hx rfl rfl) (by first | exact gRf hf rfl rfl) ?_
        refine gw_iload_n (gc k_Desk_best_0 31 rfl) rfl ?_
        refine gw_cV1 (gc k_Desk_best_0 32 rfl) y_Paper_voice ln_Desk_201 (c_Paper_voice hx hf i1 (hK.pf.bdN i1 (by decide) hX.bdN) (hX.lwP.ext (fun x k hq => hK x k (by omega) (by omega) (by omega) (by unfold ppA; omega) (by omega) (by omega))) (kF_bd hro) hpk (hlo.2 c39 (by omega)) i (by omega)) rfl rfl (by first | exact gAt hx rfl rfl) rfl rfl ?_
        refine gw_ireturn (gc k_Desk_best_0 33 rfl) rfl ?_
        have e : voR (g 179) 0 i = vcK (g 179) 0 (kF (g 179 39)) (kF (g 179 40)) (i + 1).toNat := by
          unfold voR
          rw [if_neg (by omega), if_neg (by omega)]
          exact vc_vK hX.lwP hro (kp := 0) (by decide) c39 _ (by omega)
        rw [e]
        exact dqQ.pp ⟨hK.pf, hf, hS3⟩ _
      · refine gw_iload_n (gc k_Desk_best_0 25 rfl) rfl ?_
        refine gw_goto (tgt := 63) (gc k_Desk_best_0 26 rfl) rfl ?_
        refine gw_ireturn (gc k_Desk_best_0 33 rfl) rfl ?_
        have e : voR (g 179) 0 i = loF (g 179) 0 := by
          unfold voR
          rw [if_neg (by omega), if_pos (by omega)]
        rw [e]
        exact dqQ.pp ⟨hK.pf, hf, hS3⟩ _
  · refine gw_aload_n (gc k_Desk_best_0 3 rfl) rfl rfl ?_
    refine gw_getref (gc k_Desk_best_0 4 rfl) fl_Desk_12 (by first | exact gAt hx rfl rfl) (by first | exact gRf hf rfl rfl) ?_
    refine gw_iload_n (gc k_Desk_best_0 5 rfl) rfl ?_
    refine gw_cV1 (gc k_Desk_best_0 6 rfl) y_Board_has ln_Desk_106 (c_Board_has hx hf i1 i (by omega) (by omega)) rfl rfl (by first | exact gAt hx rfl rfl) rfl rfl ?_
    rw [h0]
    refine gw_bne (tgt := 18) (gc k_Desk_best_0 7 rfl) rfl (fun c13 => ?_) (fun c13 => ?_)
    · refine gw_aload_n (gc k_Desk_best_0 10 rfl) rfl rfl ?_
      refine gw_getref (gc k_Desk_best_0 11 rfl) fl_Desk_37 (by first | exact gAt hx rfl rfl) (by first | exact gRf hf rfl rfl) ?_
      refine gw_aload_n (gc k_Desk_best_0 12 rfl) rfl rfl ?_
      refine gw_getref (gc k_Desk_best_0 13 rfl) fl_Desk_12 (by first | exact gAt hx rfl rfl) (by first | exact gRf hf rfl rfl) ?_
      refine gw_aload_n (gc k_Desk_best_0 14 rfl) rfl rfl ?_
      refine gw_getref (gc k_Desk_best_0 15 rfl) fl_Desk_12 (by first | exact gAt hx rfl rfl) (by first | exact gRf hf rfl rfl) ?_
      refine gw_cV1 (gc k_Desk_best_0 16 rfl) y_Board_lawInForce ln_Desk_193 (c_Board_lawInForce hx hf i1 (by have := hR.X.nums.2.2.1; omega) (by have := hR.X.nums.2.2.2; omega)) rfl rfl (by first | exact gAt hx rfl rfl) rfl rfl ?_
      refine gw_xV1 (gc k_Desk_best_0 17 rfl) y_Paper_leastCosts ln_Desk_197 (c_Paper_leastCosts hx hf i1 hX.bdN hX.lwP hR.S) rfl rfl (by first | exact gAt hx rfl rfl) rfl rfl (fun r33 sh2 g33 hq33 => ?_)
      obtain ⟨rfl, hsh, hK, hf3, hS3, hpk⟩ := hq33
      subst sh2
      have hf := hf3
      have hlo := lo_la hX.lwP hro (kp := 0) (by decide)
      have hlb := @loF_bd (g 179) 0
      rw [show laR (g 179) 0 (kF (g 179 39)) (kF (g 179 40)) = loF (g 179) 0 from hlo.1.symm]
      refine gw_istore_2 (gc k_Desk_best_0 18 rfl) rfl rfl ?_
      refine gw_iload_n (gc k_Desk_best_0 19 rfl) rfl ?_
      refine gw_iconst (gc k_Desk_best_0 20 rfl) ?_
      refine gw_icmp_eq (tgt := 47) (gc k_Desk_best_0 21 rfl) rfl (by omega) (fun c39 => ?_) (fun c39 => ?_)
      · refine gw_iload_n (gc k_Desk_best_0 25 rfl) rfl ?_
        refine gw_goto (tgt := 63) (gc k_Desk_best_0 26 rfl) rfl ?_
        refine gw_ireturn (gc k_Desk_best_0 33 rfl) rfl ?_
        have e : voR (g 179) 0 i = loF (g 179) 0 := by
          unfold voR
          rw [if_neg (by omega), if_pos (by omega)]
        rw [e]
        exact dqQ.pp ⟨hK.pf, hf, hS3⟩ _
      · refine gw_iload_n (gc k_Desk_best_0 22 rfl) rfl ?_
        refine gw_iconst (gc k_Desk_best_0 23 rfl) ?_
        refine gw_icmp_ne (tgt := 51) (gc k_Desk_best_0 24 rfl) rfl (by omega) (fun c44 => ?_) (fun c44 => ?_)
        · refine gw_aload_n (gc k_Desk_best_0 27 rfl) rfl rfl ?_
          refine gw_getref (gc k_Desk_best_0 28 rfl) fl_Desk_37 (by first | exact gAt hx rfl rfl) (by first | exact gRf hf rfl rfl) ?_
          refine gw_aload_n (gc k_Desk_best_0 29 rfl) rfl rfl ?_
          refine gw_getref (gc k_Desk_best_0 30 rfl) fl_Desk_12 (by first | exact gAt hx rfl rfl) (by first | exact gRf hf rfl rfl) ?_
          refine gw_iload_n (gc k_Desk_best_0 31 rfl) rfl ?_
          refine gw_cV1 (gc k_Desk_best_0 32 rfl) y_Paper_voice ln_Desk_201 (c_Paper_voice hx hf i1 (hK.pf.bdN i1 (by decide) hX.bdN) (hX.lwP.ext (fun x k hq => hK x k (by omega) (by omega) (by omega) (by unfold ppA; omega) (by omega) (by omega))) (kF_bd hro) hpk (hlo.2 c39 (by omega)) i (by omega)) rfl rfl (by first | exact gAt hx rfl rfl) rfl rfl ?_
          refine gw_ireturn (gc k_Desk_best_0 33 rfl) rfl ?_
          have e : voR (g 179) 0 i = vcK (g 179) 0 (kF (g 179 39)) (kF (g 179 40)) (i + 1).toNat := by
            unfold voR
            rw [if_neg (by omega), if_neg (by omega)]
            exact vc_vK hX.lwP hro (kp := 0) (by decide) c39 _ (by omega)
          rw [e]
          exact dqQ.pp ⟨hK.pf, hf, hS3⟩ _
        · refine gw_iload_n (gc k_Desk_best_0 25 rfl) rfl ?_
          refine gw_goto (tgt := 63) (gc k_Desk_best_0 26 rfl) rfl ?_
          refine gw_ireturn (gc k_Desk_best_0 33 rfl) rfl ?_
          have e : voR (g 179) 0 i = loF (g 179) 0 := by
            unfold voR
            rw [if_neg (by omega), if_pos (by omega)]
          rw [e]
          exact dqQ.pp ⟨hK.pf, hf, hS3⟩ _
    · refine gw_iconst (gc k_Desk_best_0 8 rfl) ?_
      refine gw_ireturn (gc k_Desk_best_0 9 rfl) rfl ?_
      have e : voR (g 179) 0 i = -1 := by
        unfold voR; rw [if_pos (by omega)]
      rw [e]
      exact dqQ.rf hR _
set_option maxHeartbeats 1000000 in
theorem c_Desk_mend {sh : gS} {g : gM} (hx : gFix sh) (hf : gFin g) {Λ : Int → List PC} (hR : relR Λ sh g) (i : Int) (hi : (-2147483648 ≤ i ∧ i ≤ 2147483647)) : gTri f_Desk_mend 7 0 0 [(2, 0), (0, i)] sh g (fun x s2 g2 => dqQ Λ sh g (0, voR (g 179) 1 i) x s2 g2) := by
  have hro := hR.ro
  have hm := ro_many hro
  have h0 := hR.X.nums.1.1
  have hX := hR.X
  refine gTri.of (by decide +kernel) rfl ?_
  show gWP f_Desk_mend _ _ _ 0 [(2, 0), (0, i), (9, 0)] [] sh g _
  refine gw_iload_n (gc k_Desk_mend_0 0 rfl) rfl ?_
  refine gw_iconst (gc k_Desk_mend_0 1 rfl) ?_
  refine gw_icmp_eq (tgt := 18) (gc k_Desk_mend_0 2 rfl) rfl (by omega) (fun c2 => ?_) (fun c2 => ?_)
  · refine gw_aload_n (gc k_Desk_mend_0 10 rfl) rfl rfl ?_
    refine gw_getref (gc k_Desk_mend_0 11 rfl) fl_Desk_37 (by first | exact gAt hx rfl rfl) (by first | exact gRf hf rfl rfl) ?_
    refine gw_aload_n (gc k_Desk_mend_0 12 rfl) rfl rfl ?_
    refine gw_getref (gc k_Desk_mend_0 13 rfl) fl_Desk_12 (by first | exact gAt hx rfl rfl) (by first | exact gRf hf rfl rfl) ?_
    refine gw_aload_n (gc k_Desk_mend_0 14 rfl) rfl rfl ?_
    refine gw_getref (gc k_Desk_mend_0 15 rfl) fl_Desk_12 (by first | exact gAt hx rfl rfl) (by first | exact gRf hf rfl rfl) ?_
    refine gw_cV1 (gc k_Desk_mend_0 16 rfl) y_Board_lawInForce ln_Desk_193 (c_Board_lawInForce hx hf i1 (by have := hR.X.nums.2.2.1; omega) (by have := hR.X.nums.2.2.2; omega)) rfl rfl (by first | exact gAt hx rfl rfl) rfl rfl ?_
    refine gw_xV1 (gc k_Desk_mend_0 17 rfl) y_Paper_leastMended ln_Desk_215 (c_Paper_leastMended hx hf i1 hX.bdN hX.lwP hR.S) rfl rfl (by first | exact gAt hx rfl rfl) rfl rfl (fun r33 sh2 g33 hq33 => ?_)
    obtain ⟨rfl, hsh, hK, hf3, hS3, hpk⟩ := hq33
    subst sh2
    have hf := hf3
    have hlo := lo_la hX.lwP hro (kp := 1) (by decide)
    have hlb := @loF_bd (g 179) 1
    rw [show laR (g 179) 3 (kF (g 179 39)) (kF (g 179 40)) = loF (g 179) 1 from hlo.1.symm]
    refine gw_istore_2 (gc k_Desk_mend_0 18 rfl) rfl rfl ?_
    refine gw_iload_n (gc k_Desk_mend_0 19 rfl) rfl ?_
    refine gw_iconst (gc k_Desk_mend_0 20 rfl) ?_
    refine gw_icmp_eq (tgt := 47) (gc k_Desk_mend_0 21 rfl) rfl (by omega) (fun c39 => ?_) (fun c39 => ?_)
    · refine gw_iload_n (gc k_Desk_mend_0 25 rfl) rfl ?_
      refine gw_goto (tgt := 63) (gc k_Desk_mend_0 26 rfl) rfl ?_
      refine gw_ireturn (gc k_Desk_mend_0 33 rfl) rfl ?_
      have e : voR (g 179) 1 i = loF (g 179) 1 := by
        unfold voR
        rw [if_neg (by omega), if_pos (by omega)]
      rw [e]
      exact dqQ.pp ⟨hK.pf, hf, hS3⟩ _
    · refine gw_iload_n (gc k_Desk_mend_0 22 rfl) rfl ?_
      refine gw_iconst (gc k_Desk_mend_0 23 rfl) ?_
      refine gw_icmp_ne (tgt := 51) (gc k_Desk_mend_0 24 rfl) rfl (by omega) (fun c44 => ?_) (fun c44 => ?_)
      · refine gw_aload_n (gc k_Desk_mend_0 27 rfl) rfl rfl ?_
        refine gw_getref (gc k_Desk_mend_0 28 rfl) fl_Desk_37 (by first | exact gAt hx rfl rfl) (by first | exact gRf hf rfl rfl) ?_
        refine gw_aload_n (gc k_Desk_mend_0 29 rfl) rfl rfl ?_
        refine gw_getref (gc k_Desk_mend_0 30 rfl) fl_Desk_12 (by first | exact gAt hx rfl rfl) (by first | exact gRf hf rfl rfl) ?_
        refine gw_iload_n (gc k_Desk_mend_0 31 rfl) rfl ?_
        refine gw_cV1 (gc k_Desk_mend_0 32 rfl) y_Paper_voice ln_Desk_201 (c_Paper_voice hx hf i1 (hK.pf.bdN i1 (by decide) hX.bdN) (hX.lwP.ext (fun x k hq => hK x k (by omega) (by omega) (by omega) (by unfold ppA; omega) (by omega) (by omega))) (kF_bd hro) hpk (hlo.2 c39 (by omega)) i (by omega)) rfl rfl (by first | exact gAt hx rfl rfl) rfl rfl ?_
        refine gw_ireturn (gc k_Desk_mend_0 33 rfl) rfl ?_
        have e : voR (g 179) 1 i = vcK (g 179) 3 (kF (g 179 39)) (kF (g 179 40)) (i + 1).toNat := by
          unfold voR
          rw [if_neg (by omega), if_neg (by omega)]
          exact vc_vK hX.lwP hro (kp := 1) (by decide) c39 _ (by omega)
        rw [e]
        exact dqQ.pp ⟨hK.pf, hf, hS3⟩ _
      · refine gw_iload_n (gc k_Desk_mend_0 25 rfl) rfl ?_
        refine gw_goto (tgt := 63) (gc k_Desk_mend_0 26 rfl) rfl ?_
        refine gw_ireturn (gc k_Desk_mend_0 33 rfl) rfl ?_
        have e : voR (g 179) 1 i = loF (g 179) 1 := by
          unfold voR
          rw [if_neg (by omega), if_pos (by omega)]
        rw [e]
        exact dqQ.pp ⟨hK.pf, hf, hS3⟩ _
  · refine gw_aload_n (gc k_Desk_mend_0 3 rfl) rfl rfl ?_
    refine gw_getref (gc k_Desk_mend_0 4 rfl) fl_Desk_12 (by first | exact gAt hx rfl rfl) (by first | exact gRf hf rfl rfl) ?_
    refine gw_iload_n (gc k_Desk_mend_0 5 rfl) rfl ?_
    refine gw_cV1 (gc k_Desk_mend_0 6 rfl) y_Board_has ln_Desk_106 (c_Board_has hx hf i1 i (by omega) (by omega)) rfl rfl (by first | exact gAt hx rfl rfl) rfl rfl ?_
    rw [h0]
    refine gw_bne (tgt := 18) (gc k_Desk_mend_0 7 rfl) rfl (fun c13 => ?_) (fun c13 => ?_)
    · refine gw_aload_n (gc k_Desk_mend_0 10 rfl) rfl rfl ?_
      refine gw_getref (gc k_Desk_mend_0 11 rfl) fl_Desk_37 (by first | exact gAt hx rfl rfl) (by first | exact gRf hf rfl rfl) ?_
      refine gw_aload_n (gc k_Desk_mend_0 12 rfl) rfl rfl ?_
      refine gw_getref (gc k_Desk_mend_0 13 rfl) fl_Desk_12 (by first | exact gAt hx rfl rfl) (by first | exact gRf hf rfl rfl) ?_
      refine gw_aload_n (gc k_Desk_mend_0 14 rfl) rfl rfl ?_
      refine gw_getref (gc k_Desk_mend_0 15 rfl) fl_Desk_12 (by first | exact gAt hx rfl rfl) (by first | exact gRf hf rfl rfl) ?_
      refine gw_cV1 (gc k_Desk_mend_0 16 rfl) y_Board_lawInForce ln_Desk_193 (c_Board_lawInForce hx hf i1 (by have := hR.X.nums.2.2.1; omega) (by have := hR.X.nums.2.2.2; omega)) rfl rfl (by first | exact gAt hx rfl rfl) rfl rfl ?_
      refine gw_xV1 (gc k_Desk_mend_0 17 rfl) y_Paper_leastMended ln_Desk_215 (c_Paper_leastMended hx hf i1 hX.bdN hX.lwP hR.S) rfl rfl (by first | exact gAt hx rfl rfl) rfl rfl (fun r33 sh2 g33 hq33 => ?_)
      obtain ⟨rfl, hsh, hK, hf3, hS3, hpk⟩ := hq33
      subst sh2
      have hf := hf3
      have hlo := lo_la hX.lwP hro (kp := 1) (by decide)
      have hlb := @loF_bd (g 179) 1
      rw [show laR (g 179) 3 (kF (g 179 39)) (kF (g 179 40)) = loF (g 179) 1 from hlo.1.symm]
      refine gw_istore_2 (gc k_Desk_mend_0 18 rfl) rfl rfl ?_
      refine gw_iload_n (gc k_Desk_mend_0 19 rfl) rfl ?_
      refine gw_iconst (gc k_Desk_mend_0 20 rfl) ?_
      refine gw_icmp_eq (tgt := 47) (gc k_Desk_mend_0 21 rfl) rfl (by omega) (fun c39 => ?_) (fun c39 => ?_)
      · refine gw_iload_n (gc k_Desk_mend_0 25 rfl) rfl ?_
        refine gw_goto (tgt := 63) (gc k_Desk_mend_0 26 rfl) rfl ?_
        refine gw_ireturn (gc k_Desk_mend_0 33 rfl) rfl ?_
        have e : voR (g 179) 1 i = loF (g 179) 1 := by
          unfold voR
          rw [if_neg (by omega), if_pos (by omega)]
        rw [e]
        exact dqQ.pp ⟨hK.pf, hf, hS3⟩ _
      · refine gw_iload_n (gc k_Desk_mend_0 22 rfl) rfl ?_
        refine gw_iconst (gc k_Desk_mend_0 23 rfl) ?_
        refine gw_icmp_ne (tgt := 51) (gc k_Desk_mend_0 24 rfl) rfl (by omega) (fun c44 => ?_) (fun c44 => ?_)
        · refine gw_aload_n (gc k_Desk_mend_0 27 rfl) rfl rfl ?_
          refine gw_getref (gc k_Desk_mend_0 28 rfl) fl_Desk_37 (by first | exact gAt hx rfl rfl) (by first | exact gRf hf rfl rfl) ?_
          refine gw_aload_n (gc k_Desk_mend_0 29 rfl) rfl rfl ?_
          refine gw_getref (gc k_Desk_mend_0 30 rfl) fl_Desk_12 (by first | exact gAt hx rfl rfl) (by first | exact gRf hf rfl rfl) ?_
          refine gw_iload_n (gc k_Desk_mend_0 31 rfl) rfl ?_
          refine gw_cV1 (gc k_Desk_mend_0 32 rfl) y_Paper_voice ln_Desk_201 (c_Paper_voice hx hf i1 (hK.pf.bdN i1 (by decide) hX.bdN) (hX.lwP.ext (fun x k hq => hK x k (by omega) (by omega) (by omega) (by unfold ppA; omega) (by omega) (by omega))) (kF_bd hro) hpk (hlo.2 c39 (by omega)) i (by omega)) rfl rfl (by first | exact gAt hx rfl rfl) rfl rfl ?_
          refine gw_ireturn (gc k_Desk_mend_0 33 rfl) rfl ?_
          have e : voR (g 179) 1 i = vcK (g 179) 3 (kF (g 179 39)) (kF (g 179 40)) (i + 1).toNat := by
            unfold voR
            rw [if_neg (by omega), if_neg (by omega)]
            exact vc_vK hX.lwP hro (kp := 1) (by decide) c39 _ (by omega)
          rw [e]
          exact dqQ.pp ⟨hK.pf, hf, hS3⟩ _
        · refine gw_iload_n (gc k_Desk_mend_0 25 rfl) rfl ?_
          refine gw_goto (tgt := 63) (gc k_Desk_mend_0 26 rfl) rfl ?_
          refine gw_ireturn (gc k_Desk_mend_0 33 rfl) rfl ?_
          have e : voR (g 179) 1 i = loF (g 179) 1 := by
            unfold voR
            rw [if_neg (by omega), if_pos (by omega)]
          rw [e]
          exact dqQ.pp ⟨hK.pf, hf, hS3⟩ _
    · refine gw_iconst (gc k_Desk_mend_0 8 rfl) ?_
      refine gw_ireturn (gc k_Desk_mend_0 9 rfl) rfl ?_
      have e : voR (g 179) 1 i = -1 := by
        unfold voR; rw [if_pos (by omega)]
      rw [e]
      exact dqQ.rf hR _
set_option maxHeartbeats 1000000 in
theorem c_Desk_between {sh : gS} {g : gM} (hx : gFix sh) (hf : gFin g) {Λ : Int → List PC} (hR : relR Λ sh g) (p : Int) (q : Int) (hp : (-2147483648 ≤ p ∧ p ≤ 2147483647)) (hq : (-2147483648 ≤ q ∧ q ≤ 2147483647)) : gTri f_Desk_between 7 0 0 [(2, 0), (0, p), (0, q)] sh g (fun x s2 g2 => dqQ Λ sh g (0, beR (g 179) p q) x s2 g2) := by
  have hro := hR.ro
  have hm := ro_many hro
  have h0 := hR.X.nums.1.1
  have hX := hR.X
  refine gTri.of (by decide +kernel) rfl ?_
  show gWP f_Desk_between _ _ _ 0 [(2, 0), (0, p), (0, q)] [] sh g _
  refine gw_aload_n (gc k_Desk_between_0 0 rfl) rfl rfl ?_
  refine gw_getref (gc k_Desk_between_0 1 rfl) fl_Desk_12 (by first | exact gAt hx rfl rfl) (by first | exact gRf hf rfl rfl) ?_
  refine gw_getf 0 rfl (gc k_Desk_between_0 2 rfl) fl_Desk_103 (by first | exact gAt hx rfl rfl) ?_
  rw [h0]
  refine gw_if_ne (tgt := 12) (gc k_Desk_between_0 3 rfl) rfl (by omega) (fun c7 => ?_) (fun c7 => ?_)
  · refine gw_aload_n (gc k_Desk_between_0 6 rfl) rfl rfl ?_
    refine gw_getref (gc k_Desk_between_0 7 rfl) fl_Desk_37 (by first | exact gAt hx rfl rfl) (by first | exact gRf hf rfl rfl) ?_
    refine gw_aload_n (gc k_Desk_between_0 8 rfl) rfl rfl ?_
    refine gw_getref (gc k_Desk_between_0 9 rfl) fl_Desk_12 (by first | exact gAt hx rfl rfl) (by first | exact gRf hf rfl rfl) ?_
    refine gw_aload_n (gc k_Desk_between_0 10 rfl) rfl rfl ?_
    refine gw_getref (gc k_Desk_between_0 11 rfl) fl_Desk_12 (by first | exact gAt hx rfl rfl) (by first | exact gRf hf rfl rfl) ?_
    refine gw_cV1 (gc k_Desk_between_0 12 rfl) y_Board_lawInForce ln_Desk_193 (c_Board_lawInForce hx hf i1 (by have := hR.X.nums.2.2.1; omega) (by have := hR.X.nums.2.2.2; omega)) rfl rfl (by first | exact gAt hx rfl rfl) rfl rfl ?_
    refine gw_iload_n (gc k_Desk_between_0 13 rfl) rfl ?_
    refine gw_iload_n (gc k_Desk_between_0 14 rfl) rfl ?_
    refine gw_xV1 (gc k_Desk_between_0 15 rfl) y_Paper_leastBetween ln_Desk_204 (c_Paper_leastBetween hx hf i1 hX.bdN hX.lwP hR.S p q (by omega) (by omega)) rfl rfl (by first | exact gAt hx rfl rfl) rfl rfl (fun r29 sh2 g29 hq29 => ?_)
    obtain ⟨rfl, hsh, hQ⟩ := hq29
    subst sh2
    refine gw_ireturn (gc k_Desk_between_0 16 rfl) rfl ?_
    have e : beR (g 179) p q = bwR (g 179) p q := (bw_be hX.lwP hro p q).symm
    rw [e]
    exact dqQ.pp hQ _
  · refine gw_iconst (gc k_Desk_between_0 4 rfl) ?_
    refine gw_ireturn (gc k_Desk_between_0 5 rfl) rfl ?_
    have e : beR (g 179) p q = -1 := by
      unfold beR; rw [if_neg (fun z => z.1 c7)]
    rw [e]
    exact dqQ.rf hR _
set_option maxHeartbeats 1000000 in
theorem c_Desk_richest {sh : gS} {g : gM} (hx : gFix sh) (hf : gFin g) {Λ : Int → List PC} (hR : relR Λ sh g) : gTri f_Desk_richest 7 0 0 [(2, 0)] sh g (fun x s2 g2 => dqQ Λ sh g (0, riR (g 179)) x s2 g2) := by
  have hro := hR.ro
  have hm := ro_many hro
  have h0 := hR.X.nums.1.1
  have hX := hR.X
  refine gTri.of (by decide +kernel) rfl ?_
  show gWP f_Desk_richest _ _ _ 0 [(2, 0)] [] sh g _
  refine gw_aload_n (gc k_Desk_richest_0 0 rfl) rfl rfl ?_
  refine gw_getref (gc k_Desk_richest_0 1 rfl) fl_Desk_37 (by first | exact gAt hx rfl rfl) (by first | exact gRf hf rfl rfl) ?_
  refine gw_aload_n (gc k_Desk_richest_0 2 rfl) rfl rfl ?_
  refine gw_getref (gc k_Desk_richest_0 3 rfl) fl_Desk_12 (by first | exact gAt hx rfl rfl) (by first | exact gRf hf rfl rfl) ?_
  refine gw_aload_n (gc k_Desk_richest_0 4 rfl) rfl rfl ?_
  refine gw_getref (gc k_Desk_richest_0 5 rfl) fl_Desk_12 (by first | exact gAt hx rfl rfl) (by first | exact gRf hf rfl rfl) ?_
  refine gw_cV1 (gc k_Desk_richest_0 6 rfl) y_Board_lawInForce ln_Desk_193 (c_Board_lawInForce hx hf i1 (by have := hR.X.nums.2.2.1; omega) (by have := hR.X.nums.2.2.2; omega)) rfl rfl (by first | exact gAt hx rfl rfl) rfl rfl ?_
  refine gw_xV1 (gc k_Desk_richest_0 7 rfl) y_Paper_mostEarned ln_Desk_208 (c_Paper_mostEarned hx hf i1 hX.bdN hX.lwP hR.S) rfl rfl (by first | exact gAt hx rfl rfl) rfl rfl (fun r15 sh2 g15 hq15 => ?_)
  obtain ⟨rfl, hsh, hQ⟩ := hq15
  subst sh2
  refine gw_ireturn (gc k_Desk_richest_0 8 rfl) rfl ?_
  have e : riR (g 179) = meR (g 179) := (me_ri hX.lwP hro).symm
  rw [e]
  exact dqQ.pp hQ _
set_option maxHeartbeats 1000000 in
theorem c_Desk_ways {sh : gS} {g : gM} (hx : gFix sh) (hf : gFin g) {Λ : Int → List PC} (hR : relR Λ sh g) : gTri f_Desk_ways 6 0 0 [(2, 0)] sh g (fun x s2 g2 => dqQ Λ sh g (1, waR (g 179)) x s2 g2) := by
  have hro := hR.ro
  have hm := ro_many hro
  have h0 := hR.X.nums.1.1
  have hX := hR.X
  refine gTri.of (by decide +kernel) rfl ?_
  show gWP f_Desk_ways _ _ _ 0 [(2, 0)] [] sh g _
  refine gw_aload_n (gc k_Desk_ways_0 0 rfl) rfl rfl ?_
  refine gw_getref (gc k_Desk_ways_0 1 rfl) fl_Desk_37 (by first | exact gAt hx rfl rfl) (by first | exact gRf hf rfl rfl) ?_
  refine gw_aload_n (gc k_Desk_ways_0 2 rfl) rfl rfl ?_
  refine gw_getref (gc k_Desk_ways_0 3 rfl) fl_Desk_12 (by first | exact gAt hx rfl rfl) (by first | exact gRf hf rfl rfl) ?_
  refine gw_aload_n (gc k_Desk_ways_0 4 rfl) rfl rfl ?_
  refine gw_getref (gc k_Desk_ways_0 5 rfl) fl_Desk_12 (by first | exact gAt hx rfl rfl) (by first | exact gRf hf rfl rfl) ?_
  refine gw_cV1 (gc k_Desk_ways_0 6 rfl) y_Board_lawInForce ln_Desk_193 (c_Board_lawInForce hx hf i1 (by have := hR.X.nums.2.2.1; omega) (by have := hR.X.nums.2.2.2; omega)) rfl rfl (by first | exact gAt hx rfl rfl) rfl rfl ?_
  refine gw_xV1 (gc k_Desk_ways_0 7 rfl) y_Paper_howMany ln_Desk_211 (c_Paper_howMany hx hf i1 hX.bdN hX.lwP hR.S) rfl rfl (by first | exact gAt hx rfl rfl) rfl rfl (fun r15 sh2 g15 hq15 => ?_)
  obtain ⟨rfl, hsh, hQ⟩ := hq15
  subst sh2
  refine gw_lreturn (gc k_Desk_ways_0 8 rfl) rfl ?_
  exact dqQ.pp hQ _
set_option maxHeartbeats 1000000 in
theorem c_Desk_compass {sh : gS} {g : gM} (hx : gFix sh) (hf : gFin g) {Λ : Int → List PC} (hR : relR Λ sh g) (k : Int) (hk : (-2147483648 ≤ k ∧ k ≤ 2147483647)) : gTri f_Desk_compass 7 0 0 [(2, 0), (0, k)] sh g (fun x s2 g2 => dqQ Λ sh g (0, comR (g 179) k) x s2 g2) := by
  have hro := hR.ro
  have hm := ro_many hro
  have h0 := hR.X.nums.1.1
  have hX := hR.X
  refine gTri.of (by decide +kernel) rfl ?_
  show gWP f_Desk_compass _ _ _ 0 [(2, 0), (0, k), (9, 0)] [] sh g _
  refine gw_iload_n (gc k_Desk_compass_0 0 rfl) rfl ?_
  refine gw_if_lt (tgt := 9) (gc k_Desk_compass_0 1 rfl) rfl (by omega) (fun c1 => ?_) (fun c1 => ?_)
  · refine gw_iconst (gc k_Desk_compass_0 5 rfl) ?_
    refine gw_ireturn (gc k_Desk_compass_0 6 rfl) rfl ?_
    have e : comR (g 179) k = -1 := comR_out (by omega)
    rw [e]
    exact dqQ.rf hR _
  · refine gw_iload_n (gc k_Desk_compass_0 2 rfl) rfl ?_
    refine gw_iconst (gc k_Desk_compass_0 3 rfl) ?_
    refine gw_icmp_le (tgt := 11) (gc k_Desk_compass_0 4 rfl) rfl (by omega) (fun c6 => ?_) (fun c6 => ?_)
    · refine gw_aload_n (gc k_Desk_compass_0 7 rfl) rfl rfl ?_
      refine gw_getref (gc k_Desk_compass_0 8 rfl) fl_Desk_37 (by first | exact gAt hx rfl rfl) (by first | exact gRf hf rfl rfl) ?_
      refine gw_aload_n (gc k_Desk_compass_0 9 rfl) rfl rfl ?_
      refine gw_getref (gc k_Desk_compass_0 10 rfl) fl_Desk_12 (by first | exact gAt hx rfl rfl) (by first | exact gRf hf rfl rfl) ?_
      refine gw_aload_n (gc k_Desk_compass_0 11 rfl) rfl rfl ?_
      refine gw_getref (gc k_Desk_compass_0 12 rfl) fl_Desk_12 (by first | exact gAt hx rfl rfl) (by first | exact gRf hf rfl rfl) ?_
      refine gw_cV1 (gc k_Desk_compass_0 13 rfl) y_Board_lawInForce ln_Desk_193 (c_Board_lawInForce hx hf i1 (by have := hR.X.nums.2.2.1; omega) (by have := hR.X.nums.2.2.2; omega)) rfl rfl (by first | exact gAt hx rfl rfl) rfl rfl ?_
      refine gw_xV1 (gc k_Desk_compass_0 14 rfl) y_Paper_narrowest ln_Desk_218 (c_Paper_narrowest hx hf i1 hX.bdN hX.lwP hR.S) rfl rfl (by first | exact gAt hx rfl rfl) rfl rfl (fun r26 sh2 g26 hq26 => ?_)
      obtain ⟨rfl, hsh, hQ, hnl⟩ := hq26
      subst sh2
      have hf := hQ.2.1
      have hcb : -1 ≤ comR (g 179) 0 ∧ comR (g 179) 0 ≤ 2147483647 := comR_bd _ 0 hro
      refine gw_istore_2 (gc k_Desk_compass_0 15 rfl) rfl rfl ?_
      refine gw_iload_n (gc k_Desk_compass_0 16 rfl) rfl ?_
      refine gw_iconst (gc k_Desk_compass_0 17 rfl) ?_
      refine gw_icmp_eq (tgt := 39) (gc k_Desk_compass_0 18 rfl) rfl (by omega) (fun c32 => ?_) (fun c32 => ?_)
      · refine gw_iload_n (gc k_Desk_compass_0 21 rfl) rfl ?_
        refine gw_goto (tgt := 50) (gc k_Desk_compass_0 22 rfl) rfl ?_
        refine gw_ireturn (gc k_Desk_compass_0 26 rfl) rfl ?_
        have e : comR (g 179) k = comR (g 179) 0 := by
          by_cases z : k = 0
          · rw [z]
          · rw [show k = 1 by omega, comR_no c32, c32]
        rw [e]
        exact dqQ.pp hQ _
      · refine gw_iload_n (gc k_Desk_compass_0 19 rfl) rfl ?_
        refine gw_if_ne (tgt := 43) (gc k_Desk_compass_0 20 rfl) rfl (by omega) (fun c36 => ?_) (fun c36 => ?_)
        · refine gw_aload_n (gc k_Desk_compass_0 23 rfl) rfl rfl ?_
          refine gw_getref (gc k_Desk_compass_0 24 rfl) fl_Desk_37 (by first | exact gAt hx rfl rfl) (by first | exact gRf hf rfl rfl) ?_
          refine gw_getf 0 rfl (gc k_Desk_compass_0 25 rfl) fl_Desk_221 (by first | exact gAt hx rfl rfl) ?_
          refine gw_ireturn (gc k_Desk_compass_0 26 rfl) rfl ?_
          have e : comR (g 179) k = g26 31 0 := by
            rw [hnl c32, show k = 1 by omega]
          rw [e]
          exact dqQ.pp hQ _
        · refine gw_iload_n (gc k_Desk_compass_0 21 rfl) rfl ?_
          refine gw_goto (tgt := 50) (gc k_Desk_compass_0 22 rfl) rfl ?_
          refine gw_ireturn (gc k_Desk_compass_0 26 rfl) rfl ?_
          have e : comR (g 179) k = comR (g 179) 0 := by
            rw [c36]
          rw [e]
          exact dqQ.pp hQ _
    · refine gw_iconst (gc k_Desk_compass_0 5 rfl) ?_
      refine gw_ireturn (gc k_Desk_compass_0 6 rfl) rfl ?_
      have e : comR (g 179) k = -1 := comR_out (by omega)
      rw [e]
      exact dqQ.rf hR _
set_option maxHeartbeats 1000000 in
theorem c_Desk_cheapest {sh : gS} {g : gM} (hx : gFix sh) (hf : gFin g) {Λ : Int → List PC} (hR : relR Λ sh g) (n : Int) (k : Int) (hn : (-2147483648 ≤ n ∧ n ≤ 2147483647)) (hk : (-2147483648 ≤ k ∧ k ≤ 2147483647)) : gTri f_Desk_cheapest 8 0 0 [(2, 0), (0, n), (0, k)] sh g (fun x s2 g2 => dqQ Λ sh g (0, chR (g 179) n k) x s2 g2) := by
  have hro := hR.ro
  have hm := ro_many hro
  have h0 := hR.X.nums.1.1
  have hX := hR.X
  refine gTri.of (by decide +kernel) rfl ?_
  show gWP f_Desk_cheapest _ _ _ 0 [(2, 0), (0, n), (0, k), (9, 0)] [] sh g _
  refine gw_aload_n (gc k_Desk_cheapest_0 0 rfl) rfl rfl ?_
  refine gw_getref (gc k_Desk_cheapest_0 1 rfl) fl_Desk_12 (by first | exact gAt hx rfl rfl) (by first | exact gRf hf rfl rfl) ?_
  refine gw_iload_n (gc k_Desk_cheapest_0 2 rfl) rfl ?_
  refine gw_cV1 (gc k_Desk_cheapest_0 3 rfl) y_Board_has ln_Desk_106 (c_Board_has hx hf i1 n (by omega) (by omega)) rfl rfl (by first | exact gAt hx rfl rfl) rfl rfl ?_
  rw [h0]
  refine gw_beq (tgt := 20) (gc k_Desk_cheapest_0 4 rfl) rfl (fun c8 => ?_) (fun c8 => ?_)
  · refine gw_iconst (gc k_Desk_cheapest_0 10 rfl) ?_
    refine gw_ireturn (gc k_Desk_cheapest_0 11 rfl) rfl ?_
    have e : chR (g 179) n k = -1 := by
      unfold chR; rw [if_neg (by omega)]
    rw [e]
    exact dqQ.rf hR _
  · refine gw_iload_n (gc k_Desk_cheapest_0 5 rfl) rfl ?_
    refine gw_if_lt (tgt := 20) (gc k_Desk_cheapest_0 6 rfl) rfl (by omega) (fun c12 => ?_) (fun c12 => ?_)
    · refine gw_iconst (gc k_Desk_cheapest_0 10 rfl) ?_
      refine gw_ireturn (gc k_Desk_cheapest_0 11 rfl) rfl ?_
      have e : chR (g 179) n k = -1 := by
        unfold chR; rw [if_neg (by omega)]
      rw [e]
      exact dqQ.rf hR _
    · refine gw_iload_n (gc k_Desk_cheapest_0 7 rfl) rfl ?_
      refine gw_iconst (gc k_Desk_cheapest_0 8 rfl) ?_
      refine gw_icmp_le (tgt := 22) (gc k_Desk_cheapest_0 9 rfl) rfl (by omega) (fun c17 => ?_) (fun c17 => ?_)
      · refine gw_aload_n (gc k_Desk_cheapest_0 12 rfl) rfl rfl ?_
        refine gw_getref (gc k_Desk_cheapest_0 13 rfl) fl_Desk_37 (by first | exact gAt hx rfl rfl) (by first | exact gRf hf rfl rfl) ?_
        refine gw_aload_n (gc k_Desk_cheapest_0 14 rfl) rfl rfl ?_
        refine gw_getref (gc k_Desk_cheapest_0 15 rfl) fl_Desk_12 (by first | exact gAt hx rfl rfl) (by first | exact gRf hf rfl rfl) ?_
        refine gw_iload_n (gc k_Desk_cheapest_0 16 rfl) rfl ?_
        refine gw_xV1 (gc k_Desk_cheapest_0 17 rfl) y_Paper_cheapestUnder ln_Desk_224 (c_Paper_cheapestUnder hx hf i1 (by decide) hX hR.2.1.2 hR.S n (by omega)) rfl rfl (by first | exact gAt hx rfl rfl) rfl rfl (fun r31 sh2 g31 hq31 => ?_)
        obtain ⟨rfl, hsh, hQ, hcc⟩ := hq31
        subst sh2
        have hf := hQ.2.1
        have hcb := (chF_bd (f := chT (g 179) n) (fun p => chT_bd2 (g 179) n p) 25).1
        refine gw_istore_3 (gc k_Desk_cheapest_0 18 rfl) rfl rfl ?_
        refine gw_iload_n (gc k_Desk_cheapest_0 19 rfl) rfl ?_
        refine gw_iconst (gc k_Desk_cheapest_0 20 rfl) ?_
        refine gw_icmp_eq (tgt := 44) (gc k_Desk_cheapest_0 21 rfl) rfl (by omega) (fun c37 => ?_) (fun c37 => ?_)
        · refine gw_iload_n (gc k_Desk_cheapest_0 24 rfl) rfl ?_
          refine gw_goto (tgt := 55) (gc k_Desk_cheapest_0 25 rfl) rfl ?_
          refine gw_ireturn (gc k_Desk_cheapest_0 29 rfl) rfl ?_
          have e : chR (g 179) n k = (chF (chT (g 179) n) 25).1 := by
            unfold chR; rw [if_pos (by omega), if_pos (by omega)]
          rw [e]
          exact dqQ.pp hQ _
        · refine gw_iload_n (gc k_Desk_cheapest_0 22 rfl) rfl ?_
          refine gw_if_ne (tgt := 48) (gc k_Desk_cheapest_0 23 rfl) rfl (by omega) (fun c41 => ?_) (fun c41 => ?_)
          · refine gw_aload_n (gc k_Desk_cheapest_0 26 rfl) rfl rfl ?_
            refine gw_getref (gc k_Desk_cheapest_0 27 rfl) fl_Desk_37 (by first | exact gAt hx rfl rfl) (by first | exact gRf hf rfl rfl) ?_
            refine gw_getf 1 rfl (gc k_Desk_cheapest_0 28 rfl) fl_Desk_227 (by first | exact gAt hx rfl rfl) ?_
            refine gw_ireturn (gc k_Desk_cheapest_0 29 rfl) rfl ?_
            have e : chR (g 179) n k = g31 31 1 := by
              unfold chR; rw [if_pos (by omega), if_neg (by omega)]; exact (hcc c37).symm
            rw [e]
            exact dqQ.pp hQ _
          · refine gw_iload_n (gc k_Desk_cheapest_0 24 rfl) rfl ?_
            refine gw_goto (tgt := 55) (gc k_Desk_cheapest_0 25 rfl) rfl ?_
            refine gw_ireturn (gc k_Desk_cheapest_0 29 rfl) rfl ?_
            have e : chR (g 179) n k = (chF (chT (g 179) n) 25).1 := by
              unfold chR; rw [if_pos (by omega), if_pos (by omega)]
            rw [e]
            exact dqQ.pp hQ _
      · refine gw_iconst (gc k_Desk_cheapest_0 10 rfl) ?_
        refine gw_ireturn (gc k_Desk_cheapest_0 11 rfl) rfl ?_
        have e : chR (g 179) n k = -1 := by
          unfold chR; rw [if_neg (by omega)]
        rw [e]
        exact dqQ.rf hR _
set_option maxHeartbeats 1000000 in
theorem c_Desk_canBe {sh : gS} {g : gM} (hx : gFix sh) (hf : gFin g) {Λ : Int → List PC} (hR : relR Λ sh g) : gTri f_Desk_canBe 7 0 0 [(2, 0)] sh g (fun x s2 g2 => dqQ Λ sh g (0, cbR (g 179)) x s2 g2) := by
  have hro := hR.ro
  have hm := ro_many hro
  have h0 := hR.X.nums.1.1
  have hX := hR.X
  refine gTri.of (by decide +kernel) rfl ?_
  show gWP f_Desk_canBe _ _ _ 0 [(2, 0)] [] sh g _
  refine gw_aload_n (gc k_Desk_canBe_0 0 rfl) rfl rfl ?_
  refine gw_getref (gc k_Desk_canBe_0 1 rfl) fl_Desk_19 (by first | exact gAt hx rfl rfl) (by first | exact gRf hf rfl rfl) ?_
  refine gw_aload_n (gc k_Desk_canBe_0 2 rfl) rfl rfl ?_
  refine gw_getref (gc k_Desk_canBe_0 3 rfl) fl_Desk_12 (by first | exact gAt hx rfl rfl) (by first | exact gRf hf rfl rfl) ?_
  refine gw_xV1 (gc k_Desk_canBe_0 4 rfl) y_Judge_candidates ln_Desk_246 (c_Judge_candidates hx hf i1 hX) rfl rfl (by first | exact gAt hx rfl rfl) rfl rfl (fun r8 sh2 g8 hq8 => ?_)
  obtain ⟨rfl, hsh, hj⟩ := hq8
  subst sh2
  refine gw_ireturn (gc k_Desk_canBe_0 5 rfl) rfl ?_
  exact dqQ.jg hR hj _
set_option maxHeartbeats 1000000 in
theorem c_Desk_compare {sh : gS} {g : gM} (hx : gFix sh) (hf : gFin g) {Λ : Int → List PC} (hR : relR Λ sh g) (k : Int) (hk : (-2147483648 ≤ k ∧ k ≤ 2147483647)) : gTri f_Desk_compare 7 0 0 [(2, 0), (0, k)] sh g (fun x s2 g2 => dqQ Λ sh g (0, cmR (g 179) k) x s2 g2) := by
  have hro := hR.ro
  have hm := ro_many hro
  have h0 := hR.X.nums.1.1
  have hX := hR.X
  refine gTri.of (by decide +kernel) rfl ?_
  show gWP f_Desk_compare _ _ _ 0 [(2, 0), (0, k)] [] sh g _
  refine gw_iload_n (gc k_Desk_compare_0 0 rfl) rfl ?_
  refine gw_iconst (gc k_Desk_compare_0 1 rfl) ?_
  refine gw_icmp_ne (tgt := 18) (gc k_Desk_compare_0 2 rfl) rfl (by omega) (fun c2 => ?_) (fun c2 => ?_)
  · refine gw_aload_n (gc k_Desk_compare_0 10 rfl) rfl rfl ?_
    refine gw_getref (gc k_Desk_compare_0 11 rfl) fl_Desk_12 (by first | exact gAt hx rfl rfl) (by first | exact gRf hf rfl rfl) ?_
    refine gw_iload_n (gc k_Desk_compare_0 12 rfl) rfl ?_
    refine gw_cV1 (gc k_Desk_compare_0 13 rfl) y_Board_hasLaw ln_Desk_170 (c_Board_hasLaw hx hf i1 k (by omega) (by have := hX.nums.2.2.1; omega)) rfl rfl (by first | exact gAt hx rfl rfl) rfl rfl ?_
    rw [hX.nums.2.2.1.1]
    refine gw_bne (tgt := 31) (gc k_Desk_compare_0 14 rfl) rfl (fun c26 => ?_) (fun c26 => ?_)
    · have hm43 := hX.nums.2.2.1
      have hLw : lwP Λ sh g (rFo (g 179) k) (g 7 k) := by
        have q := lwP_fo hX (v := k) (by omega)
        rw [if_neg (by omega)] at q
        exact q
      refine gw_aload_n (gc k_Desk_compare_0 17 rfl) rfl rfl ?_
      refine gw_getref (gc k_Desk_compare_0 18 rfl) fl_Desk_37 (by first | exact gAt hx rfl rfl) (by first | exact gRf hf rfl rfl) ?_
      refine gw_aload_n (gc k_Desk_compare_0 19 rfl) rfl rfl ?_
      refine gw_getref (gc k_Desk_compare_0 20 rfl) fl_Desk_12 (by first | exact gAt hx rfl rfl) (by first | exact gRf hf rfl rfl) ?_
      refine gw_aload_n (gc k_Desk_compare_0 21 rfl) rfl rfl ?_
      refine gw_getref (gc k_Desk_compare_0 22 rfl) fl_Desk_12 (by first | exact gAt hx rfl rfl) (by first | exact gRf hf rfl rfl) ?_
      refine gw_getref (gc k_Desk_compare_0 23 rfl) fl_Desk_150 (by first | exact gAt hx rfl rfl) (by first | exact gRf hf rfl rfl) ?_
      refine gw_iload_n (gc k_Desk_compare_0 24 rfl) rfl ?_
      refine gw_aald_Text (gc k_Desk_compare_0 25 rfl) (by first | exact gAt hx rfl rfl) (by omega) ?_
      refine gw_xV1 (gc k_Desk_compare_0 26 rfl) y_Paper_leastCosts ln_Desk_197 (c_Paper_leastCosts hx hf i1 (bdN_fo hX.bdN (v := k) (by omega)) (a := g 7 k) hLw hR.S) rfl rfl (by first | exact gAt hx rfl rfl) rfl rfl (fun r48 sh2 g48 hq48 => ?_)
      obtain ⟨rfl, hsh, hK, hf3, hS3, hpk⟩ := hq48
      subst sh2
      refine gw_ireturn (gc k_Desk_compare_0 27 rfl) rfl ?_
      have e : cmR (g 179) k = laR (rFo (g 179) k) 0 (kF (rFo (g 179) k 39)) (kF (rFo (g 179) k 40)) := cm_e hro (by omega) hLw
      rw [e]
      exact dqQ.pp ⟨hK.pf, hf3, hS3⟩ _
    · refine gw_iconst (gc k_Desk_compare_0 15 rfl) ?_
      refine gw_ireturn (gc k_Desk_compare_0 16 rfl) rfl ?_
      have hm43 := hX.nums.2.2.1
      have e : cmR (g 179) k = -1 := by
        unfold cmR; rw [if_neg (by omega)]
      rw [e]
      exact dqQ.rf hR _
  · have hm43 := hX.nums.2.2.1
    refine gw_aload_n (gc k_Desk_compare_0 3 rfl) rfl rfl ?_
    refine gw_getref (gc k_Desk_compare_0 4 rfl) fl_Desk_37 (by first | exact gAt hx rfl rfl) (by first | exact gRf hf rfl rfl) ?_
    refine gw_aload_n (gc k_Desk_compare_0 5 rfl) rfl rfl ?_
    refine gw_getref (gc k_Desk_compare_0 6 rfl) fl_Desk_12 (by first | exact gAt hx rfl rfl) (by first | exact gRf hf rfl rfl) ?_
    refine gw_null (gc k_Desk_compare_0 7 rfl) ?_
    refine gw_xV1 (gc k_Desk_compare_0 8 rfl) y_Paper_leastCosts ln_Desk_197 (c_Paper_leastCosts hx hf i1 (bdN_fo hX.bdN (v := -1) (by omega)) (a := -1) (lwP_fo hX (v := -1) (by omega)) hR.S) rfl rfl (by first | exact gAt hx rfl rfl) rfl rfl (fun r14 sh2 g14 hq14 => ?_)
    obtain ⟨rfl, hsh, hK, hf3, hS3, hpk⟩ := hq14
    subst sh2
    refine gw_ireturn (gc k_Desk_compare_0 9 rfl) rfl ?_
    have hm43 := hX.nums.2.2.1
    have e : cmR (g 179) k = laR (rFo (g 179) (-1)) 0 (kF (rFo (g 179) (-1) 39)) (kF (rFo (g 179) (-1) 40)) := by
      rw [show k = -1 by omega]
      exact cm_e hro (by omega) (lwP_fo hX (v := -1) (by omega))
    rw [e]
    exact dqQ.pp ⟨hK.pf, hf3, hS3⟩ _
set_option maxHeartbeats 1000000 in
theorem c_Desk_drawn {sh : gS} {g : gM} (hx : gFix sh) (hf : gFin g) {Λ : Int → List PC} (hR : relR Λ sh g) (n : Int) (w : Int) (hn : (-2147483648 ≤ n ∧ n ≤ 2147483647)) (hw : (-2147483648 ≤ w ∧ w ≤ 2147483647)) : gTri f_Desk_drawn 1 0 0 [(2, 0), (0, n), (0, w)] sh g (fun x s2 g2 => dqQ Λ sh g (0, (if 0 ≤ n ∧ n ≤ g 177 49 - 1 ∧ 0 ≤ w ∧ w ≤ 1 then g 200 (if w = 0 then 12 + n else n) else -1)) x s2 g2) := by
  have hro := hR.ro
  have hm := ro_many hro
  have h0 := hR.X.nums.1.1
  have hX := hR.X
  refine gTri.of (by decide +kernel) rfl ?_
  show gWP f_Desk_drawn _ _ _ 0 [(2, 0), (0, n), (0, w)] [] sh g _
  refine gw_aload_n (gc k_Desk_drawn_0 0 rfl) rfl rfl ?_
  refine gw_getref (gc k_Desk_drawn_0 1 rfl) fl_Desk_44 (by first | exact gAt hx rfl rfl) (by first | exact gRf hf rfl rfl) ?_
  refine gw_getf 1 rfl (gc k_Desk_drawn_0 2 rfl) fl_Desk_264 (by first | exact gAt hx rfl rfl) ?_
  have hdw : (g 141 1 = 0 ∧ g 177 49 = -1) ∨ (g 141 1 = 1 ∧ g 142 0 = g 177 49 ∧ 0 ≤ g 177 49 ∧ ∀ i, 0 ≤ i → i < g 177 49 → g 143 i = g 200 (12 + i) ∧ g 144 i = g 200 i) := hR.2.2.2.2.2.1.2
  have hdb := hR.2.2.2.2.2.1.1
  have hk01 : g 141 1 = 0 ∨ g 141 1 = 1 := hdw.elim (fun z => Or.inl z.1) (fun z => Or.inr z.1)
  refine gw_if_eq (tgt := 24) (gc k_Desk_drawn_0 3 rfl) rfl (by omega) (fun c7 => ?_) (fun c7 => ?_)
  · refine gw_iconst (gc k_Desk_drawn_0 10 rfl) ?_
    refine gw_ireturn (gc k_Desk_drawn_0 11 rfl) rfl ?_
    rw [if_neg (fun z => by
      have : g 177 49 = -1 := hdw.elim (fun y => y.2) (fun y => absurd (c7.symm.trans y.1) (by decide))
      omega)]
    exact dqQ.rf hR _
  · obtain ⟨hd0, hdn, hdd⟩ : g 142 0 = g 177 49 ∧ 0 ≤ g 177 49 ∧ ∀ i, 0 ≤ i → i < g 177 49 → g 143 i = g 200 (12 + i) ∧ g 144 i = g 200 i := hdw.elim (fun z => absurd z.1 c7) (fun z => z.2)
    refine gw_aload_n (gc k_Desk_drawn_0 4 rfl) rfl rfl ?_
    refine gw_getref (gc k_Desk_drawn_0 5 rfl) fl_Desk_44 (by first | exact gAt hx rfl rfl) (by first | exact gRf hf rfl rfl) ?_
    refine gw_getref (gc k_Desk_drawn_0 6 rfl) fl_Desk_268 (by first | exact gAt hx rfl rfl) (by first | exact gRf hf rfl rfl) ?_
    refine gw_iload_n (gc k_Desk_drawn_0 7 rfl) rfl ?_
    refine gw_cV1 (gc k_Desk_drawn_0 8 rfl) y_Board_has ln_Desk_106 (c_Board_has hx hf iD n (by omega) (by omega)) rfl rfl (by first | exact gAt hx rfl rfl) rfl rfl ?_
    rw [hd0]
    refine gw_bne (tgt := 26) (gc k_Desk_drawn_0 9 rfl) rfl (fun c21 => ?_) (fun c21 => ?_)
    · refine gw_iload_n (gc k_Desk_drawn_0 12 rfl) rfl ?_
      refine gw_if_ne (tgt := 43) (gc k_Desk_drawn_0 13 rfl) rfl (by omega) (fun c27 => ?_) (fun c27 => ?_)
      · refine gw_iload_n (gc k_Desk_drawn_0 21 rfl) rfl ?_
        refine gw_iconst (gc k_Desk_drawn_0 22 rfl) ?_
        refine gw_icmp_ne (tgt := 63) (gc k_Desk_drawn_0 23 rfl) rfl (by omega) (fun c45 => ?_) (fun c45 => ?_)
        · refine gw_iconst (gc k_Desk_drawn_0 31 rfl) ?_
          refine gw_ireturn (gc k_Desk_drawn_0 32 rfl) rfl ?_
          rw [if_neg (by omega)]
          exact dqQ.rf hR _
        · refine gw_aload_n (gc k_Desk_drawn_0 24 rfl) rfl rfl ?_
          refine gw_getref (gc k_Desk_drawn_0 25 rfl) fl_Desk_44 (by first | exact gAt hx rfl rfl) (by first | exact gRf hf rfl rfl) ?_
          refine gw_getref (gc k_Desk_drawn_0 26 rfl) fl_Desk_268 (by first | exact gAt hx rfl rfl) (by first | exact gRf hf rfl rfl) ?_
          refine gw_getref (gc k_Desk_drawn_0 27 rfl) fl_Desk_112 (by first | exact gAt hx rfl rfl) (by first | exact gRf hf rfl rfl) ?_
          refine gw_iload_n (gc k_Desk_drawn_0 28 rfl) rfl ?_
          refine gw_iald (gc k_Desk_drawn_0 29 rfl) (by first | exact gAt hx rfl rfl) (by omega) ?_
          refine gw_goto (tgt := 64) (gc k_Desk_drawn_0 30 rfl) rfl ?_
          refine gw_ireturn (gc k_Desk_drawn_0 32 rfl) rfl ?_
          rw [if_pos (by omega), if_neg c27, ← (hdd n (by omega) (by omega)).2]
          exact dqQ.rf hR _
      · refine gw_aload_n (gc k_Desk_drawn_0 14 rfl) rfl rfl ?_
        refine gw_getref (gc k_Desk_drawn_0 15 rfl) fl_Desk_44 (by first | exact gAt hx rfl rfl) (by first | exact gRf hf rfl rfl) ?_
        refine gw_getref (gc k_Desk_drawn_0 16 rfl) fl_Desk_268 (by first | exact gAt hx rfl rfl) (by first | exact gRf hf rfl rfl) ?_
        refine gw_getref (gc k_Desk_drawn_0 17 rfl) fl_Desk_109 (by first | exact gAt hx rfl rfl) (by first | exact gRf hf rfl rfl) ?_
        refine gw_iload_n (gc k_Desk_drawn_0 18 rfl) rfl ?_
        refine gw_iald (gc k_Desk_drawn_0 19 rfl) (by first | exact gAt hx rfl rfl) (by omega) ?_
        refine gw_ireturn (gc k_Desk_drawn_0 20 rfl) rfl ?_
        rw [if_pos (by omega), if_pos c27, ← (hdd n (by omega) (by omega)).1]
        exact dqQ.rf hR _
    · refine gw_iconst (gc k_Desk_drawn_0 10 rfl) ?_
      refine gw_ireturn (gc k_Desk_drawn_0 11 rfl) rfl ?_
      rw [if_neg (by omega)]
      exact dqQ.rf hR _
set_option maxHeartbeats 1000000 in
theorem c_Desk_count {sh : gS} {g : gM} (hx : gFix sh) (hf : gFin g) {Λ : Int → List PC} (hR : relR Λ sh g) (k : Int) (hk : (-2147483648 ≤ k ∧ k ≤ 2147483647)) : gTri f_Desk_count 5 0 0 [(2, 0), (0, k)] sh g (fun x s2 g2 => dqQ Λ sh g (0, cntR g k) x s2 g2) := by
  have hro := hR.ro
  have hm := ro_many hro
  have h0 := hR.X.nums.1.1
  have hX := hR.X
  refine gTri.of (by decide +kernel) rfl ?_
  show gWP f_Desk_count _ _ _ 0 [(2, 0), (0, k)] [] sh g _
  refine gw_iload_n (gc k_Desk_count_0 0 rfl) rfl ?_
  refine gw_bipush (gc k_Desk_count_0 1 rfl) (by decide) ?_
  refine gw_icmp_lt (tgt := 25) (gc k_Desk_count_0 2 rfl) rfl (by omega) (fun c3 => ?_) (fun c3 => ?_)
  · refine gw_iload_n (gc k_Desk_count_0 14 rfl) rfl ?_
    rcases (show k = 0 ∨ k = 1 ∨ k = 2 ∨ k = 3 ∨ k = 4 ∨ k = 5 ∨ k = 6 ∨ k = 7 ∨ k = 8 ∨ k = 9 ∨ k = 10 ∨ k = 11 ∨ (k < 0 ∨ 11 < k) by omega) with hs26 | hs26 | hs26 | hs26 | hs26 | hs26 | hs26 | hs26 | hs26 | hs26 | hs26 | hs26 | hs26
    · refine gw_tableIn (tgt := 88) (gc k_Desk_count_0 15 rfl) (by omega) (by omega) (by rw [hs26]; rfl) rfl ?_
      refine gw_aload_n (gc k_Desk_count_0 16 rfl) rfl rfl ?_
      refine gw_getref (gc k_Desk_count_0 17 rfl) fl_Desk_12 (by first | exact gAt hx rfl rfl) (by first | exact gRf hf rfl rfl) ?_
      refine gw_getf 0 rfl (gc k_Desk_count_0 18 rfl) fl_Desk_103 (by first | exact gAt hx rfl rfl) ?_
      refine gw_ireturn (gc k_Desk_count_0 19 rfl) rfl ?_
      have e : cntR g k = g 1 0 := by
        unfold cntR
        rw [if_neg (by omega), if_neg (by omega), if_pos (by omega)]
        exact h0.symm
      rw [e]
      exact dqQ.rf hR _
    · refine gw_tableIn (tgt := 96) (gc k_Desk_count_0 15 rfl) (by omega) (by omega) (by rw [hs26]; rfl) rfl ?_
      refine gw_aload_n (gc k_Desk_count_0 20 rfl) rfl rfl ?_
      refine gw_getref (gc k_Desk_count_0 21 rfl) fl_Desk_19 (by first | exact gAt hx rfl rfl) (by first | exact gRf hf rfl rfl) ?_
      refine gw_aload_n (gc k_Desk_count_0 22 rfl) rfl rfl ?_
      refine gw_getref (gc k_Desk_count_0 23 rfl) fl_Desk_12 (by first | exact gAt hx rfl rfl) (by first | exact gRf hf rfl rfl) ?_
      refine gw_iconst (gc k_Desk_count_0 24 rfl) ?_
      refine gw_xV1 (gc k_Desk_count_0 25 rfl) y_Judge_total ln_Desk_122 (c_Judge_total hx hf i1 hX 2 (by decide)) rfl rfl (by first | exact gAt hx rfl rfl) rfl rfl (fun r105 sh2 g105 hq105 => ?_)
      obtain ⟨rfl, hsh, hj⟩ := hq105
      subst sh2
      refine gw_ireturn (gc k_Desk_count_0 26 rfl) rfl ?_
      have e : cntR g k = allN (g 179) 2 := by
        unfold cntR
        rw [if_neg (by omega), if_neg (by omega), if_neg (by omega), if_pos (by omega)]
      rw [e]
      exact dqQ.jg hR hj _
    · refine gw_tableIn (tgt := 109) (gc k_Desk_count_0 15 rfl) (by omega) (by omega) (by rw [hs26]; rfl) rfl ?_
      refine gw_aload_n (gc k_Desk_count_0 27 rfl) rfl rfl ?_
      refine gw_getref (gc k_Desk_count_0 28 rfl) fl_Desk_12 (by first | exact gAt hx rfl rfl) (by first | exact gRf hf rfl rfl) ?_
      refine gw_getf 4 rfl (gc k_Desk_count_0 29 rfl) fl_Desk_237 (by first | exact gAt hx rfl rfl) ?_
      refine gw_ireturn (gc k_Desk_count_0 30 rfl) rfl ?_
      have e : cntR g k = g 1 4 := by
        unfold cntR
        rw [if_neg (by omega), if_neg (by omega), if_neg (by omega), if_neg (by omega), if_pos (by omega)]
        exact hX.nums.2.1.1.symm
      rw [e]
      exact dqQ.rf hR _
    · refine gw_tableIn (tgt := 117) (gc k_Desk_count_0 15 rfl) (by omega) (by omega) (by rw [hs26]; rfl) rfl ?_
      refine gw_aload_n (gc k_Desk_count_0 31 rfl) rfl rfl ?_
      refine gw_getref (gc k_Desk_count_0 32 rfl) fl_Desk_12 (by first | exact gAt hx rfl rfl) (by first | exact gRf hf rfl rfl) ?_
      refine gw_getf 7 rfl (gc k_Desk_count_0 33 rfl) fl_Desk_143 (by first | exact gAt hx rfl rfl) ?_
      refine gw_ireturn (gc k_Desk_count_0 34 rfl) rfl ?_
      have e : cntR g k = g 1 7 := by
        unfold cntR
        rw [if_neg (by omega), if_neg (by omega), if_neg (by omega), if_neg (by omega), if_neg (by omega), if_pos (by omega)]
        exact hX.nums.2.2.1.1.symm
      rw [e]
      exact dqQ.rf hR _
    · refine gw_tableIn (tgt := 125) (gc k_Desk_count_0 15 rfl) (by omega) (by omega) (by rw [hs26]; rfl) rfl ?_
      refine gw_aload_n (gc k_Desk_count_0 35 rfl) rfl rfl ?_
      refine gw_getref (gc k_Desk_count_0 36 rfl) fl_Desk_28 (by first | exact gAt hx rfl rfl) (by first | exact gRf hf rfl rfl) ?_
      refine gw_getref (gc k_Desk_count_0 37 rfl) fl_Desk_94 (by first | exact gAt hx rfl rfl) (by first | exact gRf hf rfl rfl) ?_
      refine gw_getf 3 rfl (gc k_Desk_count_0 38 rfl) fl_Desk_98 (by first | exact gAt hx rfl rfl) ?_
      refine gw_ireturn (gc k_Desk_count_0 39 rfl) rfl ?_
      have e : cntR g k = g 13 3 := by
        unfold cntR
        rw [if_neg (by omega), if_neg (by omega), if_neg (by omega), if_neg (by omega), if_neg (by omega), if_neg (by omega), if_pos (by omega)]
        exact hR.un.2.symm
      rw [e]
      exact dqQ.rf hR _
    · refine gw_tableIn (tgt := 136) (gc k_Desk_count_0 15 rfl) (by omega) (by omega) (by rw [hs26]; rfl) rfl ?_
      refine gw_aload_n (gc k_Desk_count_1 0 rfl) rfl rfl ?_
      refine gw_getref (gc k_Desk_count_1 1 rfl) fl_Desk_51 (by first | exact gAt hx rfl rfl) (by first | exact gRf hf rfl rfl) ?_
      refine gw_getf 1 rfl (gc k_Desk_count_1 2 rfl) fl_Desk_132 (by first | exact gAt hx rfl rfl) ?_
      refine gw_ireturn (gc k_Desk_count_1 3 rfl) rfl ?_
      have e : cntR g k = g 149 1 := by
        unfold cntR
        rw [if_neg (by omega), if_neg (by omega), if_neg (by omega), if_neg (by omega), if_neg (by omega), if_neg (by omega), if_neg (by omega), if_pos (by omega)]
        exact hR.2.2.1.2.1.symm
      rw [e]
      exact dqQ.rf hR _
    · refine gw_tableIn (tgt := 144) (gc k_Desk_count_0 15 rfl) (by omega) (by omega) (by rw [hs26]; rfl) rfl ?_
      refine gw_aload_n (gc k_Desk_count_1 4 rfl) rfl rfl ?_
      refine gw_iconst (gc k_Desk_count_1 5 rfl) ?_
      refine gw_cV1 (gc k_Desk_count_1 6 rfl) y_Desk_refusedBy ln_Desk_274 (c_Desk_refusedBy hx hf (-1) (by decide)) rfl rfl (by first | exact gAt hx rfl rfl) rfl rfl ?_
      refine gw_ireturn (gc k_Desk_count_1 7 rfl) rfl ?_
      have e : cntR g k = g 175 (-1 - -1) := by
        unfold cntR
        rw [if_pos (by omega), hs26]
        exact ((hR.2.2.2.1.2 (1) (by decide) (by decide) (by decide))).symm
      rw [e]
      exact dqQ.rf hR _
    · refine gw_tableIn (tgt := 150) (gc k_Desk_count_0 15 rfl) (by omega) (by omega) (by rw [hs26]; rfl) rfl ?_
      refine gw_aload_n (gc k_Desk_count_1 8 rfl) rfl rfl ?_
      refine gw_bipush (gc k_Desk_count_1 9 rfl) (by decide) ?_
      refine gw_cV1 (gc k_Desk_count_1 10 rfl) y_Desk_refusedBy ln_Desk_274 (c_Desk_refusedBy hx hf (-2) (by decide)) rfl rfl (by first | exact gAt hx rfl rfl) rfl rfl ?_
      refine gw_ireturn (gc k_Desk_count_1 11 rfl) rfl ?_
      have e : cntR g k = g 175 (-1 - -2) := by
        unfold cntR
        rw [if_pos (by omega), hs26]
        exact ((hR.2.2.2.1.2 (2) (by decide) (by decide) (by decide))).symm
      rw [e]
      exact dqQ.rf hR _
    · refine gw_tableIn (tgt := 157) (gc k_Desk_count_0 15 rfl) (by omega) (by omega) (by rw [hs26]; rfl) rfl ?_
      refine gw_aload_n (gc k_Desk_count_1 12 rfl) rfl rfl ?_
      refine gw_bipush (gc k_Desk_count_1 13 rfl) (by decide) ?_
      refine gw_cV1 (gc k_Desk_count_1 14 rfl) y_Desk_refusedBy ln_Desk_274 (c_Desk_refusedBy hx hf (-3) (by decide)) rfl rfl (by first | exact gAt hx rfl rfl) rfl rfl ?_
      refine gw_ireturn (gc k_Desk_count_1 15 rfl) rfl ?_
      have e : cntR g k = g 175 (-1 - -3) := by
        unfold cntR
        rw [if_pos (by omega), hs26]
        exact ((hR.2.2.2.1.2 (3) (by decide) (by decide) (by decide))).symm
      rw [e]
      exact dqQ.rf hR _
    · refine gw_tableIn (tgt := 164) (gc k_Desk_count_0 15 rfl) (by omega) (by omega) (by rw [hs26]; rfl) rfl ?_
      refine gw_aload_n (gc k_Desk_count_1 16 rfl) rfl rfl ?_
      refine gw_bipush (gc k_Desk_count_1 17 rfl) (by decide) ?_
      refine gw_cV1 (gc k_Desk_count_1 18 rfl) y_Desk_refusedBy ln_Desk_274 (c_Desk_refusedBy hx hf (-5) (by decide)) rfl rfl (by first | exact gAt hx rfl rfl) rfl rfl ?_
      refine gw_ireturn (gc k_Desk_count_1 19 rfl) rfl ?_
      have e : cntR g k = g 175 (-1 - -5) := by
        unfold cntR
        rw [if_pos (by omega), hs26]
        exact ((hR.2.2.2.1.2 (5) (by decide) (by decide) (by decide))).symm
      rw [e]
      exact dqQ.rf hR _
    · refine gw_tableIn (tgt := 171) (gc k_Desk_count_0 15 rfl) (by omega) (by omega) (by rw [hs26]; rfl) rfl ?_
      refine gw_aload_n (gc k_Desk_count_1 20 rfl) rfl rfl ?_
      refine gw_bipush (gc k_Desk_count_1 21 rfl) (by decide) ?_
      refine gw_cV1 (gc k_Desk_count_1 22 rfl) y_Desk_refusedBy ln_Desk_274 (c_Desk_refusedBy hx hf (-6) (by decide)) rfl rfl (by first | exact gAt hx rfl rfl) rfl rfl ?_
      refine gw_ireturn (gc k_Desk_count_1 23 rfl) rfl ?_
      have e : cntR g k = g 175 (-1 - -6) := by
        unfold cntR
        rw [if_pos (by omega), hs26]
        exact ((hR.2.2.2.1.2 (6) (by decide) (by decide) (by decide))).symm
      rw [e]
      exact dqQ.rf hR _
    · refine gw_tableIn (tgt := 178) (gc k_Desk_count_0 15 rfl) (by omega) (by omega) (by rw [hs26]; rfl) rfl ?_
      refine gw_aload_n (gc k_Desk_count_1 24 rfl) rfl rfl ?_
      refine gw_getref (gc k_Desk_count_1 25 rfl) fl_Desk_12 (by first | exact gAt hx rfl rfl) (by first | exact gRf hf rfl rfl) ?_
      refine gw_getf 9 rfl (gc k_Desk_count_1 26 rfl) fl_Desk_173 (by first | exact gAt hx rfl rfl) ?_
      refine gw_ireturn (gc k_Desk_count_1 27 rfl) rfl ?_
      have e : cntR g k = g 1 9 := by
        unfold cntR
        rw [if_neg (by omega), if_neg (by omega), if_neg (by omega), if_neg (by omega), if_neg (by omega), if_neg (by omega), if_neg (by omega), if_neg (by omega), if_pos (by omega)]
        exact hX.nums.2.2.2.1.symm
      rw [e]
      exact dqQ.rf hR _
    · refine gw_tableOut (tgt := 186) (gc k_Desk_count_0 15 rfl) (by omega) (by omega) rfl ?_
      refine gw_iconst (gc k_Desk_count_1 28 rfl) ?_
      refine gw_ireturn (gc k_Desk_count_1 29 rfl) rfl ?_
      have e : cntR g k = -1 := by
        unfold cntR
        rw [if_neg (by omega), if_neg (by omega), if_neg (by omega), if_neg (by omega), if_neg (by omega), if_neg (by omega), if_neg (by omega), if_neg (by omega), if_neg (by omega)]
      rw [e]
      exact dqQ.rf hR _
  · refine gw_iload_n (gc k_Desk_count_0 3 rfl) rfl ?_
    refine gw_bipush (gc k_Desk_count_0 4 rfl) (by decide) ?_
    refine gw_icmp_ge (tgt := 25) (gc k_Desk_count_0 5 rfl) rfl (by omega) (fun c9 => ?_) (fun c9 => ?_)
    · refine gw_iload_n (gc k_Desk_count_0 14 rfl) rfl ?_
      rcases (show k = 0 ∨ k = 1 ∨ k = 2 ∨ k = 3 ∨ k = 4 ∨ k = 5 ∨ k = 6 ∨ k = 7 ∨ k = 8 ∨ k = 9 ∨ k = 10 ∨ k = 11 ∨ (k < 0 ∨ 11 < k) by omega) with hs26 | hs26 | hs26 | hs26 | hs26 | hs26 | hs26 | hs26 | hs26 | hs26 | hs26 | hs26 | hs26
      · refine gw_tableIn (tgt := 88) (gc k_Desk_count_0 15 rfl) (by omega) (by omega) (by rw [hs26]; rfl) rfl ?_
        refine gw_aload_n (gc k_Desk_count_0 16 rfl) rfl rfl ?_
        refine gw_getref (gc k_Desk_count_0 17 rfl) fl_Desk_12 (by first | exact gAt hx rfl rfl) (by first | exact gRf hf rfl rfl) ?_
        refine gw_getf 0 rfl (gc k_Desk_count_0 18 rfl) fl_Desk_103 (by first | exact gAt hx rfl rfl) ?_
        refine gw_ireturn (gc k_Desk_count_0 19 rfl) rfl ?_
        have e : cntR g k = g 1 0 := by
          unfold cntR
          rw [if_neg (by omega), if_neg (by omega), if_pos (by omega)]
          exact h0.symm
        rw [e]
        exact dqQ.rf hR _
      · refine gw_tableIn (tgt := 96) (gc k_Desk_count_0 15 rfl) (by omega) (by omega) (by rw [hs26]; rfl) rfl ?_
        refine gw_aload_n (gc k_Desk_count_0 20 rfl) rfl rfl ?_
        refine gw_getref (gc k_Desk_count_0 21 rfl) fl_Desk_19 (by first | exact gAt hx rfl rfl) (by first | exact gRf hf rfl rfl) ?_
        refine gw_aload_n (gc k_Desk_count_0 22 rfl) rfl rfl ?_
        refine gw_getref (gc k_Desk_count_0 23 rfl) fl_Desk_12 (by first | exact gAt hx rfl rfl) (by first | exact gRf hf rfl rfl) ?_
        refine gw_iconst (gc k_Desk_count_0 24 rfl) ?_
        refine gw_xV1 (gc k_Desk_count_0 25 rfl) y_Judge_total ln_Desk_122 (c_Judge_total hx hf i1 hX 2 (by decide)) rfl rfl (by first | exact gAt hx rfl rfl) rfl rfl (fun r105 sh2 g105 hq105 => ?_)
        obtain ⟨rfl, hsh, hj⟩ := hq105
        subst sh2
        refine gw_ireturn (gc k_Desk_count_0 26 rfl) rfl ?_
        have e : cntR g k = allN (g 179) 2 := by
          unfold cntR
          rw [if_neg (by omega), if_neg (by omega), if_neg (by omega), if_pos (by omega)]
        rw [e]
        exact dqQ.jg hR hj _
      · refine gw_tableIn (tgt := 109) (gc k_Desk_count_0 15 rfl) (by omega) (by omega) (by rw [hs26]; rfl) rfl ?_
        refine gw_aload_n (gc k_Desk_count_0 27 rfl) rfl rfl ?_
        refine gw_getref (gc k_Desk_count_0 28 rfl) fl_Desk_12 (by first | exact gAt hx rfl rfl) (by first | exact gRf hf rfl rfl) ?_
        refine gw_getf 4 rfl (gc k_Desk_count_0 29 rfl) fl_Desk_237 (by first | exact gAt hx rfl rfl) ?_
        refine gw_ireturn (gc k_Desk_count_0 30 rfl) rfl ?_
        have e : cntR g k = g 1 4 := by
          unfold cntR
          rw [if_neg (by omega), if_neg (by omega), if_neg (by omega), if_neg (by omega), if_pos (by omega)]
          exact hX.nums.2.1.1.symm
        rw [e]
        exact dqQ.rf hR _
      · refine gw_tableIn (tgt := 117) (gc k_Desk_count_0 15 rfl) (by omega) (by omega) (by rw [hs26]; rfl) rfl ?_
        refine gw_aload_n (gc k_Desk_count_0 31 rfl) rfl rfl ?_
        refine gw_getref (gc k_Desk_count_0 32 rfl) fl_Desk_12 (by first | exact gAt hx rfl rfl) (by first | exact gRf hf rfl rfl) ?_
        refine gw_getf 7 rfl (gc k_Desk_count_0 33 rfl) fl_Desk_143 (by first | exact gAt hx rfl rfl) ?_
        refine gw_ireturn (gc k_Desk_count_0 34 rfl) rfl ?_
        have e : cntR g k = g 1 7 := by
          unfold cntR
          rw [if_neg (by omega), if_neg (by omega), if_neg (by omega), if_neg (by omega), if_neg (by omega), if_pos (by omega)]
          exact hX.nums.2.2.1.1.symm
        rw [e]
        exact dqQ.rf hR _
      · refine gw_tableIn (tgt := 125) (gc k_Desk_count_0 15 rfl) (by omega) (by omega) (by rw [hs26]; rfl) rfl ?_
        refine gw_aload_n (gc k_Desk_count_0 35 rfl) rfl rfl ?_
        refine gw_getref (gc k_Desk_count_0 36 rfl) fl_Desk_28 (by first | exact gAt hx rfl rfl) (by first | exact gRf hf rfl rfl) ?_
        refine gw_getref (gc k_Desk_count_0 37 rfl) fl_Desk_94 (by first | exact gAt hx rfl rfl) (by first | exact gRf hf rfl rfl) ?_
        refine gw_getf 3 rfl (gc k_Desk_count_0 38 rfl) fl_Desk_98 (by first | exact gAt hx rfl rfl) ?_
        refine gw_ireturn (gc k_Desk_count_0 39 rfl) rfl ?_
        have e : cntR g k = g 13 3 := by
          unfold cntR
          rw [if_neg (by omega), if_neg (by omega), if_neg (by omega), if_neg (by omega), if_neg (by omega), if_neg (by omega), if_pos (by omega)]
          exact hR.un.2.symm
        rw [e]
        exact dqQ.rf hR _
      · refine gw_tableIn (tgt := 136) (gc k_Desk_count_0 15 rfl) (by omega) (by omega) (by rw [hs26]; rfl) rfl ?_
        refine gw_aload_n (gc k_Desk_count_1 0 rfl) rfl rfl ?_
        refine gw_getref (gc k_Desk_count_1 1 rfl) fl_Desk_51 (by first | exact gAt hx rfl rfl) (by first | exact gRf hf rfl rfl) ?_
        refine gw_getf 1 rfl (gc k_Desk_count_1 2 rfl) fl_Desk_132 (by first | exact gAt hx rfl rfl) ?_
        refine gw_ireturn (gc k_Desk_count_1 3 rfl) rfl ?_
        have e : cntR g k = g 149 1 := by
          unfold cntR
          rw [if_neg (by omega), if_neg (by omega), if_neg (by omega), if_neg (by omega), if_neg (by omega), if_neg (by omega), if_neg (by omega), if_pos (by omega)]
          exact hR.2.2.1.2.1.symm
        rw [e]
        exact dqQ.rf hR _
      · refine gw_tableIn (tgt := 144) (gc k_Desk_count_0 15 rfl) (by omega) (by omega) (by rw [hs26]; rfl) rfl ?_
        refine gw_aload_n (gc k_Desk_count_1 4 rfl) rfl rfl ?_
        refine gw_iconst (gc k_Desk_count_1 5 rfl) ?_
        refine gw_cV1 (gc k_Desk_count_1 6 rfl) y_Desk_refusedBy ln_Desk_274 (c_Desk_refusedBy hx hf (-1) (by decide)) rfl rfl (by first | exact gAt hx rfl rfl) rfl rfl ?_
        refine gw_ireturn (gc k_Desk_count_1 7 rfl) rfl ?_
        have e : cntR g k = g 175 (-1 - -1) := by
          unfold cntR
          rw [if_pos (by omega), hs26]
          exact ((hR.2.2.2.1.2 (1) (by decide) (by decide) (by decide))).symm
        rw [e]
        exact dqQ.rf hR _
      · refine gw_tableIn (tgt := 150) (gc k_Desk_count_0 15 rfl) (by omega) (by omega) (by rw [hs26]; rfl) rfl ?_
        refine gw_aload_n (gc k_Desk_count_1 8 rfl) rfl rfl ?_
        refine gw_bipush (gc k_Desk_count_1 9 rfl) (by decide) ?_
        refine gw_cV1 (gc k_Desk_count_1 10 rfl) y_Desk_refusedBy ln_Desk_274 (c_Desk_refusedBy hx hf (-2) (by decide)) rfl rfl (by first | exact gAt hx rfl rfl) rfl rfl ?_
        refine gw_ireturn (gc k_Desk_count_1 11 rfl) rfl ?_
        have e : cntR g k = g 175 (-1 - -2) := by
          unfold cntR
          rw [if_pos (by omega), hs26]
          exact ((hR.2.2.2.1.2 (2) (by decide) (by decide) (by decide))).symm
        rw [e]
        exact dqQ.rf hR _
      · refine gw_tableIn (tgt := 157) (gc k_Desk_count_0 15 rfl) (by omega) (by omega) (by rw [hs26]; rfl) rfl ?_
        refine gw_aload_n (gc k_Desk_count_1 12 rfl) rfl rfl ?_
        refine gw_bipush (gc k_Desk_count_1 13 rfl) (by decide) ?_
        refine gw_cV1 (gc k_Desk_count_1 14 rfl) y_Desk_refusedBy ln_Desk_274 (c_Desk_refusedBy hx hf (-3) (by decide)) rfl rfl (by first | exact gAt hx rfl rfl) rfl rfl ?_
        refine gw_ireturn (gc k_Desk_count_1 15 rfl) rfl ?_
        have e : cntR g k = g 175 (-1 - -3) := by
          unfold cntR
          rw [if_pos (by omega), hs26]
          exact ((hR.2.2.2.1.2 (3) (by decide) (by decide) (by decide))).symm
        rw [e]
        exact dqQ.rf hR _
      · refine gw_tableIn (tgt := 164) (gc k_Desk_count_0 15 rfl) (by omega) (by omega) (by rw [hs26]; rfl) rfl ?_
        refine gw_aload_n (gc k_Desk_count_1 16 rfl) rfl rfl ?_
        refine gw_bipush (gc k_Desk_count_1 17 rfl) (by decide) ?_
        refine gw_cV1 (gc k_Desk_count_1 18 rfl) y_Desk_refusedBy ln_Desk_274 (c_Desk_refusedBy hx hf (-5) (by decide)) rfl rfl (by first | exact gAt hx rfl rfl) rfl rfl ?_
        refine gw_ireturn (gc k_Desk_count_1 19 rfl) rfl ?_
        have e : cntR g k = g 175 (-1 - -5) := by
          unfold cntR
          rw [if_pos (by omega), hs26]
          exact ((hR.2.2.2.1.2 (5) (by decide) (by decide) (by decide))).symm
        rw [e]
        exact dqQ.rf hR _
      · refine gw_tableIn (tgt := 171) (gc k_Desk_count_0 15 rfl) (by omega) (by omega) (by rw [hs26]; rfl) rfl ?_
        refine gw_aload_n (gc k_Desk_count_1 20 rfl) rfl rfl ?_
        refine gw_bipush (gc k_Desk_count_1 21 rfl) (by decide) ?_
        refine gw_cV1 (gc k_Desk_count_1 22 rfl) y_Desk_refusedBy ln_Desk_274 (c_Desk_refusedBy hx hf (-6) (by decide)) rfl rfl (by first | exact gAt hx rfl rfl) rfl rfl ?_
        refine gw_ireturn (gc k_Desk_count_1 23 rfl) rfl ?_
        have e : cntR g k = g 175 (-1 - -6) := by
          unfold cntR
          rw [if_pos (by omega), hs26]
          exact ((hR.2.2.2.1.2 (6) (by decide) (by decide) (by decide))).symm
        rw [e]
        exact dqQ.rf hR _
      · refine gw_tableIn (tgt := 178) (gc k_Desk_count_0 15 rfl) (by omega) (by omega) (by rw [hs26]; rfl) rfl ?_
        refine gw_aload_n (gc k_Desk_count_1 24 rfl) rfl rfl ?_
        refine gw_getref (gc k_Desk_count_1 25 rfl) fl_Desk_12 (by first | exact gAt hx rfl rfl) (by first | exact gRf hf rfl rfl) ?_
        refine gw_getf 9 rfl (gc k_Desk_count_1 26 rfl) fl_Desk_173 (by first | exact gAt hx rfl rfl) ?_
        refine gw_ireturn (gc k_Desk_count_1 27 rfl) rfl ?_
        have e : cntR g k = g 1 9 := by
          unfold cntR
          rw [if_neg (by omega), if_neg (by omega), if_neg (by omega), if_neg (by omega), if_neg (by omega), if_neg (by omega), if_neg (by omega), if_neg (by omega), if_pos (by omega)]
          exact hX.nums.2.2.2.1.symm
        rw [e]
        exact dqQ.rf hR _
      · refine gw_tableOut (tgt := 186) (gc k_Desk_count_0 15 rfl) (by omega) (by omega) rfl ?_
        refine gw_iconst (gc k_Desk_count_1 28 rfl) ?_
        refine gw_ireturn (gc k_Desk_count_1 29 rfl) rfl ?_
        have e : cntR g k = -1 := by
          unfold cntR
          rw [if_neg (by omega), if_neg (by omega), if_neg (by omega), if_neg (by omega), if_neg (by omega), if_neg (by omega), if_neg (by omega), if_neg (by omega), if_neg (by omega)]
        rw [e]
        exact dqQ.rf hR _
    · refine gw_aload_n (gc k_Desk_count_0 6 rfl) rfl rfl ?_
      refine gw_getref (gc k_Desk_count_0 7 rfl) fl_Desk_12 (by first | exact gAt hx rfl rfl) (by first | exact gRf hf rfl rfl) ?_
      refine gw_getref (gc k_Desk_count_0 8 rfl) fl_Desk_129 (by first | exact gAt hx rfl rfl) (by first | exact gRf hf rfl rfl) ?_
      refine gw_iload_n (gc k_Desk_count_0 9 rfl) rfl ?_
      refine gw_bipush (gc k_Desk_count_0 10 rfl) (by decide) ?_
      refine gw_isub (gc k_Desk_count_0 11 rfl) ?_
      refine gw_iald (gc k_Desk_count_0 12 rfl) (by first | exact gAt hx rfl rfl) (by omega) ?_
      refine gw_ireturn (gc k_Desk_count_0 13 rfl) rfl ?_
      have ht := hX.bdN.2.2.2
      obtain ⟨t0, t1, t2, t3, t4⟩ := ht
      have e : cntR g k = g 4 (k - 12) := by
        unfold cntR
        rw [if_neg (by omega), if_pos (by omega)]
        rcases (show k = 12 ∨ k = 13 ∨ k = 14 ∨ k = 15 ∨ k = 16 by omega) with rfl | rfl | rfl | rfl | rfl
        · exact t0.symm
        · exact t1.symm
        · exact t2.symm
        · exact t3.symm
        · exact t4.symm
      rw [e]
      exact dqQ.rf hR _
