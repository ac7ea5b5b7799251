set_option maxHeartbeats 2000000 in
theorem pit_out {sh : gS} {g : gM} (hx : gFix sh) (hf : gFin g) {r : Int → Int} (ho : rowOK r) (hv : vLaid r g) (kp : Int) (hk : kp = 0 ∨ kp = 1) (hR : ∀ n q, 0 ≤ n → n < r 41 → r 39 ≤ q → q ≤ r 40 → g 195 (25 * n + q) = rsR r (r 39) (r 40) kp n q) (nt h n : Int) (hnt : 0 ≤ nt ∧ nt < r 41) (hn : 0 ≤ n ∧ n ≤ nt + 1) (hh : 0 ≤ h ∧ h ≤ 24) (h0 : n = 0 → h = 0) (x5 x6 : gV) (hle : n ≤ nt) {Q : gQ} (K : gWP f_Model_pitchOf 3 0 0 44 [(2, 177), (0, nt), (0, kp), (0, h), (0, n), (0, lsV r (r 39) (r 40) kp n h), (0, r 39)] [] sh g Q) : gWP f_Model_pitchOf 3 0 0 5 [(2, 177), (0, nt), (0, kp), (0, h), (0, n), x5, x6] [] sh g Q := by
  have hm := ro_many ho
  have em := hv.1
  have hlo := ro_low ho
  have hhi := ro_high ho
  show gWP f_Model_pitchOf _ _ _ 5 [(2, 177), (0, nt), (0, kp), (0, h), (0, n), x5, x6] [] sh g _
  refine gw_iload (gc k_Model_pitchOf_0 4 rfl) rfl ?_
  refine gw_iload_n (gc k_Model_pitchOf_0 5 rfl) rfl ?_
  refine gw_icmp_gt (tgt := 104) (gc k_Model_pitchOf_0 6 rfl) rfl (by omega) (fun c8 => ?_) (fun c8 => ?_)
  · exact absurd c8 (by omega)
  · refine gw_aload_n (gc k_Model_pitchOf_0 7 rfl) rfl rfl ?_
    refine gw_iload (gc k_Model_pitchOf_0 8 rfl) rfl ?_
    refine gw_iload_n (gc k_Model_pitchOf_0 9 rfl) rfl ?_
    refine gw_aload_n (gc k_Model_pitchOf_0 10 rfl) rfl rfl ?_
    refine gw_getref (gc k_Model_pitchOf_0 11 rfl) fl_Model_28 (gAt hx rfl rfl) (gRf hf rfl rfl) ?_
    refine gw_bipush (gc k_Model_pitchOf_0 12 rfl) (by decide) ?_
    refine gw_iald (gc k_Model_pitchOf_0 13 rfl) (gAt hx rfl rfl) (by omega) ?_
    refine gw_aload_n (gc k_Model_pitchOf_0 14 rfl) rfl rfl ?_
    refine gw_getref (gc k_Model_pitchOf_0 15 rfl) fl_Model_28 (gAt hx rfl rfl) (gRf hf rfl rfl) ?_
    refine gw_bipush (gc k_Model_pitchOf_0 16 rfl) (by decide) ?_
    refine gw_iald (gc k_Model_pitchOf_0 17 rfl) (gAt hx rfl rfl) (by omega) ?_
    rw [em]
    refine gw_iload_n (gc k_Model_pitchOf_0 18 rfl) rfl ?_
    refine gw_cV1 (gc k_Model_pitchOf_0 19 rfl) y_Model_leastFrom ln_Model_360 (c_leastR hx hf ho hv n h (r 39) (r 40) kp (by omega) hh h0 (by omega) hk (fun q a c => hR n q (by omega) (by omega) a c)) rfl rfl (gAt hx rfl rfl) rfl rfl ?_
    refine gw_istore_5 (gc k_Model_pitchOf_0 20 rfl) rfl rfl ?_
    refine gw_aload_n (gc k_Model_pitchOf_0 21 rfl) rfl rfl ?_
    refine gw_getref (gc k_Model_pitchOf_0 22 rfl) fl_Model_28 (gAt hx rfl rfl) (gRf hf rfl rfl) ?_
    refine gw_bipush (gc k_Model_pitchOf_0 23 rfl) (by decide) ?_
    refine gw_iald (gc k_Model_pitchOf_0 24 rfl) (gAt hx rfl rfl) (by omega) ?_
    rw [em]
    refine gw_istore_6 (gc k_Model_pitchOf_0 25 rfl) rfl rfl ?_
    exact K
set_option maxHeartbeats 2000000 in
theorem pit_exit {sh : gS} {g : gM} (hx : gFix sh) (hf : gFin g) {r : Int → Int} (ho : rowOK r) (hv : vLaid r g) (kp : Int) (hk : kp = 0 ∨ kp = 1) (hR : ∀ n q, 0 ≤ n → n < r 41 → r 39 ≤ q → q ≤ r 40 → g 195 (25 * n + q) = rsR r (r 39) (r 40) kp n q) (nt h n : Int) (hnt : 0 ≤ nt ∧ nt < r 41) (hn : 0 ≤ n ∧ n ≤ nt + 1) (hh : 0 ≤ h ∧ h ≤ 24) (h0 : n = 0 → h = 0) (x5 x6 : gV) (hle : ¬ n ≤ nt) : gWP f_Model_pitchOf 3 0 0 5 [(2, 177), (0, nt), (0, kp), (0, h), (0, n), x5, x6] [] sh g (gR (some (0, h)) sh g) := by
  have hm := ro_many ho
  have em := hv.1
  have hlo := ro_low ho
  have hhi := ro_high ho
  show gWP f_Model_pitchOf _ _ _ 5 [(2, 177), (0, nt), (0, kp), (0, h), (0, n), x5, x6] [] sh g _
  refine gw_iload (gc k_Model_pitchOf_0 4 rfl) rfl ?_
  refine gw_iload_n (gc k_Model_pitchOf_0 5 rfl) rfl ?_
  refine gw_icmp_gt (tgt := 104) (gc k_Model_pitchOf_0 6 rfl) rfl (by omega) (fun c8 => ?_) (fun c8 => ?_)
  · refine gw_iload_n (gc k_Model_pitchOf_1 17 rfl) rfl ?_
    refine gw_ireturn (gc k_Model_pitchOf_1 18 rfl) rfl ?_
    exact ⟨rfl, rfl, rfl⟩
  · exact absurd c8 (by omega)
set_option maxHeartbeats 2000000 in
theorem pit_next {sh : gS} {g : gM} (nt kp h n want q : Int) {Q : gQ} (K : gWP f_Model_pitchOf 3 0 0 5 [(2, 177), (0, nt), (0, kp), (0, q), (0, n + 1), (0, want), (0, q)] [] sh g Q) : gWP f_Model_pitchOf 3 0 0 95 [(2, 177), (0, nt), (0, kp), (0, h), (0, n), (0, want), (0, q)] [] sh g Q := by
  skip
  show gWP f_Model_pitchOf _ _ _ 95 [(2, 177), (0, nt), (0, kp), (0, h), (0, n), (0, want), (0, q)] [] sh g _
  refine gw_iload (gc k_Model_pitchOf_1 13 rfl) rfl ?_
  refine gw_istore_3 (gc k_Model_pitchOf_1 14 rfl) rfl rfl ?_
  refine gw_iinc_4 (gc k_Model_pitchOf_1 15 rfl) rfl rfl ?_
  refine gw_goto (tgt := 5) (gc k_Model_pitchOf_1 16 rfl) rfl ?_
  exact K
theorem pit_all {sh : gS} {g : gM} (hx : gFix sh) (hf : gFin g) {r : Int → Int} (ho : rowOK r) (hv : vLaid r g) (kp : Int) (hk : kp = 0 ∨ kp = 1) (hR : ∀ n q, 0 ≤ n → n < r 41 → r 39 ≤ q → q ≤ r 40 → g 195 (25 * n + q) = rsR r (r 39) (r 40) kp n q) (nt : Int) (hnt : 0 ≤ nt ∧ nt < r 41) (hs : lsV r (r 39) (r 40) kp 0 0 < 100000000) : ∀ (m i : Nat) (x5 x6 : gV), (i : Int) + m = nt + 1 → gWP f_Model_pitchOf 3 0 0 5 [(2, 177), (0, nt), (0, kp), (0, vcF r (r 39) (r 40) kp i), (0, (i : Int)), x5, x6] [] sh g (gR (some (0, vcF r (r 39) (r 40) kp (nt + 1).toNat)) sh g)
  | m, i, x5, x6, e => by
    have hm := ro_many ho
    have hlo := ro_low ho
    have hhi := ro_high ho
    have hh : (0 ≤ vcF r (r 39) (r 40) kp i ∧ vcF r (r 39) (r 40) kp i ≤ 24) ∧ ((i : Int) = 0 → vcF r (r 39) (r 40) kp i = 0) := by
      cases i with
      | zero => exact ⟨by unfold vcF; omega, fun _ => rfl⟩
      | succ i =>
        have q := vcF_ok hs i (by omega)
        exact ⟨by omega, fun z => by omega⟩
    match m, e with
    | 0, e =>
      rw [show (nt + 1).toNat = i by omega]
      exact pit_exit hx hf ho hv kp hk hR nt _ i hnt (by omega) hh.1 hh.2 x5 x6 (by omega)
    | m + 1, e =>
      have q := vcF_ok hs i (by omega)
      refine pit_out hx hf ho hv kp hk hR nt _ i hnt (by omega) hh.1 hh.2 x5 x6 (by omega) ?_
      have hb := lsV_bd r (r 39) (r 40) kp i (vcF r (r 39) (r 40) kp i)
      have hit := mnF_hit (C := vcC r i (vcF r (r 39) (r 40) kp i)) (P := vcP r (r 39) (r 40) kp i (vcF r (r 39) (r 40) kp i)) _ q.1
      refine pit_loop hx hf (by rw [hv.1]; exact ho) nt _ i _ kp (by omega) hh.1 hk (by omega) (vcC r i (vcF r (r 39) (r 40) kp i)) (vcP r (r 39) (r 40) kp i (vcF r (r 39) (r 40) kp i)) (lo := r 39) (hi := r 40) (by omega) (fun y a c => ⟨(hv.2 i _ y (by omega) (by omega) hh.1.1 ⟨hh.1.2, hh.2⟩ (by omega) (by omega)).1, by
        have := vBar_01 r i (vcF r (r 39) (r 40) kp i) y
        unfold vcC
        omega⟩) (fun y a c => ⟨by
        rw [hR i y (by omega) (by omega) a c, (hv.2 i _ y (by omega) (by omega) hh.1.1 ⟨hh.1.2, hh.2⟩ (by omega) (by omega)).2.1, hv.1]
        rfl, by
        have h1 := cpP_nn r kp i (vcF r (r 39) (r 40) kp i) y
        have h2 := cpP_bd r kp i (vcF r (r 39) (r 40) kp i) y hh.1 (by omega)
        have h3 := rsF_bd r (r 39) (r 40) kp (r 41 - 1 - i).toNat i y
        unfold vcP rsR
        omega⟩) (r 40 + 1 - r 39).toNat (r 39) (Int.le_refl _) (by omega) hit ?_
      refine pit_next _ _ _ _ _ _ ?_
      exact pit_all hx hf ho hv kp hk hR nt hnt hs m (i + 1) _ _ (by omega)
def ptF (r : Int → Int) (kp nt : Int) : Int := vcF r (r 39) (r 40) kp (nt + 1).toNat
set_option maxHeartbeats 1000000 in
theorem c_Model_pitchOf {sh : gS} {g : gM} (hx : gFix sh) (hf : gFin g) {r : Int → Int} (ho : rowOK r) (hv : vLaid r g) (kp : Int) (hk : kp = 0 ∨ kp = 1) (hR : ∀ n q, 0 ≤ n → n < r 41 → r 39 ≤ q → q ≤ r 40 → g 195 (25 * n + q) = rsR r (r 39) (r 40) kp n q) (nt : Int) (hnt : 0 ≤ nt ∧ nt < r 41) (hs : lsV r (r 39) (r 40) kp 0 0 < 100000000) : gTri f_Model_pitchOf 3 0 0 [(2, 177), (0, nt), (0, kp)] sh g (gR (some (0, ptF r kp nt)) sh g) := by
  refine gTri.of (by decide +kernel) rfl ?_
  show gWP f_Model_pitchOf _ _ _ 0 [(2, 177), (0, nt), (0, kp), (9, 0), (9, 0), (9, 0), (9, 0)] [] sh g _
  refine gw_iconst (gc k_Model_pitchOf_0 0 rfl) ?_
  refine gw_istore_3 (gc k_Model_pitchOf_0 1 rfl) rfl rfl ?_
  refine gw_iconst (gc k_Model_pitchOf_0 2 rfl) ?_
  refine gw_istore_4 (gc k_Model_pitchOf_0 3 rfl) rfl rfl ?_
  exact pit_all hx hf ho hv kp hk hR nt hnt hs (nt + 1).toNat 0 _ _ (by omega)
def voR (r : Int → Int) (kp nt : Int) : Int := if nt < -1 ∨ (r 41 ≤ nt ∧ ¬ nt = -1) then -1 else if loF r kp = -1 ∨ nt = -1 then loF r kp else ptF r kp nt
theorem loF_bd {r : Int → Int} {kp : Int} : -1 ≤ loF r kp ∧ loF r kp ≤ 100000000 := by
  have := lsV_bd r (r 39) (r 40) kp 0 0
  unfold loF
  split
  · omega
  · split <;> omega
theorem loF_lt {r : Int → Int} {kp : Int} (h : ¬ loF r kp = -1) (hm : ¬ r 41 = 0) : lsV r (r 39) (r 40) kp 0 0 < 100000000 := by
  by_cases z : 100000000 ≤ lsV r (r 39) (r 40) kp 0 0
  · exact absurd (by unfold loF; rw [if_neg hm, if_pos z]) h
  · omega
set_option maxHeartbeats 1000000 in
theorem c_Model_voiceOf {sh : gS} {g : gM} (hx : gFix sh) (hf : gFin g) (nt kp : Int) (hb : -2147483648 ≤ nt ∧ nt ≤ 2147483647) (hk : kp = 0 ∨ kp = 1) (ho : rowOK (g 179)) (hl : lawsOK (g 179)) : gTri f_Model_voiceOf 46 0 0 [(2, 177), (0, nt), (0, kp)] sh g (fun x s2 g2 => x = some (0, voR (g 179) kp nt) ∧ s2 = sh ∧ gVo g g2) := by
  have hm := ro_many ho
  have hlf := loF_bd (r := g 179) (kp := kp)
  refine gTri.of (by decide +kernel) rfl ?_
  show gWP f_Model_voiceOf _ _ _ 0 [(2, 177), (0, nt), (0, kp), (9, 0)] [] sh g _
  refine gw_iload_n (gc k_Model_voiceOf_0 0 rfl) rfl ?_
  refine gw_iconst (gc k_Model_voiceOf_0 1 rfl) ?_
  refine gw_icmp_lt (tgt := 18) (gc k_Model_voiceOf_0 2 rfl) rfl (by omega) (fun c2 => ?_) (fun c2 => ?_)
  · refine gw_iconst (gc k_Model_voiceOf_0 10 rfl) ?_
    refine gw_ireturn (gc k_Model_voiceOf_0 11 rfl) rfl ?_
    exact ⟨by unfold voR; rw [if_pos (by omega)], rfl, gVo.rf g⟩
  · refine gw_iload_n (gc k_Model_voiceOf_0 3 rfl) rfl ?_
    refine gw_aload_n (gc k_Model_voiceOf_0 4 rfl) rfl rfl ?_
    refine gw_cV1 (gc k_Model_voiceOf_0 5 rfl) y_Model_noteMany ln_Model_112 (c_Model_noteMany hx hf) rfl rfl (gAt hx rfl rfl) rfl rfl ?_
    refine gw_icmp_lt (tgt := 20) (gc k_Model_voiceOf_0 6 rfl) rfl (by omega) (fun c10 => ?_) (fun c10 => ?_)
    · refine gw_aload_n (gc k_Model_voiceOf_0 12 rfl) rfl rfl ?_
      refine gw_xV1 (gc k_Model_voiceOf_0 13 rfl) y_Model_laysNotes ln_Model_376 (c_Model_laysNotes hx hf ho hl) rfl rfl (gAt hx rfl rfl) rfl rfl (fun r21 sh2 g21 hq21 => ?_)
      obtain ⟨rfl, rfl, hq1⟩ := hq21
      have hf := hq1.fin hf
      have hv := hq1.laid
      refine gw_aload_n (gc k_Model_voiceOf_0 14 rfl) rfl rfl ?_
      refine gw_iload_n (gc k_Model_voiceOf_0 15 rfl) rfl ?_
      refine gw_xV1 (gc k_Model_voiceOf_0 16 rfl) y_Model_leastOf ln_Model_379 (c_Model_leastOf hx hf ho hv kp hk) rfl rfl (gAt hx rfl rfl) rfl rfl (fun r26 sh2 g26 hq26 => ?_)
      obtain ⟨rfl, rfl, hq2⟩ := hq26
      have hf := hq2.fin hf
      have hv := hv.eq hq2.1
      have hw := hq1.vo.tr hq2.vo
      refine gw_istore_3 (gc k_Model_voiceOf_0 17 rfl) rfl rfl ?_
      refine gw_iload_n (gc k_Model_voiceOf_0 18 rfl) rfl ?_
      refine gw_iconst (gc k_Model_voiceOf_0 19 rfl) ?_
      refine gw_icmp_eq (tgt := 40) (gc k_Model_voiceOf_0 20 rfl) rfl (by omega) (fun c32 => ?_) (fun c32 => ?_)
      · refine gw_iload_n (gc k_Model_voiceOf_0 24 rfl) rfl ?_
        refine gw_goto (tgt := 50) (gc k_Model_voiceOf_0 25 rfl) rfl ?_
        refine gw_ireturn (gc k_Model_voiceOf_0 30 rfl) rfl ?_
        refine ⟨?_, rfl, hw⟩
        unfold voR
        rw [if_neg (by omega)]
        first | exact absurd c15 c37 | rw [if_pos (by omega)] | rw [if_neg (by omega)]
      · refine gw_iload_n (gc k_Model_voiceOf_0 21 rfl) rfl ?_
        refine gw_iconst (gc k_Model_voiceOf_0 22 rfl) ?_
        refine gw_icmp_ne (tgt := 44) (gc k_Model_voiceOf_0 23 rfl) rfl (by omega) (fun c37 => ?_) (fun c37 => ?_)
        · refine gw_aload_n (gc k_Model_voiceOf_0 26 rfl) rfl rfl ?_
          refine gw_iload_n (gc k_Model_voiceOf_0 27 rfl) rfl ?_
          refine gw_iload_n (gc k_Model_voiceOf_0 28 rfl) rfl ?_
          refine gw_cV1 (gc k_Model_voiceOf_0 29 rfl) y_Model_pitchOf ln_Model_383 (c_Model_pitchOf hx hf ho hv kp hk (fun n q a b c d => hq2.2 n q a b c d (Or.inl (by omega))) nt (by omega) (loF_lt c32 (by omega))) rfl rfl (gAt hx rfl rfl) rfl rfl ?_
          refine gw_ireturn (gc k_Model_voiceOf_0 30 rfl) rfl ?_
          refine ⟨?_, rfl, hw⟩
          unfold voR
          rw [if_neg (by omega)]
          first | exact absurd c15 c37 | rw [if_pos (by omega)] | rw [if_neg (by omega)]
        · refine gw_iload_n (gc k_Model_voiceOf_0 24 rfl) rfl ?_
          refine gw_goto (tgt := 50) (gc k_Model_voiceOf_0 25 rfl) rfl ?_
          refine gw_ireturn (gc k_Model_voiceOf_0 30 rfl) rfl ?_
          refine ⟨?_, rfl, hw⟩
          unfold voR
          rw [if_neg (by omega)]
          first | exact absurd c15 c37 | rw [if_pos (by omega)] | rw [if_neg (by omega)]
    · refine gw_iload_n (gc k_Model_voiceOf_0 7 rfl) rfl ?_
      refine gw_iconst (gc k_Model_voiceOf_0 8 rfl) ?_
      refine gw_icmp_eq (tgt := 20) (gc k_Model_voiceOf_0 9 rfl) rfl (by omega) (fun c15 => ?_) (fun c15 => ?_)
      · refine gw_aload_n (gc k_Model_voiceOf_0 12 rfl) rfl rfl ?_
        refine gw_xV1 (gc k_Model_voiceOf_0 13 rfl) y_Model_laysNotes ln_Model_376 (c_Model_laysNotes hx hf ho hl) rfl rfl (gAt hx rfl rfl) rfl rfl (fun r21 sh2 g21 hq21 => ?_)
        obtain ⟨rfl, rfl, hq1⟩ := hq21
        have hf := hq1.fin hf
        have hv := hq1.laid
        refine gw_aload_n (gc k_Model_voiceOf_0 14 rfl) rfl rfl ?_
        refine gw_iload_n (gc k_Model_voiceOf_0 15 rfl) rfl ?_
        refine gw_xV1 (gc k_Model_voiceOf_0 16 rfl) y_Model_leastOf ln_Model_379 (c_Model_leastOf hx hf ho hv kp hk) rfl rfl (gAt hx rfl rfl) rfl rfl (fun r26 sh2 g26 hq26 => ?_)
        obtain ⟨rfl, rfl, hq2⟩ := hq26
        have hf := hq2.fin hf
        have hv := hv.eq hq2.1
        have hw := hq1.vo.tr hq2.vo
        refine gw_istore_3 (gc k_Model_voiceOf_0 17 rfl) rfl rfl ?_
        refine gw_iload_n (gc k_Model_voiceOf_0 18 rfl) rfl ?_
        refine gw_iconst (gc k_Model_voiceOf_0 19 rfl) ?_
        refine gw_icmp_eq (tgt := 40) (gc k_Model_voiceOf_0 20 rfl) rfl (by omega) (fun c32 => ?_) (fun c32 => ?_)
        · refine gw_iload_n (gc k_Model_voiceOf_0 24 rfl) rfl ?_
          refine gw_goto (tgt := 50) (gc k_Model_voiceOf_0 25 rfl) rfl ?_
          refine gw_ireturn (gc k_Model_voiceOf_0 30 rfl) rfl ?_
          refine ⟨?_, rfl, hw⟩
          unfold voR
          rw [if_neg (by omega)]
          first | exact absurd c15 c37 | rw [if_pos (by omega)] | rw [if_neg (by omega)]
        · refine gw_iload_n (gc k_Model_voiceOf_0 21 rfl) rfl ?_
          refine gw_iconst (gc k_Model_voiceOf_0 22 rfl) ?_
          refine gw_icmp_ne (tgt := 44) (gc k_Model_voiceOf_0 23 rfl) rfl (by omega) (fun c37 => ?_) (fun c37 => ?_)
          · refine gw_aload_n (gc k_Model_voiceOf_0 26 rfl) rfl rfl ?_
            refine gw_iload_n (gc k_Model_voiceOf_0 27 rfl) rfl ?_
            refine gw_iload_n (gc k_Model_voiceOf_0 28 rfl) rfl ?_
            refine gw_cV1 (gc k_Model_voiceOf_0 29 rfl) y_Model_pitchOf ln_Model_383 (c_Model_pitchOf hx hf ho hv kp hk (fun n q a b c d => hq2.2 n q a b c d (Or.inl (by omega))) nt (by omega) (loF_lt c32 (by omega))) rfl rfl (gAt hx rfl rfl) rfl rfl ?_
            refine gw_ireturn (gc k_Model_voiceOf_0 30 rfl) rfl ?_
            refine ⟨?_, rfl, hw⟩
            unfold voR
            rw [if_neg (by omega)]
            first | exact absurd c15 c37 | rw [if_pos (by omega)] | rw [if_neg (by omega)]
          · refine gw_iload_n (gc k_Model_voiceOf_0 24 rfl) rfl ?_
            refine gw_goto (tgt := 50) (gc k_Model_voiceOf_0 25 rfl) rfl ?_
            refine gw_ireturn (gc k_Model_voiceOf_0 30 rfl) rfl ?_
            refine ⟨?_, rfl, hw⟩
            unfold voR
            rw [if_neg (by omega)]
            first | exact absurd c15 c37 | rw [if_pos (by omega)] | rw [if_neg (by omega)]
      · refine gw_iconst (gc k_Model_voiceOf_0 10 rfl) ?_
        refine gw_ireturn (gc k_Model_voiceOf_0 11 rfl) rfl ?_
        exact ⟨by unfold voR; rw [if_pos (by omega)], rfl, gVo.rf g⟩
set_option maxHeartbeats 1000000 in
theorem c_Model_best {sh : gS} {g : gM} (hx : gFix sh) (hf : gFin g) (nt : Int) (hb : -2147483648 ≤ nt ∧ nt ≤ 2147483647) (ho : rowOK (g 179)) (hl : lawsOK (g 179)) : gTri f_Model_best 47 0 0 [(2, 177), (0, nt)] sh g (fun x s2 g2 => x = some (0, voR (g 179) 0 nt) ∧ s2 = sh ∧ gVo g g2) := by
  refine gTri.of (by decide +kernel) rfl ?_
  show gWP f_Model_best _ _ _ 0 [(2, 177), (0, nt)] [] sh g _
  refine gw_aload_n (gc k_Model_best_0 0 rfl) rfl rfl ?_
  refine gw_iload_n (gc k_Model_best_0 1 rfl) rfl ?_
  refine gw_iconst (gc k_Model_best_0 2 rfl) ?_
  refine gw_xV1 (gc k_Model_best_0 3 rfl) y_Model_voiceOf ln_Model_387 (c_Model_voiceOf hx hf nt 0 hb (Or.inl rfl) ho hl) rfl rfl (gAt hx rfl rfl) rfl rfl (fun r3 sh2 g3 hq3 => ?_)
  obtain ⟨rfl, rfl, hq⟩ := hq3
  refine gw_ireturn (gc k_Model_best_0 4 rfl) rfl ?_
  exact ⟨rfl, rfl, hq⟩
set_option maxHeartbeats 1000000 in
theorem c_Model_mend {sh : gS} {g : gM} (hx : gFix sh) (hf : gFin g) (nt : Int) (hb : -2147483648 ≤ nt ∧ nt ≤ 2147483647) (ho : rowOK (g 179)) (hl : lawsOK (g 179)) : gTri f_Model_mend 47 0 0 [(2, 177), (0, nt)] sh g (fun x s2 g2 => x = some (0, voR (g 179) 1 nt) ∧ s2 = sh ∧ gVo g g2) := by
  refine gTri.of (by decide +kernel) rfl ?_
  show gWP f_Model_mend _ _ _ 0 [(2, 177), (0, nt)] [] sh g _
  refine gw_aload_n (gc k_Model_mend_0 0 rfl) rfl rfl ?_
  refine gw_iload_n (gc k_Model_mend_0 1 rfl) rfl ?_
  refine gw_iconst (gc k_Model_mend_0 2 rfl) ?_
  refine gw_xV1 (gc k_Model_mend_0 3 rfl) y_Model_voiceOf ln_Model_387 (c_Model_voiceOf hx hf nt 1 hb (Or.inr rfl) ho hl) rfl rfl (gAt hx rfl rfl) rfl rfl (fun r3 sh2 g3 hq3 => ?_)
  obtain ⟨rfl, rfl, hq⟩ := hq3
  refine gw_ireturn (gc k_Model_mend_0 4 rfl) rfl ?_
  exact ⟨rfl, rfl, hq⟩
