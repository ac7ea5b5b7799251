/-! ===== String.length, charAt ===== -/
section GV
variable {F Fy : gF} {d mc ms pc npc d2 n idx : Nat} {ls st st2 as : List gV} {sh : gS} {g : gM} {Q : gQ}
theorem gw_callVS {k : Nat} {mc2 ms2 : Nat} {Q2 : gQ} (hi : gI F pc (.invokevirtual idx) 3 npc) (hy : gY Fy n ∧ Cond.instanceMethod Fy.1 ∈ lw_good ∧ Cond.selects Fy.1.cls Fy.1 Fy.1 ∈ lw_good) (hcls : Fy.1.cls = "java/lang/String") (hk : k < 27) (hlk : Cond.methodLink F.1.cls idx Fy.1 ∈ lw_good) (hT : gTri Fy d2 mc2 ms2 ((3, (k : Int)) :: as) sh g Q2) (hst : st = as.reverse ++ (3, (k : Int)) :: st2) (hn : as.length = n) (hcat : Nat.ble (st2.map gca).sum 8 = true) (hdp : Nat.ble (d2 + 1) d = true) (hmc : mc2 ≤ mc ∧ ms2 ≤ ms) (kk : ∀ r sh2 g2, Q2 r sh2 g2 → gWP F d (mc - mc2) (ms - ms2) npc ls (r.toList ++ st2) sh2 g2 Q) : gWP F d mc ms pc ls st sh g Q := by
  intro D p l e R s m args below meth c H locs cells slots lsC Qw C hR hS hl h1 h2 K
  obtain ⟨hd, rfl⟩ := hi
  subst hst
  have hts := C.2.2.2.2.2.1
  have hKn : gKn D s s.heap := C.2.2.2.2.2.2.2.2.2.2.1
  have hb0 := C.2.2.2.2.2.2.2.2.2.2.2
  have hfr := C.2.2.2.2.2.2.2.2.1
  have hlo := C.2.2.2.2.2.2.2.2.2.1
  have hdp := Nat.le_of_ble_eq_true hdp
  have hcat := Nat.le_of_ble_eq_true hcat
  obtain ⟨⟨y1, y2, y3, y4⟩, y5, y6⟩ := hy
  have hroom : (grm d2 mc2 ms2).frames + 1 ≤ R.frames ∧ 8 + (Fy.2.2.1 + 11) + (grm d2 mc2 ms2).locals ≤ R.locals := ⟨Nat.le_trans hdp hfr, by show 8 + (Fy.2.2.1 + 11) + 41 * d2 ≤ R.locals; omega⟩
  have cb := callB_of (R := R) (rm := grm d2 mc2 ms2) (mc := mc2) (ms := ms2) n hts (gGood y1) rfl rfl rfl (hts _ y2) (hts _ hlk) y3 hroom
  have gk : gcv D (3, (k : Int)) = .ref (D.2.2.2.1 k) := rfl
  obtain ⟨cell, e1, e2, e3⟩ := vk_recv (i := k) hKn.2.2.2.2.2.2.2.1 hk hS
  have hcellB : ∃ cellB : Cell, H[D.2.2.2.1 k]? = some cellB ∧ cellB.vm.isStatics = false ∧ s.vm.findClass Fy.1.cls = some cellB.cls := ⟨cell, e1, e2, by rw [hcls]; exact e3⟩
  have hrun := va_runV (Ts := lw_good) (own := F.1.cls) (e := e) (below := below) (meth := meth) (H := H) (locs := locs) (cells := cells) (slots := slots) (mc := mc2) (ms := ms2) (As := as.map (gcv D)) (rest := st2.map (gcv D)) (g := F0 m (pc) lsC ((as.reverse ++ (3, (k : Int)) :: st2).map (gcv D))) (nL := F.2.2.1) ⟨C.1, C.2.1, C.2.2.2.1, C.2.2.2.2.1, hts⟩ (hT l D) ⟨cb, hts _ y5, hts _ y6⟩ ⟨gPc_blind _ _ _ _, hcellB, fun U hU hW => by have := gPc_at (as := ((3, (k : Int)) :: as)) hKn hb0 hR hS hU hW; rw [List.map_cons, gk] at this; exact this⟩ rfl (by rw [List.length_map]; exact hn) hl.1 (by show List.map _ _ = _; rw [List.map_append, List.map_reverse, List.map_cons, gk]) (lv_room (by rw [List.map_map]; exact (by simpa [Function.comp_def, gcv_cat] using hcat))) hd ⟨by omega, by omega⟩
  refine gafter hrun hS (fun r sh2 g2 H1 locs1 hq hR1 hS1 => ?_)
  rw [← List.map_append]
  exact kk r sh2 g2 hq D p l e R s m args below meth c H1 locs1 (cells + mc2) (slots + ms2) lsC Qw C hR1 hS1 hl (by omega) (by omega) (fun r3 sh3 g3 H3 locs3 ls3 pc3 c3 s3 q1 q2 q3 q4 q5 q6 => K r3 sh3 g3 H3 locs3 ls3 pc3 c3 s3 q1 q2 q3 q4 (by omega) (by omega))
theorem gw_cVS {k : Nat} {v : gV} {g2 : gM} (hi : gI F pc (.invokevirtual idx) 3 npc) (hy : gY Fy n ∧ Cond.instanceMethod Fy.1 ∈ lw_good ∧ Cond.selects Fy.1.cls Fy.1 Fy.1 ∈ lw_good) (hcls : Fy.1.cls = "java/lang/String") (hk : k < 27) (hlk : Cond.methodLink F.1.cls idx Fy.1 ∈ lw_good) (hT : gTri Fy d2 0 0 ((3, (k : Int)) :: as) sh g (gR (some v) sh g2)) (hst : st = as.reverse ++ (3, (k : Int)) :: st2) (hn : as.length = n) (hcat : Nat.ble (st2.map gca).sum 8 = true) (hdp : Nat.ble (d2 + 1) d = true) (kk : gWP F d mc ms npc ls (v :: st2) sh g2 Q) : gWP F d mc ms pc ls st sh g Q :=
  gw_callVS hi hy hcls hk hlk hT hst hn hcat hdp ⟨Nat.zero_le _, Nat.zero_le _⟩ (fun r sh2 g3 hq => by
    obtain ⟨rfl, rfl, rfl⟩ := hq
    exact kk)
theorem gw_breturn {x : Int} (hi : gI F pc (.ireturn) 1 npc) (hr : F.2.2.2 = some .byte) (hx : narrow .byte (.int (Int32.ofInt x)) = .int (Int32.ofInt x)) (hq : Q (some (0, x)) sh g) : gWP F d mc ms pc ls [(0, x)] sh g Q := by
  intro D p l e R s m args below meth c H locs cells slots lsC Qw C hR hS hl h1 h2 K
  obtain ⟨hd, rfl⟩ := hi
  exact K (some (0, x)) sh g H locs lsC pc cells slots hq hR hS (Or.inl ⟨rfl, hd, .byte, hr, hx⟩) (by omega) (by omega)
theorem i2c_id {x : Int} (h : 0 ≤ x ∧ x ≤ 255) : ((Int32.ofInt x).toUInt32 % 65536).toInt32 = Int32.ofInt x := by
  obtain ⟨k, rfl⟩ : ∃ k : Fin 256, x = (k.val : Int) := ⟨⟨x.toNat, by omega⟩, by show x = ((x.toNat : Nat) : Int); omega⟩
  have e : ∀ k : Fin 256, ((Int32.ofInt (k.val : Int)).toUInt32 % 65536).toInt32 = Int32.ofInt (k.val : Int) := by decide +kernel
  exact e k
theorem gw_i2c {x : Int} (hi : gI F pc (.i2c) 1 npc) (hx : 0 ≤ x ∧ x ≤ 255) (kk : gWP F d mc ms npc ls ((0, x) :: st) sh g Q) : gWP F d mc ms pc ls ((0, x) :: st) sh g Q := by
  intro D p l e R s m args below meth c H locs cells slots lsC Qw C hR hS hl h1 h2 K
  obtain ⟨hd, rfl⟩ := hi
  exact lv_i2c C.1 C.2.1 hd (i2c_id hx) (kk D p l e R s m args below meth c H locs cells slots lsC Qw C hR hS hl h1 h2 K)
theorem nar_char {x : Int} (h : 0 ≤ x ∧ x ≤ 255) : narrow .char (.int (Int32.ofInt x)) = .int (Int32.ofInt x) := by
  obtain ⟨k, rfl⟩ : ∃ k : Fin 256, x = (k.val : Int) := ⟨⟨x.toNat, by omega⟩, by show x = ((x.toNat : Nat) : Int); omega⟩
  have e : ∀ k : Fin 256, narrow .char (.int (Int32.ofInt (k.val : Int))) = .int (Int32.ofInt (k.val : Int)) := by decide +kernel
  exact e k
end GV
set_option maxHeartbeats 1000000 in
theorem c_Str_coder {sh : gS} {g : gM} (k : Nat) (hk : k < 27) : gTri f_Str_coder 0 0 0 [(3, (k : Int))] sh g (gR (some (0, 0)) sh g) := by
  refine gTri.of (by decide +kernel) rfl ?_
  show gWP f_Str_coder _ _ _ 0 [(3, (k : Int))] [] sh g _
  refine gw_getCS (gc k_Str_coder_0 0 rfl) (gm3 123 rfl rfl) ?_
  refine gw_if_eq (tgt := 13) (gc k_Str_coder_0 1 rfl) rfl (by omega) (fun c3 => ?_) (fun c3 => ?_)
  · exact absurd c3 (by decide)
  · refine gw_aload_n (gc k_Str_coder_0 2 rfl) rfl rfl ?_
    refine gw_getSc (gc k_Str_coder_0 3 rfl) (gm8 76 rfl rfl) (by omega) ?_
    refine gw_goto (tgt := 14) (gc k_Str_coder_0 4 rfl) rfl ?_
    refine gw_breturn (gc k_Str_coder_0 6 rfl) rfl rfl ?_
    exact ⟨rfl, rfl, rfl⟩
set_option maxHeartbeats 1000000 in
theorem c_Str_isLatin1 {sh : gS} {g : gM} (k : Nat) (hk : k < 27) : gTri f_Str_isLatin1 0 0 0 [(3, (k : Int))] sh g (gR (some (0, 1)) sh g) := by
  refine gTri.of (by decide +kernel) rfl ?_
  show gWP f_Str_isLatin1 _ _ _ 0 [(3, (k : Int))] [] sh g _
  refine gw_getCS (gc k_Str_isLatin1_0 0 rfl) (gm3 123 rfl rfl) ?_
  refine gw_if_eq (tgt := 17) (gc k_Str_isLatin1_0 1 rfl) rfl (by omega) (fun c3 => ?_) (fun c3 => ?_)
  · exact absurd c3 (by decide)
  · refine gw_aload_n (gc k_Str_isLatin1_0 2 rfl) rfl rfl ?_
    refine gw_getSc (gc k_Str_isLatin1_0 3 rfl) (gm8 76 rfl rfl) (by omega) ?_
    refine gw_if_ne (tgt := 17) (gc k_Str_isLatin1_0 4 rfl) rfl (by omega) (fun c10 => ?_) (fun c10 => ?_)
    · exact absurd rfl c10
    · refine gw_iconst (gc k_Str_isLatin1_0 5 rfl) ?_
      refine gw_goto (tgt := 18) (gc k_Str_isLatin1_0 6 rfl) rfl ?_
      refine gw_zreturn (gc k_Str_isLatin1_0 8 rfl) rfl (by omega) ?_
      exact ⟨rfl, rfl, rfl⟩
set_option maxHeartbeats 1000000 in
theorem c_Str_length {sh : gS} {g : gM} (k n : Nat) (hk : k < 27) (hn : gSl[k]? = some n) (hb : n ≤ 1000) : gTri f_Str_length 1 0 0 [(3, (k : Int))] sh g (gR (some (0, (n : Int))) sh g) := by
  refine gTri.of (by decide +kernel) rfl ?_
  show gWP f_Str_length _ _ _ 0 [(3, (k : Int))] [] sh g _
  refine gw_aload_n (gc k_Str_length_0 0 rfl) rfl rfl ?_
  refine gw_getSv (gc k_Str_length_0 1 rfl) (gm8 75 rfl rfl) (by omega) ?_
  refine gw_alenS (gc k_Str_length_0 2 rfl) (by omega) hn ?_
  refine gw_aload_n (gc k_Str_length_0 3 rfl) rfl rfl ?_
  refine gw_cVS (gc k_Str_length_0 4 rfl) y_Str_coder rfl (by omega) ln_Str_335 (c_Str_coder k hk) rfl rfl rfl rfl ?_
  refine gw_ishr (gc k_Str_length_0 5 rfl) ?_
  refine gw_ireturn (gc k_Str_length_0 6 rfl) rfl ?_
  exact ⟨by rw [gshr_div (by omega) (by omega)]; exact gsi (by show (n : Int) / ((2 ^ 0 : Nat) : Int) = _; omega), rfl, rfl⟩
set_option maxHeartbeats 1000000 in
theorem c_Pre_checkIndex {sh : gS} {g : gM} (i n : Int) (hb : 0 ≤ i ∧ i < n ∧ n ≤ 1000) : gTri f_Pre_checkIndex 3 0 0 [(0, i), (0, n), (6, 0)] sh g (gR (some (0, i)) sh g) := by
  refine gTri.of (by decide +kernel) rfl ?_
  show gWP f_Pre_checkIndex _ _ _ 0 [(0, i), (0, n), (6, 0)] [] sh g _
  refine gw_iload_n (gc k_Pre_checkIndex_0 0 rfl) rfl ?_
  refine gw_if_lt (tgt := 9) (gc k_Pre_checkIndex_0 1 rfl) rfl (by omega) (fun c1 => ?_) (fun c1 => ?_)
  · exfalso; omega
  · refine gw_iload_n (gc k_Pre_checkIndex_0 2 rfl) rfl ?_
    refine gw_iload_n (gc k_Pre_checkIndex_0 3 rfl) rfl ?_
    refine gw_icmp_lt (tgt := 16) (gc k_Pre_checkIndex_0 4 rfl) rfl (by omega) (fun c6 => ?_) (fun c6 => ?_)
    · refine gw_iload_n (gc k_Pre_checkIndex_0 10 rfl) rfl ?_
      refine gw_ireturn (gc k_Pre_checkIndex_0 11 rfl) rfl ?_
      exact ⟨rfl, rfl, rfl⟩
    · exfalso; omega
set_option maxHeartbeats 1000000 in
theorem c_Str_checkIndex {sh : gS} {g : gM} (i n : Int) (hb : 0 ≤ i ∧ i < n ∧ n ≤ 1000) : gTri f_Str_checkIndex 4 0 0 [(0, i), (0, n)] sh g (gR none sh g) := by
  refine gTri.of (by decide +kernel) rfl ?_
  show gWP f_Str_checkIndex _ _ _ 0 [(0, i), (0, n)] [] sh g _
  refine gw_iload_n (gc k_Str_checkIndex_0 0 rfl) rfl ?_
  refine gw_iload_n (gc k_Str_checkIndex_0 1 rfl) rfl ?_
  refine gw_getSF (gc k_Str_checkIndex_0 2 rfl) (gm3 139 rfl rfl) ?_
  refine gw_cS1 (gc k_Str_checkIndex_0 3 rfl) y_Pre_checkIndex ln_Str_1059 (c_Pre_checkIndex i n hb) rfl rfl rfl rfl ?_
  refine gw_pop (gc k_Str_checkIndex_0 4 rfl) rfl ?_
  refine gw_return (gc k_Str_checkIndex_0 5 rfl) rfl ?_
  exact ⟨rfl, rfl, rfl⟩
set_option maxHeartbeats 1000000 in
theorem c_Lat_charAt {sh : gS} {g : gM} (k n : Nat) (hk : k < 27) (hn : gSl[k]? = some n) (hb : n ≤ 1000) (i : Int) (hi : 0 ≤ i ∧ i < n) (x : Int32) (hv : (gSb.getD k []).getD i.toNat 0 = x) (hx : 0 ≤ x.toInt ∧ x.toInt ≤ 127) : gTri f_Lat_charAt 5 0 0 [(5, (k : Int)), (0, i)] sh g (gR (some (0, x.toInt)) sh g) := by
  refine gTri.of (by decide +kernel) rfl ?_
  show gWP f_Lat_charAt _ _ _ 0 [(5, (k : Int)), (0, i)] [] sh g _
  refine gw_iload_n (gc k_Lat_charAt_0 0 rfl) rfl ?_
  refine gw_aload_n (gc k_Lat_charAt_0 1 rfl) rfl rfl ?_
  refine gw_alenS (gc k_Lat_charAt_0 2 rfl) (by omega) hn ?_
  refine gw_cS0 (gc k_Lat_charAt_0 3 rfl) y_Str_checkIndex ln_Lat_9 (c_Str_checkIndex i n (by omega)) rfl rfl rfl rfl ?_
  refine gw_aload_n (gc k_Lat_charAt_0 4 rfl) rfl rfl ?_
  refine gw_iload_n (gc k_Lat_charAt_0 5 rfl) rfl ?_
  refine gw_baldS (gc k_Lat_charAt_0 6 rfl) (by omega) hn (by omega) hv ?_
  refine gw_sipush (gc k_Lat_charAt_0 7 rfl) (by decide) ?_
  refine gw_iand (gc k_Lat_charAt_0 8 rfl) ?_
  rw [gand_255, show x.toInt % 256 = x.toInt by omega]
  refine gw_i2c (gc k_Lat_charAt_0 9 rfl) (by omega) ?_
  refine gw_creturn (gc k_Lat_charAt_0 10 rfl) rfl (nar_char (by omega)) ?_
  exact ⟨rfl, rfl, rfl⟩
set_option maxHeartbeats 1000000 in
theorem c_Str_charAt {sh : gS} {g : gM} (k n : Nat) (hk : k < 27) (hn : gSl[k]? = some n) (hb : n ≤ 1000) (i : Int) (hi : 0 ≤ i ∧ i < n) (x : Int32) (hv : (gSb.getD k []).getD i.toNat 0 = x) (hx : 0 ≤ x.toInt ∧ x.toInt ≤ 127) : gTri f_Str_charAt 6 0 0 [(3, (k : Int)), (0, i)] sh g (gR (some (0, x.toInt)) sh g) := by
  refine gTri.of (by decide +kernel) rfl ?_
  show gWP f_Str_charAt _ _ _ 0 [(3, (k : Int)), (0, i)] [] sh g _
  refine gw_aload_n (gc k_Str_charAt_0 0 rfl) rfl rfl ?_
  refine gw_cVS (gc k_Str_charAt_0 1 rfl) y_Str_isLatin1 rfl (by omega) ln_Str_492 (c_Str_isLatin1 k hk) rfl rfl rfl rfl ?_
  refine gw_if_eq (tgt := 16) (gc k_Str_charAt_0 2 rfl) rfl (by omega) (fun c4 => ?_) (fun c4 => ?_)
  · exact absurd c4 (by decide)
  · refine gw_aload_n (gc k_Str_charAt_0 3 rfl) rfl rfl ?_
    refine gw_getSv (gc k_Str_charAt_0 4 rfl) (gm8 75 rfl rfl) (by omega) ?_
    refine gw_iload_n (gc k_Str_charAt_0 5 rfl) rfl ?_
    refine gw_cS1 (gc k_Str_charAt_0 6 rfl) y_Lat_charAt ln_Str_495 (c_Lat_charAt k n hk hn hb i hi x hv hx) rfl rfl rfl rfl ?_
    refine gw_creturn (gc k_Str_charAt_0 7 rfl) rfl (nar_char (by omega)) ?_
    exact ⟨rfl, rfl, rfl⟩
