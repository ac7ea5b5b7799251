/-! ===== the class's machine: two numbers joined ===== -/
/-- a number, or what stands for none -/
def brK (x : Option Int) : Int := match x with
  | none => -2000000000
  | some v => v
theorem brK_hi {v : Int} (h : 1000000000 < v ∨ v < -1000000000) : brK (plim v) = -2000000000 := by
  unfold plim; rw [if_pos (by omega)]; rfl
theorem brK_in {v : Int} (h : ¬ (1000000000 < v ∨ v < -1000000000)) : brK (plim v) = v := by
  unfold plim; rw [if_neg (by omega)]; rfl
theorem jm_bd {a b : Int} (ha : -1000000000 ≤ a ∧ a ≤ 1000000000) (hb : -1000000000 ≤ b ∧ b ≤ 1000000000) : -9000000000000000000 ≤ a * b ∧ a * b ≤ 9000000000000000000 := by
  have h1 : a.natAbs ≤ 1000000000 := by omega
  have h2 : b.natAbs ≤ 1000000000 := by omega
  have h3 := Nat.mul_le_mul h1 h2
  rw [← Int.natAbs_mul] at h3
  omega
set_option maxHeartbeats 1000000 in
theorem c_Machine_joined {sh : gS} {g : gM} (hx : gFix sh) (hf : gFin g) (op a b : Int) (ho : 5 ≤ op ∧ op ≤ 12) (ha : -1000000000 ≤ a ∧ a ≤ 1000000000) (hb : -1000000000 ≤ b ∧ b ≤ 1000000000) : gTri f_Machine_joined 0 0 0 [(0, op), (1, a), (1, b)] sh g (gR (some (0, brK (pjn op a b))) sh g) := by
  have hm1 := jm_bd ha hb
  have hm2 := gtd_bd ha b
  have hm3 := gtm_bd ha b
  refine gTri.of (by decide +kernel) rfl ?_
  show gWP f_Machine_joined _ _ _ 0 [(0, op), (1, a), (9, 0), (1, b), (9, 0), (9, 0), (9, 0)] [] sh g _
  refine gw_iload_n (gc k_Machine_joined_0 0 rfl) rfl ?_
  refine gw_bipush (gc k_Machine_joined_0 1 rfl) (by decide) ?_
  refine gw_icmp_eq (tgt := 12) (gc k_Machine_joined_0 2 rfl) rfl (by omega) (fun c3 => ?_) (fun c3 => ?_)
  · refine gw_lload_n (gc k_Machine_joined_0 6 rfl) rfl ?_
    refine gw_lconst0 (gc k_Machine_joined_0 7 rfl) ?_
    refine gw_lc_ne (tgt := 21) (gc k_Machine_joined_0 8 rfl) (gc k_Machine_joined_0 9 rfl) rfl (by omega) (fun c15 => ?_) (fun c15 => ?_)
    · refine gw_iload_n (gc k_Machine_joined_0 12 rfl) rfl ?_
      rcases (show op = 5 ∨ op = 6 ∨ op = 7 ∨ op = 8 ∨ op = 9 ∨ op = 10 ∨ op = 11 ∨ (op < 5 ∨ 11 < op) by omega) with hs22 | hs22 | hs22 | hs22 | hs22 | hs22 | hs22 | hs22
      · refine gw_tableIn (tgt := 64) (gc k_Machine_joined_0 13 rfl) (by omega) (by omega) (by rw [hs22]; rfl) rfl ?_
        refine gw_lload_n (gc k_Machine_joined_0 14 rfl) rfl ?_
        refine gw_lload_n (gc k_Machine_joined_0 15 rfl) rfl ?_
        refine gw_ladd (gc k_Machine_joined_0 16 rfl) ?_
        refine gw_lstore_5 (gc k_Machine_joined_0 17 rfl) rfl rfl ?_
        refine gw_goto (tgt := 149) (gc k_Machine_joined_0 18 rfl) rfl ?_
        refine gw_lload (gc k_Machine_joined_1 25 rfl) rfl ?_
        refine gw_ldc2 (gc k_Machine_joined_1 26 rfl) cn_Machine_37 ?_
        refine gw_lc_gt (tgt := 167) (gc k_Machine_joined_1 27 rfl) (gc k_Machine_joined_1 28 rfl) rfl (by omega) (fun c155 => ?_) (fun c155 => ?_)
        · refine gw_ldc (gc k_Machine_joined_1 33 rfl) cn_Machine_26 ?_
          refine gw_goto (tgt := 175) (gc k_Machine_joined_1 34 rfl) rfl ?_
          refine gw_ireturn (gc k_Machine_joined_1 37 rfl) rfl ?_
          refine ⟨gsi ?_, rfl, rfl⟩
          unfold pjn
          rw [if_pos hs22]
          exact (brK_hi (by omega)).symm
        · refine gw_lload (gc k_Machine_joined_1 29 rfl) rfl ?_
          refine gw_ldc2 (gc k_Machine_joined_1 30 rfl) cn_Machine_39 ?_
          refine gw_lc_ge (tgt := 172) (gc k_Machine_joined_1 31 rfl) (gc k_Machine_joined_1 32 rfl) rfl (by omega) (fun c164 => ?_) (fun c164 => ?_)
          · refine gw_lload (gc k_Machine_joined_1 35 rfl) rfl ?_
            refine gw_l2i (gc k_Machine_joined_1 36 rfl) ?_
            refine gw_ireturn (gc k_Machine_joined_1 37 rfl) rfl ?_
            refine ⟨gsi ?_, rfl, rfl⟩
            unfold pjn
            rw [if_pos hs22]
            exact (brK_in (by omega)).symm
          · refine gw_ldc (gc k_Machine_joined_1 33 rfl) cn_Machine_26 ?_
            refine gw_goto (tgt := 175) (gc k_Machine_joined_1 34 rfl) rfl ?_
            refine gw_ireturn (gc k_Machine_joined_1 37 rfl) rfl ?_
            refine ⟨gsi ?_, rfl, rfl⟩
            unfold pjn
            rw [if_pos hs22]
            exact (brK_hi (by omega)).symm
      · refine gw_tableIn (tgt := 72) (gc k_Machine_joined_0 13 rfl) (by omega) (by omega) (by rw [hs22]; rfl) rfl ?_
        refine gw_lload_n (gc k_Machine_joined_0 19 rfl) rfl ?_
        refine gw_lload_n (gc k_Machine_joined_0 20 rfl) rfl ?_
        refine gw_lsub (gc k_Machine_joined_0 21 rfl) ?_
        refine gw_lstore_5 (gc k_Machine_joined_0 22 rfl) rfl rfl ?_
        refine gw_goto (tgt := 149) (gc k_Machine_joined_0 23 rfl) rfl ?_
        refine gw_lload (gc k_Machine_joined_1 25 rfl) rfl ?_
        refine gw_ldc2 (gc k_Machine_joined_1 26 rfl) cn_Machine_37 ?_
        refine gw_lc_gt (tgt := 167) (gc k_Machine_joined_1 27 rfl) (gc k_Machine_joined_1 28 rfl) rfl (by omega) (fun c155 => ?_) (fun c155 => ?_)
        · refine gw_ldc (gc k_Machine_joined_1 33 rfl) cn_Machine_26 ?_
          refine gw_goto (tgt := 175) (gc k_Machine_joined_1 34 rfl) rfl ?_
          refine gw_ireturn (gc k_Machine_joined_1 37 rfl) rfl ?_
          refine ⟨gsi ?_, rfl, rfl⟩
          unfold pjn
          rw [if_neg (by omega), if_pos hs22]
          exact (brK_hi (by omega)).symm
        · refine gw_lload (gc k_Machine_joined_1 29 rfl) rfl ?_
          refine gw_ldc2 (gc k_Machine_joined_1 30 rfl) cn_Machine_39 ?_
          refine gw_lc_ge (tgt := 172) (gc k_Machine_joined_1 31 rfl) (gc k_Machine_joined_1 32 rfl) rfl (by omega) (fun c164 => ?_) (fun c164 => ?_)
          · refine gw_lload (gc k_Machine_joined_1 35 rfl) rfl ?_
            refine gw_l2i (gc k_Machine_joined_1 36 rfl) ?_
            refine gw_ireturn (gc k_Machine_joined_1 37 rfl) rfl ?_
            refine ⟨gsi ?_, rfl, rfl⟩
            unfold pjn
            rw [if_neg (by omega), if_pos hs22]
            exact (brK_in (by omega)).symm
          · refine gw_ldc (gc k_Machine_joined_1 33 rfl) cn_Machine_26 ?_
            refine gw_goto (tgt := 175) (gc k_Machine_joined_1 34 rfl) rfl ?_
            refine gw_ireturn (gc k_Machine_joined_1 37 rfl) rfl ?_
            refine ⟨gsi ?_, rfl, rfl⟩
            unfold pjn
            rw [if_neg (by omega), if_pos hs22]
            exact (brK_hi (by omega)).symm
      · refine gw_tableIn (tgt := 80) (gc k_Machine_joined_0 13 rfl) (by omega) (by omega) (by rw [hs22]; rfl) rfl ?_
        refine gw_lload_n (gc k_Machine_joined_0 24 rfl) rfl ?_
        refine gw_lload_n (gc k_Machine_joined_0 25 rfl) rfl ?_
        refine gw_lmul (gc k_Machine_joined_0 26 rfl) ?_
        refine gw_lstore_5 (gc k_Machine_joined_0 27 rfl) rfl rfl ?_
        refine gw_goto (tgt := 149) (gc k_Machine_joined_0 28 rfl) rfl ?_
        refine gw_lload (gc k_Machine_joined_1 25 rfl) rfl ?_
        refine gw_ldc2 (gc k_Machine_joined_1 26 rfl) cn_Machine_37 ?_
        refine gw_lc_gt (tgt := 167) (gc k_Machine_joined_1 27 rfl) (gc k_Machine_joined_1 28 rfl) rfl (by omega) (fun c155 => ?_) (fun c155 => ?_)
        · refine gw_ldc (gc k_Machine_joined_1 33 rfl) cn_Machine_26 ?_
          refine gw_goto (tgt := 175) (gc k_Machine_joined_1 34 rfl) rfl ?_
          refine gw_ireturn (gc k_Machine_joined_1 37 rfl) rfl ?_
          refine ⟨gsi ?_, rfl, rfl⟩
          unfold pjn
          rw [if_neg (by omega), if_neg (by omega), if_pos hs22]
          exact (brK_hi (by omega)).symm
        · refine gw_lload (gc k_Machine_joined_1 29 rfl) rfl ?_
          refine gw_ldc2 (gc k_Machine_joined_1 30 rfl) cn_Machine_39 ?_
          refine gw_lc_ge (tgt := 172) (gc k_Machine_joined_1 31 rfl) (gc k_Machine_joined_1 32 rfl) rfl (by omega) (fun c164 => ?_) (fun c164 => ?_)
          · refine gw_lload (gc k_Machine_joined_1 35 rfl) rfl ?_
            refine gw_l2i (gc k_Machine_joined_1 36 rfl) ?_
            refine gw_ireturn (gc k_Machine_joined_1 37 rfl) rfl ?_
            refine ⟨gsi ?_, rfl, rfl⟩
            unfold pjn
            rw [if_neg (by omega), if_neg (by omega), if_pos hs22]
            exact (brK_in (by omega)).symm
          · refine gw_ldc (gc k_Machine_joined_1 33 rfl) cn_Machine_26 ?_
            refine gw_goto (tgt := 175) (gc k_Machine_joined_1 34 rfl) rfl ?_
            refine gw_ireturn (gc k_Machine_joined_1 37 rfl) rfl ?_
            refine ⟨gsi ?_, rfl, rfl⟩
            unfold pjn
            rw [if_neg (by omega), if_neg (by omega), if_pos hs22]
            exact (brK_hi (by omega)).symm
      · refine gw_tableIn (tgt := 88) (gc k_Machine_joined_0 13 rfl) (by omega) (by omega) (by rw [hs22]; rfl) rfl ?_
        refine gw_lload_n (gc k_Machine_joined_0 29 rfl) rfl ?_
        refine gw_lload_n (gc k_Machine_joined_0 30 rfl) rfl ?_
        refine gw_ldiv (gc k_Machine_joined_0 31 rfl) (by omega) ?_
        refine gw_lstore_5 (gc k_Machine_joined_0 32 rfl) rfl rfl ?_
        refine gw_goto (tgt := 149) (gc k_Machine_joined_0 33 rfl) rfl ?_
        refine gw_lload (gc k_Machine_joined_1 25 rfl) rfl ?_
        refine gw_ldc2 (gc k_Machine_joined_1 26 rfl) cn_Machine_37 ?_
        refine gw_lc_gt (tgt := 167) (gc k_Machine_joined_1 27 rfl) (gc k_Machine_joined_1 28 rfl) rfl (by omega) (fun c155 => ?_) (fun c155 => ?_)
        · refine gw_ldc (gc k_Machine_joined_1 33 rfl) cn_Machine_26 ?_
          refine gw_goto (tgt := 175) (gc k_Machine_joined_1 34 rfl) rfl ?_
          refine gw_ireturn (gc k_Machine_joined_1 37 rfl) rfl ?_
          refine ⟨gsi ?_, rfl, rfl⟩
          unfold pjn
          rw [if_neg (by omega), if_neg (by omega), if_neg (by omega), if_pos hs22, if_neg (by omega)]
          exact (brK_hi (by omega)).symm
        · refine gw_lload (gc k_Machine_joined_1 29 rfl) rfl ?_
          refine gw_ldc2 (gc k_Machine_joined_1 30 rfl) cn_Machine_39 ?_
          refine gw_lc_ge (tgt := 172) (gc k_Machine_joined_1 31 rfl) (gc k_Machine_joined_1 32 rfl) rfl (by omega) (fun c164 => ?_) (fun c164 => ?_)
          · refine gw_lload (gc k_Machine_joined_1 35 rfl) rfl ?_
            refine gw_l2i (gc k_Machine_joined_1 36 rfl) ?_
            refine gw_ireturn (gc k_Machine_joined_1 37 rfl) rfl ?_
            refine ⟨gsi ?_, rfl, rfl⟩
            unfold pjn
            rw [if_neg (by omega), if_neg (by omega), if_neg (by omega), if_pos hs22, if_neg (by omega)]
            exact (brK_in (by omega)).symm
          · refine gw_ldc (gc k_Machine_joined_1 33 rfl) cn_Machine_26 ?_
            refine gw_goto (tgt := 175) (gc k_Machine_joined_1 34 rfl) rfl ?_
            refine gw_ireturn (gc k_Machine_joined_1 37 rfl) rfl ?_
            refine ⟨gsi ?_, rfl, rfl⟩
            unfold pjn
            rw [if_neg (by omega), if_neg (by omega), if_neg (by omega), if_pos hs22, if_neg (by omega)]
            exact (brK_hi (by omega)).symm
      · refine gw_tableIn (tgt := 96) (gc k_Machine_joined_0 13 rfl) (by omega) (by omega) (by rw [hs22]; rfl) rfl ?_
        refine gw_lload_n (gc k_Machine_joined_0 34 rfl) rfl ?_
        refine gw_lload_n (gc k_Machine_joined_0 35 rfl) rfl ?_
        refine gw_lrem (gc k_Machine_joined_0 36 rfl) (by omega) ?_
        refine gw_lstore_5 (gc k_Machine_joined_0 37 rfl) rfl rfl ?_
        refine gw_goto (tgt := 149) (gc k_Machine_joined_0 38 rfl) rfl ?_
        refine gw_lload (gc k_Machine_joined_1 25 rfl) rfl ?_
        refine gw_ldc2 (gc k_Machine_joined_1 26 rfl) cn_Machine_37 ?_
        refine gw_lc_gt (tgt := 167) (gc k_Machine_joined_1 27 rfl) (gc k_Machine_joined_1 28 rfl) rfl (by omega) (fun c155 => ?_) (fun c155 => ?_)
        · refine gw_ldc (gc k_Machine_joined_1 33 rfl) cn_Machine_26 ?_
          refine gw_goto (tgt := 175) (gc k_Machine_joined_1 34 rfl) rfl ?_
          refine gw_ireturn (gc k_Machine_joined_1 37 rfl) rfl ?_
          refine ⟨gsi ?_, rfl, rfl⟩
          unfold pjn
          rw [if_neg (by omega), if_neg (by omega), if_neg (by omega), if_neg (by omega), if_pos hs22, if_neg (by omega)]
          exact (brK_hi (by omega)).symm
        · refine gw_lload (gc k_Machine_joined_1 29 rfl) rfl ?_
          refine gw_ldc2 (gc k_Machine_joined_1 30 rfl) cn_Machine_39 ?_
          refine gw_lc_ge (tgt := 172) (gc k_Machine_joined_1 31 rfl) (gc k_Machine_joined_1 32 rfl) rfl (by omega) (fun c164 => ?_) (fun c164 => ?_)
          · refine gw_lload (gc k_Machine_joined_1 35 rfl) rfl ?_
            refine gw_l2i (gc k_Machine_joined_1 36 rfl) ?_
            refine gw_ireturn (gc k_Machine_joined_1 37 rfl) rfl ?_
            refine ⟨gsi ?_, rfl, rfl⟩
            unfold pjn
            rw [if_neg (by omega), if_neg (by omega), if_neg (by omega), if_neg (by omega), if_pos hs22, if_neg (by omega)]
            exact (brK_in (by omega)).symm
          · refine gw_ldc (gc k_Machine_joined_1 33 rfl) cn_Machine_26 ?_
            refine gw_goto (tgt := 175) (gc k_Machine_joined_1 34 rfl) rfl ?_
            refine gw_ireturn (gc k_Machine_joined_1 37 rfl) rfl ?_
            refine ⟨gsi ?_, rfl, rfl⟩
            unfold pjn
            rw [if_neg (by omega), if_neg (by omega), if_neg (by omega), if_neg (by omega), if_pos hs22, if_neg (by omega)]
            exact (brK_hi (by omega)).symm
      · refine gw_tableIn (tgt := 104) (gc k_Machine_joined_0 13 rfl) (by omega) (by omega) (by rw [hs22]; rfl) rfl ?_
        refine gw_lload_n (gc k_Machine_joined_0 39 rfl) rfl ?_
        refine gw_lload_n (gc k_Machine_joined_1 0 rfl) rfl ?_
        refine gw_lc_ge (tgt := 114) (gc k_Machine_joined_1 1 rfl) (gc k_Machine_joined_1 2 rfl) rfl (by omega) (fun c107 => ?_) (fun c107 => ?_)
        · refine gw_lconst0 (gc k_Machine_joined_1 5 rfl) ?_
          refine gw_lstore_5 (gc k_Machine_joined_1 6 rfl) rfl rfl ?_
          refine gw_goto (tgt := 149) (gc k_Machine_joined_1 7 rfl) rfl ?_
          refine gw_lload (gc k_Machine_joined_1 25 rfl) rfl ?_
          refine gw_ldc2 (gc k_Machine_joined_1 26 rfl) cn_Machine_37 ?_
          refine gw_lc_gt (tgt := 167) (gc k_Machine_joined_1 27 rfl) (gc k_Machine_joined_1 28 rfl) rfl (by omega) (fun c155 => ?_) (fun c155 => ?_)
          · refine gw_ldc (gc k_Machine_joined_1 33 rfl) cn_Machine_26 ?_
            refine gw_goto (tgt := 175) (gc k_Machine_joined_1 34 rfl) rfl ?_
            refine gw_ireturn (gc k_Machine_joined_1 37 rfl) rfl ?_
            exfalso; omega
          · refine gw_lload (gc k_Machine_joined_1 29 rfl) rfl ?_
            refine gw_ldc2 (gc k_Machine_joined_1 30 rfl) cn_Machine_39 ?_
            refine gw_lc_ge (tgt := 172) (gc k_Machine_joined_1 31 rfl) (gc k_Machine_joined_1 32 rfl) rfl (by omega) (fun c164 => ?_) (fun c164 => ?_)
            · refine gw_lload (gc k_Machine_joined_1 35 rfl) rfl ?_
              refine gw_l2i (gc k_Machine_joined_1 36 rfl) ?_
              refine gw_ireturn (gc k_Machine_joined_1 37 rfl) rfl ?_
              refine ⟨gsi ?_, rfl, rfl⟩
              unfold pjn
              rw [if_neg (by omega), if_neg (by omega), if_neg (by omega), if_neg (by omega), if_neg (by omega), if_pos hs22]
              unfold bi
              first | rw [if_pos (by omega)]; rfl | rw [if_neg (by omega)]; rfl
            · refine gw_ldc (gc k_Machine_joined_1 33 rfl) cn_Machine_26 ?_
              refine gw_goto (tgt := 175) (gc k_Machine_joined_1 34 rfl) rfl ?_
              refine gw_ireturn (gc k_Machine_joined_1 37 rfl) rfl ?_
              exfalso; omega
        · refine gw_lconst1 (gc k_Machine_joined_1 3 rfl) ?_
          refine gw_goto (tgt := 115) (gc k_Machine_joined_1 4 rfl) rfl ?_
          refine gw_lstore_5 (gc k_Machine_joined_1 6 rfl) rfl rfl ?_
          refine gw_goto (tgt := 149) (gc k_Machine_joined_1 7 rfl) rfl ?_
          refine gw_lload (gc k_Machine_joined_1 25 rfl) rfl ?_
          refine gw_ldc2 (gc k_Machine_joined_1 26 rfl) cn_Machine_37 ?_
          refine gw_lc_gt (tgt := 167) (gc k_Machine_joined_1 27 rfl) (gc k_Machine_joined_1 28 rfl) rfl (by omega) (fun c155 => ?_) (fun c155 => ?_)
          · refine gw_ldc (gc k_Machine_joined_1 33 rfl) cn_Machine_26 ?_
            refine gw_goto (tgt := 175) (gc k_Machine_joined_1 34 rfl) rfl ?_
            refine gw_ireturn (gc k_Machine_joined_1 37 rfl) rfl ?_
            exfalso; omega
          · refine gw_lload (gc k_Machine_joined_1 29 rfl) rfl ?_
            refine gw_ldc2 (gc k_Machine_joined_1 30 rfl) cn_Machine_39 ?_
            refine gw_lc_ge (tgt := 172) (gc k_Machine_joined_1 31 rfl) (gc k_Machine_joined_1 32 rfl) rfl (by omega) (fun c164 => ?_) (fun c164 => ?_)
            · refine gw_lload (gc k_Machine_joined_1 35 rfl) rfl ?_
              refine gw_l2i (gc k_Machine_joined_1 36 rfl) ?_
              refine gw_ireturn (gc k_Machine_joined_1 37 rfl) rfl ?_
              refine ⟨gsi ?_, rfl, rfl⟩
              unfold pjn
              rw [if_neg (by omega), if_neg (by omega), if_neg (by omega), if_neg (by omega), if_neg (by omega), if_pos hs22]
              unfold bi
              first | rw [if_pos (by omega)]; rfl | rw [if_neg (by omega)]; rfl
            · refine gw_ldc (gc k_Machine_joined_1 33 rfl) cn_Machine_26 ?_
              refine gw_goto (tgt := 175) (gc k_Machine_joined_1 34 rfl) rfl ?_
              refine gw_ireturn (gc k_Machine_joined_1 37 rfl) rfl ?_
              exfalso; omega
      · refine gw_tableIn (tgt := 120) (gc k_Machine_joined_0 13 rfl) (by omega) (by omega) (by rw [hs22]; rfl) rfl ?_
        refine gw_lload_n (gc k_Machine_joined_1 8 rfl) rfl ?_
        refine gw_lload_n (gc k_Machine_joined_1 9 rfl) rfl ?_
        refine gw_lc_le (tgt := 130) (gc k_Machine_joined_1 10 rfl) (gc k_Machine_joined_1 11 rfl) rfl (by omega) (fun c123 => ?_) (fun c123 => ?_)
        · refine gw_lconst0 (gc k_Machine_joined_1 14 rfl) ?_
          refine gw_lstore_5 (gc k_Machine_joined_1 15 rfl) rfl rfl ?_
          refine gw_goto (tgt := 149) (gc k_Machine_joined_1 16 rfl) rfl ?_
          refine gw_lload (gc k_Machine_joined_1 25 rfl) rfl ?_
          refine gw_ldc2 (gc k_Machine_joined_1 26 rfl) cn_Machine_37 ?_
          refine gw_lc_gt (tgt := 167) (gc k_Machine_joined_1 27 rfl) (gc k_Machine_joined_1 28 rfl) rfl (by omega) (fun c155 => ?_) (fun c155 => ?_)
          · refine gw_ldc (gc k_Machine_joined_1 33 rfl) cn_Machine_26 ?_
            refine gw_goto (tgt := 175) (gc k_Machine_joined_1 34 rfl) rfl ?_
            refine gw_ireturn (gc k_Machine_joined_1 37 rfl) rfl ?_
            exfalso; omega
          · refine gw_lload (gc k_Machine_joined_1 29 rfl) rfl ?_
            refine gw_ldc2 (gc k_Machine_joined_1 30 rfl) cn_Machine_39 ?_
            refine gw_lc_ge (tgt := 172) (gc k_Machine_joined_1 31 rfl) (gc k_Machine_joined_1 32 rfl) rfl (by omega) (fun c164 => ?_) (fun c164 => ?_)
            · refine gw_lload (gc k_Machine_joined_1 35 rfl) rfl ?_
              refine gw_l2i (gc k_Machine_joined_1 36 rfl) ?_
              refine gw_ireturn (gc k_Machine_joined_1 37 rfl) rfl ?_
              refine ⟨gsi ?_, rfl, rfl⟩
              unfold pjn
              rw [if_neg (by omega), if_neg (by omega), if_neg (by omega), if_neg (by omega), if_neg (by omega), if_neg (by omega), if_pos hs22]
              unfold bi
              first | rw [if_pos (by omega)]; rfl | rw [if_neg (by omega)]; rfl
            · refine gw_ldc (gc k_Machine_joined_1 33 rfl) cn_Machine_26 ?_
              refine gw_goto (tgt := 175) (gc k_Machine_joined_1 34 rfl) rfl ?_
              refine gw_ireturn (gc k_Machine_joined_1 37 rfl) rfl ?_
              exfalso; omega
        · refine gw_lconst1 (gc k_Machine_joined_1 12 rfl) ?_
          refine gw_goto (tgt := 131) (gc k_Machine_joined_1 13 rfl) rfl ?_
          refine gw_lstore_5 (gc k_Machine_joined_1 15 rfl) rfl rfl ?_
          refine gw_goto (tgt := 149) (gc k_Machine_joined_1 16 rfl) rfl ?_
          refine gw_lload (gc k_Machine_joined_1 25 rfl) rfl ?_
          refine gw_ldc2 (gc k_Machine_joined_1 26 rfl) cn_Machine_37 ?_
          refine gw_lc_gt (tgt := 167) (gc k_Machine_joined_1 27 rfl) (gc k_Machine_joined_1 28 rfl) rfl (by omega) (fun c155 => ?_) (fun c155 => ?_)
          · refine gw_ldc (gc k_Machine_joined_1 33 rfl) cn_Machine_26 ?_
            refine gw_goto (tgt := 175) (gc k_Machine_joined_1 34 rfl) rfl ?_
            refine gw_ireturn (gc k_Machine_joined_1 37 rfl) rfl ?_
            exfalso; omega
          · refine gw_lload (gc k_Machine_joined_1 29 rfl) rfl ?_
            refine gw_ldc2 (gc k_Machine_joined_1 30 rfl) cn_Machine_39 ?_
            refine gw_lc_ge (tgt := 172) (gc k_Machine_joined_1 31 rfl) (gc k_Machine_joined_1 32 rfl) rfl (by omega) (fun c164 => ?_) (fun c164 => ?_)
            · refine gw_lload (gc k_Machine_joined_1 35 rfl) rfl ?_
              refine gw_l2i (gc k_Machine_joined_1 36 rfl) ?_
              refine gw_ireturn (gc k_Machine_joined_1 37 rfl) rfl ?_
              refine ⟨gsi ?_, rfl, rfl⟩
              unfold pjn
              rw [if_neg (by omega), if_neg (by omega), if_neg (by omega), if_neg (by omega), if_neg (by omega), if_neg (by omega), if_pos hs22]
              unfold bi
              first | rw [if_pos (by omega)]; rfl | rw [if_neg (by omega)]; rfl
            · refine gw_ldc (gc k_Machine_joined_1 33 rfl) cn_Machine_26 ?_
              refine gw_goto (tgt := 175) (gc k_Machine_joined_1 34 rfl) rfl ?_
              refine gw_ireturn (gc k_Machine_joined_1 37 rfl) rfl ?_
              exfalso; omega
      · refine gw_tableOut (tgt := 136) (gc k_Machine_joined_0 13 rfl) (by omega) (by omega) rfl ?_
        refine gw_lload_n (gc k_Machine_joined_1 17 rfl) rfl ?_
        refine gw_lload_n (gc k_Machine_joined_1 18 rfl) rfl ?_
        refine gw_lc_ne (tgt := 146) (gc k_Machine_joined_1 19 rfl) (gc k_Machine_joined_1 20 rfl) rfl (by omega) (fun c139 => ?_) (fun c139 => ?_)
        · refine gw_lconst0 (gc k_Machine_joined_1 23 rfl) ?_
          refine gw_lstore_5 (gc k_Machine_joined_1 24 rfl) rfl rfl ?_
          refine gw_lload (gc k_Machine_joined_1 25 rfl) rfl ?_
          refine gw_ldc2 (gc k_Machine_joined_1 26 rfl) cn_Machine_37 ?_
          refine gw_lc_gt (tgt := 167) (gc k_Machine_joined_1 27 rfl) (gc k_Machine_joined_1 28 rfl) rfl (by omega) (fun c155 => ?_) (fun c155 => ?_)
          · refine gw_ldc (gc k_Machine_joined_1 33 rfl) cn_Machine_26 ?_
            refine gw_goto (tgt := 175) (gc k_Machine_joined_1 34 rfl) rfl ?_
            refine gw_ireturn (gc k_Machine_joined_1 37 rfl) rfl ?_
            exfalso; omega
          · refine gw_lload (gc k_Machine_joined_1 29 rfl) rfl ?_
            refine gw_ldc2 (gc k_Machine_joined_1 30 rfl) cn_Machine_39 ?_
            refine gw_lc_ge (tgt := 172) (gc k_Machine_joined_1 31 rfl) (gc k_Machine_joined_1 32 rfl) rfl (by omega) (fun c164 => ?_) (fun c164 => ?_)
            · refine gw_lload (gc k_Machine_joined_1 35 rfl) rfl ?_
              refine gw_l2i (gc k_Machine_joined_1 36 rfl) ?_
              refine gw_ireturn (gc k_Machine_joined_1 37 rfl) rfl ?_
              refine ⟨gsi ?_, rfl, rfl⟩
              unfold pjn
              rw [if_neg (by omega), if_neg (by omega), if_neg (by omega), if_neg (by omega), if_neg (by omega), if_neg (by omega), if_neg (by omega)]
              unfold bi
              first | rw [if_pos (by omega)]; rfl | rw [if_neg (by omega)]; rfl
            · refine gw_ldc (gc k_Machine_joined_1 33 rfl) cn_Machine_26 ?_
              refine gw_goto (tgt := 175) (gc k_Machine_joined_1 34 rfl) rfl ?_
              refine gw_ireturn (gc k_Machine_joined_1 37 rfl) rfl ?_
              exfalso; omega
        · refine gw_lconst1 (gc k_Machine_joined_1 21 rfl) ?_
          refine gw_goto (tgt := 147) (gc k_Machine_joined_1 22 rfl) rfl ?_
          refine gw_lstore_5 (gc k_Machine_joined_1 24 rfl) rfl rfl ?_
          refine gw_lload (gc k_Machine_joined_1 25 rfl) rfl ?_
          refine gw_ldc2 (gc k_Machine_joined_1 26 rfl) cn_Machine_37 ?_
          refine gw_lc_gt (tgt := 167) (gc k_Machine_joined_1 27 rfl) (gc k_Machine_joined_1 28 rfl) rfl (by omega) (fun c155 => ?_) (fun c155 => ?_)
          · refine gw_ldc (gc k_Machine_joined_1 33 rfl) cn_Machine_26 ?_
            refine gw_goto (tgt := 175) (gc k_Machine_joined_1 34 rfl) rfl ?_
            refine gw_ireturn (gc k_Machine_joined_1 37 rfl) rfl ?_
            exfalso; omega
          · refine gw_lload (gc k_Machine_joined_1 29 rfl) rfl ?_
            refine gw_ldc2 (gc k_Machine_joined_1 30 rfl) cn_Machine_39 ?_
            refine gw_lc_ge (tgt := 172) (gc k_Machine_joined_1 31 rfl) (gc k_Machine_joined_1 32 rfl) rfl (by omega) (fun c164 => ?_) (fun c164 => ?_)
            · refine gw_lload (gc k_Machine_joined_1 35 rfl) rfl ?_
              refine gw_l2i (gc k_Machine_joined_1 36 rfl) ?_
              refine gw_ireturn (gc k_Machine_joined_1 37 rfl) rfl ?_
              refine ⟨gsi ?_, rfl, rfl⟩
              unfold pjn
              rw [if_neg (by omega), if_neg (by omega), if_neg (by omega), if_neg (by omega), if_neg (by omega), if_neg (by omega), if_neg (by omega)]
              unfold bi
              first | rw [if_pos (by omega)]; rfl | rw [if_neg (by omega)]; rfl
            · refine gw_ldc (gc k_Machine_joined_1 33 rfl) cn_Machine_26 ?_
              refine gw_goto (tgt := 175) (gc k_Machine_joined_1 34 rfl) rfl ?_
              refine gw_ireturn (gc k_Machine_joined_1 37 rfl) rfl ?_
              exfalso; omega
    · refine gw_ldc (gc k_Machine_joined_0 10 rfl) cn_Machine_26 ?_
      refine gw_ireturn (gc k_Machine_joined_0 11 rfl) rfl ?_
      refine ⟨gsi ?_, rfl, rfl⟩
      unfold pjn
      rw [if_neg (by omega), if_neg (by omega), if_neg (by omega)]
      by_cases h8 : op = 8
      · rw [if_pos h8, if_pos (by omega)]; rfl
      · rw [if_neg h8, if_pos (by omega), if_pos (by omega)]; rfl
  · refine gw_iload_n (gc k_Machine_joined_0 3 rfl) rfl ?_
    refine gw_bipush (gc k_Machine_joined_0 4 rfl) (by decide) ?_
    refine gw_icmp_ne (tgt := 21) (gc k_Machine_joined_0 5 rfl) rfl (by omega) (fun c9 => ?_) (fun c9 => ?_)
    · refine gw_iload_n (gc k_Machine_joined_0 12 rfl) rfl ?_
      rcases (show op = 5 ∨ op = 6 ∨ op = 7 ∨ op = 8 ∨ op = 9 ∨ op = 10 ∨ op = 11 ∨ (op < 5 ∨ 11 < op) by omega) with hs22 | hs22 | hs22 | hs22 | hs22 | hs22 | hs22 | hs22
      · refine gw_tableIn (tgt := 64) (gc k_Machine_joined_0 13 rfl) (by omega) (by omega) (by rw [hs22]; rfl) rfl ?_
        refine gw_lload_n (gc k_Machine_joined_0 14 rfl) rfl ?_
        refine gw_lload_n (gc k_Machine_joined_0 15 rfl) rfl ?_
        refine gw_ladd (gc k_Machine_joined_0 16 rfl) ?_
        refine gw_lstore_5 (gc k_Machine_joined_0 17 rfl) rfl rfl ?_
        refine gw_goto (tgt := 149) (gc k_Machine_joined_0 18 rfl) rfl ?_
        refine gw_lload (gc k_Machine_joined_1 25 rfl) rfl ?_
        refine gw_ldc2 (gc k_Machine_joined_1 26 rfl) cn_Machine_37 ?_
        refine gw_lc_gt (tgt := 167) (gc k_Machine_joined_1 27 rfl) (gc k_Machine_joined_1 28 rfl) rfl (by omega) (fun c155 => ?_) (fun c155 => ?_)
        · refine gw_ldc (gc k_Machine_joined_1 33 rfl) cn_Machine_26 ?_
          refine gw_goto (tgt := 175) (gc k_Machine_joined_1 34 rfl) rfl ?_
          refine gw_ireturn (gc k_Machine_joined_1 37 rfl) rfl ?_
          refine ⟨gsi ?_, rfl, rfl⟩
          unfold pjn
          rw [if_pos hs22]
          exact (brK_hi (by omega)).symm
        · refine gw_lload (gc k_Machine_joined_1 29 rfl) rfl ?_
          refine gw_ldc2 (gc k_Machine_joined_1 30 rfl) cn_Machine_39 ?_
          refine gw_lc_ge (tgt := 172) (gc k_Machine_joined_1 31 rfl) (gc k_Machine_joined_1 32 rfl) rfl (by omega) (fun c164 => ?_) (fun c164 => ?_)
          · refine gw_lload (gc k_Machine_joined_1 35 rfl) rfl ?_
            refine gw_l2i (gc k_Machine_joined_1 36 rfl) ?_
            refine gw_ireturn (gc k_Machine_joined_1 37 rfl) rfl ?_
            refine ⟨gsi ?_, rfl, rfl⟩
            unfold pjn
            rw [if_pos hs22]
            exact (brK_in (by omega)).symm
          · refine gw_ldc (gc k_Machine_joined_1 33 rfl) cn_Machine_26 ?_
            refine gw_goto (tgt := 175) (gc k_Machine_joined_1 34 rfl) rfl ?_
            refine gw_ireturn (gc k_Machine_joined_1 37 rfl) rfl ?_
            refine ⟨gsi ?_, rfl, rfl⟩
            unfold pjn
            rw [if_pos hs22]
            exact (brK_hi (by omega)).symm
      · refine gw_tableIn (tgt := 72) (gc k_Machine_joined_0 13 rfl) (by omega) (by omega) (by rw [hs22]; rfl) rfl ?_
        refine gw_lload_n (gc k_Machine_joined_0 19 rfl) rfl ?_
        refine gw_lload_n (gc k_Machine_joined_0 20 rfl) rfl ?_
        refine gw_lsub (gc k_Machine_joined_0 21 rfl) ?_
        refine gw_lstore_5 (gc k_Machine_joined_0 22 rfl) rfl rfl ?_
        refine gw_goto (tgt := 149) (gc k_Machine_joined_0 23 rfl) rfl ?_
        refine gw_lload (gc k_Machine_joined_1 25 rfl) rfl ?_
        refine gw_ldc2 (gc k_Machine_joined_1 26 rfl) cn_Machine_37 ?_
        refine gw_lc_gt (tgt := 167) (gc k_Machine_joined_1 27 rfl) (gc k_Machine_joined_1 28 rfl) rfl (by omega) (fun c155 => ?_) (fun c155 => ?_)
        · refine gw_ldc (gc k_Machine_joined_1 33 rfl) cn_Machine_26 ?_
          refine gw_goto (tgt := 175) (gc k_Machine_joined_1 34 rfl) rfl ?_
          refine gw_ireturn (gc k_Machine_joined_1 37 rfl) rfl ?_
          refine ⟨gsi ?_, rfl, rfl⟩
          unfold pjn
          rw [if_neg (by omega), if_pos hs22]
          exact (brK_hi (by omega)).symm
        · refine gw_lload (gc k_Machine_joined_1 29 rfl) rfl ?_
          refine gw_ldc2 (gc k_Machine_joined_1 30 rfl) cn_Machine_39 ?_
          refine gw_lc_ge (tgt := 172) (gc k_Machine_joined_1 31 rfl) (gc k_Machine_joined_1 32 rfl) rfl (by omega) (fun c164 => ?_) (fun c164 => ?_)
          · refine gw_lload (gc k_Machine_joined_1 35 rfl) rfl ?_
            refine gw_l2i (gc k_Machine_joined_1 36 rfl) ?_
            refine gw_ireturn (gc k_Machine_joined_1 37 rfl) rfl ?_
            refine ⟨gsi ?_, rfl, rfl⟩
            unfold pjn
            rw [if_neg (by omega), if_pos hs22]
            exact (brK_in (by omega)).symm
          · refine gw_ldc (gc k_Machine_joined_1 33 rfl) cn_Machine_26 ?_
            refine gw_goto (tgt := 175) (gc k_Machine_joined_1 34 rfl) rfl ?_
            refine gw_ireturn (gc k_Machine_joined_1 37 rfl) rfl ?_
            refine ⟨gsi ?_, rfl, rfl⟩
            unfold pjn
            rw [if_neg (by omega), if_pos hs22]
            exact (brK_hi (by omega)).symm
      · refine gw_tableIn (tgt := 80) (gc k_Machine_joined_0 13 rfl) (by omega) (by omega) (by rw [hs22]; rfl) rfl ?_
        refine gw_lload_n (gc k_Machine_joined_0 24 rfl) rfl ?_
        refine gw_lload_n (gc k_Machine_joined_0 25 rfl) rfl ?_
        refine gw_lmul (gc k_Machine_joined_0 26 rfl) ?_
        refine gw_lstore_5 (gc k_Machine_joined_0 27 rfl) rfl rfl ?_
        refine gw_goto (tgt := 149) (gc k_Machine_joined_0 28 rfl) rfl ?_
        refine gw_lload (gc k_Machine_joined_1 25 rfl) rfl ?_
        refine gw_ldc2 (gc k_Machine_joined_1 26 rfl) cn_Machine_37 ?_
        refine gw_lc_gt (tgt := 167) (gc k_Machine_joined_1 27 rfl) (gc k_Machine_joined_1 28 rfl) rfl (by omega) (fun c155 => ?_) (fun c155 => ?_)
        · refine gw_ldc (gc k_Machine_joined_1 33 rfl) cn_Machine_26 ?_
          refine gw_goto (tgt := 175) (gc k_Machine_joined_1 34 rfl) rfl ?_
          refine gw_ireturn (gc k_Machine_joined_1 37 rfl) rfl ?_
          refine ⟨gsi ?_, rfl, rfl⟩
          unfold pjn
          rw [if_neg (by omega), if_neg (by omega), if_pos hs22]
          exact (brK_hi (by omega)).symm
        · refine gw_lload (gc k_Machine_joined_1 29 rfl) rfl ?_
          refine gw_ldc2 (gc k_Machine_joined_1 30 rfl) cn_Machine_39 ?_
          refine gw_lc_ge (tgt := 172) (gc k_Machine_joined_1 31 rfl) (gc k_Machine_joined_1 32 rfl) rfl (by omega) (fun c164 => ?_) (fun c164 => ?_)
          · refine gw_lload (gc k_Machine_joined_1 35 rfl) rfl ?_
            refine gw_l2i (gc k_Machine_joined_1 36 rfl) ?_
            refine gw_ireturn (gc k_Machine_joined_1 37 rfl) rfl ?_
            refine ⟨gsi ?_, rfl, rfl⟩
            unfold pjn
            rw [if_neg (by omega), if_neg (by omega), if_pos hs22]
            exact (brK_in (by omega)).symm
          · refine gw_ldc (gc k_Machine_joined_1 33 rfl) cn_Machine_26 ?_
            refine gw_goto (tgt := 175) (gc k_Machine_joined_1 34 rfl) rfl ?_
            refine gw_ireturn (gc k_Machine_joined_1 37 rfl) rfl ?_
            refine ⟨gsi ?_, rfl, rfl⟩
            unfold pjn
            rw [if_neg (by omega), if_neg (by omega), if_pos hs22]
            exact (brK_hi (by omega)).symm
      · refine gw_tableIn (tgt := 88) (gc k_Machine_joined_0 13 rfl) (by omega) (by omega) (by rw [hs22]; rfl) rfl ?_
        refine gw_lload_n (gc k_Machine_joined_0 29 rfl) rfl ?_
        refine gw_lload_n (gc k_Machine_joined_0 30 rfl) rfl ?_
        refine gw_ldiv (gc k_Machine_joined_0 31 rfl) (by omega) ?_
        refine gw_lstore_5 (gc k_Machine_joined_0 32 rfl) rfl rfl ?_
        refine gw_goto (tgt := 149) (gc k_Machine_joined_0 33 rfl) rfl ?_
        refine gw_lload (gc k_Machine_joined_1 25 rfl) rfl ?_
        refine gw_ldc2 (gc k_Machine_joined_1 26 rfl) cn_Machine_37 ?_
        refine gw_lc_gt (tgt := 167) (gc k_Machine_joined_1 27 rfl) (gc k_Machine_joined_1 28 rfl) rfl (by omega) (fun c155 => ?_) (fun c155 => ?_)
        · refine gw_ldc (gc k_Machine_joined_1 33 rfl) cn_Machine_26 ?_
          refine gw_goto (tgt := 175) (gc k_Machine_joined_1 34 rfl) rfl ?_
          refine gw_ireturn (gc k_Machine_joined_1 37 rfl) rfl ?_
          refine ⟨gsi ?_, rfl, rfl⟩
          unfold pjn
          rw [if_neg (by omega), if_neg (by omega), if_neg (by omega), if_pos hs22, if_neg (by omega)]
          exact (brK_hi (by omega)).symm
        · refine gw_lload (gc k_Machine_joined_1 29 rfl) rfl ?_
          refine gw_ldc2 (gc k_Machine_joined_1 30 rfl) cn_Machine_39 ?_
          refine gw_lc_ge (tgt := 172) (gc k_Machine_joined_1 31 rfl) (gc k_Machine_joined_1 32 rfl) rfl (by omega) (fun c164 => ?_) (fun c164 => ?_)
          · refine gw_lload (gc k_Machine_joined_1 35 rfl) rfl ?_
            refine gw_l2i (gc k_Machine_joined_1 36 rfl) ?_
            refine gw_ireturn (gc k_Machine_joined_1 37 rfl) rfl ?_
            refine ⟨gsi ?_, rfl, rfl⟩
            unfold pjn
            rw [if_neg (by omega), if_neg (by omega), if_neg (by omega), if_pos hs22, if_neg (by omega)]
            exact (brK_in (by omega)).symm
          · refine gw_ldc (gc k_Machine_joined_1 33 rfl) cn_Machine_26 ?_
            refine gw_goto (tgt := 175) (gc k_Machine_joined_1 34 rfl) rfl ?_
            refine gw_ireturn (gc k_Machine_joined_1 37 rfl) rfl ?_
            refine ⟨gsi ?_, rfl, rfl⟩
            unfold pjn
            rw [if_neg (by omega), if_neg (by omega), if_neg (by omega), if_pos hs22, if_neg (by omega)]
            exact (brK_hi (by omega)).symm
      · refine gw_tableIn (tgt := 96) (gc k_Machine_joined_0 13 rfl) (by omega) (by omega) (by rw [hs22]; rfl) rfl ?_
        refine gw_lload_n (gc k_Machine_joined_0 34 rfl) rfl ?_
        refine gw_lload_n (gc k_Machine_joined_0 35 rfl) rfl ?_
        refine gw_lrem (gc k_Machine_joined_0 36 rfl) (by omega) ?_
        refine gw_lstore_5 (gc k_Machine_joined_0 37 rfl) rfl rfl ?_
        refine gw_goto (tgt := 149) (gc k_Machine_joined_0 38 rfl) rfl ?_
        refine gw_lload (gc k_Machine_joined_1 25 rfl) rfl ?_
        refine gw_ldc2 (gc k_Machine_joined_1 26 rfl) cn_Machine_37 ?_
        refine gw_lc_gt (tgt := 167) (gc k_Machine_joined_1 27 rfl) (gc k_Machine_joined_1 28 rfl) rfl (by omega) (fun c155 => ?_) (fun c155 => ?_)
        · refine gw_ldc (gc k_Machine_joined_1 33 rfl) cn_Machine_26 ?_
          refine gw_goto (tgt := 175) (gc k_Machine_joined_1 34 rfl) rfl ?_
          refine gw_ireturn (gc k_Machine_joined_1 37 rfl) rfl ?_
          refine ⟨gsi ?_, rfl, rfl⟩
          unfold pjn
          rw [if_neg (by omega), if_neg (by omega), if_neg (by omega), if_neg (by omega), if_pos hs22, if_neg (by omega)]
          exact (brK_hi (by omega)).symm
        · refine gw_lload (gc k_Machine_joined_1 29 rfl) rfl ?_
          refine gw_ldc2 (gc k_Machine_joined_1 30 rfl) cn_Machine_39 ?_
          refine gw_lc_ge (tgt := 172) (gc k_Machine_joined_1 31 rfl) (gc k_Machine_joined_1 32 rfl) rfl (by omega) (fun c164 => ?_) (fun c164 => ?_)
          · refine gw_lload (gc k_Machine_joined_1 35 rfl) rfl ?_
            refine gw_l2i (gc k_Machine_joined_1 36 rfl) ?_
            refine gw_ireturn (gc k_Machine_joined_1 37 rfl) rfl ?_
            refine ⟨gsi ?_, rfl, rfl⟩
            unfold pjn
            rw [if_neg (by omega), if_neg (by omega), if_neg (by omega), if_neg (by omega), if_pos hs22, if_neg (by omega)]
            exact (brK_in (by omega)).symm
          · refine gw_ldc (gc k_Machine_joined_1 33 rfl) cn_Machine_26 ?_
            refine gw_goto (tgt := 175) (gc k_Machine_joined_1 34 rfl) rfl ?_
            refine gw_ireturn (gc k_Machine_joined_1 37 rfl) rfl ?_
            refine ⟨gsi ?_, rfl, rfl⟩
            unfold pjn
            rw [if_neg (by omega), if_neg (by omega), if_neg (by omega), if_neg (by omega), if_pos hs22, if_neg (by omega)]
            exact (brK_hi (by omega)).symm
      · refine gw_tableIn (tgt := 104) (gc k_Machine_joined_0 13 rfl) (by omega) (by omega) (by rw [hs22]; rfl) rfl ?_
        refine gw_lload_n (gc k_Machine_joined_0 39 rfl) rfl ?_
        refine gw_lload_n (gc k_Machine_joined_1 0 rfl) rfl ?_
        refine gw_lc_ge (tgt := 114) (gc k_Machine_joined_1 1 rfl) (gc k_Machine_joined_1 2 rfl) rfl (by omega) (fun c107 => ?_) (fun c107 => ?_)
        · refine gw_lconst0 (gc k_Machine_joined_1 5 rfl) ?_
          refine gw_lstore_5 (gc k_Machine_joined_1 6 rfl) rfl rfl ?_
          refine gw_goto (tgt := 149) (gc k_Machine_joined_1 7 rfl) rfl ?_
          refine gw_lload (gc k_Machine_joined_1 25 rfl) rfl ?_
          refine gw_ldc2 (gc k_Machine_joined_1 26 rfl) cn_Machine_37 ?_
          refine gw_lc_gt (tgt := 167) (gc k_Machine_joined_1 27 rfl) (gc k_Machine_joined_1 28 rfl) rfl (by omega) (fun c155 => ?_) (fun c155 => ?_)
          · refine gw_ldc (gc k_Machine_joined_1 33 rfl) cn_Machine_26 ?_
            refine gw_goto (tgt := 175) (gc k_Machine_joined_1 34 rfl) rfl ?_
            refine gw_ireturn (gc k_Machine_joined_1 37 rfl) rfl ?_
            exfalso; omega
          · refine gw_lload (gc k_Machine_joined_1 29 rfl) rfl ?_
            refine gw_ldc2 (gc k_Machine_joined_1 30 rfl) cn_Machine_39 ?_
            refine gw_lc_ge (tgt := 172) (gc k_Machine_joined_1 31 rfl) (gc k_Machine_joined_1 32 rfl) rfl (by omega) (fun c164 => ?_) (fun c164 => ?_)
            · refine gw_lload (gc k_Machine_joined_1 35 rfl) rfl ?_
              refine gw_l2i (gc k_Machine_joined_1 36 rfl) ?_
              refine gw_ireturn (gc k_Machine_joined_1 37 rfl) rfl ?_
              refine ⟨gsi ?_, rfl, rfl⟩
              unfold pjn
              rw [if_neg (by omega), if_neg (by omega), if_neg (by omega), if_neg (by omega), if_neg (by omega), if_pos hs22]
              unfold bi
              first | rw [if_pos (by omega)]; rfl | rw [if_neg (by omega)]; rfl
            · refine gw_ldc (gc k_Machine_joined_1 33 rfl) cn_Machine_26 ?_
              refine gw_goto (tgt := 175) (gc k_Machine_joined_1 34 rfl) rfl ?_
              refine gw_ireturn (gc k_Machine_joined_1 37 rfl) rfl ?_
              exfalso; omega
        · refine gw_lconst1 (gc k_Machine_joined_1 3 rfl) ?_
          refine gw_goto (tgt := 115) (gc k_Machine_joined_1 4 rfl) rfl ?_
          refine gw_lstore_5 (gc k_Machine_joined_1 6 rfl) rfl rfl ?_
          refine gw_goto (tgt := 149) (gc k_Machine_joined_1 7 rfl) rfl ?_
          refine gw_lload (gc k_Machine_joined_1 25 rfl) rfl ?_
          refine gw_ldc2 (gc k_Machine_joined_1 26 rfl) cn_Machine_37 ?_
          refine gw_lc_gt (tgt := 167) (gc k_Machine_joined_1 27 rfl) (gc k_Machine_joined_1 28 rfl) rfl (by omega) (fun c155 => ?_) (fun c155 => ?_)
          · refine gw_ldc (gc k_Machine_joined_1 33 rfl) cn_Machine_26 ?_
            refine gw_goto (tgt := 175) (gc k_Machine_joined_1 34 rfl) rfl ?_
            refine gw_ireturn (gc k_Machine_joined_1 37 rfl) rfl ?_
            exfalso; omega
          · refine gw_lload (gc k_Machine_joined_1 29 rfl) rfl ?_
            refine gw_ldc2 (gc k_Machine_joined_1 30 rfl) cn_Machine_39 ?_
            refine gw_lc_ge (tgt := 172) (gc k_Machine_joined_1 31 rfl) (gc k_Machine_joined_1 32 rfl) rfl (by omega) (fun c164 => ?_) (fun c164 => ?_)
            · refine gw_lload (gc k_Machine_joined_1 35 rfl) rfl ?_
              refine gw_l2i (gc k_Machine_joined_1 36 rfl) ?_
              refine gw_ireturn (gc k_Machine_joined_1 37 rfl) rfl ?_
              refine ⟨gsi ?_, rfl, rfl⟩
              unfold pjn
              rw [if_neg (by omega), if_neg (by omega), if_neg (by omega), if_neg (by omega), if_neg (by omega), if_pos hs22]
              unfold bi
              first | rw [if_pos (by omega)]; rfl | rw [if_neg (by omega)]; rfl
            · refine gw_ldc (gc k_Machine_joined_1 33 rfl) cn_Machine_26 ?_
              refine gw_goto (tgt := 175) (gc k_Machine_joined_1 34 rfl) rfl ?_
              refine gw_ireturn (gc k_Machine_joined_1 37 rfl) rfl ?_
              exfalso; omega
      · refine gw_tableIn (tgt := 120) (gc k_Machine_joined_0 13 rfl) (by omega) (by omega) (by rw [hs22]; rfl) rfl ?_
        refine gw_lload_n (gc k_Machine_joined_1 8 rfl) rfl ?_
        refine gw_lload_n (gc k_Machine_joined_1 9 rfl) rfl ?_
        refine gw_lc_le (tgt := 130) (gc k_Machine_joined_1 10 rfl) (gc k_Machine_joined_1 11 rfl) rfl (by omega) (fun c123 => ?_) (fun c123 => ?_)
        · refine gw_lconst0 (gc k_Machine_joined_1 14 rfl) ?_
          refine gw_lstore_5 (gc k_Machine_joined_1 15 rfl) rfl rfl ?_
          refine gw_goto (tgt := 149) (gc k_Machine_joined_1 16 rfl) rfl ?_
          refine gw_lload (gc k_Machine_joined_1 25 rfl) rfl ?_
          refine gw_ldc2 (gc k_Machine_joined_1 26 rfl) cn_Machine_37 ?_
          refine gw_lc_gt (tgt := 167) (gc k_Machine_joined_1 27 rfl) (gc k_Machine_joined_1 28 rfl) rfl (by omega) (fun c155 => ?_) (fun c155 => ?_)
          · refine gw_ldc (gc k_Machine_joined_1 33 rfl) cn_Machine_26 ?_
            refine gw_goto (tgt := 175) (gc k_Machine_joined_1 34 rfl) rfl ?_
            refine gw_ireturn (gc k_Machine_joined_1 37 rfl) rfl ?_
            exfalso; omega
          · refine gw_lload (gc k_Machine_joined_1 29 rfl) rfl ?_
            refine gw_ldc2 (gc k_Machine_joined_1 30 rfl) cn_Machine_39 ?_
            refine gw_lc_ge (tgt := 172) (gc k_Machine_joined_1 31 rfl) (gc k_Machine_joined_1 32 rfl) rfl (by omega) (fun c164 => ?_) (fun c164 => ?_)
            · refine gw_lload (gc k_Machine_joined_1 35 rfl) rfl ?_
              refine gw_l2i (gc k_Machine_joined_1 36 rfl) ?_
              refine gw_ireturn (gc k_Machine_joined_1 37 rfl) rfl ?_
              refine ⟨gsi ?_, rfl, rfl⟩
              unfold pjn
              rw [if_neg (by omega), if_neg (by omega), if_neg (by omega), if_neg (by omega), if_neg (by omega), if_neg (by omega), if_pos hs22]
              unfold bi
              first | rw [if_pos (by omega)]; rfl | rw [if_neg (by omega)]; rfl
            · refine gw_ldc (gc k_Machine_joined_1 33 rfl) cn_Machine_26 ?_
              refine gw_goto (tgt := 175) (gc k_Machine_joined_1 34 rfl) rfl ?_
              refine gw_ireturn (gc k_Machine_joined_1 37 rfl) rfl ?_
              exfalso; omega
        · refine gw_lconst1 (gc k_Machine_joined_1 12 rfl) ?_
          refine gw_goto (tgt := 131) (gc k_Machine_joined_1 13 rfl) rfl ?_
          refine gw_lstore_5 (gc k_Machine_joined_1 15 rfl) rfl rfl ?_
          refine gw_goto (tgt := 149) (gc k_Machine_joined_1 16 rfl) rfl ?_
          refine gw_lload (gc k_Machine_joined_1 25 rfl) rfl ?_
          refine gw_ldc2 (gc k_Machine_joined_1 26 rfl) cn_Machine_37 ?_
          refine gw_lc_gt (tgt := 167) (gc k_Machine_joined_1 27 rfl) (gc k_Machine_joined_1 28 rfl) rfl (by omega) (fun c155 => ?_) (fun c155 => ?_)
          · refine gw_ldc (gc k_Machine_joined_1 33 rfl) cn_Machine_26 ?_
            refine gw_goto (tgt := 175) (gc k_Machine_joined_1 34 rfl) rfl ?_
            refine gw_ireturn (gc k_Machine_joined_1 37 rfl) rfl ?_
            exfalso; omega
          · refine gw_lload (gc k_Machine_joined_1 29 rfl) rfl ?_
            refine gw_ldc2 (gc k_Machine_joined_1 30 rfl) cn_Machine_39 ?_
            refine gw_lc_ge (tgt := 172) (gc k_Machine_joined_1 31 rfl) (gc k_Machine_joined_1 32 rfl) rfl (by omega) (fun c164 => ?_) (fun c164 => ?_)
            · refine gw_lload (gc k_Machine_joined_1 35 rfl) rfl ?_
              refine gw_l2i (gc k_Machine_joined_1 36 rfl) ?_
              refine gw_ireturn (gc k_Machine_joined_1 37 rfl) rfl ?_
              refine ⟨gsi ?_, rfl, rfl⟩
              unfold pjn
              rw [if_neg (by omega), if_neg (by omega), if_neg (by omega), if_neg (by omega), if_neg (by omega), if_neg (by omega), if_pos hs22]
              unfold bi
              first | rw [if_pos (by omega)]; rfl | rw [if_neg (by omega)]; rfl
            · refine gw_ldc (gc k_Machine_joined_1 33 rfl) cn_Machine_26 ?_
              refine gw_goto (tgt := 175) (gc k_Machine_joined_1 34 rfl) rfl ?_
              refine gw_ireturn (gc k_Machine_joined_1 37 rfl) rfl ?_
              exfalso; omega
      · refine gw_tableOut (tgt := 136) (gc k_Machine_joined_0 13 rfl) (by omega) (by omega) rfl ?_
        refine gw_lload_n (gc k_Machine_joined_1 17 rfl) rfl ?_
        refine gw_lload_n (gc k_Machine_joined_1 18 rfl) rfl ?_
        refine gw_lc_ne (tgt := 146) (gc k_Machine_joined_1 19 rfl) (gc k_Machine_joined_1 20 rfl) rfl (by omega) (fun c139 => ?_) (fun c139 => ?_)
        · refine gw_lconst0 (gc k_Machine_joined_1 23 rfl) ?_
          refine gw_lstore_5 (gc k_Machine_joined_1 24 rfl) rfl rfl ?_
          refine gw_lload (gc k_Machine_joined_1 25 rfl) rfl ?_
          refine gw_ldc2 (gc k_Machine_joined_1 26 rfl) cn_Machine_37 ?_
          refine gw_lc_gt (tgt := 167) (gc k_Machine_joined_1 27 rfl) (gc k_Machine_joined_1 28 rfl) rfl (by omega) (fun c155 => ?_) (fun c155 => ?_)
          · refine gw_ldc (gc k_Machine_joined_1 33 rfl) cn_Machine_26 ?_
            refine gw_goto (tgt := 175) (gc k_Machine_joined_1 34 rfl) rfl ?_
            refine gw_ireturn (gc k_Machine_joined_1 37 rfl) rfl ?_
            exfalso; omega
          · refine gw_lload (gc k_Machine_joined_1 29 rfl) rfl ?_
            refine gw_ldc2 (gc k_Machine_joined_1 30 rfl) cn_Machine_39 ?_
            refine gw_lc_ge (tgt := 172) (gc k_Machine_joined_1 31 rfl) (gc k_Machine_joined_1 32 rfl) rfl (by omega) (fun c164 => ?_) (fun c164 => ?_)
            · refine gw_lload (gc k_Machine_joined_1 35 rfl) rfl ?_
              refine gw_l2i (gc k_Machine_joined_1 36 rfl) ?_
              refine gw_ireturn (gc k_Machine_joined_1 37 rfl) rfl ?_
              refine ⟨gsi ?_, rfl, rfl⟩
              unfold pjn
              rw [if_neg (by omega), if_neg (by omega), if_neg (by omega), if_neg (by omega), if_neg (by omega), if_neg (by omega), if_neg (by omega)]
              unfold bi
              first | rw [if_pos (by omega)]; rfl | rw [if_neg (by omega)]; rfl
            · refine gw_ldc (gc k_Machine_joined_1 33 rfl) cn_Machine_26 ?_
              refine gw_goto (tgt := 175) (gc k_Machine_joined_1 34 rfl) rfl ?_
              refine gw_ireturn (gc k_Machine_joined_1 37 rfl) rfl ?_
              exfalso; omega
        · refine gw_lconst1 (gc k_Machine_joined_1 21 rfl) ?_
          refine gw_goto (tgt := 147) (gc k_Machine_joined_1 22 rfl) rfl ?_
          refine gw_lstore_5 (gc k_Machine_joined_1 24 rfl) rfl rfl ?_
          refine gw_lload (gc k_Machine_joined_1 25 rfl) rfl ?_
          refine gw_ldc2 (gc k_Machine_joined_1 26 rfl) cn_Machine_37 ?_
          refine gw_lc_gt (tgt := 167) (gc k_Machine_joined_1 27 rfl) (gc k_Machine_joined_1 28 rfl) rfl (by omega) (fun c155 => ?_) (fun c155 => ?_)
          · refine gw_ldc (gc k_Machine_joined_1 33 rfl) cn_Machine_26 ?_
            refine gw_goto (tgt := 175) (gc k_Machine_joined_1 34 rfl) rfl ?_
            refine gw_ireturn (gc k_Machine_joined_1 37 rfl) rfl ?_
            exfalso; omega
          · refine gw_lload (gc k_Machine_joined_1 29 rfl) rfl ?_
            refine gw_ldc2 (gc k_Machine_joined_1 30 rfl) cn_Machine_39 ?_
            refine gw_lc_ge (tgt := 172) (gc k_Machine_joined_1 31 rfl) (gc k_Machine_joined_1 32 rfl) rfl (by omega) (fun c164 => ?_) (fun c164 => ?_)
            · refine gw_lload (gc k_Machine_joined_1 35 rfl) rfl ?_
              refine gw_l2i (gc k_Machine_joined_1 36 rfl) ?_
              refine gw_ireturn (gc k_Machine_joined_1 37 rfl) rfl ?_
              refine ⟨gsi ?_, rfl, rfl⟩
              unfold pjn
              rw [if_neg (by omega), if_neg (by omega), if_neg (by omega), if_neg (by omega), if_neg (by omega), if_neg (by omega), if_neg (by omega)]
              unfold bi
              first | rw [if_pos (by omega)]; rfl | rw [if_neg (by omega)]; rfl
            · refine gw_ldc (gc k_Machine_joined_1 33 rfl) cn_Machine_26 ?_
              refine gw_goto (tgt := 175) (gc k_Machine_joined_1 34 rfl) rfl ?_
              refine gw_ireturn (gc k_Machine_joined_1 37 rfl) rfl ?_
              exfalso; omega
    · refine gw_lload_n (gc k_Machine_joined_0 6 rfl) rfl ?_
      refine gw_lconst0 (gc k_Machine_joined_0 7 rfl) ?_
      refine gw_lc_ne (tgt := 21) (gc k_Machine_joined_0 8 rfl) (gc k_Machine_joined_0 9 rfl) rfl (by omega) (fun c15 => ?_) (fun c15 => ?_)
      · refine gw_iload_n (gc k_Machine_joined_0 12 rfl) rfl ?_
        rcases (show op = 5 ∨ op = 6 ∨ op = 7 ∨ op = 8 ∨ op = 9 ∨ op = 10 ∨ op = 11 ∨ (op < 5 ∨ 11 < op) by omega) with hs22 | hs22 | hs22 | hs22 | hs22 | hs22 | hs22 | hs22
        · refine gw_tableIn (tgt := 64) (gc k_Machine_joined_0 13 rfl) (by omega) (by omega) (by rw [hs22]; rfl) rfl ?_
          refine gw_lload_n (gc k_Machine_joined_0 14 rfl) rfl ?_
          refine gw_lload_n (gc k_Machine_joined_0 15 rfl) rfl ?_
          refine gw_ladd (gc k_Machine_joined_0 16 rfl) ?_
          refine gw_lstore_5 (gc k_Machine_joined_0 17 rfl) rfl rfl ?_
          refine gw_goto (tgt := 149) (gc k_Machine_joined_0 18 rfl) rfl ?_
          refine gw_lload (gc k_Machine_joined_1 25 rfl) rfl ?_
          refine gw_ldc2 (gc k_Machine_joined_1 26 rfl) cn_Machine_37 ?_
          refine gw_lc_gt (tgt := 167) (gc k_Machine_joined_1 27 rfl) (gc k_Machine_joined_1 28 rfl) rfl (by omega) (fun c155 => ?_) (fun c155 => ?_)
          · refine gw_ldc (gc k_Machine_joined_1 33 rfl) cn_Machine_26 ?_
            refine gw_goto (tgt := 175) (gc k_Machine_joined_1 34 rfl) rfl ?_
            refine gw_ireturn (gc k_Machine_joined_1 37 rfl) rfl ?_
            refine ⟨gsi ?_, rfl, rfl⟩
            unfold pjn
            rw [if_pos hs22]
            exact (brK_hi (by omega)).symm
          · refine gw_lload (gc k_Machine_joined_1 29 rfl) rfl ?_
            refine gw_ldc2 (gc k_Machine_joined_1 30 rfl) cn_Machine_39 ?_
            refine gw_lc_ge (tgt := 172) (gc k_Machine_joined_1 31 rfl) (gc k_Machine_joined_1 32 rfl) rfl (by omega) (fun c164 => ?_) (fun c164 => ?_)
            · refine gw_lload (gc k_Machine_joined_1 35 rfl) rfl ?_
              refine gw_l2i (gc k_Machine_joined_1 36 rfl) ?_
              refine gw_ireturn (gc k_Machine_joined_1 37 rfl) rfl ?_
              refine ⟨gsi ?_, rfl, rfl⟩
              unfold pjn
              rw [if_pos hs22]
              exact (brK_in (by omega)).symm
            · refine gw_ldc (gc k_Machine_joined_1 33 rfl) cn_Machine_26 ?_
              refine gw_goto (tgt := 175) (gc k_Machine_joined_1 34 rfl) rfl ?_
              refine gw_ireturn (gc k_Machine_joined_1 37 rfl) rfl ?_
              refine ⟨gsi ?_, rfl, rfl⟩
              unfold pjn
              rw [if_pos hs22]
              exact (brK_hi (by omega)).symm
        · refine gw_tableIn (tgt := 72) (gc k_Machine_joined_0 13 rfl) (by omega) (by omega) (by rw [hs22]; rfl) rfl ?_
          refine gw_lload_n (gc k_Machine_joined_0 19 rfl) rfl ?_
          refine gw_lload_n (gc k_Machine_joined_0 20 rfl) rfl ?_
          refine gw_lsub (gc k_Machine_joined_0 21 rfl) ?_
          refine gw_lstore_5 (gc k_Machine_joined_0 22 rfl) rfl rfl ?_
          refine gw_goto (tgt := 149) (gc k_Machine_joined_0 23 rfl) rfl ?_
          refine gw_lload (gc k_Machine_joined_1 25 rfl) rfl ?_
          refine gw_ldc2 (gc k_Machine_joined_1 26 rfl) cn_Machine_37 ?_
          refine gw_lc_gt (tgt := 167) (gc k_Machine_joined_1 27 rfl) (gc k_Machine_joined_1 28 rfl) rfl (by omega) (fun c155 => ?_) (fun c155 => ?_)
          · refine gw_ldc (gc k_Machine_joined_1 33 rfl) cn_Machine_26 ?_
            refine gw_goto (tgt := 175) (gc k_Machine_joined_1 34 rfl) rfl ?_
            refine gw_ireturn (gc k_Machine_joined_1 37 rfl) rfl ?_
            refine ⟨gsi ?_, rfl, rfl⟩
            unfold pjn
            rw [if_neg (by omega), if_pos hs22]
            exact (brK_hi (by omega)).symm
          · refine gw_lload (gc k_Machine_joined_1 29 rfl) rfl ?_
            refine gw_ldc2 (gc k_Machine_joined_1 30 rfl) cn_Machine_39 ?_
            refine gw_lc_ge (tgt := 172) (gc k_Machine_joined_1 31 rfl) (gc k_Machine_joined_1 32 rfl) rfl (by omega) (fun c164 => ?_) (fun c164 => ?_)
            · refine gw_lload (gc k_Machine_joined_1 35 rfl) rfl ?_
              refine gw_l2i (gc k_Machine_joined_1 36 rfl) ?_
              refine gw_ireturn (gc k_Machine_joined_1 37 rfl) rfl ?_
              refine ⟨gsi ?_, rfl, rfl⟩
              unfold pjn
              rw [if_neg (by omega), if_pos hs22]
              exact (brK_in (by omega)).symm
            · refine gw_ldc (gc k_Machine_joined_1 33 rfl) cn_Machine_26 ?_
              refine gw_goto (tgt := 175) (gc k_Machine_joined_1 34 rfl) rfl ?_
              refine gw_ireturn (gc k_Machine_joined_1 37 rfl) rfl ?_
              refine ⟨gsi ?_, rfl, rfl⟩
              unfold pjn
              rw [if_neg (by omega), if_pos hs22]
              exact (brK_hi (by omega)).symm
        · refine gw_tableIn (tgt := 80) (gc k_Machine_joined_0 13 rfl) (by omega) (by omega) (by rw [hs22]; rfl) rfl ?_
          refine gw_lload_n (gc k_Machine_joined_0 24 rfl) rfl ?_
          refine gw_lload_n (gc k_Machine_joined_0 25 rfl) rfl ?_
          refine gw_lmul (gc k_Machine_joined_0 26 rfl) ?_
          refine gw_lstore_5 (gc k_Machine_joined_0 27 rfl) rfl rfl ?_
          refine gw_goto (tgt := 149) (gc k_Machine_joined_0 28 rfl) rfl ?_
          refine gw_lload (gc k_Machine_joined_1 25 rfl) rfl ?_
          refine gw_ldc2 (gc k_Machine_joined_1 26 rfl) cn_Machine_37 ?_
          refine gw_lc_gt (tgt := 167) (gc k_Machine_joined_1 27 rfl) (gc k_Machine_joined_1 28 rfl) rfl (by omega) (fun c155 => ?_) (fun c155 => ?_)
          · refine gw_ldc (gc k_Machine_joined_1 33 rfl) cn_Machine_26 ?_
            refine gw_goto (tgt := 175) (gc k_Machine_joined_1 34 rfl) rfl ?_
            refine gw_ireturn (gc k_Machine_joined_1 37 rfl) rfl ?_
            refine ⟨gsi ?_, rfl, rfl⟩
            unfold pjn
            rw [if_neg (by omega), if_neg (by omega), if_pos hs22]
            exact (brK_hi (by omega)).symm
          · refine gw_lload (gc k_Machine_joined_1 29 rfl) rfl ?_
            refine gw_ldc2 (gc k_Machine_joined_1 30 rfl) cn_Machine_39 ?_
            refine gw_lc_ge (tgt := 172) (gc k_Machine_joined_1 31 rfl) (gc k_Machine_joined_1 32 rfl) rfl (by omega) (fun c164 => ?_) (fun c164 => ?_)
            · refine gw_lload (gc k_Machine_joined_1 35 rfl) rfl ?_
              refine gw_l2i (gc k_Machine_joined_1 36 rfl) ?_
              refine gw_ireturn (gc k_Machine_joined_1 37 rfl) rfl ?_
              refine ⟨gsi ?_, rfl, rfl⟩
              unfold pjn
              rw [if_neg (by omega), if_neg (by omega), if_pos hs22]
              exact (brK_in (by omega)).symm
            · refine gw_ldc (gc k_Machine_joined_1 33 rfl) cn_Machine_26 ?_
              refine gw_goto (tgt := 175) (gc k_Machine_joined_1 34 rfl) rfl ?_
              refine gw_ireturn (gc k_Machine_joined_1 37 rfl) rfl ?_
              refine ⟨gsi ?_, rfl, rfl⟩
              unfold pjn
              rw [if_neg (by omega), if_neg (by omega), if_pos hs22]
              exact (brK_hi (by omega)).symm
        · refine gw_tableIn (tgt := 88) (gc k_Machine_joined_0 13 rfl) (by omega) (by omega) (by rw [hs22]; rfl) rfl ?_
          refine gw_lload_n (gc k_Machine_joined_0 29 rfl) rfl ?_
          refine gw_lload_n (gc k_Machine_joined_0 30 rfl) rfl ?_
          refine gw_ldiv (gc k_Machine_joined_0 31 rfl) (by omega) ?_
          refine gw_lstore_5 (gc k_Machine_joined_0 32 rfl) rfl rfl ?_
          refine gw_goto (tgt := 149) (gc k_Machine_joined_0 33 rfl) rfl ?_
          refine gw_lload (gc k_Machine_joined_1 25 rfl) rfl ?_
          refine gw_ldc2 (gc k_Machine_joined_1 26 rfl) cn_Machine_37 ?_
          refine gw_lc_gt (tgt := 167) (gc k_Machine_joined_1 27 rfl) (gc k_Machine_joined_1 28 rfl) rfl (by omega) (fun c155 => ?_) (fun c155 => ?_)
          · refine gw_ldc (gc k_Machine_joined_1 33 rfl) cn_Machine_26 ?_
            refine gw_goto (tgt := 175) (gc k_Machine_joined_1 34 rfl) rfl ?_
            refine gw_ireturn (gc k_Machine_joined_1 37 rfl) rfl ?_
            refine ⟨gsi ?_, rfl, rfl⟩
            unfold pjn
            rw [if_neg (by omega), if_neg (by omega), if_neg (by omega), if_pos hs22, if_neg (by omega)]
            exact (brK_hi (by omega)).symm
          · refine gw_lload (gc k_Machine_joined_1 29 rfl) rfl ?_
            refine gw_ldc2 (gc k_Machine_joined_1 30 rfl) cn_Machine_39 ?_
            refine gw_lc_ge (tgt := 172) (gc k_Machine_joined_1 31 rfl) (gc k_Machine_joined_1 32 rfl) rfl (by omega) (fun c164 => ?_) (fun c164 => ?_)
            · refine gw_lload (gc k_Machine_joined_1 35 rfl) rfl ?_
              refine gw_l2i (gc k_Machine_joined_1 36 rfl) ?_
              refine gw_ireturn (gc k_Machine_joined_1 37 rfl) rfl ?_
              refine ⟨gsi ?_, rfl, rfl⟩
              unfold pjn
              rw [if_neg (by omega), if_neg (by omega), if_neg (by omega), if_pos hs22, if_neg (by omega)]
              exact (brK_in (by omega)).symm
            · refine gw_ldc (gc k_Machine_joined_1 33 rfl) cn_Machine_26 ?_
              refine gw_goto (tgt := 175) (gc k_Machine_joined_1 34 rfl) rfl ?_
              refine gw_ireturn (gc k_Machine_joined_1 37 rfl) rfl ?_
              refine ⟨gsi ?_, rfl, rfl⟩
              unfold pjn
              rw [if_neg (by omega), if_neg (by omega), if_neg (by omega), if_pos hs22, if_neg (by omega)]
              exact (brK_hi (by omega)).symm
        · refine gw_tableIn (tgt := 96) (gc k_Machine_joined_0 13 rfl) (by omega) (by omega) (by rw [hs22]; rfl) rfl ?_
          refine gw_lload_n (gc k_Machine_joined_0 34 rfl) rfl ?_
          refine gw_lload_n (gc k_Machine_joined_0 35 rfl) rfl ?_
          refine gw_lrem (gc k_Machine_joined_0 36 rfl) (by omega) ?_
          refine gw_lstore_5 (gc k_Machine_joined_0 37 rfl) rfl rfl ?_
          refine gw_goto (tgt := 149) (gc k_Machine_joined_0 38 rfl) rfl ?_
          refine gw_lload (gc k_Machine_joined_1 25 rfl) rfl ?_
          refine gw_ldc2 (gc k_Machine_joined_1 26 rfl) cn_Machine_37 ?_
          refine gw_lc_gt (tgt := 167) (gc k_Machine_joined_1 27 rfl) (gc k_Machine_joined_1 28 rfl) rfl (by omega) (fun c155 => ?_) (fun c155 => ?_)
          · refine gw_ldc (gc k_Machine_joined_1 33 rfl) cn_Machine_26 ?_
            refine gw_goto (tgt := 175) (gc k_Machine_joined_1 34 rfl) rfl ?_
            refine gw_ireturn (gc k_Machine_joined_1 37 rfl) rfl ?_
            refine ⟨gsi ?_, rfl, rfl⟩
            unfold pjn
            rw [if_neg (by omega), if_neg (by omega), if_neg (by omega), if_neg (by omega), if_pos hs22, if_neg (by omega)]
            exact (brK_hi (by omega)).symm
          · refine gw_lload (gc k_Machine_joined_1 29 rfl) rfl ?_
            refine gw_ldc2 (gc k_Machine_joined_1 30 rfl) cn_Machine_39 ?_
            refine gw_lc_ge (tgt := 172) (gc k_Machine_joined_1 31 rfl) (gc k_Machine_joined_1 32 rfl) rfl (by omega) (fun c164 => ?_) (fun c164 => ?_)
            · refine gw_lload (gc k_Machine_joined_1 35 rfl) rfl ?_
              refine gw_l2i (gc k_Machine_joined_1 36 rfl) ?_
              refine gw_ireturn (gc k_Machine_joined_1 37 rfl) rfl ?_
              refine ⟨gsi ?_, rfl, rfl⟩
              unfold pjn
              rw [if_neg (by omega), if_neg (by omega), if_neg (by omega), if_neg (by omega), if_pos hs22, if_neg (by omega)]
              exact (brK_in (by omega)).symm
            · refine gw_ldc (gc k_Machine_joined_1 33 rfl) cn_Machine_26 ?_
              refine gw_goto (tgt := 175) (gc k_Machine_joined_1 34 rfl) rfl ?_
              refine gw_ireturn (gc k_Machine_joined_1 37 rfl) rfl ?_
              refine ⟨gsi ?_, rfl, rfl⟩
              unfold pjn
              rw [if_neg (by omega), if_neg (by omega), if_neg (by omega), if_neg (by omega), if_pos hs22, if_neg (by omega)]
              exact (brK_hi (by omega)).symm
        · refine gw_tableIn (tgt := 104) (gc k_Machine_joined_0 13 rfl) (by omega) (by omega) (by rw [hs22]; rfl) rfl ?_
          refine gw_lload_n (gc k_Machine_joined_0 39 rfl) rfl ?_
          refine gw_lload_n (gc k_Machine_joined_1 0 rfl) rfl ?_
          refine gw_lc_ge (tgt := 114) (gc k_Machine_joined_1 1 rfl) (gc k_Machine_joined_1 2 rfl) rfl (by omega) (fun c107 => ?_) (fun c107 => ?_)
          · refine gw_lconst0 (gc k_Machine_joined_1 5 rfl) ?_
            refine gw_lstore_5 (gc k_Machine_joined_1 6 rfl) rfl rfl ?_
            refine gw_goto (tgt := 149) (gc k_Machine_joined_1 7 rfl) rfl ?_
            refine gw_lload (gc k_Machine_joined_1 25 rfl) rfl ?_
            refine gw_ldc2 (gc k_Machine_joined_1 26 rfl) cn_Machine_37 ?_
            refine gw_lc_gt (tgt := 167) (gc k_Machine_joined_1 27 rfl) (gc k_Machine_joined_1 28 rfl) rfl (by omega) (fun c155 => ?_) (fun c155 => ?_)
            · refine gw_ldc (gc k_Machine_joined_1 33 rfl) cn_Machine_26 ?_
              refine gw_goto (tgt := 175) (gc k_Machine_joined_1 34 rfl) rfl ?_
              refine gw_ireturn (gc k_Machine_joined_1 37 rfl) rfl ?_
              exfalso; omega
            · refine gw_lload (gc k_Machine_joined_1 29 rfl) rfl ?_
              refine gw_ldc2 (gc k_Machine_joined_1 30 rfl) cn_Machine_39 ?_
              refine gw_lc_ge (tgt := 172) (gc k_Machine_joined_1 31 rfl) (gc k_Machine_joined_1 32 rfl) rfl (by omega) (fun c164 => ?_) (fun c164 => ?_)
              · refine gw_lload (gc k_Machine_joined_1 35 rfl) rfl ?_
                refine gw_l2i (gc k_Machine_joined_1 36 rfl) ?_
                refine gw_ireturn (gc k_Machine_joined_1 37 rfl) rfl ?_
                refine ⟨gsi ?_, rfl, rfl⟩
                unfold pjn
                rw [if_neg (by omega), if_neg (by omega), if_neg (by omega), if_neg (by omega), if_neg (by omega), if_pos hs22]
                unfold bi
                first | rw [if_pos (by omega)]; rfl | rw [if_neg (by omega)]; rfl
              · refine gw_ldc (gc k_Machine_joined_1 33 rfl) cn_Machine_26 ?_
                refine gw_goto (tgt := 175) (gc k_Machine_joined_1 34 rfl) rfl ?_
                refine gw_ireturn (gc k_Machine_joined_1 37 rfl) rfl ?_
                exfalso; omega
          · refine gw_lconst1 (gc k_Machine_joined_1 3 rfl) ?_
            refine gw_goto (tgt := 115) (gc k_Machine_joined_1 4 rfl) rfl ?_
            refine gw_lstore_5 (gc k_Machine_joined_1 6 rfl) rfl rfl ?_
            refine gw_goto (tgt := 149) (gc k_Machine_joined_1 7 rfl) rfl ?_
            refine gw_lload (gc k_Machine_joined_1 25 rfl) rfl ?_
            refine gw_ldc2 (gc k_Machine_joined_1 26 rfl) cn_Machine_37 ?_
            refine gw_lc_gt (tgt := 167) (gc k_Machine_joined_1 27 rfl) (gc k_Machine_joined_1 28 rfl) rfl (by omega) (fun c155 => ?_) (fun c155 => ?_)
            · refine gw_ldc (gc k_Machine_joined_1 33 rfl) cn_Machine_26 ?_
              refine gw_goto (tgt := 175) (gc k_Machine_joined_1 34 rfl) rfl ?_
              refine gw_ireturn (gc k_Machine_joined_1 37 rfl) rfl ?_
              exfalso; omega
            · refine gw_lload (gc k_Machine_joined_1 29 rfl) rfl ?_
              refine gw_ldc2 (gc k_Machine_joined_1 30 rfl) cn_Machine_39 ?_
              refine gw_lc_ge (tgt := 172) (gc k_Machine_joined_1 31 rfl) (gc k_Machine_joined_1 32 rfl) rfl (by omega) (fun c164 => ?_) (fun c164 => ?_)
              · refine gw_lload (gc k_Machine_joined_1 35 rfl) rfl ?_
                refine gw_l2i (gc k_Machine_joined_1 36 rfl) ?_
                refine gw_ireturn (gc k_Machine_joined_1 37 rfl) rfl ?_
                refine ⟨gsi ?_, rfl, rfl⟩
                unfold pjn
                rw [if_neg (by omega), if_neg (by omega), if_neg (by omega), if_neg (by omega), if_neg (by omega), if_pos hs22]
                unfold bi
                first | rw [if_pos (by omega)]; rfl | rw [if_neg (by omega)]; rfl
              · refine gw_ldc (gc k_Machine_joined_1 33 rfl) cn_Machine_26 ?_
                refine gw_goto (tgt := 175) (gc k_Machine_joined_1 34 rfl) rfl ?_
                refine gw_ireturn (gc k_Machine_joined_1 37 rfl) rfl ?_
                exfalso; omega
        · refine gw_tableIn (tgt := 120) (gc k_Machine_joined_0 13 rfl) (by omega) (by omega) (by rw [hs22]; rfl) rfl ?_
          refine gw_lload_n (gc k_Machine_joined_1 8 rfl) rfl ?_
          refine gw_lload_n (gc k_Machine_joined_1 9 rfl) rfl ?_
          refine gw_lc_le (tgt := 130) (gc k_Machine_joined_1 10 rfl) (gc k_Machine_joined_1 11 rfl) rfl (by omega) (fun c123 => ?_) (fun c123 => ?_)
          · refine gw_lconst0 (gc k_Machine_joined_1 14 rfl) ?_
            refine gw_lstore_5 (gc k_Machine_joined_1 15 rfl) rfl rfl ?_
            refine gw_goto (tgt := 149) (gc k_Machine_joined_1 16 rfl) rfl ?_
            refine gw_lload (gc k_Machine_joined_1 25 rfl) rfl ?_
            refine gw_ldc2 (gc k_Machine_joined_1 26 rfl) cn_Machine_37 ?_
            refine gw_lc_gt (tgt := 167) (gc k_Machine_joined_1 27 rfl) (gc k_Machine_joined_1 28 rfl) rfl (by omega) (fun c155 => ?_) (fun c155 => ?_)
            · refine gw_ldc (gc k_Machine_joined_1 33 rfl) cn_Machine_26 ?_
              refine gw_goto (tgt := 175) (gc k_Machine_joined_1 34 rfl) rfl ?_
              refine gw_ireturn (gc k_Machine_joined_1 37 rfl) rfl ?_
              exfalso; omega
            · refine gw_lload (gc k_Machine_joined_1 29 rfl) rfl ?_
              refine gw_ldc2 (gc k_Machine_joined_1 30 rfl) cn_Machine_39 ?_
              refine gw_lc_ge (tgt := 172) (gc k_Machine_joined_1 31 rfl) (gc k_Machine_joined_1 32 rfl) rfl (by omega) (fun c164 => ?_) (fun c164 => ?_)
              · refine gw_lload (gc k_Machine_joined_1 35 rfl) rfl ?_
                refine gw_l2i (gc k_Machine_joined_1 36 rfl) ?_
                refine gw_ireturn (gc k_Machine_joined_1 37 rfl) rfl ?_
                refine ⟨gsi ?_, rfl, rfl⟩
                unfold pjn
                rw [if_neg (by omega), if_neg (by omega), if_neg (by omega), if_neg (by omega), if_neg (by omega), if_neg (by omega), if_pos hs22]
                unfold bi
                first | rw [if_pos (by omega)]; rfl | rw [if_neg (by omega)]; rfl
              · refine gw_ldc (gc k_Machine_joined_1 33 rfl) cn_Machine_26 ?_
                refine gw_goto (tgt := 175) (gc k_Machine_joined_1 34 rfl) rfl ?_
                refine gw_ireturn (gc k_Machine_joined_1 37 rfl) rfl ?_
                exfalso; omega
          · refine gw_lconst1 (gc k_Machine_joined_1 12 rfl) ?_
            refine gw_goto (tgt := 131) (gc k_Machine_joined_1 13 rfl) rfl ?_
            refine gw_lstore_5 (gc k_Machine_joined_1 15 rfl) rfl rfl ?_
            refine gw_goto (tgt := 149) (gc k_Machine_joined_1 16 rfl) rfl ?_
            refine gw_lload (gc k_Machine_joined_1 25 rfl) rfl ?_
            refine gw_ldc2 (gc k_Machine_joined_1 26 rfl) cn_Machine_37 ?_
            refine gw_lc_gt (tgt := 167) (gc k_Machine_joined_1 27 rfl) (gc k_Machine_joined_1 28 rfl) rfl (by omega) (fun c155 => ?_) (fun c155 => ?_)
            · refine gw_ldc (gc k_Machine_joined_1 33 rfl) cn_Machine_26 ?_
              refine gw_goto (tgt := 175) (gc k_Machine_joined_1 34 rfl) rfl ?_
              refine gw_ireturn (gc k_Machine_joined_1 37 rfl) rfl ?_
              exfalso; omega
            · refine gw_lload (gc k_Machine_joined_1 29 rfl) rfl ?_
              refine gw_ldc2 (gc k_Machine_joined_1 30 rfl) cn_Machine_39 ?_
              refine gw_lc_ge (tgt := 172) (gc k_Machine_joined_1 31 rfl) (gc k_Machine_joined_1 32 rfl) rfl (by omega) (fun c164 => ?_) (fun c164 => ?_)
              · refine gw_lload (gc k_Machine_joined_1 35 rfl) rfl ?_
                refine gw_l2i (gc k_Machine_joined_1 36 rfl) ?_
                refine gw_ireturn (gc k_Machine_joined_1 37 rfl) rfl ?_
                refine ⟨gsi ?_, rfl, rfl⟩
                unfold pjn
                rw [if_neg (by omega), if_neg (by omega), if_neg (by omega), if_neg (by omega), if_neg (by omega), if_neg (by omega), if_pos hs22]
                unfold bi
                first | rw [if_pos (by omega)]; rfl | rw [if_neg (by omega)]; rfl
              · refine gw_ldc (gc k_Machine_joined_1 33 rfl) cn_Machine_26 ?_
                refine gw_goto (tgt := 175) (gc k_Machine_joined_1 34 rfl) rfl ?_
                refine gw_ireturn (gc k_Machine_joined_1 37 rfl) rfl ?_
                exfalso; omega
        · refine gw_tableOut (tgt := 136) (gc k_Machine_joined_0 13 rfl) (by omega) (by omega) rfl ?_
          refine gw_lload_n (gc k_Machine_joined_1 17 rfl) rfl ?_
          refine gw_lload_n (gc k_Machine_joined_1 18 rfl) rfl ?_
          refine gw_lc_ne (tgt := 146) (gc k_Machine_joined_1 19 rfl) (gc k_Machine_joined_1 20 rfl) rfl (by omega) (fun c139 => ?_) (fun c139 => ?_)
          · refine gw_lconst0 (gc k_Machine_joined_1 23 rfl) ?_
            refine gw_lstore_5 (gc k_Machine_joined_1 24 rfl) rfl rfl ?_
            refine gw_lload (gc k_Machine_joined_1 25 rfl) rfl ?_
            refine gw_ldc2 (gc k_Machine_joined_1 26 rfl) cn_Machine_37 ?_
            refine gw_lc_gt (tgt := 167) (gc k_Machine_joined_1 27 rfl) (gc k_Machine_joined_1 28 rfl) rfl (by omega) (fun c155 => ?_) (fun c155 => ?_)
            · refine gw_ldc (gc k_Machine_joined_1 33 rfl) cn_Machine_26 ?_
              refine gw_goto (tgt := 175) (gc k_Machine_joined_1 34 rfl) rfl ?_
              refine gw_ireturn (gc k_Machine_joined_1 37 rfl) rfl ?_
              exfalso; omega
            · refine gw_lload (gc k_Machine_joined_1 29 rfl) rfl ?_
              refine gw_ldc2 (gc k_Machine_joined_1 30 rfl) cn_Machine_39 ?_
              refine gw_lc_ge (tgt := 172) (gc k_Machine_joined_1 31 rfl) (gc k_Machine_joined_1 32 rfl) rfl (by omega) (fun c164 => ?_) (fun c164 => ?_)
              · refine gw_lload (gc k_Machine_joined_1 35 rfl) rfl ?_
                refine gw_l2i (gc k_Machine_joined_1 36 rfl) ?_
                refine gw_ireturn (gc k_Machine_joined_1 37 rfl) rfl ?_
                refine ⟨gsi ?_, rfl, rfl⟩
                unfold pjn
                rw [if_neg (by omega), if_neg (by omega), if_neg (by omega), if_neg (by omega), if_neg (by omega), if_neg (by omega), if_neg (by omega)]
                unfold bi
                first | rw [if_pos (by omega)]; rfl | rw [if_neg (by omega)]; rfl
              · refine gw_ldc (gc k_Machine_joined_1 33 rfl) cn_Machine_26 ?_
                refine gw_goto (tgt := 175) (gc k_Machine_joined_1 34 rfl) rfl ?_
                refine gw_ireturn (gc k_Machine_joined_1 37 rfl) rfl ?_
                exfalso; omega
          · refine gw_lconst1 (gc k_Machine_joined_1 21 rfl) ?_
            refine gw_goto (tgt := 147) (gc k_Machine_joined_1 22 rfl) rfl ?_
            refine gw_lstore_5 (gc k_Machine_joined_1 24 rfl) rfl rfl ?_
            refine gw_lload (gc k_Machine_joined_1 25 rfl) rfl ?_
            refine gw_ldc2 (gc k_Machine_joined_1 26 rfl) cn_Machine_37 ?_
            refine gw_lc_gt (tgt := 167) (gc k_Machine_joined_1 27 rfl) (gc k_Machine_joined_1 28 rfl) rfl (by omega) (fun c155 => ?_) (fun c155 => ?_)
            · refine gw_ldc (gc k_Machine_joined_1 33 rfl) cn_Machine_26 ?_
              refine gw_goto (tgt := 175) (gc k_Machine_joined_1 34 rfl) rfl ?_
              refine gw_ireturn (gc k_Machine_joined_1 37 rfl) rfl ?_
              exfalso; omega
            · refine gw_lload (gc k_Machine_joined_1 29 rfl) rfl ?_
              refine gw_ldc2 (gc k_Machine_joined_1 30 rfl) cn_Machine_39 ?_
              refine gw_lc_ge (tgt := 172) (gc k_Machine_joined_1 31 rfl) (gc k_Machine_joined_1 32 rfl) rfl (by omega) (fun c164 => ?_) (fun c164 => ?_)
              · refine gw_lload (gc k_Machine_joined_1 35 rfl) rfl ?_
                refine gw_l2i (gc k_Machine_joined_1 36 rfl) ?_
                refine gw_ireturn (gc k_Machine_joined_1 37 rfl) rfl ?_
                refine ⟨gsi ?_, rfl, rfl⟩
                unfold pjn
                rw [if_neg (by omega), if_neg (by omega), if_neg (by omega), if_neg (by omega), if_neg (by omega), if_neg (by omega), if_neg (by omega)]
                unfold bi
                first | rw [if_pos (by omega)]; rfl | rw [if_neg (by omega)]; rfl
              · refine gw_ldc (gc k_Machine_joined_1 33 rfl) cn_Machine_26 ?_
                refine gw_goto (tgt := 175) (gc k_Machine_joined_1 34 rfl) rfl ?_
                refine gw_ireturn (gc k_Machine_joined_1 37 rfl) rfl ?_
                exfalso; omega
      · refine gw_ldc (gc k_Machine_joined_0 10 rfl) cn_Machine_26 ?_
        refine gw_ireturn (gc k_Machine_joined_0 11 rfl) rfl ?_
        refine ⟨gsi ?_, rfl, rfl⟩
        unfold pjn
        rw [if_neg (by omega), if_neg (by omega), if_neg (by omega)]
        by_cases h8 : op = 8
        · rw [if_pos h8, if_pos (by omega)]; rfl
        · rw [if_neg h8, if_pos (by omega), if_pos (by omega)]; rfl
