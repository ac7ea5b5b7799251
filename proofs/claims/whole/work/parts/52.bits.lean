/-! ===== bits ===== -/
theorem gs_cnt : ∀ k : Fin 32, ((Int32.ofInt (k.val : Int) &&& 31).toBitVec.smod 32).toNat = k.val := by decide
theorem i32_bv {a : Int} : (Int32.ofInt a).toBitVec.toNat = (a % 4294967296).toNat := by
  rw [Int32.toBitVec_ofInt, BitVec.toNat_ofInt]
  rfl
theorem i32_in {a : Int} (h : -2147483648 ≤ a ∧ a ≤ 2147483647) : (Int32.ofInt a).toBitVec.toInt = a := by
  rw [Int32.toInt_toBitVec, Int32.toInt_ofInt]
  exact Int.bmod_eq_of_le (by show -((4294967296 : Nat) : Int) / 2 ≤ a; omega) (by show a < (((4294967296 : Nat) : Int) + 1) / 2; omega)
theorem gshr_div {a b : Int} (ha : -2147483648 ≤ a ∧ a ≤ 2147483647) (hb : 0 ≤ b ∧ b < 32) : gshr a b = a / ((2 ^ b.toNat : Nat) : Int) := by
  obtain ⟨k, rfl⟩ : ∃ k : Fin 32, b = (k.val : Int) := ⟨⟨b.toNat, by omega⟩, by show b = ((b.toNat : Nat) : Int); omega⟩
  show ((Int32.ofInt a).toBitVec.sshiftRight' ((Int32.ofInt (k.val : Int) &&& 31).toBitVec.smod 32)).toInt = _
  rw [BitVec.toInt_sshiftRight', gs_cnt, i32_in ha, Int.shiftRight_eq_div_pow]
  rfl
theorem gand_1 (a : Int) : gand a 1 = a % 2 := by
  show ((Int32.ofInt a).toBitVec &&& (Int32.ofInt 1).toBitVec).toInt = _
  have e : ((Int32.ofInt a).toBitVec &&& (Int32.ofInt 1).toBitVec).toNat = (a % 4294967296).toNat % 2 := by
    rw [BitVec.toNat_and, i32_bv, i32_bv]
    exact Nat.and_one_is_mod _
  rw [BitVec.toInt_eq_toNat_of_lt (by rw [e]; omega), e]
  omega
theorem gand_255 (a : Int) : gand a 255 = a % 256 := by
  show ((Int32.ofInt a).toBitVec &&& (Int32.ofInt 255).toBitVec).toInt = _
  have e : ((Int32.ofInt a).toBitVec &&& (Int32.ofInt 255).toBitVec).toNat = (a % 4294967296).toNat % 256 := by
    rw [BitVec.toNat_and, i32_bv, i32_bv]
    exact Nat.and_two_pow_sub_one_eq_mod _ 8
  rw [BitVec.toInt_eq_toNat_of_lt (by rw [e]; omega), e]
  omega
theorem gi2b_bd (a : Int) : -128 ≤ gi2b a ∧ gi2b a ≤ 127 := by
  unfold gi2b
  have h1 := @Int.le_bmod a 256 (by decide)
  have h2 := @Int.bmod_lt a 256 (by decide)
  omega
theorem gi2b_mod (a : Int) : gi2b a % 256 = a % 256 := by
  unfold gi2b
  exact Int.bmod_emod
theorem gor_nat {a b : Int} (ha : 0 ≤ a ∧ a < 1073741824) (hb : 0 ≤ b ∧ b < 1073741824) : gor a b = ((a.toNat ||| b.toNat : Nat) : Int) := by
  show ((Int32.ofInt a).toBitVec ||| (Int32.ofInt b).toBitVec).toInt = _
  have e : ((Int32.ofInt a).toBitVec ||| (Int32.ofInt b).toBitVec).toNat = a.toNat ||| b.toNat := by
    rw [BitVec.toNat_or, i32_bv, i32_bv, show a % 4294967296 = a by omega, show b % 4294967296 = b by omega]
  have l : a.toNat ||| b.toNat < 2 ^ 30 := Nat.or_lt_two_pow (by omega) (by omega)
  rw [BitVec.toInt_eq_toNat_of_lt (by rw [e]; omega), e]
theorem gor_0 {a : Int} (ha : -2147483648 ≤ a ∧ a ≤ 2147483647) : gor a 0 = a := by
  show ((Int32.ofInt a).toBitVec ||| (Int32.ofInt 0).toBitVec).toInt = _
  rw [show (Int32.ofInt 0).toBitVec = 0#32 from rfl, BitVec.or_zero, i32_in ha]
theorem gshl_1 {k : Int} (hk : 0 ≤ k ∧ k < 12) : gshl 1 k = ((2 ^ k.toNat : Nat) : Int) := by
  rcases (show k = 0 ∨ k = 1 ∨ k = 2 ∨ k = 3 ∨ k = 4 ∨ k = 5 ∨ k = 6 ∨ k = 7 ∨ k = 8 ∨ k = 9 ∨ k = 10 ∨ k = 11 by omega) with rfl | rfl | rfl | rfl | rfl | rfl | rfl | rfl | rfl | rfl | rfl | rfl <;> decide
/-- a set of the first notes, told by f -/
def seF (f : Int → Int) : Nat → Int
  | 0 => 0
  | m + 1 => gor (seF f m) (if f m = 1 then gshl 1 m else 0)
theorem seF_bd (f : Int → Int) : ∀ m : Nat, m ≤ 12 → 0 ≤ seF f m ∧ seF f m < ((2 ^ m : Nat) : Int)
  | 0, _ => ⟨Int.le_refl _, by show (0 : Int) < ((2 ^ 0 : Nat) : Int); decide⟩
  | m + 1, h => by
    have h1 := seF_bd f m (by omega)
    have p1 : 2 ^ m < 2 ^ (m + 1) := Nat.pow_lt_pow_right (by decide) (by omega)
    have p2 : 2 ^ (m + 1) ≤ 2 ^ 12 := Nat.pow_le_pow_right (by decide) h
    have p3 : (2 ^ 12 : Nat) = 4096 := rfl
    show 0 ≤ gor (seF f m) (if f m = 1 then gshl 1 m else 0) ∧ gor (seF f m) (if f m = 1 then gshl 1 m else 0) < _
    have h2 : 0 ≤ (if f m = 1 then gshl 1 m else 0) ∧ (if f m = 1 then gshl 1 m else 0) < ((2 ^ (m + 1) : Nat) : Int) := by
      by_cases z : f m = 1
      · rw [if_pos z, gshl_1 (by omega), Int.toNat_natCast]
        omega
      · rw [if_neg z]
        omega
    rw [gor_nat (by omega) (by omega)]
    have l : (seF f m).toNat ||| (if f m = 1 then gshl 1 m else 0).toNat < 2 ^ (m + 1) := Nat.or_lt_two_pow (by omega) (by omega)
    omega
/-- whether a set holds one -/
def bitI (s k : Int) : Int := gand (gshr s k) 1
theorem bitI_01 (s k : Int) : bitI s k = 0 ∨ bitI s k = 1 := by
  unfold bitI
  rw [gand_1]
  omega
theorem bitI_all {s : Int} (hs : 0 ≤ s ∧ s < 4096) (h : ∀ k : Int, 0 ≤ k → k < 12 → bitI s k = 0) : s = 0 := by
  have e : ∀ k : Int, 0 ≤ k → k < 12 → s / ((2 ^ k.toNat : Nat) : Int) % 2 = 0 := fun k h1 h2 => by
    have q := h k h1 h2
    unfold bitI at q
    rwa [gand_1, gshr_div (by omega) (by omega)] at q
  obtain ⟨n, rfl⟩ := Int.eq_ofNat_of_zero_le hs.1
  have z : n = 0 := Nat.eq_of_testBit_eq (fun i => by
    rw [Nat.zero_testBit]
    by_cases z : i < 12
    · have q := e i (by omega) (by omega)
      rw [Int.toNat_natCast] at q
      have q2 : n / 2 ^ i % 2 = 0 := by exact_mod_cast q
      rw [Nat.testBit_eq_decide_div_mod_eq, q2]
      rfl
    · have p : 2 ^ 12 ≤ 2 ^ i := Nat.pow_le_pow_right (by decide) (by omega)
      have p2 : (2 ^ 12 : Nat) = 4096 := rfl
      exact Nat.testBit_lt_two_pow (by omega))
  rw [z]
  rfl
theorem bitI_0 (k : Int) : bitI 0 k = 0 := by
  unfold bitI
  have e : gshr 0 k = 0 := by
    show ((0#32).sshiftRight' _).toInt = 0
    rw [BitVec.toInt_sshiftRight']
    show (0 : Int) >>> _ = 0
    rw [Int.shiftRight_eq_div_pow]
    exact Int.zero_ediv _
  rw [e, gand_1]
  rfl
def onF (s : Int) : Nat → Int
  | 0 => 0
  | m + 1 => onF s m + bitI s m
theorem onF_bd (s : Int) : ∀ m : Nat, 0 ≤ onF s m ∧ onF s m ≤ m
  | 0 => ⟨Int.le_refl _, Int.le_refl _⟩
  | m + 1 => by
    have := onF_bd s m
    have := bitI_01 s m
    unfold onF
    omega
theorem onF_pos {s : Int} : ∀ m : Nat, onF s m = 0 → ∀ k : Int, 0 ≤ k → k < m → bitI s k = 0
  | 0, _, k, h1, h2 => by omega
  | m + 1, h, k, h1, h2 => by
    have a1 := onF_bd s m
    have a2 := bitI_01 s m
    unfold onF at h
    by_cases z : k = m
    · rw [z]; omega
    · exact onF_pos m (by omega) k h1 (by omega)
theorem onF_zero (m : Nat) : onF 0 m = 0 := by
  induction m with
  | zero => rfl
  | succ m ih => unfold onF; rw [ih, bitI_0]; rfl
theorem onF_iff {s : Int} (hs : 0 ≤ s ∧ s < 4096) : 0 < onF s 12 ↔ ¬ s = 0 := by
  constructor
  · intro h z
    rw [z, onF_zero] at h
    omega
  · intro h
    have := onF_bd s 12
    exact Decidable.byContradiction fun z => h (bitI_all hs (fun k h1 h2 => onF_pos 12 (by omega) k h1 h2))
set_option maxHeartbeats 1000000 in
theorem c_Model_isIn {sh : gS} {g : gM} (s k : Int) : gTri f_Model_isIn 0 0 0 [(0, s), (0, k)] sh g (gR (some (0, bi (bitI s k = 1))) sh g) := by
  have h := bitI_01 s k
  unfold bitI at *
  refine gTri.of (by decide +kernel) rfl ?_
  show gWP f_Model_isIn _ _ _ 0 [(0, s), (0, k)] [] sh g _
  refine gw_iload_n (gc k_Model_isIn_0 0 rfl) rfl ?_
  refine gw_iload_n (gc k_Model_isIn_0 1 rfl) rfl ?_
  refine gw_ishr (gc k_Model_isIn_0 2 rfl) ?_
  refine gw_iconst (gc k_Model_isIn_0 3 rfl) ?_
  refine gw_iand (gc k_Model_isIn_0 4 rfl) ?_
  refine gw_iconst (gc k_Model_isIn_0 5 rfl) ?_
  refine gw_icmp_ne (tgt := 13) (gc k_Model_isIn_0 6 rfl) rfl (by omega) (fun c6 => ?_) (fun c6 => ?_)
  · refine gw_iconst (gc k_Model_isIn_0 9 rfl) ?_
    refine gw_zreturn (gc k_Model_isIn_0 10 rfl) rfl (by omega) ?_
    exact ⟨by first | rw [bi_1 (by omega)] | rw [bi_0 (by omega)], rfl, rfl⟩
  · refine gw_iconst (gc k_Model_isIn_0 7 rfl) ?_
    refine gw_goto (tgt := 14) (gc k_Model_isIn_0 8 rfl) rfl ?_
    refine gw_zreturn (gc k_Model_isIn_0 10 rfl) rfl (by omega) ?_
    exact ⟨by first | rw [bi_1 (by omega)] | rw [bi_0 (by omega)], rfl, rfl⟩
