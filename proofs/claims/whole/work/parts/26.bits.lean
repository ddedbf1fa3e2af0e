/-! BITS. -/
abbrev bt (s i : Int) : Int := iand (ishr s i) 1
theorem bv_toInt {x : BitVec 32} (h : x.toNat < 2147483648) : x.toInt = ((x.toNat : Nat) : Int) := by
  rw [BitVec.toInt_eq_toNat_cond, if_pos (by omega)]
theorem i32_bv (a : Nat) : (Int32.ofInt (a : Int)).toBitVec = BitVec.ofNat 32 a := by
  show BitVec.ofInt 32 (a : Int) = _
  exact BitVec.ofInt_natCast 32 a
theorem bv_nat {a : Nat} (h : a < 2147483648) : (BitVec.ofNat 32 a).toNat = a := by
  rw [BitVec.toNat_ofNat]; exact Nat.mod_eq_of_lt (by omega)
theorem bt01 (s i : Int) : bt s i = 0 ∨ bt s i = 1 := by
  unfold bt
  generalize ishr s i = z
  unfold iand
  show ((Int32.ofInt z).toBitVec &&& 1#32).toInt = 0 ∨ ((Int32.ofInt z).toBitVec &&& 1#32).toInt = 1
  have h : ((Int32.ofInt z).toBitVec &&& 1#32).toNat = (Int32.ofInt z).toBitVec.toNat % 2 := by
    rw [BitVec.toNat_and]
    exact Nat.and_one_is_mod _
  rw [bv_toInt (by omega), h]
  omega
theorem iand_N {a b : Nat} (ha : a < 2147483648) (hb : b < 2147483648) : iand a b = ((a &&& b : Nat) : Int) := by
  unfold iand
  show ((Int32.ofInt (a : Int)).toBitVec &&& (Int32.ofInt (b : Int)).toBitVec).toInt = _
  rw [i32_bv, i32_bv]
  have h : (BitVec.ofNat 32 a &&& BitVec.ofNat 32 b).toNat = a &&& b := by rw [BitVec.toNat_and, bv_nat ha, bv_nat hb]
  have h2 : a &&& b ≤ a := Nat.and_le_left
  rw [bv_toInt (by omega), h]
theorem ior_N {a b : Nat} (ha : a < 2147483648) (hb : b < 2147483648) : ior a b = ((a ||| b : Nat) : Int) := by
  unfold ior
  show ((Int32.ofInt (a : Int)).toBitVec ||| (Int32.ofInt (b : Int)).toBitVec).toInt = _
  rw [i32_bv, i32_bv]
  have h : (BitVec.ofNat 32 a ||| BitVec.ofNat 32 b).toNat = a ||| b := by rw [BitVec.toNat_or, bv_nat ha, bv_nat hb]
  have h2 : a ||| b < 2 ^ 31 := Nat.or_lt_two_pow (by omega) (by omega)
  rw [bv_toInt (by omega), h]
theorem sh_amt : ∀ k, k < 32 → ((Int32.ofInt ((k : Nat) : Int) &&& 31).toBitVec.smod 32#32) = BitVec.ofNat 32 k := by decide +kernel
theorem ishr_N {a k : Nat} (ha : a < 2147483648) (hk : k < 32) : ishr a k = ((a >>> k : Nat) : Int) := by
  unfold ishr
  show ((Int32.ofInt (a : Int)).toBitVec.sshiftRight ((Int32.ofInt (k : Int) &&& 31).toBitVec.smod 32#32).toNat).toInt = _
  rw [sh_amt k hk, i32_bv, BitVec.toInt_sshiftRight, bv_toInt (by rw [bv_nat ha]; exact ha), bv_nat ha, BitVec.toNat_ofNat, Nat.mod_eq_of_lt (by omega)]
  rfl
theorem ishl1 : ∀ k, k < 31 → ishl 1 ((k : Nat) : Int) = ((2 ^ k : Nat) : Int) := by decide +kernel
theorem bt_N {a k : Nat} (ha : a < 2147483648) (hk : k < 32) : bt a k = if a.testBit k = true then 1 else 0 := by
  have h0 : a >>> k ≤ a := by rw [Nat.shiftRight_eq_div_pow]; exact Nat.div_le_self _ _
  have h1 : bt a k = (((a >>> k) &&& 1 : Nat) : Int) := by
    unfold bt
    rw [ishr_N ha hk]
    exact iand_N (b := 1) (by omega) (by omega)
  rw [h1, Nat.and_one_is_mod]
  unfold Nat.testBit
  rw [Nat.and_comm, Nat.and_one_is_mod]
  have := Nat.mod_two_eq_zero_or_one (a >>> k)
  rcases this with e | e <;> rw [e] <;> rfl
theorem btI {s i : Int} (h0 : 0 ≤ s) (h1 : s < 2147483648) (hi : 0 ≤ i) (hi1 : i < 32) : bt s i = if s.toNat.testBit i.toNat = true then 1 else 0 := by
  have h := bt_N (a := s.toNat) (k := i.toNat) (by omega) (by omega)
  rwa [show ((s.toNat : Nat) : Int) = s by omega, show ((i.toNat : Nat) : Int) = i by omega] at h
theorem ishl1_bd {c : Int} (h0 : 0 ≤ c) (h1 : c ≤ 16) : 1 ≤ ishl 1 c ∧ ishl 1 c ≤ 65536 := by
  have h : ∀ k, k < 17 → 1 ≤ ishl 1 ((k : Nat) : Int) ∧ ishl 1 ((k : Nat) : Int) ≤ 65536 := by decide +kernel
  have h2 := h c.toNat (by omega)
  rwa [show ((c.toNat : Nat) : Int) = c by omega] at h2
/-- a without bit k -/
def clr (a k : Nat) : Nat := a &&& (4294967296 - (2 ^ k + 1))
theorem clr_le (a k : Nat) : clr a k ≤ a := Nat.and_le_left
theorem clr_bit {a k j : Nat} (ha : a < 2147483648) (hk : k < 31) : (clr a k).testBit j = (a.testBit j && !decide (j = k)) := by
  unfold clr
  rw [Nat.testBit_and]
  by_cases hj : j < 32
  · have h2 : 2 ^ k < 2 ^ 32 := Nat.pow_lt_pow_right (by omega) (by omega)
    rw [show (4294967296 : Nat) = 2 ^ 32 by decide, Nat.testBit_two_pow_sub_succ h2, Nat.testBit_two_pow]
    simp only [hj, decide_true, Bool.true_and]
    by_cases e : k = j
    · subst e; simp
    · have e2 : ¬ j = k := fun z => e z.symm
      simp [e, e2]
  · have : a.testBit j = false := Nat.testBit_lt_two_pow (Nat.lt_of_lt_of_le ha (by
      have := Nat.pow_le_pow_right (n := 2) (by omega) (show 31 ≤ j by omega)
      exact this))
    rw [this]; simp
theorem iclr_N {a k : Nat} (ha : a < 2147483648) (hk : k < 31) : iand a (ixor (ishl 1 k) (-1)) = ((clr a k : Nat) : Int) := by
  have hm : ∀ k, k < 31 → (Int32.ofInt (ixor (ishl 1 ((k : Nat) : Int)) (-1))).toBitVec.toNat = 4294967296 - (2 ^ k + 1) := by decide +kernel
  unfold iand
  show ((Int32.ofInt (a : Int)).toBitVec &&& (Int32.ofInt (ixor (ishl 1 (k : Int)) (-1))).toBitVec).toInt = _
  rw [i32_bv]
  have h : (BitVec.ofNat 32 a &&& (Int32.ofInt (ixor (ishl 1 (k : Int)) (-1))).toBitVec).toNat = clr a k := by rw [BitVec.toNat_and, bv_nat ha, hm k hk]; rfl
  have := clr_le a k
  rw [bv_toInt (by omega), h]
theorem n_bt {μ : Mu} {d : Nat} {ρ : Rh} {pc : Nat} {ls : List (Nat × PV)} {st : List PV} {w : Wd} {s i : Int} (dd : decode μ.2.1 pc = .ok (.iand, 1)) (k : AtN μ d ρ (pc + 1) ls ((0, bt s i) :: st) w) : AtN μ d ρ pc ls ((0, 1) :: (0, ishr s i) :: st) w := s_iand dd k
set_option maxRecDepth 100000 in
theorem c_X_has (s i : Int) (w : Wd) : CallN 1 mX11_has [(0, s), (0, i)] w (RV (0, bi (bt s i = 1)) w) := by
  refine CallN.intro (by decide +kernel) (Nat.le_of_ble_eq_true rfl) (fun ρ hR => ?_)
  show AtN mX11_has 1 ρ 0 [(0, (0, s)), (1, (0, i))] [] w
  refine s_iload_n dX11_has_0 0 rfl (s_iload_n dX11_has_1 1 rfl (s_ishr dX11_has_2 (s_iconst dX11_has_3 (by decide) (n_bt dX11_has_4 (s_iconst dX11_has_5 (by decide) (s_icmp_ne 13 dX11_has_6 (by decide) (fun c_6 => ?_) (fun c_6 => ?_)))))))
  · skip
    refine s_iconst dX11_has_13 (by decide) (n_zret dX11_has_14 hR rfl (by first | exact Or.inl rfl | exact Or.inr rfl | exact bi_01 _ | omega) ?_)
    refine ⟨congrArg (fun z => some ((0 : Nat), z)) ?_, rfl⟩
    first | exact (bi_t (by omega)).symm | exact (bi_f (by omega)).symm | exact bi_congr (by omega)
  · skip
    refine s_iconst dX11_has_9 (by decide) (s_goto 14 dX11_has_10 (by decide) (n_zret dX11_has_14 hR rfl (by first | exact Or.inl rfl | exact Or.inr rfl | exact bi_01 _ | omega) ?_))
    refine ⟨congrArg (fun z => some ((0 : Nat), z)) ?_, rfl⟩
    first | exact (bi_t (by omega)).symm | exact (bi_f (by omega)).symm | exact bi_congr (by omega)

set_option maxRecDepth 100000 in
theorem j_minI (a b : Int) (w : Wd) : CallN 1 mJ9_min_7cf53 [(0, a), (0, b)] w (RV (0, mnL a b) w) := by
  refine CallN.introF (by decide +kernel) (Nat.le_of_ble_eq_true rfl) (fun ρ hR => ?_)
  show AtN mJ9_min_7cf53 1 ρ 0 [(0, (0, a)), (1, (0, b))] [] w
  refine s_iload_n dJ9_min_7cf53_0 0 rfl (s_iload_n dJ9_min_7cf53_1 1 rfl (s_icmp_gt 9 dJ9_min_7cf53_2 (by decide) (fun c_2 => ?_) (fun c_2 => ?_)))
  · skip
    refine s_iload_n dJ9_min_7cf53_9 1 rfl (n_iret dJ9_min_7cf53_10 hR rfl ?_)
    refine ⟨congrArg (fun z => some ((0 : Nat), z)) ?_, rfl⟩
    unfold mnL
    split <;> first | rfl | omega
  · skip
    refine s_iload_n dJ9_min_7cf53_5 0 rfl (s_goto 10 dJ9_min_7cf53_6 (by decide) (n_iret dJ9_min_7cf53_10 hR rfl ?_))
    refine ⟨congrArg (fun z => some ((0 : Nat), z)) ?_, rfl⟩
    unfold mnL
    split <;> first | rfl | omega

set_option maxRecDepth 100000 in
theorem j_maxI (a b : Int) (w : Wd) : CallN 1 mJ9_max_7cf53 [(0, a), (0, b)] w (RV (0, mxL a b) w) := by
  refine CallN.introF (by decide +kernel) (Nat.le_of_ble_eq_true rfl) (fun ρ hR => ?_)
  show AtN mJ9_max_7cf53 1 ρ 0 [(0, (0, a)), (1, (0, b))] [] w
  refine s_iload_n dJ9_max_7cf53_0 0 rfl (s_iload_n dJ9_max_7cf53_1 1 rfl (s_icmp_lt 9 dJ9_max_7cf53_2 (by decide) (fun c_2 => ?_) (fun c_2 => ?_)))
  · skip
    refine s_iload_n dJ9_max_7cf53_9 1 rfl (n_iret dJ9_max_7cf53_10 hR rfl ?_)
    refine ⟨congrArg (fun z => some ((0 : Nat), z)) ?_, rfl⟩
    unfold mxL
    split <;> first | rfl | omega
  · skip
    refine s_iload_n dJ9_max_7cf53_5 0 rfl (s_goto 10 dJ9_max_7cf53_6 (by decide) (n_iret dJ9_max_7cf53_10 hR rfl ?_))
    refine ⟨congrArg (fun z => some ((0 : Nat), z)) ?_, rfl⟩
    unfold mxL
    split <;> first | rfl | omega
