/-! COUNTS OF BITS. -/
def ppI (s : Int) : Int := sumI (fun k => bt s k) 20
theorem bt_div {a k : Nat} (ha : a < 2147483648) (hk : k < 32) : bt a k = ((a / 2 ^ k % 2 : Nat) : Int) := by
  have h0 : a >>> k ≤ a := by rw [Nat.shiftRight_eq_div_pow]; exact Nat.div_le_self _ _
  unfold bt
  rw [ishr_N ha hk, show (1 : Int) = ((1 : Nat) : Int) from rfl, iand_N (by omega) (by omega), Nat.and_one_is_mod, Nat.shiftRight_eq_div_pow]
def ppE (a : Nat) : Nat := a / 1 % 2 + a / 2 % 2 + a / 4 % 2 + a / 8 % 2 + a / 16 % 2 + a / 32 % 2 + a / 64 % 2 + a / 128 % 2 + a / 256 % 2 + a / 512 % 2 + a / 1024 % 2 + a / 2048 % 2 + a / 4096 % 2 + a / 8192 % 2 + a / 16384 % 2 + a / 32768 % 2
def ppR (a : Nat) : Nat := (Nat.add (Nat.add (Nat.add (Nat.add (Nat.add (Nat.add (Nat.add (Nat.add (Nat.add (Nat.add (Nat.add (Nat.add (Nat.add (Nat.add (Nat.add (Nat.mod (Nat.div a 1) 2) (Nat.mod (Nat.div a 2) 2)) (Nat.mod (Nat.div a 4) 2)) (Nat.mod (Nat.div a 8) 2)) (Nat.mod (Nat.div a 16) 2)) (Nat.mod (Nat.div a 32) 2)) (Nat.mod (Nat.div a 64) 2)) (Nat.mod (Nat.div a 128) 2)) (Nat.mod (Nat.div a 256) 2)) (Nat.mod (Nat.div a 512) 2)) (Nat.mod (Nat.div a 1024) 2)) (Nat.mod (Nat.div a 2048) 2)) (Nat.mod (Nat.div a 4096) 2)) (Nat.mod (Nat.div a 8192) 2)) (Nat.mod (Nat.div a 16384) 2)) (Nat.mod (Nat.div a 32768) 2))
theorem ppR_E (a : Nat) : ppR a = ppE a := rfl
set_option maxHeartbeats 1000000 in
theorem pp_ex {a : Nat} (h : a < 65536) : ppI (a : Int) = ((ppE a : Nat) : Int) := by
  have e : ∀ k : Nat, k < 32 → bt (a : Int) (k : Int) = ((a / 2 ^ k % 2 : Nat) : Int) := fun k hk => bt_div (by omega) hk
  have e0 : bt (a : Int) ((0 : Nat) : Int) = ((a / 1 % 2 : Nat) : Int) := e 0 (by decide)
  have e1 : bt (a : Int) ((1 : Nat) : Int) = ((a / 2 % 2 : Nat) : Int) := e 1 (by decide)
  have e2 : bt (a : Int) ((2 : Nat) : Int) = ((a / 4 % 2 : Nat) : Int) := e 2 (by decide)
  have e3 : bt (a : Int) ((3 : Nat) : Int) = ((a / 8 % 2 : Nat) : Int) := e 3 (by decide)
  have e4 : bt (a : Int) ((4 : Nat) : Int) = ((a / 16 % 2 : Nat) : Int) := e 4 (by decide)
  have e5 : bt (a : Int) ((5 : Nat) : Int) = ((a / 32 % 2 : Nat) : Int) := e 5 (by decide)
  have e6 : bt (a : Int) ((6 : Nat) : Int) = ((a / 64 % 2 : Nat) : Int) := e 6 (by decide)
  have e7 : bt (a : Int) ((7 : Nat) : Int) = ((a / 128 % 2 : Nat) : Int) := e 7 (by decide)
  have e8 : bt (a : Int) ((8 : Nat) : Int) = ((a / 256 % 2 : Nat) : Int) := e 8 (by decide)
  have e9 : bt (a : Int) ((9 : Nat) : Int) = ((a / 512 % 2 : Nat) : Int) := e 9 (by decide)
  have e10 : bt (a : Int) ((10 : Nat) : Int) = ((a / 1024 % 2 : Nat) : Int) := e 10 (by decide)
  have e11 : bt (a : Int) ((11 : Nat) : Int) = ((a / 2048 % 2 : Nat) : Int) := e 11 (by decide)
  have e12 : bt (a : Int) ((12 : Nat) : Int) = ((a / 4096 % 2 : Nat) : Int) := e 12 (by decide)
  have e13 : bt (a : Int) ((13 : Nat) : Int) = ((a / 8192 % 2 : Nat) : Int) := e 13 (by decide)
  have e14 : bt (a : Int) ((14 : Nat) : Int) = ((a / 16384 % 2 : Nat) : Int) := e 14 (by decide)
  have e15 : bt (a : Int) ((15 : Nat) : Int) = ((a / 32768 % 2 : Nat) : Int) := e 15 (by decide)
  have e16 : bt (a : Int) ((16 : Nat) : Int) = ((a / 65536 % 2 : Nat) : Int) := e 16 (by decide)
  have e17 : bt (a : Int) ((17 : Nat) : Int) = ((a / 131072 % 2 : Nat) : Int) := e 17 (by decide)
  have e18 : bt (a : Int) ((18 : Nat) : Int) = ((a / 262144 % 2 : Nat) : Int) := e 18 (by decide)
  have e19 : bt (a : Int) ((19 : Nat) : Int) = ((a / 524288 % 2 : Nat) : Int) := e 19 (by decide)
  have z16 : a / 65536 % 2 = 0 := by omega
  have z17 : a / 131072 % 2 = 0 := by omega
  have z18 : a / 262144 % 2 = 0 := by omega
  have z19 : a / 524288 % 2 = 0 := by omega
  unfold ppI ppE
  simp only [sumI]
  rw [e0, e1, e2, e3, e4, e5, e6, e7, e8, e9, e10, e11, e12, e13, e14, e15, e16, e17, e18, e19, z16, z17, z18, z19]
  simp only [Int.natCast_add]
  omega
def bc1 (s : Nat) : Nat := Nat.sub s (Nat.land (Nat.shiftRight s 1) 1431655765)
def bc2 (s : Nat) : Nat := Nat.add (Nat.land s 858993459) (Nat.land (Nat.shiftRight s 2) 858993459)
def bc3 (s : Nat) : Nat := Nat.land (Nat.add s (Nat.shiftRight s 4)) 252645135
def bc4 (s : Nat) : Nat := Nat.add s (Nat.shiftRight s 8)
def bc5 (s : Nat) : Nat := Nat.add s (Nat.shiftRight s 16)
def bcE (s : Nat) : Nat := Nat.land (bc5 (bc4 (bc3 (bc2 (bc1 s))))) 63
def allB (p : Nat → Bool) : Nat → Bool
  | 0 => true
  | n + 1 => if p n = true then allB p n else false
theorem allB_t {p : Nat → Bool} : ∀ n : Nat, allB p n = true → ∀ k, k < n → p k = true
  | 0, _, k, h => absurd h (by omega)
  | n + 1, h, k, hk => by
    rw [allB] at h
    by_cases c : p n = true
    · rw [if_pos c] at h
      by_cases e : k = n
      · subst e; exact c
      · exact allB_t n h k (by omega)
    · rw [if_neg c] at h; cases h
def bcB (q : Nat) : Nat → Bool := fun a => allB (fun b => Nat.beq (bcE (Nat.add (Nat.mul 256 (Nat.add q a)) b)) (ppR (Nat.add (Nat.mul 256 (Nat.add q a)) b))) 256
theorem bc_0 : allB (bcB 0) 16 = true := by decide +kernel
theorem bc_1 : allB (bcB 16) 16 = true := by decide +kernel
theorem bc_2 : allB (bcB 32) 16 = true := by decide +kernel
theorem bc_3 : allB (bcB 48) 16 = true := by decide +kernel
theorem bc_4 : allB (bcB 64) 16 = true := by decide +kernel
theorem bc_5 : allB (bcB 80) 16 = true := by decide +kernel
theorem bc_6 : allB (bcB 96) 16 = true := by decide +kernel
theorem bc_7 : allB (bcB 112) 16 = true := by decide +kernel
theorem bc_8 : allB (bcB 128) 16 = true := by decide +kernel
theorem bc_9 : allB (bcB 144) 16 = true := by decide +kernel
theorem bc_10 : allB (bcB 160) 16 = true := by decide +kernel
theorem bc_11 : allB (bcB 176) 16 = true := by decide +kernel
theorem bc_12 : allB (bcB 192) 16 = true := by decide +kernel
theorem bc_13 : allB (bcB 208) 16 = true := by decide +kernel
theorem bc_14 : allB (bcB 224) 16 = true := by decide +kernel
theorem bc_15 : allB (bcB 240) 16 = true := by decide +kernel
theorem bc_pp {s : Nat} (h : s < 65536) : bcE s = ppE s := by
  have key : ∀ q, q < 256 → ∀ b, b < 256 → bcE (256 * q + b) = ppR (256 * q + b) := by
    intro q hq b hb
    have h1 : bcB (16 * (q / 16)) (q % 16) = true := by
      have h2 : q / 16 < 16 := by omega
      have h3 : q % 16 < 16 := by omega
      generalize q / 16 = k at h2
      rcases (show k = 0 ∨ k = 1 ∨ k = 2 ∨ k = 3 ∨ k = 4 ∨ k = 5 ∨ k = 6 ∨ k = 7 ∨ k = 8 ∨ k = 9 ∨ k = 10 ∨ k = 11 ∨ k = 12 ∨ k = 13 ∨ k = 14 ∨ k = 15 from by omega) with rfl | rfl | rfl | rfl | rfl | rfl | rfl | rfl | rfl | rfl | rfl | rfl | rfl | rfl | rfl | rfl
      · exact allB_t 16 bc_0 _ h3
      · exact allB_t 16 bc_1 _ h3
      · exact allB_t 16 bc_2 _ h3
      · exact allB_t 16 bc_3 _ h3
      · exact allB_t 16 bc_4 _ h3
      · exact allB_t 16 bc_5 _ h3
      · exact allB_t 16 bc_6 _ h3
      · exact allB_t 16 bc_7 _ h3
      · exact allB_t 16 bc_8 _ h3
      · exact allB_t 16 bc_9 _ h3
      · exact allB_t 16 bc_10 _ h3
      · exact allB_t 16 bc_11 _ h3
      · exact allB_t 16 bc_12 _ h3
      · exact allB_t 16 bc_13 _ h3
      · exact allB_t 16 bc_14 _ h3
      · exact allB_t 16 bc_15 _ h3
    have h4 := allB_t 256 h1 b hb
    have h5 := Nat.eq_of_beq_eq_true h4
    have e : Nat.add (Nat.mul 256 (Nat.add (16 * (q / 16)) (q % 16))) b = 256 * q + b := by
      show 256 * (16 * (q / 16) + q % 16) + b = _
      omega
    rw [e] at h5
    exact h5
  have h2 := key (s / 256) (by omega) (s % 256) (by omega)
  rw [show 256 * (s / 256) + s % 256 = s by omega] at h2
  exact h2.trans (ppR_E s)
theorem iushr_N {a k : Nat} (ha : a < 2147483648) (hk : k = 1 ∨ k = 2 ∨ k = 4 ∨ k = 8 ∨ k = 16) : iushr a k = ((a >>> k : Nat) : Int) := by
  have h0 : a >>> k ≤ a := by rw [Nat.shiftRight_eq_div_pow]; exact Nat.div_le_self _ _
  have h1 : (BitVec.ofNat 32 a >>> k).toNat = a >>> k := by rw [BitVec.toNat_ushiftRight, bv_nat ha]
  have h2 : (BitVec.ofNat 32 a >>> k).toInt = ((a >>> k : Nat) : Int) := by rw [bv_toInt (by omega), h1]
  rw [← h2, ← i32_bv]
  rcases hk with rfl | rfl | rfl | rfl | rfl <;> rfl
theorem shr_le (a k : Nat) : a >>> k ≤ a := by rw [Nat.shiftRight_eq_div_pow]; exact Nat.div_le_self _ _
theorem wr_nat {a : Nat} (h : a < 2147483648) : wr ((a : Nat) : Int) = ((a : Nat) : Int) := wr_id (by omega) (by omega)
theorem iushr_L {a : Nat} {k : Int} (kn : Nat) (hk : k = kn) (ha : a < 2147483648) (hk2 : kn = 1 ∨ kn = 2 ∨ kn = 4 ∨ kn = 8 ∨ kn = 16) : iushr a k = ((a >>> kn : Nat) : Int) := by subst hk; exact iushr_N ha hk2
theorem iand_L {a : Nat} {m : Int} (mn : Nat) (hm : m = mn) (ha : a < 2147483648) (hb : mn < 2147483648) : iand a m = ((a &&& mn : Nat) : Int) := by subst hm; exact iand_N ha hb
def bi1 (s : Int) : Int := wr (s - iand (iushr s 1) 1431655765)
def bi2 (s : Int) : Int := wr (iand s 858993459 + iand (iushr s 2) 858993459)
def bi3 (s : Int) : Int := iand (wr (s + iushr s 4)) 252645135
def bi4 (s : Int) : Int := wr (s + iushr s 8)
def bi5 (s : Int) : Int := wr (s + iushr s 16)
/-- what Integer.bitCount works out -/
def bcI (s : Int) : Int := iand (bi5 (bi4 (bi3 (bi2 (bi1 s))))) 63
theorem bi1_n {s : Nat} (h : s < 65536) : bi1 (s : Int) = ((bc1 s : Nat) : Int) ∧ bc1 s < 65536 := by
  unfold bi1
  have a0 := shr_le s 1
  have a1 : (s >>> 1) &&& 1431655765 ≤ s := Nat.le_trans Nat.and_le_left a0
  rw [iushr_L (k := 1) 1 rfl (by omega) (by decide), iand_L (m := 1431655765) 1431655765 rfl (by omega) (by decide)]
  have e : bc1 s = s - ((s >>> 1) &&& 1431655765) := rfl
  rw [e, show ((s : Int) - (((s >>> 1) &&& 1431655765 : Nat) : Int)) = ((s - ((s >>> 1) &&& 1431655765) : Nat) : Int) by omega, wr_nat (by omega)]
  exact ⟨rfl, by omega⟩
theorem bi2_n {s : Nat} (h : s < 65536) : bi2 (s : Int) = ((bc2 s : Nat) : Int) ∧ bc2 s < 131072 := by
  unfold bi2
  have a0 := shr_le s 2
  have a2 : s &&& 858993459 ≤ s := Nat.and_le_left
  have a3 : (s >>> 2) &&& 858993459 ≤ s := Nat.le_trans Nat.and_le_left a0
  rw [iushr_L (k := 2) 2 rfl (by omega) (by decide), iand_L (m := 858993459) 858993459 rfl (by omega) (by decide), iand_L (m := 858993459) 858993459 rfl (by omega) (by decide), ← Int.natCast_add, wr_nat (by omega)]
  have e : bc2 s = (s &&& 858993459) + ((s >>> 2) &&& 858993459) := rfl
  rw [e]
  exact ⟨rfl, by omega⟩
theorem bi3_n {s : Nat} (h : s < 131072) : bi3 (s : Int) = ((bc3 s : Nat) : Int) ∧ bc3 s < 262144 := by
  unfold bi3
  have a0 := shr_le s 4
  rw [iushr_L (k := 4) 4 rfl (by omega) (by decide), ← Int.natCast_add, wr_nat (by omega), iand_L (m := 252645135) 252645135 rfl (by omega) (by decide)]
  have e : bc3 s = (s + s >>> 4) &&& 252645135 := rfl
  have a1 : (s + s >>> 4) &&& 252645135 ≤ s + s >>> 4 := Nat.and_le_left
  rw [e]
  exact ⟨rfl, by omega⟩
theorem bi4_n {s : Nat} (h : s < 262144) : bi4 (s : Int) = ((bc4 s : Nat) : Int) ∧ bc4 s < 524288 := by
  unfold bi4
  have a0 := shr_le s 8
  rw [iushr_L (k := 8) 8 rfl (by omega) (by decide), ← Int.natCast_add, wr_nat (by omega)]
  have e : bc4 s = s + s >>> 8 := rfl
  rw [e]
  exact ⟨rfl, by omega⟩
theorem bi5_n {s : Nat} (h : s < 524288) : bi5 (s : Int) = ((bc5 s : Nat) : Int) ∧ bc5 s < 1048576 := by
  unfold bi5
  have a0 := shr_le s 16
  rw [iushr_L (k := 16) 16 rfl (by omega) (by decide), ← Int.natCast_add, wr_nat (by omega)]
  have e : bc5 s = s + s >>> 16 := rfl
  rw [e]
  exact ⟨rfl, by omega⟩
theorem bcI_E {s : Nat} (h : s < 65536) : bcI (s : Int) = ((bcE s : Nat) : Int) := by
  obtain ⟨e1, h1⟩ := bi1_n h
  obtain ⟨e2, h2⟩ := bi2_n h1
  obtain ⟨e3, h3⟩ := bi3_n h2
  obtain ⟨e4, h4⟩ := bi4_n h3
  obtain ⟨e5, h5⟩ := bi5_n h4
  unfold bcI
  rw [e1, e2, e3, e4, e5, iand_L (m := 63) 63 rfl (by omega) (by decide)]
  rfl
theorem bcI_pp {s : Int} (h0 : 0 ≤ s) (h1 : s < 65536) : bcI s = ppI s := by
  have e : s = ((s.toNat : Nat) : Int) := by omega
  rw [e, bcI_E (by omega), pp_ex (by omega), bc_pp (by omega)]
theorem sumI_bd1 {f : Int → Int} : ∀ n : Nat, (∀ j : Int, f j = 0 ∨ f j = 1) → 0 ≤ sumI f n ∧ sumI f n ≤ n
  | 0, _ => by simp [sumI]
  | n + 1, h => by
    have ih := sumI_bd1 n h
    have h2 := h n
    rw [sumI]
    omega
theorem ppI_bd (s : Int) : 0 ≤ ppI s ∧ ppI s ≤ 20 := sumI_bd1 20 (fun j => bt01 s j)
set_option maxRecDepth 100000 in
theorem j_bits (s : Int) (w : Wd) (h0 : 0 ≤ s) (h1 : s < 65536) : CallN 1 mJ6_bitCount_0f7a4 [(0, s)] w (RV (0, ppI s) w) := by
  refine CallN.introF (by decide +kernel) (Nat.le_of_ble_eq_true rfl) (fun ρ hR => ?_)
  show AtN mJ6_bitCount_0f7a4 1 ρ 0 [(0, (0, s))] [] w
  refine s_iload_n dJ6_bitCount_0f7a4_0 0 rfl (s_iload_n dJ6_bitCount_0f7a4_1 0 rfl (s_iconst dJ6_bitCount_0f7a4_2 (by decide) (s_iushr dJ6_bitCount_0f7a4_3 (s_ldcw (z := 1431655765) dJ6_bitCount_0f7a4_4 kc_J6_265 rfl (s_iand dJ6_bitCount_0f7a4_7 (n_sub (z := (wr (s - (iand (iushr s 1) 1431655765)))) dJ6_bitCount_0f7a4_8 rfl (s_istore_n (ls' := [(0, (0, (wr (s - (iand (iushr s 1) 1431655765)))))]) dJ6_bitCount_0f7a4_9 (Nat.le_of_ble_eq_true rfl) rfl (s_iload_n dJ6_bitCount_0f7a4_10 0 rfl (s_ldcw (z := 858993459) dJ6_bitCount_0f7a4_11 kc_J6_266 rfl ?_)))))))))
  refine s_iand dJ6_bitCount_0f7a4_14 (s_iload_n dJ6_bitCount_0f7a4_15 0 rfl (s_iconst dJ6_bitCount_0f7a4_16 (by decide) (s_iushr dJ6_bitCount_0f7a4_17 (s_ldcw (z := 858993459) dJ6_bitCount_0f7a4_18 kc_J6_266 rfl (s_iand dJ6_bitCount_0f7a4_21 (n_add (z := (wr ((iand (wr (s - (iand (iushr s 1) 1431655765))) 858993459) + (iand (iushr (wr (s - (iand (iushr s 1) 1431655765))) 2) 858993459)))) dJ6_bitCount_0f7a4_22 rfl (s_istore_n (ls' := [(0, (0, (wr ((iand (wr (s - (iand (iushr s 1) 1431655765))) 858993459) + (iand (iushr (wr (s - (iand (iushr s 1) 1431655765))) 2) 858993459)))))]) dJ6_bitCount_0f7a4_23 (Nat.le_of_ble_eq_true rfl) rfl (s_iload_n dJ6_bitCount_0f7a4_24 0 rfl (s_iload_n dJ6_bitCount_0f7a4_25 0 rfl ?_)))))))))
  refine s_iconst dJ6_bitCount_0f7a4_26 (by decide) (s_iushr dJ6_bitCount_0f7a4_27 (n_add (z := (wr ((wr ((iand (wr (s - (iand (iushr s 1) 1431655765))) 858993459) + (iand (iushr (wr (s - (iand (iushr s 1) 1431655765))) 2) 858993459))) + (iushr (wr ((iand (wr (s - (iand (iushr s 1) 1431655765))) 858993459) + (iand (iushr (wr (s - (iand (iushr s 1) 1431655765))) 2) 858993459))) 4)))) dJ6_bitCount_0f7a4_28 rfl (s_ldcw (z := 252645135) dJ6_bitCount_0f7a4_29 kc_J6_267 rfl (s_iand dJ6_bitCount_0f7a4_32 (s_istore_n (ls' := [(0, (0, (iand (wr ((wr ((iand (wr (s - (iand (iushr s 1) 1431655765))) 858993459) + (iand (iushr (wr (s - (iand (iushr s 1) 1431655765))) 2) 858993459))) + (iushr (wr ((iand (wr (s - (iand (iushr s 1) 1431655765))) 858993459) + (iand (iushr (wr (s - (iand (iushr s 1) 1431655765))) 2) 858993459))) 4))) 252645135)))]) dJ6_bitCount_0f7a4_33 (Nat.le_of_ble_eq_true rfl) rfl (s_iload_n dJ6_bitCount_0f7a4_34 0 rfl (s_iload_n dJ6_bitCount_0f7a4_35 0 rfl (s_bipush dJ6_bitCount_0f7a4_36 (by decide) (s_iushr dJ6_bitCount_0f7a4_38 ?_)))))))))
  refine n_add (z := (wr ((iand (wr ((wr ((iand (wr (s - (iand (iushr s 1) 1431655765))) 858993459) + (iand (iushr (wr (s - (iand (iushr s 1) 1431655765))) 2) 858993459))) + (iushr (wr ((iand (wr (s - (iand (iushr s 1) 1431655765))) 858993459) + (iand (iushr (wr (s - (iand (iushr s 1) 1431655765))) 2) 858993459))) 4))) 252645135) + (iushr (iand (wr ((wr ((iand (wr (s - (iand (iushr s 1) 1431655765))) 858993459) + (iand (iushr (wr (s - (iand (iushr s 1) 1431655765))) 2) 858993459))) + (iushr (wr ((iand (wr (s - (iand (iushr s 1) 1431655765))) 858993459) + (iand (iushr (wr (s - (iand (iushr s 1) 1431655765))) 2) 858993459))) 4))) 252645135) 8)))) dJ6_bitCount_0f7a4_39 rfl (s_istore_n (ls' := [(0, (0, (wr ((iand (wr ((wr ((iand (wr (s - (iand (iushr s 1) 1431655765))) 858993459) + (iand (iushr (wr (s - (iand (iushr s 1) 1431655765))) 2) 858993459))) + (iushr (wr ((iand (wr (s - (iand (iushr s 1) 1431655765))) 858993459) + (iand (iushr (wr (s - (iand (iushr s 1) 1431655765))) 2) 858993459))) 4))) 252645135) + (iushr (iand (wr ((wr ((iand (wr (s - (iand (iushr s 1) 1431655765))) 858993459) + (iand (iushr (wr (s - (iand (iushr s 1) 1431655765))) 2) 858993459))) + (iushr (wr ((iand (wr (s - (iand (iushr s 1) 1431655765))) 858993459) + (iand (iushr (wr (s - (iand (iushr s 1) 1431655765))) 2) 858993459))) 4))) 252645135) 8)))))]) dJ6_bitCount_0f7a4_40 (Nat.le_of_ble_eq_true rfl) rfl (s_iload_n dJ6_bitCount_0f7a4_41 0 rfl (s_iload_n dJ6_bitCount_0f7a4_42 0 rfl (s_bipush dJ6_bitCount_0f7a4_43 (by decide) (s_iushr dJ6_bitCount_0f7a4_45 (n_add (z := (wr ((wr ((iand (wr ((wr ((iand (wr (s - (iand (iushr s 1) 1431655765))) 858993459) + (iand (iushr (wr (s - (iand (iushr s 1) 1431655765))) 2) 858993459))) + (iushr (wr ((iand (wr (s - (iand (iushr s 1) 1431655765))) 858993459) + (iand (iushr (wr (s - (iand (iushr s 1) 1431655765))) 2) 858993459))) 4))) 252645135) + (iushr (iand (wr ((wr ((iand (wr (s - (iand (iushr s 1) 1431655765))) 858993459) + (iand (iushr (wr (s - (iand (iushr s 1) 1431655765))) 2) 858993459))) + (iushr (wr ((iand (wr (s - (iand (iushr s 1) 1431655765))) 858993459) + (iand (iushr (wr (s - (iand (iushr s 1) 1431655765))) 2) 858993459))) 4))) 252645135) 8))) + (iushr (wr ((iand (wr ((wr ((iand (wr (s - (iand (iushr s 1) 1431655765))) 858993459) + (iand (iushr (wr (s - (iand (iushr s 1) 1431655765))) 2) 858993459))) + (iushr (wr ((iand (wr (s - (iand (iushr s 1) 1431655765))) 858993459) + (iand (iushr (wr (s - (iand (iushr s 1) 1431655765))) 2) 858993459))) 4))) 252645135) + (iushr (iand (wr ((wr ((iand (wr (s - (iand (iushr s 1) 1431655765))) 858993459) + (iand (iushr (wr (s - (iand (iushr s 1) 1431655765))) 2) 858993459))) + (iushr (wr ((iand (wr (s - (iand (iushr s 1) 1431655765))) 858993459) + (iand (iushr (wr (s - (iand (iushr s 1) 1431655765))) 2) 858993459))) 4))) 252645135) 8))) 16)))) dJ6_bitCount_0f7a4_46 rfl (s_istore_n (ls' := [(0, (0, (wr ((wr ((iand (wr ((wr ((iand (wr (s - (iand (iushr s 1) 1431655765))) 858993459) + (iand (iushr (wr (s - (iand (iushr s 1) 1431655765))) 2) 858993459))) + (iushr (wr ((iand (wr (s - (iand (iushr s 1) 1431655765))) 858993459) + (iand (iushr (wr (s - (iand (iushr s 1) 1431655765))) 2) 858993459))) 4))) 252645135) + (iushr (iand (wr ((wr ((iand (wr (s - (iand (iushr s 1) 1431655765))) 858993459) + (iand (iushr (wr (s - (iand (iushr s 1) 1431655765))) 2) 858993459))) + (iushr (wr ((iand (wr (s - (iand (iushr s 1) 1431655765))) 858993459) + (iand (iushr (wr (s - (iand (iushr s 1) 1431655765))) 2) 858993459))) 4))) 252645135) 8))) + (iushr (wr ((iand (wr ((wr ((iand (wr (s - (iand (iushr s 1) 1431655765))) 858993459) + (iand (iushr (wr (s - (iand (iushr s 1) 1431655765))) 2) 858993459))) + (iushr (wr ((iand (wr (s - (iand (iushr s 1) 1431655765))) 858993459) + (iand (iushr (wr (s - (iand (iushr s 1) 1431655765))) 2) 858993459))) 4))) 252645135) + (iushr (iand (wr ((wr ((iand (wr (s - (iand (iushr s 1) 1431655765))) 858993459) + (iand (iushr (wr (s - (iand (iushr s 1) 1431655765))) 2) 858993459))) + (iushr (wr ((iand (wr (s - (iand (iushr s 1) 1431655765))) 858993459) + (iand (iushr (wr (s - (iand (iushr s 1) 1431655765))) 2) 858993459))) 4))) 252645135) 8))) 16)))))]) dJ6_bitCount_0f7a4_47 (Nat.le_of_ble_eq_true rfl) rfl (s_iload_n dJ6_bitCount_0f7a4_48 0 rfl (s_bipush dJ6_bitCount_0f7a4_49 (by decide) ?_)))))))))
  refine s_iand dJ6_bitCount_0f7a4_51 (n_iret dJ6_bitCount_0f7a4_52 hR rfl ?_)
  exact ⟨congrArg (fun z => some ((0 : Nat), z)) (bcI_pp h0 h1), rfl⟩

set_option maxRecDepth 100000 in
theorem c_M_bits (s : Int) (w : Wd) : CallN 1 mX12_bits [(0, s)] w (RV (0, ppI s) w) := by
  refine CallN.intro (by decide +kernel) (Nat.le_of_ble_eq_true rfl) (fun ρ hR => ?_)
  show AtN mX12_bits 1 ρ 0 [(0, (0, s))] [] w
  have L_4 : ∀ (fu : Nat) (i : Int) (a : Int), 0 ≤ i ∧ i ≤ 20 → a = sumI (fun k => bt s k) i.toNat → (20 - i).toNat < fu → AtN mX12_bits 1 ρ 4 [(0, (0, s)), (1, (0, a)), (2, (0, i))] [] w := by
    intro fu
    induction fu with
    | zero => intro i a hi ha hm; exact absurd hm (Nat.not_lt_zero _)
    | succ fu ih =>
      intro i a hi ha hm
      have qa := sumI_bd1 (f := fun k => bt s k) i.toNat (fun j => bt01 s j)
      rw [← ha, toN_c hi.1] at qa
      have qb := bt01 s i
      refine s_iload_n dX12_bits_4 2 rfl (s_bipush dX12_bits_5 (by decide) (s_icmp_ge 24 dX12_bits_7 (by decide) (fun c_7 => ?_) (fun c_7 => ?_)))
      · skip
        refine s_iload_n dX12_bits_24 1 rfl (n_iret dX12_bits_25 hR rfl ?_)
        have e9 : i = 20 := by omega
        rw [e9] at ha
        exact ⟨congrArg (fun z => some ((0 : Nat), z)) ha, rfl⟩
      · skip
        refine s_iload_n dX12_bits_10 1 rfl (s_iload_n dX12_bits_11 0 rfl (s_iload_n dX12_bits_12 2 rfl (s_ishr dX12_bits_13 (s_iconst dX12_bits_14 (by decide) (n_bt dX12_bits_15 (n_add (z := (a + (bt s i))) dX12_bits_16 (wr_id (by omega) (by omega)) (s_istore_n (ls' := [(0, (0, s)), (1, (0, (a + (bt s i)))), (2, (0, i))]) dX12_bits_17 (Nat.le_of_ble_eq_true rfl) rfl (s_iinc (z := (i + 1)) (ls' := [(0, (0, s)), (1, (0, (a + (bt s i)))), (2, (0, (i + 1)))]) dX12_bits_18 2 rfl (Nat.le_of_ble_eq_true rfl) (wr_id (by omega) (by omega)) rfl (s_goto 4 dX12_bits_21 (by decide) ?_)))))))))
        exact ih (i + 1) (a + (bt s i)) (by omega) (by rw [sumI_s hi.1, ← ha]) (by omega)
  refine s_iconst dX12_bits_0 (by decide) (s_istore_n (ls' := [(0, (0, s)), (1, (0, 0))]) dX12_bits_1 (Nat.le_of_ble_eq_true rfl) rfl (s_iconst dX12_bits_2 (by decide) (s_istore_n (ls' := [(0, (0, s)), (1, (0, 0)), (2, (0, 0))]) dX12_bits_3 (Nat.le_of_ble_eq_true rfl) rfl ?_)))
  exact L_4 _ 0 0 (by omega) rfl (Nat.lt_succ_self _)

/-! FACES. -/
theorem iand_sub {a b : Nat} (ha : a < 2147483648) (hb : b < 2147483648) : iand a b = a ↔ ∀ j, a.testBit j = true → b.testBit j = true := by
  rw [iand_N ha hb]
  constructor
  · intro h j hj
    have h2 : a &&& b = a := by omega
    have h3 : (a &&& b).testBit j = true := by rw [h2]; exact hj
    rw [Nat.testBit_and] at h3
    exact (Bool.and_eq_true_iff.mp h3).2
  · intro h
    have h2 : a &&& b = a := Nat.eq_of_testBit_eq (fun j => by
      rw [Nat.testBit_and]
      cases hc : a.testBit j with
      | false => rfl
      | true => rw [h j hc]; rfl)
    rw [h2]
theorem iand_cm {a b : Nat} (ha : a < 2147483648) (hb : b < 2147483648) : iand a b = iand b a := by
  rw [iand_N ha hb, iand_N hb ha, Nat.and_comm]
/-- what the persons of a set speak -/
def orI (T : Int → Int) (s : Int) : Nat → Int
  | 0 => 0
  | n + 1 => if bt s n = 1 then ior (orI T s n) (T n) else orI T s n
theorem orI_s {T : Int → Int} {s i : Int} (h : 0 ≤ i) : orI T s (i + 1).toNat = if bt s i = 1 then ior (orI T s i.toNat) (T i) else orI T s i.toNat := by rw [toN_s h, orI, toN_c h]
theorem bt_1 {s i : Nat} (h : s < 2147483648) (hi : i < 32) : bt s i = 1 ↔ s.testBit i = true := by
  rw [bt_N h hi]; split <;> simp_all
theorem orI_b {T : Int → Int} {s : Nat} (hs : s < 2147483648) : ∀ n : Nat, n < 32 → (∀ p : Int, 0 ≤ p → p < n → 0 ≤ T p ∧ T p ≤ 31) → ∃ o : Nat, orI T s n = (o : Int) ∧ o < 32 ∧ ∀ j, o.testBit j = true ↔ ∃ p : Nat, p < n ∧ s.testBit p = true ∧ (T p).toNat.testBit j = true
  | 0, _, _ => ⟨0, rfl, by decide, fun j => ⟨fun h => absurd h (by simp), fun ⟨p, hp, _⟩ => absurd hp (by omega)⟩⟩
  | n + 1, hn, hT => by
    obtain ⟨o, h1, h2, h3⟩ := orI_b hs n (by omega) (fun p a b => hT p a (by omega))
    rw [orI, h1]
    have hTn := hT n (by omega) (by omega)
    by_cases c : s.testBit n = true
    · rw [if_pos ((bt_1 hs (by omega)).mpr c)]
      refine ⟨o ||| (T n).toNat, ?_, Nat.or_lt_two_pow (n := 5) h2 (by omega), fun j => ?_⟩
      · have := ior_N (a := o) (b := (T n).toNat) (by omega) (by omega)
        rwa [show (((T n).toNat : Nat) : Int) = T n by omega] at this
      · rw [Nat.testBit_or, Bool.or_eq_true, h3]
        constructor
        · rintro (⟨p, p1, p2⟩ | q)
          · exact ⟨p, by omega, p2⟩
          · exact ⟨n, by omega, c, q⟩
        · rintro ⟨p, p1, p2, p3⟩
          by_cases e : p = n
          · subst e; exact Or.inr p3
          · exact Or.inl ⟨p, by omega, p2, p3⟩
    · rw [if_neg (fun q => c ((bt_1 hs (by omega)).mp q))]
      refine ⟨o, rfl, h2, fun j => (h3 j).trans ⟨fun ⟨p, p1, p2⟩ => ⟨p, by omega, p2⟩, fun ⟨p, p1, p2, p3⟩ => ⟨p, ?_, p2, p3⟩⟩⟩
      by_cases e : p = n
      · subst e; exact absurd p2 c
      · omega
/-- those whose voice will do -/
def abI (V : Int → Int) (v : Int) : Nat → Int
  | 0 => 0
  | n + 1 => if v ≤ V n then ior (abI V v n) (ishl 1 n) else abI V v n
theorem abI_s {V : Int → Int} {v i : Int} (h : 0 ≤ i) : abI V v (i + 1).toNat = if v ≤ V i then ior (abI V v i.toNat) (ishl 1 i) else abI V v i.toNat := by rw [toN_s h, abI, toN_c h]
theorem abI_b {V : Int → Int} {v : Int} : ∀ n : Nat, n < 31 → ∃ o : Nat, abI V v n = (o : Int) ∧ o < 2 ^ n ∧ ∀ j, o.testBit j = true ↔ j < n ∧ v ≤ V j
  | 0, _ => ⟨0, rfl, by decide, fun j => ⟨fun h => absurd h (by simp), fun h => absurd h.1 (by omega)⟩⟩
  | n + 1, hn => by
    obtain ⟨o, h1, h2, h3⟩ := abI_b (V := V) (v := v) n (by omega)
    have hp : 2 ^ n < 2147483648 := by
      have := Nat.pow_lt_pow_right (a := 2) (by omega) (show n < 31 by omega)
      exact this
    have hp2 : 2 ^ (n + 1) = 2 ^ n * 2 := Nat.pow_succ ..
    rw [abI, h1]
    by_cases c : v ≤ V n
    · rw [if_pos c, ishl1 n (by omega), ior_N (by omega) hp]
      refine ⟨_, rfl, Nat.or_lt_two_pow (by omega) (by omega), fun j => ?_⟩
      rw [Nat.testBit_or, Bool.or_eq_true, h3, Nat.testBit_two_pow]
      constructor
      · rintro (⟨a, b⟩ | q)
        · exact ⟨by omega, b⟩
        · have e := of_decide_eq_true q
          subst e; exact ⟨by omega, c⟩
      · rintro ⟨a, b⟩
        by_cases e : n = j
        · exact Or.inr (decide_eq_true e)
        · exact Or.inl ⟨by omega, b⟩
    · rw [if_neg c]
      refine ⟨o, rfl, by omega, fun j => (h3 j).trans ⟨fun ⟨a, b⟩ => ⟨by omega, b⟩, fun ⟨a, b⟩ => ⟨?_, b⟩⟩⟩
      by_cases e : j = n
      · subst e; exact absurd b c
      · omega
/-- whether the voices of a set will do -/
def caI (V : Int → Int) (v s : Int) : Nat → Int
  | 0 => 1
  | n + 1 => if bt s n = 1 then (if caI V v s n = 1 ∧ v ≤ V n then 1 else 0) else caI V v s n
theorem caI_s {V : Int → Int} {v s i : Int} (h : 0 ≤ i) : caI V v s (i + 1).toNat = if bt s i = 1 then (if caI V v s i.toNat = 1 ∧ v ≤ V i then 1 else 0) else caI V v s i.toNat := by rw [toN_s h, caI, toN_c h]
theorem caI_01 {V : Int → Int} {v s : Int} : ∀ n : Nat, caI V v s n = 0 ∨ caI V v s n = 1
  | 0 => Or.inr rfl
  | n + 1 => by
    have ih := caI_01 (V := V) (v := v) (s := s) n
    rw [caI]
    repeat' split
    all_goals omega
theorem caI_b {V : Int → Int} {v s : Int} : ∀ n : Nat, caI V v s n = 1 ↔ ∀ p : Nat, p < n → bt s p = 1 → v ≤ V p
  | 0 => ⟨fun _ p hp => absurd hp (by omega), fun _ => rfl⟩
  | n + 1 => by
    have ih := caI_b (V := V) (v := v) (s := s) n
    rw [caI]
    by_cases c : bt s n = 1
    · rw [if_pos c]
      constructor
      · intro h p hp hb
        by_cases c2 : caI V v s n = 1 ∧ v ≤ V n
        · by_cases e : p = n
          · subst e; exact c2.2
          · exact ih.mp c2.1 p (by omega) hb
        · rw [if_neg c2] at h; exact absurd h (by decide)
      · intro h
        exact if_pos ⟨ih.mpr (fun p hp hb => h p (by omega) hb), h n (by omega) c⟩
    · rw [if_neg c, ih]
      constructor
      · intro h p hp hb
        by_cases e : p = n
        · subst e; exact absurd hb c
        · exact h p (by omega) hb
      · exact fun h p hp hb => h p (by omega) hb
/-- the reference's best set and how many are as good, among the sets 1 to n -/
def fbM (c : Int → Prop) [DecidablePred c] (z : Int → Int) : Nat → Int × Int
  | 0 => (-1, 0)
  | n + 1 => if c (n + 1) ∧ ((fbM c z n).1 = -1 ∨ z (n + 1) ≤ z (fbM c z n).1) then (if (fbM c z n).1 = -1 ∨ z (n + 1) < z (fbM c z n).1 then ((n : Int) + 1, 1) else ((fbM c z n).1, (fbM c z n).2 + 1)) else fbM c z n
/-- the class's: how few, the first such set, how many -/
def fbX (c : Int → Prop) [DecidablePred c] (z : Int → Int) (l k : Int) : Nat → Int × Int × Int
  | 0 => (6, l, k)
  | n + 1 => if c (n + 1) ∧ z (n + 1) ≤ (fbX c z l k n).1 ∧ z (n + 1) ≤ 5 then (if z (n + 1) < (fbX c z l k n).1 then (z (n + 1), (n : Int) + 1, 1) else ((fbX c z l k n).1, (fbX c z l k n).2.1, (fbX c z l k n).2.2 + 1)) else fbX c z l k n
theorem fb_rel {c : Int → Prop} [DecidablePred c] {z : Int → Int} {l k : Int} : ∀ n : Nat,
    ((fbM c z n).1 = -1 ∧ (fbX c z l k n).1 = 6 ∧ ∀ s : Int, 1 ≤ s → s ≤ n → ¬ c s) ∨
    ((1 ≤ (fbM c z n).1 ∧ (fbM c z n).1 ≤ n ∧ c (fbM c z n).1 ∧ ∀ s : Int, 1 ≤ s → s ≤ n → c s → z (fbM c z n).1 ≤ z s) ∧
      ((z (fbM c z n).1 ≤ 5 ∧ (fbX c z l k n).1 = z (fbM c z n).1 ∧ (fbX c z l k n).2.1 = (fbM c z n).1 ∧ (fbX c z l k n).2.2 = (fbM c z n).2) ∨ (5 < z (fbM c z n).1 ∧ (fbX c z l k n).1 = 6)))
  | 0 => Or.inl ⟨rfl, rfl, fun s a b => absurd b (by omega)⟩
  | n + 1 => by
    have ih := fb_rel (c := c) (z := z) (l := l) (k := k) n
    rw [fbM, fbX]
    generalize fbM c z n = M at ih ⊢
    generalize fbX c z l k n = X at ih ⊢
    obtain ⟨b, y⟩ := M
    obtain ⟨f, m, q⟩ := X
    dsimp only at ih ⊢
    by_cases hc : c ((n : Int) + 1)
    · rcases ih with ⟨rfl, rfl, h⟩ | ⟨⟨h1, h2, h3, h4⟩, h5⟩
      · right
        rw [if_pos ⟨hc, Or.inl rfl⟩, if_pos (Or.inl rfl)]
        have hu : ∀ s : Int, 1 ≤ s → s ≤ ((n + 1 : Nat) : Int) → c s → z ((n : Int) + 1) ≤ z s := fun s a b d => by
          by_cases e : s = (n : Int) + 1
          · rw [e]; exact Int.le_refl _
          · exact absurd d (h s a (by omega))
        refine ⟨⟨by show 1 ≤ (n : Int) + 1; omega, by show (n : Int) + 1 ≤ _; omega, hc, hu⟩, ?_⟩
        by_cases c5 : z ((n : Int) + 1) ≤ 5
        · rw [if_pos ⟨hc, by omega, c5⟩, if_pos (by omega)]
          exact Or.inl ⟨c5, rfl, rfl, rfl⟩
        · rw [if_neg (fun q => c5 q.2.2)]
          exact Or.inr ⟨by show 5 < z ((n : Int) + 1); omega, rfl⟩
      · right
        have hb1 : ¬ b = -1 := by omega
        by_cases c1 : z ((n : Int) + 1) ≤ z b
        · rw [if_pos ⟨hc, Or.inr c1⟩]
          by_cases c2 : z ((n : Int) + 1) < z b
          · rw [if_pos (Or.inr c2)]
            have hu : ∀ s : Int, 1 ≤ s → s ≤ ((n + 1 : Nat) : Int) → c s → z ((n : Int) + 1) ≤ z s := fun s a e d => by
              by_cases e2 : s = (n : Int) + 1
              · rw [e2]; exact Int.le_refl _
              · exact Int.le_trans c1 (h4 s a (by omega) d)
            refine ⟨⟨by show 1 ≤ (n : Int) + 1; omega, by show (n : Int) + 1 ≤ _; omega, hc, hu⟩, ?_⟩
            by_cases c5 : z ((n : Int) + 1) ≤ 5
            · rw [if_pos ⟨hc, by omega, c5⟩, if_pos (by omega)]
              exact Or.inl ⟨c5, rfl, rfl, rfl⟩
            · rw [if_neg (fun q => c5 q.2.2)]
              exact Or.inr ⟨by show 5 < z ((n : Int) + 1); omega, by omega⟩
          · rw [if_neg (fun q => q.elim hb1 c2)]
            refine ⟨⟨h1, by show b ≤ _; omega, h3, fun s a e d => ?_⟩, ?_⟩
            · by_cases e2 : s = (n : Int) + 1
              · rw [e2]; show z b ≤ _; omega
              · exact h4 s a (by omega) d
            · rcases h5 with ⟨g1, g2, g3, g4⟩ | ⟨g1, g2⟩
              · rw [if_pos ⟨hc, by omega, by omega⟩, if_neg (by omega)]
                exact Or.inl ⟨g1, g2, g3, by show q + 1 = y + 1; omega⟩
              · rw [if_neg (fun q => by omega)]
                exact Or.inr ⟨g1, g2⟩
        · rw [if_neg (fun q => q.2.elim hb1 c1)]
          refine ⟨⟨h1, by show b ≤ _; omega, h3, fun s a e d => ?_⟩, ?_⟩
          · by_cases e2 : s = (n : Int) + 1
            · rw [e2]; show z b ≤ _; omega
            · exact h4 s a (by omega) d
          · rcases h5 with ⟨g1, g2, g3, g4⟩ | ⟨g1, g2⟩
            · rw [if_neg (fun q => by omega)]
              exact Or.inl ⟨g1, g2, g3, g4⟩
            · rw [if_neg (fun q => by omega)]
              exact Or.inr ⟨g1, g2⟩
    · rw [if_neg (fun q => hc q.1), if_neg (fun q => hc q.1)]
      rcases ih with ⟨h1, h2, h3⟩ | ⟨⟨h1, h2, h3, h4⟩, h5⟩
      · exact Or.inl ⟨h1, h2, fun s a b d => by
          by_cases e : s = (n : Int) + 1
          · rw [e] at d; exact hc d
          · exact h3 s a (by omega) d⟩
      · exact Or.inr ⟨⟨h1, by show b ≤ _; omega, h3, fun s a e d => by
          by_cases e2 : s = (n : Int) + 1
          · rw [e2] at d; exact absurd d hc
          · exact h4 s a (by omega) d⟩, h5⟩
theorem fbM_bd {c : Int → Prop} [DecidablePred c] {z : Int → Int} : ∀ n : Nat, (-1 ≤ (fbM c z n).1 ∧ (fbM c z n).1 ≤ n) ∧ 0 ≤ (fbM c z n).2 ∧ (fbM c z n).2 ≤ n
  | 0 => by simp [fbM]
  | n + 1 => by
    have ih := fbM_bd (c := c) (z := z) n
    rw [fbM]
    generalize fbM c z n = M at ih ⊢
    obtain ⟨b, y⟩ := M
    dsimp only at ih ⊢
    repeat' split
    all_goals (try dsimp only)
    all_goals omega
theorem fbX_bd {c : Int → Prop} [DecidablePred c] {z : Int → Int} {l k : Int} (hz : ∀ s, 0 ≤ z s) : ∀ n : Nat, (0 ≤ (fbX c z l k n).1 ∧ (fbX c z l k n).1 ≤ 6) ∧ (0 ≤ (fbX c z l k n).2.2 ∧ (fbX c z l k n).2.2 ≤ n ∨ (fbX c z l k n).2.2 = k ∧ (fbX c z l k n).1 = 6)
  | 0 => by simp [fbX]
  | n + 1 => by
    have ih := fbX_bd (c := c) (z := z) (l := l) (k := k) hz n
    have h1 := hz ((n : Int) + 1)
    rw [fbX]
    generalize fbX c z l k n = X at ih ⊢
    obtain ⟨f, m, q⟩ := X
    dsimp only at ih ⊢
    repeat' split
    all_goals (try dsimp only)
    all_goals omega
theorem fbM_rg {c : Int → Prop} [DecidablePred c] {z : Int → Int} : ∀ n : Nat, (fbM c z n).1 = -1 ∨ (1 ≤ (fbM c z n).1 ∧ (fbM c z n).1 ≤ n)
  | 0 => Or.inl rfl
  | n + 1 => by
    have ih := fbM_rg (c := c) (z := z) n
    rw [fbM]
    generalize fbM c z n = M at ih ⊢
    obtain ⟨b, y⟩ := M
    dsimp only at ih ⊢
    repeat' split
    all_goals (try dsimp only)
    all_goals omega
theorem fbM_c {c c' : Int → Prop} [DecidablePred c] [DecidablePred c'] {z z' : Int → Int} : ∀ n : Nat, (∀ s : Int, 1 ≤ s → s ≤ n → (c s ↔ c' s)) → (∀ s : Int, 1 ≤ s → s ≤ n → z s = z' s) → fbM c z n = fbM c' z' n
  | 0, _, _ => rfl
  | n + 1, h, hz => by
    have e := fbM_c n (fun s a b => h s a (by omega)) (fun s a b => hz s a (by omega))
    rw [fbM, fbM, e]
    have e1 := h ((n : Int) + 1) (by omega) (by omega)
    have hb := fbM_rg (c := c') (z := z') n
    generalize fbM c' z' n = M at hb ⊢
    obtain ⟨b, y⟩ := M
    dsimp only at hb ⊢
    rw [← hz ((n : Int) + 1) (by omega) (by omega)]
    rcases hb with rfl | hb
    · simp only [e1, true_or]
    · rw [← hz b hb.1 (by omega)]
      simp only [e1]
theorem fbX_no {c : Int → Prop} [DecidablePred c] {z : Int → Int} {l k : Int} (a : Nat) : ∀ d : Nat, (∀ s : Int, (a : Int) < s → ¬ c s) → fbX c z l k (a + d) = fbX c z l k a
  | 0, _ => rfl
  | d + 1, h => by
    rw [← Nat.add_assoc, fbX, if_neg (fun q => h _ (by omega) q.1), fbX_no a d h]
theorem iclr_0 {x : Nat} : x &&& 0 = 0 := Nat.and_zero x
theorem sum_ind {q : Int} : ∀ n : Nat, sumI (fun k => if k = q then 1 else 0) n ≤ 1 ∧ 0 ≤ sumI (fun k => if k = q then 1 else 0) n ∧ ((n : Int) ≤ q → sumI (fun k => if k = q then 1 else 0) n = 0)
  | 0 => by simp [sumI]
  | n + 1 => by
    have ih := sum_ind (q := q) n
    rw [sumI]
    try dsimp only
    split <;> omega
theorem sum_le {f g h : Int → Int} : ∀ n : Nat, (∀ j : Nat, j < n → f j ≤ g j + h j) → sumI f n ≤ sumI g n + sumI h n
  | 0, _ => by simp [sumI]
  | n + 1, H => by
    have ih := sum_le n (fun j hj => H j (by omega))
    have h1 := H n (by omega)
    rw [sumI, sumI, sumI]
    omega
theorem pp_or {s p : Nat} (hs : s < 2147483648) (hp : p < 31) : ppI ((s ||| 2 ^ p : Nat) : Int) ≤ ppI (s : Int) + 1 := by
  have h2 : (2 : Nat) ^ p < 2 ^ 31 := Nat.pow_lt_pow_right (by omega) hp
  have h3 : s ||| 2 ^ p < 2 ^ 31 := Nat.or_lt_two_pow (by omega) h2
  have h := sum_le (f := fun k => bt ((s ||| 2 ^ p : Nat) : Int) k) (g := fun k => bt (s : Int) k) (h := fun k => if k = (p : Int) then 1 else 0) 20 (fun j hj => by
    try dsimp only
    rw [bt_N (by omega) (by omega), bt_N hs (by omega), Nat.testBit_or, Nat.testBit_two_pow]
    by_cases e : p = j
    · subst e
      rw [if_pos (show ((p : Nat) : Int) = p from rfl)]
      split <;> split <;> omega
    · rw [decide_eq_false e, Bool.or_false]
      split <;> split <;> omega)
  have h1 := (sum_ind (q := (p : Int)) 20).1
  unfold ppI
  omega
/-- few persons are enough: one for each tongue -/
theorem few_cover {T : Int → Int} {b n t : Nat} (hb : b < 2147483648) (hn : n < 31) (hT : ∀ j, j < 5 → t.testBit j = true → ∃ p : Nat, p < n ∧ b.testBit p = true ∧ (T p).toNat.testBit j = true) :
    ∀ m : Nat, m ≤ 5 → ∃ s : Nat, s ≤ b ∧ (∀ p, s.testBit p = true → b.testBit p = true) ∧ ppI (s : Int) ≤ m ∧ ∀ j, j < m → t.testBit j = true → ∃ p : Nat, p < n ∧ s.testBit p = true ∧ (T p).toNat.testBit j = true
  | 0, _ => ⟨0, by omega, fun p hp => absurd hp (by simp), by decide +kernel, fun j hj => absurd hj (by omega)⟩
  | m + 1, hm => by
    obtain ⟨s, s1, s2, s3, s4⟩ := few_cover hb hn hT m (by omega)
    by_cases c : t.testBit m = true
    · obtain ⟨p, p1, p2, p3⟩ := hT m (by omega) c
      have hsub : ∀ q, (s ||| 2 ^ p).testBit q = true → b.testBit q = true := fun q hq => by
        rw [Nat.testBit_or, Bool.or_eq_true, Nat.testBit_two_pow] at hq
        rcases hq with hq | hq
        · exact s2 q hq
        · have e := of_decide_eq_true hq
          subst e; exact p2
      refine ⟨s ||| 2 ^ p, ?_, hsub, ?_, fun j hj hjt => ?_⟩
      · have e : (s ||| 2 ^ p) &&& b = s ||| 2 ^ p := Nat.eq_of_testBit_eq (fun j => by
          rw [Nat.testBit_and]
          cases hc : (s ||| 2 ^ p).testBit j with
          | false => rfl
          | true => rw [hsub j hc]; rfl)
        rw [← e]
        exact Nat.and_le_right
      · have := pp_or (s := s) (p := p) (by omega) (by omega)
        omega
      · by_cases e : j = m
        · subst e
          exact ⟨p, p1, by rw [Nat.testBit_or, Nat.testBit_two_pow]; simp, p3⟩
        · obtain ⟨q, q1, q2, q3⟩ := s4 j (by omega) hjt
          exact ⟨q, q1, by rw [Nat.testBit_or, q2]; rfl, q3⟩
    · refine ⟨s, s1, s2, by omega, fun j hj hjt => ?_⟩
      by_cases e : j = m
      · subst e; exact absurd hjt c
      · exact s4 j (by omega) hjt
def cvX (V T : Int → Int) (n v t s : Int) : Prop := iand s (abI V v n.toNat) = s ∧ iand (orI T s n.toNat) t = t
def cvM (V T : Int → Int) (n v t s : Int) : Prop := caI V v s n.toNat = 1 ∧ iand (orI T s n.toNat) t = t
def cvXd (V T : Int → Int) (n v t : Int) : DecidablePred (cvX V T n v t) := fun s => by unfold cvX; infer_instance
def cvMd (V T : Int → Int) (n v t : Int) : DecidablePred (cvM V T n v t) := fun s => by unfold cvM; infer_instance
/-- best set and how many, in the reference's way -/
def faM (V T : Int → Int) (n v t : Int) (m : Nat) : Int × Int := @fbM (cvM V T n v t) (cvMd V T n v t) ppI m
def faX (V T : Int → Int) (n v t l k : Int) (m : Nat) : Int × Int × Int := @fbX (cvX V T n v t) (cvXd V T n v t) ppI l k m
theorem cv_iff {V T : Int → Int} {n v t s : Int} (hn : 0 ≤ n) (hn2 : n ≤ 14) (hs : 1 ≤ s) (hs2 : s < 2 ^ n.toNat) : cvX V T n v t s ↔ cvM V T n v t s := by
  obtain ⟨o, o1, o2, o3⟩ := abI_b (V := V) (v := v) n.toNat (by omega)
  have hp : 2 ^ n.toNat ≤ 2 ^ 14 := Nat.pow_le_pow_right (by omega) (by omega)
  have hs3 : s.toNat < 2 ^ n.toNat := by
    have e : ((2 ^ n.toNat : Nat) : Int) = 2 ^ n.toNat := by simp
    omega
  have es : s = ((s.toNat : Nat) : Int) := by omega
  unfold cvX cvM
  have h1 : iand s (abI V v n.toNat) = s ↔ caI V v s n.toNat = 1 := by
    rw [o1, es, iand_sub (by omega) (by omega), caI_b]
    constructor
    · intro h p hp2 hb
      exact ((o3 p).mp (h p ((bt_1 (by omega) (by omega)).mp hb))).2
    · intro h j hj
      have hjn : j < n.toNat := by
        rcases Nat.lt_or_ge j n.toNat with q | q
        · exact q
        · have : s.toNat.testBit j = false := Nat.testBit_lt_two_pow (Nat.lt_of_lt_of_le hs3 (Nat.pow_le_pow_right (by omega) q))
          rw [this] at hj; cases hj
      exact (o3 j).mpr ⟨hjn, h j hjn ((bt_1 (by omega) (by omega)).mpr hj)⟩
  rw [h1]
/-- what the answer is -/
def facesV (V T : Int → Int) (n t v q : Int) : Int := if ((1 ≤ t ∧ t ≤ 31) ∧ (0 ≤ v ∧ v ≤ 9)) ∧ (0 ≤ q ∧ q ≤ 2) then (if (faM V T n v t (ishl 1 n - 1).toNat).1 = -1 then -1 else if q = 0 then ppI (faM V T n v t (ishl 1 n - 1).toNat).1 else if q = 1 then (faM V T n v t (ishl 1 n - 1).toNat).1 else (faM V T n v t (ishl 1 n - 1).toNat).2) else -1
theorem faces_eq {V T : Int → Int} {n v t l k : Int} (hn : 0 ≤ n) (hn2 : n ≤ 14) (ht : 1 ≤ t ∧ t ≤ 31) (hT : ∀ p, 0 ≤ p → p < n → 0 ≤ T p ∧ T p ≤ 31) :
    ((faM V T n v t (ishl 1 n - 1).toNat).1 = -1 ∧ (faX V T n v t l k (abI V v n.toNat).toNat).1 = 6) ∨ ((faM V T n v t (ishl 1 n - 1).toNat).1 ≠ -1 ∧ (faX V T n v t l k (abI V v n.toNat).toNat).1 ≤ 5 ∧ faX V T n v t l k (abI V v n.toNat).toNat = (ppI (faM V T n v t (ishl 1 n - 1).toNat).1, (faM V T n v t (ishl 1 n - 1).toNat).1, (faM V T n v t (ishl 1 n - 1).toNat).2)) := by
  have e1 : ishl 1 n = ((2 ^ n.toNat : Nat) : Int) := by
    have := ishl1 n.toNat (by omega)
    rwa [toN_c hn] at this
  have hp : 2 ^ n.toNat ≤ 2 ^ 14 := Nat.pow_le_pow_right (by omega) (by omega)
  have hp1 : 1 ≤ 2 ^ n.toNat := Nat.one_le_two_pow
  obtain ⟨o, o1, o2, o3⟩ := abI_b (V := V) (v := v) n.toNat (by omega)
  have eN : (ishl 1 n - 1).toNat = 2 ^ n.toNat - 1 := by omega
  rw [eN, o1]
  have hno : ∀ s : Int, ((o : Nat) : Int) < s → ¬ cvX V T n v t s := by
    intro s hs hc
    have h1 := hc.1
    rw [o1] at h1
    by_cases hb : s < 2147483648
    · have es : s = ((s.toNat : Nat) : Int) := by omega
      rw [es, iand_N (by omega) (by omega)] at h1
      have := Nat.and_le_right (n := s.toNat) (m := o)
      omega
    · have h2 := toInt_InI (Int32.ofInt s &&& Int32.ofInt (o : Int))
      unfold InI at h2
      unfold iand at h1
      omega
  have ex : faX V T n v t l k (((o : Nat) : Int).toNat) = faX V T n v t l k (2 ^ n.toNat - 1) := by
    have h := @fbX_no (cvX V T n v t) (cvXd V T n v t) ppI l k o (2 ^ n.toNat - 1 - o) hno
    unfold faX
    rw [show o + (2 ^ n.toNat - 1 - o) = 2 ^ n.toNat - 1 by omega] at h
    rw [h]
    rfl
  rw [ex]
  have em : faM V T n v t (2 ^ n.toNat - 1) = @fbM (cvX V T n v t) (cvXd V T n v t) ppI (2 ^ n.toNat - 1) :=
    (@fbM_c (cvX V T n v t) (cvM V T n v t) (cvXd V T n v t) (cvMd V T n v t) ppI ppI (2 ^ n.toNat - 1) (fun s a b => cv_iff hn hn2 a (by
      have e : ((2 ^ n.toNat : Nat) : Int) = 2 ^ n.toNat := by simp
      omega)) (fun _ _ _ => rfl)).symm
  rw [em]
  unfold faX
  have hr := @fb_rel (cvX V T n v t) (cvXd V T n v t) ppI l k (2 ^ n.toNat - 1)
  generalize @fbM (cvX V T n v t) (cvXd V T n v t) ppI (2 ^ n.toNat - 1) = M at hr ⊢
  generalize @fbX (cvX V T n v t) (cvXd V T n v t) ppI l k (2 ^ n.toNat - 1) = X at hr ⊢
  obtain ⟨b, y⟩ := M
  obtain ⟨f, m, q⟩ := X
  dsimp only at hr ⊢
  rcases hr with ⟨h1, h2, -⟩ | ⟨⟨h1, h2, h3, h4⟩, ⟨g1, g2, g3, g4⟩ | ⟨g1, g2⟩⟩
  · exact Or.inl ⟨h1, h2⟩
  · exact Or.inr ⟨by omega, by omega, by rw [g2, g3, g4]⟩
  · exfalso
    have eb : b = ((b.toNat : Nat) : Int) := by omega
    obtain ⟨c1, c2⟩ := h3
    obtain ⟨oo, q1, q2, q3⟩ := orI_b (T := T) (s := b.toNat) (by omega) n.toNat (by omega) (fun p a d => hT p a (by omega))
    have et : t = ((t.toNat : Nat) : Int) := by omega
    rw [o1, eb, iand_sub (by omega) (by omega)] at c1
    rw [eb, q1, et, iand_cm (by omega) (by omega), iand_sub (by omega) (by omega)] at c2
    have hT2 : ∀ j, j < 5 → t.toNat.testBit j = true → ∃ p : Nat, p < n.toNat ∧ b.toNat.testBit p = true ∧ (T p).toNat.testBit j = true := fun j _ hj => (q3 j).mp (c2 j hj)
    obtain ⟨s, s1, s2, s3, s4⟩ := few_cover (T := T) (b := b.toNat) (n := n.toNat) (t := t.toNat) (by omega) (by omega) hT2 5 (by omega)
    have hcs : iand (s : Int) (abI V v n.toNat) = (s : Int) := by
      rw [o1, iand_sub (by omega) (by omega)]
      exact fun j hj => c1 j (s2 j hj)
    have hs4 : ∀ j, t.toNat.testBit j = true → ∃ p : Nat, p < n.toNat ∧ s.testBit p = true ∧ (T p).toNat.testBit j = true := fun j hj => by
      rcases Nat.lt_or_ge j 5 with q | q
      · exact s4 j q hj
      · have : t.toNat.testBit j = false := Nat.testBit_lt_two_pow (Nat.lt_of_lt_of_le (show t.toNat < 2 ^ 5 by omega) (Nat.pow_le_pow_right (by omega) q))
        rw [this] at hj; cases hj
    have hs0 : 1 ≤ s := by
      rcases Nat.eq_zero_or_pos s with e | e
      · subst e
        have : t.toNat = 0 := Nat.eq_of_testBit_eq (fun j => by
          cases hc : t.toNat.testBit j with
          | false => simp
          | true =>
            obtain ⟨p, -, p2, -⟩ := hs4 j hc
            simp at p2)
        omega
      · exact e
    obtain ⟨o5, r1, r2, r3⟩ := orI_b (T := T) (s := s) (by omega) n.toNat (by omega) (fun p a d => hT p a (by omega))
    have hsp : iand (orI T (s : Int) n.toNat) t = t := by
      rw [r1, et, iand_cm (by omega) (by omega), iand_sub (by omega) (by omega)]
      exact fun j hj => (r3 j).mpr (hs4 j hj)
    have := h4 (s : Int) (by omega) (by omega) ⟨hcs, hsp⟩
    omega
