/-! THE CLASS FINDS THE TOKENS. -/
set_option maxRecDepth 100000 in
theorem c_X_isLetter (c : Int) (w : Wd) : CallN 2 mX8_isLetter [(0, c)] w (RV (0, bi (isLt c)) w) := by
  refine CallN.intro (by decide +kernel) (Nat.le_of_ble_eq_true rfl) (fun ρ hR => ?_)
  show AtN mX8_isLetter 2 ρ 0 [(0, (0, c))] [] w
  refine s_iload_n dX8_isLetter_0 0 rfl (s_bipush dX8_isLetter_1 (by decide) (s_bipush dX8_isLetter_3 (by decide) (n_invT (as := [(0, c), (0, 97), (0, 122)]) dX8_isLetter_5 kv_X11_within ml_X8_32 (c_within c 97 122 w) (by decide) rfl rfl (Nat.le_of_ble_eq_true rfl) (n_ifne_b 22 dX8_isLetter_8 (by decide) (fun c_8 => ?_) (fun c_8 => ?_)))))
  · skip
    refine s_iconst dX8_isLetter_22 (by decide) (s_goto 27 dX8_isLetter_23 (by decide) (n_zret dX8_isLetter_27 hR rfl (by first | exact Or.inl rfl | exact Or.inr rfl | exact bi_01 _ | omega) ?_))
    refine ⟨congrArg (fun z => some ((0 : Nat), z)) ?_, rfl⟩
    first | exact (bi_t (by omega)).symm | exact (bi_f (by omega)).symm | exact bi_congr (by omega)
  · skip
    refine s_iload_n dX8_isLetter_11 0 rfl (s_bipush dX8_isLetter_12 (by decide) (s_bipush dX8_isLetter_14 (by decide) (n_invT (as := [(0, c), (0, 65), (0, 90)]) dX8_isLetter_16 kv_X11_within ml_X8_32 (c_within c 65 90 w) (by decide) rfl rfl (Nat.le_of_ble_eq_true rfl) (n_ifeq_b 26 dX8_isLetter_19 (by decide) (fun c_19 => ?_) (fun c_19 => ?_)))))
    · skip
      refine s_iconst dX8_isLetter_26 (by decide) (n_zret dX8_isLetter_27 hR rfl (by first | exact Or.inl rfl | exact Or.inr rfl | exact bi_01 _ | omega) ?_)
      refine ⟨congrArg (fun z => some ((0 : Nat), z)) ?_, rfl⟩
      first | exact (bi_t (by omega)).symm | exact (bi_f (by omega)).symm | exact bi_congr (by omega)
    · skip
      refine s_iconst dX8_isLetter_22 (by decide) (s_goto 27 dX8_isLetter_23 (by decide) (n_zret dX8_isLetter_27 hR rfl (by first | exact Or.inl rfl | exact Or.inr rfl | exact bi_01 _ | omega) ?_))
      refine ⟨congrArg (fun z => some ((0 : Nat), z)) ?_, rfl⟩
      first | exact (bi_t (by omega)).symm | exact (bi_f (by omega)).symm | exact bi_congr (by omega)

set_option maxRecDepth 100000 in
theorem c_X_isDigit (c : Int) (w : Wd) : CallN 2 mX8_isDigit [(0, c)] w (RV (0, bi (isDg c)) w) := by
  refine CallN.intro (by decide +kernel) (Nat.le_of_ble_eq_true rfl) (fun ρ hR => ?_)
  show AtN mX8_isDigit 2 ρ 0 [(0, (0, c))] [] w
  refine s_iload_n dX8_isDigit_0 0 rfl (s_bipush dX8_isDigit_1 (by decide) (s_bipush dX8_isDigit_3 (by decide) (n_invT (as := [(0, c), (0, 48), (0, 57)]) dX8_isDigit_5 kv_X11_within ml_X8_32 (c_within c 48 57 w) (by decide) rfl rfl (Nat.le_of_ble_eq_true rfl) (n_zret dX8_isDigit_8 hR rfl (by first | exact Or.inl rfl | exact Or.inr rfl | exact bi_01 _ | omega) ?_))))
  refine ⟨congrArg (fun z => some ((0 : Nat), z)) ?_, rfl⟩
  first | exact (bi_t (by omega)).symm | exact (bi_f (by omega)).symm | exact bi_congr (by omega)

set_option maxRecDepth 100000 in
theorem c_X_tog (a b : Int) (w : Wd) : CallN 3 mX8_standTogether [(0, a), (0, b)] w (RV (0, bi (togT a b)) w) := by
  refine CallN.intro (by decide +kernel) (Nat.le_of_ble_eq_true rfl) (fun ρ hR => ?_)
  show AtN mX8_standTogether 3 ρ 0 [(0, (0, a)), (1, (0, b))] [] w
  refine s_iload_n dX8_standTogether_0 0 rfl (n_invS (as := [(0, a)]) dX8_standTogether_1 kv_X8_isLetter ml_X8_46 (c_X_isLetter a w) (by decide) rfl rfl (Nat.le_of_ble_eq_true rfl) (n_ifeq_b 14 dX8_standTogether_4 (by decide) (fun c_4 => ?_) (fun c_4 => ?_)))
  · skip
    refine s_iload_n dX8_standTogether_14 0 rfl (n_invS (as := [(0, a)]) dX8_standTogether_15 kv_X8_isDigit ml_X8_50 (c_X_isDigit a w) (by decide) rfl rfl (Nat.le_of_ble_eq_true rfl) (n_ifeq_b 32 dX8_standTogether_18 (by decide) (fun c_18 => ?_) (fun c_18 => ?_)))
    · skip
      refine s_iconst dX8_standTogether_32 (by decide) (n_zret dX8_standTogether_33 hR rfl (by first | exact Or.inl rfl | exact Or.inr rfl | exact bi_01 _ | omega) ?_)
      refine ⟨congrArg (fun z => some ((0 : Nat), z)) ?_, rfl⟩
      first | exact (bi_t (by omega)).symm | exact (bi_f (by omega)).symm | exact bi_congr (by omega)
    · skip
      refine s_iload_n dX8_standTogether_21 1 rfl (n_invS (as := [(0, b)]) dX8_standTogether_22 kv_X8_isDigit ml_X8_50 (c_X_isDigit b w) (by decide) rfl rfl (Nat.le_of_ble_eq_true rfl) (n_ifeq_b 32 dX8_standTogether_25 (by decide) (fun c_25 => ?_) (fun c_25 => ?_)))
      · skip
        refine s_iconst dX8_standTogether_32 (by decide) (n_zret dX8_standTogether_33 hR rfl (by first | exact Or.inl rfl | exact Or.inr rfl | exact bi_01 _ | omega) ?_)
        refine ⟨congrArg (fun z => some ((0 : Nat), z)) ?_, rfl⟩
        first | exact (bi_t (by omega)).symm | exact (bi_f (by omega)).symm | exact bi_congr (by omega)
      · skip
        refine s_iconst dX8_standTogether_28 (by decide) (s_goto 33 dX8_standTogether_29 (by decide) (n_zret dX8_standTogether_33 hR rfl (by first | exact Or.inl rfl | exact Or.inr rfl | exact bi_01 _ | omega) ?_))
        refine ⟨congrArg (fun z => some ((0 : Nat), z)) ?_, rfl⟩
        first | exact (bi_t (by omega)).symm | exact (bi_f (by omega)).symm | exact bi_congr (by omega)
  · skip
    refine s_iload_n dX8_standTogether_7 1 rfl (n_invS (as := [(0, b)]) dX8_standTogether_8 kv_X8_isLetter ml_X8_46 (c_X_isLetter b w) (by decide) rfl rfl (Nat.le_of_ble_eq_true rfl) (n_ifne_b 28 dX8_standTogether_11 (by decide) (fun c_11 => ?_) (fun c_11 => ?_)))
    · skip
      refine s_iconst dX8_standTogether_28 (by decide) (s_goto 33 dX8_standTogether_29 (by decide) (n_zret dX8_standTogether_33 hR rfl (by first | exact Or.inl rfl | exact Or.inr rfl | exact bi_01 _ | omega) ?_))
      refine ⟨congrArg (fun z => some ((0 : Nat), z)) ?_, rfl⟩
      first | exact (bi_t (by omega)).symm | exact (bi_f (by omega)).symm | exact bi_congr (by omega)
    · skip
      refine s_iload_n dX8_standTogether_14 0 rfl (n_invS (as := [(0, a)]) dX8_standTogether_15 kv_X8_isDigit ml_X8_50 (c_X_isDigit a w) (by decide) rfl rfl (Nat.le_of_ble_eq_true rfl) (n_ifeq_b 32 dX8_standTogether_18 (by decide) (fun c_18 => ?_) (fun c_18 => ?_)))
      · skip
        refine s_iconst dX8_standTogether_32 (by decide) (n_zret dX8_standTogether_33 hR rfl (by first | exact Or.inl rfl | exact Or.inr rfl | exact bi_01 _ | omega) ?_)
        refine ⟨congrArg (fun z => some ((0 : Nat), z)) ?_, rfl⟩
        first | exact (bi_t (by omega)).symm | exact (bi_f (by omega)).symm | exact bi_congr (by omega)
      · skip
        refine s_iload_n dX8_standTogether_21 1 rfl (n_invS (as := [(0, b)]) dX8_standTogether_22 kv_X8_isDigit ml_X8_50 (c_X_isDigit b w) (by decide) rfl rfl (Nat.le_of_ble_eq_true rfl) (n_ifeq_b 32 dX8_standTogether_25 (by decide) (fun c_25 => ?_) (fun c_25 => ?_)))
        · skip
          refine s_iconst dX8_standTogether_32 (by decide) (n_zret dX8_standTogether_33 hR rfl (by first | exact Or.inl rfl | exact Or.inr rfl | exact bi_01 _ | omega) ?_)
          refine ⟨congrArg (fun z => some ((0 : Nat), z)) ?_, rfl⟩
          first | exact (bi_t (by omega)).symm | exact (bi_f (by omega)).symm | exact bi_congr (by omega)
        · skip
          refine s_iconst dX8_standTogether_28 (by decide) (s_goto 33 dX8_standTogether_29 (by decide) (n_zret dX8_standTogether_33 hR rfl (by first | exact Or.inl rfl | exact Or.inr rfl | exact bi_01 _ | omega) ?_))
          refine ⟨congrArg (fun z => some ((0 : Nat), z)) ?_, rfl⟩
          first | exact (bi_t (by omega)).symm | exact (bi_f (by omega)).symm | exact bi_congr (by omega)

set_option maxRecDepth 100000 in
theorem c_X_isWord (k fr l : Int) (w : Wd) (hk : 0 ≤ k ∧ k < 17) (hfr : 0 ≤ fr) (hl : 0 ≤ l ∧ l ≤ 6) (hfl : fr + l ≤ 600) (hT : ∀ j : Int, 0 ≤ j → j < l → w 31 (fr + j) ≠ 32) : CallN 5 mX8_isWord [(2, 30), (0, k), (0, fr), (0, l)] w (RV (0, bi (isWb (w 31) fr l k.toNat = true)) w) := by
  refine CallN.intro (by decide +kernel) (Nat.le_of_ble_eq_true rfl) (fun ρ hR => ?_)
  show AtN mX8_isWord 5 ρ 0 [(0, (2, 30)), (1, (0, k)), (2, (0, fr)), (3, (0, l))] [] w
  have L_3 : ∀ (fu : Nat) (i : Int), 0 ≤ i ∧ i ≤ 6 → (∀ j : Int, 0 ≤ j → j < i → chS 0 (k * 6 + j) = if j < l then w 31 (fr + j) else 32) → (6 - i).toNat < fu → AtN mX8_isWord 5 ρ 3 [(0, (2, 30)), (1, (0, k)), (2, (0, fr)), (3, (0, l)), (4, (0, i))] [] w := by
    intro fu
    induction fu with
    | zero => intro i hi hcm hm; exact absurd hm (Nat.not_lt_zero _)
    | succ fu ih =>
      intro i hi hcm hm
      have l0 : ((lnS 0 : Nat) : Int) = 102 := rfl
      refine s_iload dX8_isWord_3 4 rfl (s_bipush dX8_isWord_5 (by decide) (s_icmp_ge 57 dX8_isWord_7 (by decide) (fun c_7 => ?_) (fun c_7 => ?_)))
      · skip
        refine s_iconst dX8_isWord_57 (by decide) (n_zret dX8_isWord_58 hR rfl (by first | exact Or.inl rfl | exact Or.inr rfl | exact bi_01 _ | omega) ?_)
        refine ⟨congrArg (fun z => some ((0 : Nat), z)) (bi_t ((isW_pad (by omega) hl hT).mpr (fun j a b => ?_))).symm, rfl⟩
        rw [show 6 * ((k.toNat : Nat) : Int) + j = k * 6 + j by omega]
        exact hcm j a (by omega)
      · skip
        refine s_iload dX8_isWord_10 4 rfl (s_iload_n dX8_isWord_12 3 rfl (s_icmp_ge 28 dX8_isWord_13 (by decide) (fun c_13 => ?_) (fun c_13 => ?_)))
        · skip
          refine s_bipush dX8_isWord_28 (by decide) (s_istore (ls' := [(0, (2, 30)), (1, (0, k)), (2, (0, fr)), (3, (0, l)), (4, (0, i)), (5, (0, 32))]) dX8_isWord_30 (Nat.le_of_ble_eq_true rfl) rfl (s_ldcS dX8_isWord_32 st_0 (s_iload_n dX8_isWord_34 1 rfl (s_bipush dX8_isWord_35 (by decide) (n_mul (z := (k * 6)) dX8_isWord_37 (wr_id (by omega) (by omega)) (s_iload dX8_isWord_38 4 rfl (n_add (z := ((k * 6) + i)) dX8_isWord_40 (wr_id (by omega) (by omega)) (n_invVS (as := [(0, ((k * 6) + i))]) dX8_isWord_41 kv_J0_charAt_5068e ml_X8_74 (c_J0_charAt (show 0 < 19 by decide) ((k * 6) + i) (by omega) w) (by decide) (by decide) rfl rfl rfl (Nat.le_of_ble_eq_true rfl) (s_iload dX8_isWord_44 5 rfl ?_)))))))))
          refine s_icmp_eq 51 dX8_isWord_46 (by decide) (fun c_46 => ?_) (fun c_46 => ?_)
          · skip
            refine s_iinc (z := (i + 1)) (ls' := [(0, (2, 30)), (1, (0, k)), (2, (0, fr)), (3, (0, l)), (4, (0, (i + 1))), (5, (0, 32))]) dX8_isWord_51 4 rfl (Nat.le_of_ble_eq_true rfl) (wr_id (by omega) (by omega)) rfl (s_goto 3 dX8_isWord_54 (by decide) ?_)
            exact At.keep (ls' := [(0, (2, 30)), (1, (0, k)), (2, (0, fr)), (3, (0, l)), (4, (0, (i + 1)))]) [0, 1, 2, 3, 4] rfl (ih (i + 1) (by omega) (fun j a b => by
  by_cases e : j = i
  · rw [e]; split <;> omega
  · exact hcm j a (by omega)) (by omega))
          · skip
            refine s_iconst dX8_isWord_49 (by decide) (n_zret dX8_isWord_50 hR rfl (by first | exact Or.inl rfl | exact Or.inr rfl | exact bi_01 _ | omega) ?_)
            refine ⟨congrArg (fun z => some ((0 : Nat), z)) (bi_f (fun h => ?_)).symm, rfl⟩
            have h2 := (isW_pad (by omega) hl hT).mp h i hi.1 (by omega)
            rw [show 6 * ((k.toNat : Nat) : Int) + i = k * 6 + i by omega] at h2
            split at h2 <;> omega
        · skip
          refine s_aload_n dX8_isWord_16 0 rfl rfl (n_getc (q := 31) 30 0 41 dX8_isWord_17 cf_X8 ff_X8_11 rfl sh_30 rfl (by decide) rfl (by decide) (s_iload_n dX8_isWord_20 2 rfl (s_iload dX8_isWord_21 4 rfl (n_add (z := (fr + i)) dX8_isWord_23 (wr_id (by omega) (by omega)) (n_iald 31 dX8_isWord_24 rfl sh_31 (by decide) ⟨(by omega), (by omega)⟩ (v := (w 31 (fr + i))) rfl (s_goto 30 dX8_isWord_25 (by decide) (s_istore (ls' := [(0, (2, 30)), (1, (0, k)), (2, (0, fr)), (3, (0, l)), (4, (0, i)), (5, (0, (w 31 (fr + i))))]) dX8_isWord_30 (Nat.le_of_ble_eq_true rfl) rfl (s_ldcS dX8_isWord_32 st_0 (s_iload_n dX8_isWord_34 1 rfl ?_)))))))))
          refine s_bipush dX8_isWord_35 (by decide) (n_mul (z := (k * 6)) dX8_isWord_37 (wr_id (by omega) (by omega)) (s_iload dX8_isWord_38 4 rfl (n_add (z := ((k * 6) + i)) dX8_isWord_40 (wr_id (by omega) (by omega)) (n_invVS (as := [(0, ((k * 6) + i))]) dX8_isWord_41 kv_J0_charAt_5068e ml_X8_74 (c_J0_charAt (show 0 < 19 by decide) ((k * 6) + i) (by omega) w) (by decide) (by decide) rfl rfl rfl (Nat.le_of_ble_eq_true rfl) (s_iload dX8_isWord_44 5 rfl (s_icmp_eq 51 dX8_isWord_46 (by decide) (fun c_46 => ?_) (fun c_46 => ?_)))))))
          · skip
            refine s_iinc (z := (i + 1)) (ls' := [(0, (2, 30)), (1, (0, k)), (2, (0, fr)), (3, (0, l)), (4, (0, (i + 1))), (5, (0, (w 31 (fr + i))))]) dX8_isWord_51 4 rfl (Nat.le_of_ble_eq_true rfl) (wr_id (by omega) (by omega)) rfl (s_goto 3 dX8_isWord_54 (by decide) ?_)
            exact At.keep (ls' := [(0, (2, 30)), (1, (0, k)), (2, (0, fr)), (3, (0, l)), (4, (0, (i + 1)))]) [0, 1, 2, 3, 4] rfl (ih (i + 1) (by omega) (fun j a b => by
  by_cases e : j = i
  · rw [e]; split <;> omega
  · exact hcm j a (by omega)) (by omega))
          · skip
            refine s_iconst dX8_isWord_49 (by decide) (n_zret dX8_isWord_50 hR rfl (by first | exact Or.inl rfl | exact Or.inr rfl | exact bi_01 _ | omega) ?_)
            refine ⟨congrArg (fun z => some ((0 : Nat), z)) (bi_f (fun h => ?_)).symm, rfl⟩
            have h2 := (isW_pad (by omega) hl hT).mp h i hi.1 (by omega)
            rw [show 6 * ((k.toNat : Nat) : Int) + i = k * 6 + i by omega] at h2
            split at h2 <;> omega
  refine s_iconst dX8_isWord_0 (by decide) (s_istore (ls' := [(0, (2, 30)), (1, (0, k)), (2, (0, fr)), (3, (0, l)), (4, (0, 0))]) dX8_isWord_1 (Nat.le_of_ble_eq_true rfl) rfl ?_)
  exact L_3 _ 0 (by omega) (fun j a b => absurd b (by omega)) (Nat.lt_succ_self _)

set_option maxRecDepth 100000 in
theorem c_X_keyword (fr l : Int) (w : Wd) (hfr : 0 ≤ fr) (hl : 0 ≤ l) (hfl : fr + l ≤ 600) (hT : ∀ j : Int, 0 ≤ j → j < l → w 31 (fr + j) ≠ 32) : CallN 6 mX8_keyword [(2, 30), (0, fr), (0, l)] w (RV (0, (if 0 ≤ kwT (w 31) fr l then 256 + kwT (w 31) fr l else 2)) w) := by
  refine CallN.intro (by decide +kernel) (Nat.le_of_ble_eq_true rfl) (fun ρ hR => ?_)
  show AtN mX8_keyword 6 ρ 0 [(0, (2, 30)), (1, (0, fr)), (2, (0, l))] [] w
  have L_2 : ∀ (fu : Nat) (k : Int), 0 ≤ k ∧ k ≤ 17 → kwT (w 31) fr l = kwF (w 31) fr l (17 - k).toNat k.toNat → (17 - k).toNat < fu → AtN mX8_keyword 6 ρ 2 [(0, (2, 30)), (1, (0, fr)), (2, (0, l)), (3, (0, k))] [] w := by
    intro fu
    induction fu with
    | zero => intro k hk hq hm; exact absurd hm (Nat.not_lt_zero _)
    | succ fu ih =>
      intro k hk hq hm
      refine s_iload_n dX8_keyword_2 3 rfl (s_bipush dX8_keyword_3 (by decide) (s_icmp_ge 36 dX8_keyword_5 (by decide) (fun c_5 => ?_) (fun c_5 => ?_)))
      · skip
        refine s_iconst dX8_keyword_36 (by decide) (n_iret dX8_keyword_37 hR rfl ?_)
        have hq2 : kwT (w 31) fr l = -1 := by
          rw [hq, show (17 - k).toNat = 0 by omega]
          rfl
        refine ⟨congrArg (fun z => some ((0 : Nat), z)) ?_, rfl⟩
        rw [hq2]
        rfl
      · skip
        refine s_iload_n dX8_keyword_8 2 rfl (s_bipush dX8_keyword_9 (by decide) (s_icmp_gt 30 dX8_keyword_11 (by decide) (fun c_11 => ?_) (fun c_11 => ?_)))
        · skip
          refine s_iinc (z := (k + 1)) (ls' := [(0, (2, 30)), (1, (0, fr)), (2, (0, l)), (3, (0, (k + 1)))]) dX8_keyword_30 3 rfl (Nat.le_of_ble_eq_true rfl) (wr_id (by omega) (by omega)) rfl (s_goto 2 dX8_keyword_33 (by decide) ?_)
          exact ih (k + 1) (by omega) (by
  rw [hq, show (17 - k).toNat = (17 - (k + 1)).toNat + 1 by omega, kwF, if_neg (show ¬ isWb (w 31) fr l k.toNat = true from isW_long (by omega) (by omega)), toN_s hk.1]) (by omega)
        · skip
          refine s_aload_n dX8_keyword_14 0 rfl rfl (s_iload_n dX8_keyword_15 3 rfl (s_iload_n dX8_keyword_16 1 rfl (s_iload_n dX8_keyword_17 2 rfl (n_invV (as := [(0, k), (0, fr), (0, l)]) dX8_keyword_18 kv_X8_isWord ml_X8_69 (c_X_isWord k fr l w (by omega) hfr ⟨by omega, by omega⟩ hfl hT) (by decide) 30 cf_X8 rfl sh_30 rfl rfl rfl (Nat.le_of_ble_eq_true rfl) (n_ifeq_b 30 dX8_keyword_21 (by decide) (fun c_21 => ?_) (fun c_21 => ?_))))))
          · skip
            refine s_iinc (z := (k + 1)) (ls' := [(0, (2, 30)), (1, (0, fr)), (2, (0, l)), (3, (0, (k + 1)))]) dX8_keyword_30 3 rfl (Nat.le_of_ble_eq_true rfl) (wr_id (by omega) (by omega)) rfl (s_goto 2 dX8_keyword_33 (by decide) ?_)
            exact ih (k + 1) (by omega) (by
  rw [hq, show (17 - k).toNat = (17 - (k + 1)).toNat + 1 by omega, kwF, if_neg (show ¬ isWb (w 31) fr l k.toNat = true from c_21), toN_s hk.1]) (by omega)
          · skip
            refine s_sipush dX8_keyword_24 (by decide) (s_iload_n dX8_keyword_27 3 rfl (n_add (z := (256 + k)) dX8_keyword_28 (wr_id (by omega) (by omega)) (n_iret dX8_keyword_29 hR rfl ?_)))
            have hq2 : kwT (w 31) fr l = k := by
              rw [hq, show (17 - k).toNat = (17 - (k + 1)).toNat + 1 by omega, kwF, if_pos c_21]
              exact Int.toNat_of_nonneg hk.1
            refine ⟨congrArg (fun z => some ((0 : Nat), z)) ?_, rfl⟩
            rw [hq2, if_pos hk.1]
  refine s_iconst dX8_keyword_0 (by decide) (s_istore_n (ls' := [(0, (2, 30)), (1, (0, fr)), (2, (0, l)), (3, (0, 0))]) dX8_keyword_1 (Nat.le_of_ble_eq_true rfl) rfl ?_)
  exact L_2 _ 0 (by omega) rfl (Nat.lt_succ_self _)

set_option maxRecDepth 100000 in
theorem c_X_addNumber (fr to t n : Int) (w : Wd) (hn : w 30 1 = n ∧ n ≤ 600) (ht : w 30 5 = t ∧ 0 ≤ t ∧ t < 600) (hfr : 0 ≤ fr ∧ fr < to ∧ to ≤ n) (hT : ∀ j : Int, fr ≤ j → j < to → isDg (w 31 j)) (h0 : w 33 t = 0) : CallN 1 mX8_addNumber [(2, 30), (0, fr), (0, to)] w (RUQ (fun w1 => (∀ c, c ≠ 32 → c ≠ 33 → w1 c = w c) ∧ (∀ j, j ≠ t → w1 32 j = w 32 j ∧ w1 33 j = w 33 j) ∧ w1 32 t = (if to - fr ≤ 4 then 1 else w 32 t) ∧ w1 33 t = (if to - fr ≤ 4 then nuF (w 31) fr (to - fr).toNat else 0))) := by
  refine CallN.intro (by decide +kernel) (Nat.le_of_ble_eq_true rfl) (fun ρ hR => ?_)
  show AtN mX8_addNumber 1 ρ 0 [(0, (2, 30)), (1, (0, fr)), (2, (0, to))] [] w
  have L_20 : ∀ (fu : Nat) (i : Int) (v9 : Wd), to - fr ≤ 4 → fr ≤ i ∧ i ≤ to → (∀ c, c ≠ 32 → c ≠ 33 → v9 c = w c) → (∀ j, j ≠ t → v9 32 j = w 32 j ∧ v9 33 j = w 33 j) → v9 32 t = 1 → v9 33 t = nuF (w 31) fr (i - fr).toNat → (to - i).toNat < fu → AtN mX8_addNumber 1 ρ 20 [(0, (2, 30)), (1, (0, fr)), (2, (0, to)), (3, (0, i))] [] v9 := by
    intro fu
    induction fu with
    | zero => intro i v9 hle hi hf hg hk hv hm; exact absurd hm (Nat.not_lt_zero _)
    | succ fu ih =>
      intro i v9 hle hi hf hg hk hv hm
      have qt : v9 30 5 = t := by rw [hf 30 (by decide) (by decide)]; exact ht.1
      have q31 : v9 31 = w 31 := hf 31 (by decide) (by decide)
      have q33 : v9 33 (v9 30 5) = nuF (w 31) fr (i - fr).toNat := by rw [qt]; exact hv
      have hdi : ∀ j : Int, fr ≤ j → j < to → 48 ≤ v9 31 j ∧ v9 31 j ≤ 57 := by rw [q31]; exact hT
      have hnb := nuF_4 (T := w 31) (s := fr) (k := (i - fr).toNat) (by omega) (fun j a b => hT (fr + j) (by omega) (by omega))
      refine s_iload_n dX8_addNumber_20 3 rfl (s_iload_n dX8_addNumber_21 2 rfl (s_icmp_ge 62 dX8_addNumber_22 (by decide) (fun c_22 => ?_) (fun c_22 => ?_)))
      · skip
        refine n_ret dX8_addNumber_62 hR rfl ?_
        have e9 : i = to := by omega
        rw [e9] at hv
        exact ⟨rfl, hf, hg, hk.trans (if_pos hle).symm, hv.trans (if_pos hle).symm⟩
      · skip
        have hd9 := hdi i hi.1 (by omega)
        refine s_aload_n dX8_addNumber_25 0 rfl rfl (n_getc (q := 33) 30 3 43 dX8_addNumber_26 cf_X8 ff_X8_18 rfl sh_30 rfl (by decide) rfl (by decide) (s_aload_n dX8_addNumber_29 0 rfl rfl (n_getf 30 5 0 dX8_addNumber_30 cf_X8 ff_X8_36 rfl sh_30 rfl (by decide) (v := (v9 30 5)) rfl (s_aload_n dX8_addNumber_33 0 rfl rfl (n_getc (q := 33) 30 3 43 dX8_addNumber_34 cf_X8 ff_X8_18 rfl sh_30 rfl (by decide) rfl (by decide) (s_aload_n dX8_addNumber_37 0 rfl rfl (n_getf 30 5 0 dX8_addNumber_38 cf_X8 ff_X8_36 rfl sh_30 rfl (by decide) (v := (v9 30 5)) rfl (n_iald 33 dX8_addNumber_41 rfl sh_33 (by decide) ⟨(by omega), (by omega)⟩ (v := (v9 33 (v9 30 5))) rfl (s_bipush dX8_addNumber_42 (by decide) ?_)))))))))
        refine n_mul (z := ((v9 33 (v9 30 5)) * 10)) dX8_addNumber_44 (wr_id (by omega) (by omega)) (s_aload_n dX8_addNumber_45 0 rfl rfl (n_getc (q := 31) 30 0 41 dX8_addNumber_46 cf_X8 ff_X8_11 rfl sh_30 rfl (by decide) rfl (by decide) (s_iload_n dX8_addNumber_49 3 rfl (n_iald 31 dX8_addNumber_50 rfl sh_31 (by decide) ⟨(by omega), (by omega)⟩ (v := (v9 31 i)) rfl (n_add (z := (((v9 33 (v9 30 5)) * 10) + (v9 31 i))) dX8_addNumber_51 (wr_id (by omega) (by omega)) (s_bipush dX8_addNumber_52 (by decide) (n_sub (z := ((((v9 33 (v9 30 5)) * 10) + (v9 31 i)) - 48)) dX8_addNumber_54 (wr_id (by omega) (by omega)) (s_iastore 33 dX8_addNumber_55 rfl sh_33 (by decide) ⟨(by omega), (by omega)⟩ (s_iinc (z := (i + 1)) (ls' := [(0, (2, 30)), (1, (0, fr)), (2, (0, to)), (3, (0, (i + 1)))]) dX8_addNumber_56 3 rfl (Nat.le_of_ble_eq_true rfl) (wr_id (by omega) (by omega)) rfl ?_)))))))))
        refine s_goto 20 dX8_addNumber_59 (by decide) ?_
        exact ih (i + 1) (wu v9 33 (v9 30 5) ((((v9 33 (v9 30 5)) * 10) + (v9 31 i)) - 48)) hle (by omega) (fun c a b => by rw [wu_ne b]; exact hf c a b) (fun j hj => ⟨by rw [wu_ne (by decide)]; exact (hg j hj).1, by rw [wu_at, if_neg (by omega)]; exact (hg j hj).2⟩) (by rw [wu_ne (by decide)]; exact hk) (by
  rw [wu_at, if_pos (by omega), show (i + 1 - fr).toNat = (i - fr).toNat + 1 by omega, nuF, show fr + (((i - fr).toNat : Nat) : Int) = i by omega, q33, congrFun q31 i]
  omega) (by omega)
  refine s_iload_n dX8_addNumber_0 2 rfl (s_iload_n dX8_addNumber_1 1 rfl (n_sub (z := (to - fr)) dX8_addNumber_2 (wr_id (by omega) (by omega)) (s_iconst dX8_addNumber_3 (by decide) (s_icmp_le 8 dX8_addNumber_4 (by decide) (fun c_4 => ?_) (fun c_4 => ?_)))))
  · skip
    refine s_aload_n dX8_addNumber_8 0 rfl rfl (n_getc (q := 32) 30 2 42 dX8_addNumber_9 cf_X8 ff_X8_15 rfl sh_30 rfl (by decide) rfl (by decide) (s_aload_n dX8_addNumber_12 0 rfl rfl (n_getf 30 5 0 dX8_addNumber_13 cf_X8 ff_X8_36 rfl sh_30 rfl (by decide) (v := (w 30 5)) rfl (s_iconst dX8_addNumber_16 (by decide) (s_iastore 32 dX8_addNumber_17 rfl sh_32 (by decide) ⟨(by omega), (by omega)⟩ (s_iload_n dX8_addNumber_18 1 rfl (s_istore_n (ls' := [(0, (2, 30)), (1, (0, fr)), (2, (0, to)), (3, (0, fr))]) dX8_addNumber_19 (Nat.le_of_ble_eq_true rfl) rfl ?_)))))))
    exact L_20 _ fr (wu w 32 (w 30 5) 1) (by omega) (by omega) (fun c a b => by rw [wu_ne a]) (fun j hj => ⟨by rw [wu_at, if_neg (by omega)], by rw [wu_ne (by decide)]⟩) (by rw [wu_at, if_pos (by omega)]) (by rw [wu_ne (by decide), h0, show (fr - fr).toNat = 0 by omega]; rfl) (Nat.lt_succ_self _)
  · skip
    refine n_ret dX8_addNumber_7 hR rfl ?_
    exact ⟨rfl, fun _ _ _ => rfl, fun _ _ => ⟨rfl, rfl⟩, (if_neg (by omega)).symm, h0.trans (if_neg (by omega)).symm⟩

theorem i2c_b {x : Int} (h : 0 ≤ x ∧ x ≤ 255) : i2c x = x := by
  have key : ∀ n : Fin 256, i2c ((n : Nat) : Int) = ((n : Nat) : Int) := by decide +kernel
  have := key ⟨x.toNat, by omega⟩
  rwa [show (((⟨x.toNat, by omega⟩ : Fin 256) : Nat) : Int) = x from Int.toNat_of_nonneg h.1] at this
/-- a token is added -/
def TkQ (w w1 : Wd) (n i : Int) : Prop := (∀ c, c ≠ 30 → c ≠ 32 → c ≠ 33 → c ≠ 34 → w1 c = w c) ∧ (∀ j, j ≠ 5 → w1 30 j = w 30 j) ∧ w1 30 5 = w 30 5 + 1 ∧ (∀ j, j ≠ w 30 5 → w1 32 j = w 32 j ∧ w1 33 j = w 33 j ∧ w1 34 j = w 34 j) ∧ w1 32 (w 30 5) = kdT (w 31) n i ∧ w1 33 (w 30 5) = (if kdT (w 31) n i = 1 then nuT (w 31) n i else 0) ∧ w1 34 (w 30 5) = i
theorem enT_0 {T : Int → Int} {n c e : Int} (h : e ≤ n) : exT T n c (n - e + 1).toNat e = exT T n c (n - e).toNat e := by
  by_cases q : e < n ∧ togT c (T e)
  · rw [exT_on (by omega) q, exT_on (by omega) q]
  · rw [exT_off q, exT_off q]
theorem wu_03 (w : Wd) {i : Int} : (wu (wu (wu w 32 (w 30 5) 2) 33 (w 30 5) 0) 34 (w 30 5) i) 33 (w 30 5) = 0 := by simp [wu]
set_option maxRecDepth 100000 in
set_option maxHeartbeats 1000000 in
theorem c_X_addToken (i n : Int) (w : Wd) (hn : w 30 1 = n ∧ n ≤ 600) (ht : 0 ≤ w 30 5 ∧ w 30 5 < 600) (hi : 0 ≤ i ∧ i < n) (hch : ∀ j, 0 ≤ j → j < n → 0 ≤ w 31 j ∧ w 31 j ≤ 255) : CallN 7 mX8_addToken [(2, 30), (0, i)] w (RUQ (fun w1 => TkQ w w1 n i)) := by
  refine CallN.intro (by decide +kernel) (Nat.le_of_ble_eq_true rfl) (fun ρ hR => ?_)
  show AtN mX8_addToken 7 ρ 0 [(0, (2, 30)), (1, (0, i))] [] w
  have hc0 := hch i hi.1 hi.2
  have L_11 : ∀ (fu : Nat) (to : Int), i < to ∧ to ≤ n → enT (w 31) n i = exT (w 31) n (w 31 i) (n - to).toNat to → (n - to).toNat < fu → AtN mX8_addToken 7 ρ 11 [(0, (2, 30)), (1, (0, i)), (2, (0, (w 31 i))), (3, (0, to))] [] w := by
    intro fu
    induction fu with
    | zero => intro to hto hx hm; exact absurd hm (Nat.not_lt_zero _)
    | succ fu ih =>
      intro to hto hx hm
      have hc0 := hch i hi.1 hi.2
      refine s_iload_n dX8_addToken_11 3 rfl (s_aload_n dX8_addToken_12 0 rfl rfl (n_getf 30 1 0 dX8_addToken_13 cf_X8 ff_X8_24 rfl sh_30 rfl (by decide) (v := (w 30 1)) rfl (s_icmp_ge 38 dX8_addToken_16 (by decide) (fun c_16 => ?_) (fun c_16 => ?_))))
      · skip
        have he : enT (w 31) n i = to := by rw [hx]; exact exT_off (fun q => by omega)
        have hlt9 : isLt (w 31 i) → ∀ j, 0 ≤ j → j < to - i → isLt (w 31 (i + j)) := fun h j a b => by
          by_cases e : j = 0
          · rw [e, Int.add_zero]; exact h
          · exact tog_lt (enT_in (n := n) (s := i) (j := i + j) (by omega) (by omega)).2 h
        have hdg9 : isDg (w 31 i) → ∀ j, i ≤ j → j < to → isDg (w 31 j) := fun h j a b => by
          by_cases e : j = i
          · rw [e]; exact h
          · exact tog_dg (enT_in (n := n) (s := i) (j := j) (by omega) (by omega)).2 h
        refine s_aload_n dX8_addToken_38 0 rfl rfl (n_getc (q := 32) 30 2 42 dX8_addToken_39 cf_X8 ff_X8_15 rfl sh_30 rfl (by decide) rfl (by decide) (s_aload_n dX8_addToken_42 0 rfl rfl (n_getf 30 5 0 dX8_addToken_43 cf_X8 ff_X8_36 rfl sh_30 rfl (by decide) (v := (w 30 5)) rfl (s_iconst dX8_addToken_46 (by decide) (s_iastore 32 dX8_addToken_47 rfl sh_32 (by decide) ⟨(by omega), (by omega)⟩ (s_aload_n dX8_addToken_48 0 rfl rfl (n_getc (q := 33) 30 3 43 dX8_addToken_49 cf_X8 ff_X8_18 rfl sh_30 rfl (by decide) rfl (by decide) (s_aload_n dX8_addToken_52 0 rfl rfl (n_getf 30 5 0 dX8_addToken_53 cf_X8 ff_X8_36 rfl sh_30 rfl (by decide) (v := (w 30 5)) rfl ?_)))))))))
        refine s_iconst dX8_addToken_56 (by decide) (s_iastore 33 dX8_addToken_57 rfl sh_33 (by decide) ⟨(by omega), (by omega)⟩ (s_aload_n dX8_addToken_58 0 rfl rfl (n_getc (q := 34) 30 4 44 dX8_addToken_59 cf_X8 ff_X8_21 rfl sh_30 rfl (by decide) rfl (by decide) (s_aload_n dX8_addToken_62 0 rfl rfl (n_getf 30 5 0 dX8_addToken_63 cf_X8 ff_X8_36 rfl sh_30 rfl (by decide) (v := (w 30 5)) rfl (s_iload_n dX8_addToken_66 1 rfl (s_iastore 34 dX8_addToken_67 rfl sh_34 (by decide) ⟨(by omega), (by omega)⟩ (s_iload_n dX8_addToken_68 2 rfl (n_invS (as := [(0, (w 31 i))]) dX8_addToken_69 kv_X8_isLetter ml_X8_46 (c_X_isLetter (w 31 i) (wu (wu (wu w 32 (w 30 5) 2) 33 (w 30 5) 0) 34 (w 30 5) i)) (by decide) rfl rfl (Nat.le_of_ble_eq_true rfl) ?_)))))))))
        refine n_ifeq_b 95 dX8_addToken_72 (by decide) (fun c_72 => ?_) (fun c_72 => ?_)
        · skip
          refine s_iload_n dX8_addToken_95 2 rfl (n_invS (as := [(0, (w 31 i))]) dX8_addToken_96 kv_X8_isDigit ml_X8_50 (c_X_isDigit (w 31 i) (wu (wu (wu w 32 (w 30 5) 2) 33 (w 30 5) 0) 34 (w 30 5) i)) (by decide) rfl rfl (Nat.le_of_ble_eq_true rfl) (n_ifeq_b 111 dX8_addToken_99 (by decide) (fun c_99 => ?_) (fun c_99 => ?_)))
          · skip
            refine s_ldcS dX8_addToken_111 st_1 (s_iload_n dX8_addToken_113 2 rfl (s_i2c dX8_addToken_114 ?_))
            rw [i2c_b hc0]
            refine n_invVS' (as := [(0, (w 31 i))]) dX8_addToken_115 kv_J0_indexOf_0f7a4 ml_X8_63 (c_J0_indexOf (show 1 < 19 by decide) (w 31 i) hc0 (wu (wu (wu w 32 (w 30 5) 2) 33 (w 30 5) 0) 34 (w 30 5) i)) (by decide) (by decide) rfl rfl rfl (Nat.le_of_ble_eq_true rfl) ?_
            rintro r_115 w_115 ⟨z_115, rfl, rfl, hz_115⟩
            show AtN _ _ ρ _ _ [(0, z_115)] _
            rw [hasS_1] at hz_115
            refine s_if_lt 131 dX8_addToken_118 (by decide) (fun c_118 => ?_) (fun c_118 => ?_)
            · skip
              refine s_aload_n dX8_addToken_131 0 rfl rfl (s_dup dX8_addToken_132 (show (2 : Nat) ≠ 1 by decide) (n_getf 30 5 0 dX8_addToken_133 cf_X8 ff_X8_36 rfl sh_30 rfl (by decide) (v := (w 30 5)) rfl (s_iconst dX8_addToken_136 (by decide) (n_add (z := ((w 30 5) + 1)) dX8_addToken_137 (wr_id (by omega) (by omega)) (n_putf 30 5 5 dX8_addToken_138 cf_X8 ff_X8_36 rfl rfl sh_30 rfl rfl rfl (n_ret dX8_addToken_141 hR rfl ?_))))))
              have hkd : kdT (w 31) n i = 2 := by unfold kdT; rw [if_neg c_72, if_neg c_99, if_neg (fun h => absurd (hz_115.mpr h) (by omega))]
              have hn1 : kdT (w 31) n i ≠ 1 := (fun h => c_99 (kdT_1 h).1)
              refine ⟨rfl, fun c a b d f => ?_, fun j hj => ?_, ?_, fun j hj => ⟨?_, ?_, ?_⟩, ?_, ?_, ?_⟩
              · simp [wu, a, b, d, f]
              · simp [wu, hj]
              · simp [wu]
              · simp [wu, hj]
              · simp [wu, hj]
              · simp [wu, hj]
              · rw [hkd]; simp [wu]
              · rw [if_neg hn1]; simp [wu]
              · simp [wu]
            · skip
              refine s_aload_n dX8_addToken_121 0 rfl rfl (n_getc (q := 32) 30 2 42 dX8_addToken_122 cf_X8 ff_X8_15 rfl sh_30 rfl (by decide) rfl (by decide) (s_aload_n dX8_addToken_125 0 rfl rfl (n_getf 30 5 0 dX8_addToken_126 cf_X8 ff_X8_36 rfl sh_30 rfl (by decide) (v := (w 30 5)) rfl (s_iload_n dX8_addToken_129 2 rfl (s_iastore 32 dX8_addToken_130 rfl sh_32 (by decide) ⟨(by omega), (by omega)⟩ (s_aload_n dX8_addToken_131 0 rfl rfl (s_dup dX8_addToken_132 (show (2 : Nat) ≠ 1 by decide) (n_getf 30 5 0 dX8_addToken_133 cf_X8 ff_X8_36 rfl sh_30 rfl (by decide) (v := (w 30 5)) rfl (s_iconst dX8_addToken_136 (by decide) ?_)))))))))
              refine n_add (z := ((w 30 5) + 1)) dX8_addToken_137 (wr_id (by omega) (by omega)) (n_putf 30 5 5 dX8_addToken_138 cf_X8 ff_X8_36 rfl rfl sh_30 rfl rfl rfl (n_ret dX8_addToken_141 hR rfl ?_))
              have hkd : kdT (w 31) n i = (w 31 i) := by unfold kdT; rw [if_neg c_72, if_neg c_99, if_pos (hz_115.mp (by omega))]
              have hn1 : kdT (w 31) n i ≠ 1 := (fun h => c_99 (kdT_1 h).1)
              refine ⟨rfl, fun c a b d f => ?_, fun j hj => ?_, ?_, fun j hj => ⟨?_, ?_, ?_⟩, ?_, ?_, ?_⟩
              · simp [wu, a, b, d, f]
              · simp [wu, hj]
              · simp [wu]
              · simp [wu, hj]
              · simp [wu, hj]
              · simp [wu, hj]
              · rw [hkd]; simp [wu]
              · rw [if_neg hn1]; simp [wu]
              · simp [wu]
          · skip
            refine s_aload_n dX8_addToken_102 0 rfl rfl (s_iload_n dX8_addToken_103 1 rfl (s_iload_n dX8_addToken_104 3 rfl (n_invV' (as := [(0, i), (0, to)]) dX8_addToken_105 kv_X8_addNumber ml_X8_57 (c_X_addNumber i to (w 30 5) n (wu (wu (wu w 32 (w 30 5) 2) 33 (w 30 5) 0) 34 (w 30 5) i) hn ⟨rfl, ht.1, ht.2⟩ (by omega) (hdg9 c_99) (wu_03 w)) (by decide) 30 cf_X8 rfl sh_30 rfl rfl rfl (Nat.le_of_ble_eq_true rfl) ?_)))
            rintro r_105 w_105 ⟨rfl, g0, g1, g2, g3⟩
            have q305 : w_105 30 5 = w 30 5 := by rw [g0 30 (by decide) (by decide)]; simp [wu]
            refine s_goto 131 dX8_addToken_108 (by decide) (s_aload_n dX8_addToken_131 0 rfl rfl (s_dup dX8_addToken_132 (show (2 : Nat) ≠ 1 by decide) (n_getf 30 5 0 dX8_addToken_133 cf_X8 ff_X8_36 rfl sh_30 rfl (by decide) (v := (w_105 30 5)) rfl (s_iconst dX8_addToken_136 (by decide) (n_add (z := ((w_105 30 5) + 1)) dX8_addToken_137 (wr_id (by omega) (by omega)) (n_putf 30 5 5 dX8_addToken_138 cf_X8 ff_X8_36 rfl rfl sh_30 rfl rfl rfl (n_ret dX8_addToken_141 hR rfl ?_)))))))
            have e105 : ∀ c, c ≠ 32 → c ≠ 33 → w_105 c = (wu (wu (wu w 32 (w 30 5) 2) 33 (w 30 5) 0) 34 (w 30 5) i) c := g0
            have e30 : w_105 30 = w 30 := by rw [e105 30 (by decide) (by decide)]; simp [wu]
            have hkd : kdT (w 31) n i = if to - i ≤ 4 then 1 else 2 := by unfold kdT; rw [if_neg c_72, if_pos c_99, he]
            refine ⟨rfl, fun c a b d f => ?_, fun j hj => ?_, ?_, fun j hj => ⟨?_, ?_, ?_⟩, ?_, ?_, ?_⟩
            · rw [wu_ne a, e105 c b d]; simp [wu, b, d, f]
            · rw [wu_at, if_neg hj, e30]
            · rw [wu_same, e30]
            · rw [wu_ne (by decide), (g1 j hj).1]; simp [wu, hj]
            · rw [wu_ne (by decide), (g1 j hj).2]; simp [wu, hj]
            · rw [wu_ne (by decide), e105 34 (by decide) (by decide)]; simp [wu, hj]
            · rw [wu_ne (by decide), g2, hkd]; simp [wu]
            · rw [wu_ne (by decide), g3, hkd]
              by_cases q : to - i ≤ 4
              · rw [if_pos q, if_pos q, if_pos rfl]
                unfold nuT
                rw [he, if_pos q]
                rfl
              · rw [if_neg q, if_neg q, if_neg (by decide)]
            · rw [wu_ne (by decide), e105 34 (by decide) (by decide)]; simp [wu]
        · skip
          refine s_aload_n dX8_addToken_75 0 rfl rfl (n_getc (q := 32) 30 2 42 dX8_addToken_76 cf_X8 ff_X8_15 rfl sh_30 rfl (by decide) rfl (by decide) (s_aload_n dX8_addToken_79 0 rfl rfl (n_getf 30 5 0 dX8_addToken_80 cf_X8 ff_X8_36 rfl sh_30 rfl (by decide) (v := (w 30 5)) rfl (s_aload_n dX8_addToken_83 0 rfl rfl (s_iload_n dX8_addToken_84 1 rfl (s_iload_n dX8_addToken_85 3 rfl (s_iload_n dX8_addToken_86 1 rfl (n_sub (z := (to - i)) dX8_addToken_87 (wr_id (by omega) (by omega)) (n_invV (as := [(0, i), (0, (to - i))]) dX8_addToken_88 kv_X8_keyword ml_X8_53 (show CallN 6 mX8_keyword [(2, 30), (0, i), (0, to - i)] (wu (wu (wu w 32 (w 30 5) 2) 33 (w 30 5) 0) 34 (w 30 5) i) (RV (0, (if 0 ≤ kwT (w 31) i (to - i) then 256 + kwT (w 31) i (to - i) else 2)) (wu (wu (wu w 32 (w 30 5) 2) 33 (w 30 5) 0) 34 (w 30 5) i)) from c_X_keyword i (to - i) (wu (wu (wu w 32 (w 30 5) 2) 33 (w 30 5) 0) 34 (w 30 5) i) hi.1 (by omega) (by omega) (fun j a b => by have := hlt9 c_72 j a b; show w 31 (i + j) ≠ 32; omega)) (by decide) 30 cf_X8 rfl sh_30 rfl rfl rfl (Nat.le_of_ble_eq_true rfl) ?_)))))))))
          refine s_iastore 32 dX8_addToken_91 rfl sh_32 (by decide) ⟨(by omega), (by omega)⟩ (s_goto 131 dX8_addToken_92 (by decide) (s_aload_n dX8_addToken_131 0 rfl rfl (s_dup dX8_addToken_132 (show (2 : Nat) ≠ 1 by decide) (n_getf 30 5 0 dX8_addToken_133 cf_X8 ff_X8_36 rfl sh_30 rfl (by decide) (v := (w 30 5)) rfl (s_iconst dX8_addToken_136 (by decide) (n_add (z := ((w 30 5) + 1)) dX8_addToken_137 (wr_id (by omega) (by omega)) (n_putf 30 5 5 dX8_addToken_138 cf_X8 ff_X8_36 rfl rfl sh_30 rfl rfl rfl (n_ret dX8_addToken_141 hR rfl ?_))))))))
          have hkd : kdT (w 31) n i = (if 0 ≤ kwT (w 31) i (to - i) then 256 + kwT (w 31) i (to - i) else 2) := by unfold kdT; rw [if_pos c_72, he]
          have hn1 : kdT (w 31) n i ≠ 1 := (fun h => by have := (kdT_1 h).1; omega)
          refine ⟨rfl, fun c a b d f => ?_, fun j hj => ?_, ?_, fun j hj => ⟨?_, ?_, ?_⟩, ?_, ?_, ?_⟩
          · simp [wu, a, b, d, f]
          · simp [wu, hj]
          · simp [wu]
          · simp [wu, hj]
          · simp [wu, hj]
          · simp [wu, hj]
          · rw [hkd]; simp [wu]
          · rw [if_neg hn1]; simp [wu]
          · simp [wu]
      · skip
        refine s_iload_n dX8_addToken_19 2 rfl (s_aload_n dX8_addToken_20 0 rfl rfl (n_getc (q := 31) 30 0 41 dX8_addToken_21 cf_X8 ff_X8_11 rfl sh_30 rfl (by decide) rfl (by decide) (s_iload_n dX8_addToken_24 3 rfl (n_iald 31 dX8_addToken_25 rfl sh_31 (by decide) ⟨(by omega), (by omega)⟩ (v := (w 31 to)) rfl (n_invS (as := [(0, (w 31 i)), (0, (w 31 to))]) dX8_addToken_26 kv_X8_standTogether ml_X8_39 (c_X_tog (w 31 i) (w 31 to) w) (by decide) rfl rfl (Nat.le_of_ble_eq_true rfl) (n_ifeq_b 38 dX8_addToken_29 (by decide) (fun c_29 => ?_) (fun c_29 => ?_)))))))
        · skip
          have he : enT (w 31) n i = to := by rw [hx]; exact exT_off (fun q => by omega)
          have hlt9 : isLt (w 31 i) → ∀ j, 0 ≤ j → j < to - i → isLt (w 31 (i + j)) := fun h j a b => by
            by_cases e : j = 0
            · rw [e, Int.add_zero]; exact h
            · exact tog_lt (enT_in (n := n) (s := i) (j := i + j) (by omega) (by omega)).2 h
          have hdg9 : isDg (w 31 i) → ∀ j, i ≤ j → j < to → isDg (w 31 j) := fun h j a b => by
            by_cases e : j = i
            · rw [e]; exact h
            · exact tog_dg (enT_in (n := n) (s := i) (j := j) (by omega) (by omega)).2 h
          refine s_aload_n dX8_addToken_38 0 rfl rfl (n_getc (q := 32) 30 2 42 dX8_addToken_39 cf_X8 ff_X8_15 rfl sh_30 rfl (by decide) rfl (by decide) (s_aload_n dX8_addToken_42 0 rfl rfl (n_getf 30 5 0 dX8_addToken_43 cf_X8 ff_X8_36 rfl sh_30 rfl (by decide) (v := (w 30 5)) rfl (s_iconst dX8_addToken_46 (by decide) (s_iastore 32 dX8_addToken_47 rfl sh_32 (by decide) ⟨(by omega), (by omega)⟩ (s_aload_n dX8_addToken_48 0 rfl rfl (n_getc (q := 33) 30 3 43 dX8_addToken_49 cf_X8 ff_X8_18 rfl sh_30 rfl (by decide) rfl (by decide) (s_aload_n dX8_addToken_52 0 rfl rfl (n_getf 30 5 0 dX8_addToken_53 cf_X8 ff_X8_36 rfl sh_30 rfl (by decide) (v := (w 30 5)) rfl ?_)))))))))
          refine s_iconst dX8_addToken_56 (by decide) (s_iastore 33 dX8_addToken_57 rfl sh_33 (by decide) ⟨(by omega), (by omega)⟩ (s_aload_n dX8_addToken_58 0 rfl rfl (n_getc (q := 34) 30 4 44 dX8_addToken_59 cf_X8 ff_X8_21 rfl sh_30 rfl (by decide) rfl (by decide) (s_aload_n dX8_addToken_62 0 rfl rfl (n_getf 30 5 0 dX8_addToken_63 cf_X8 ff_X8_36 rfl sh_30 rfl (by decide) (v := (w 30 5)) rfl (s_iload_n dX8_addToken_66 1 rfl (s_iastore 34 dX8_addToken_67 rfl sh_34 (by decide) ⟨(by omega), (by omega)⟩ (s_iload_n dX8_addToken_68 2 rfl (n_invS (as := [(0, (w 31 i))]) dX8_addToken_69 kv_X8_isLetter ml_X8_46 (c_X_isLetter (w 31 i) (wu (wu (wu w 32 (w 30 5) 2) 33 (w 30 5) 0) 34 (w 30 5) i)) (by decide) rfl rfl (Nat.le_of_ble_eq_true rfl) ?_)))))))))
          refine n_ifeq_b 95 dX8_addToken_72 (by decide) (fun c_72 => ?_) (fun c_72 => ?_)
          · skip
            refine s_iload_n dX8_addToken_95 2 rfl (n_invS (as := [(0, (w 31 i))]) dX8_addToken_96 kv_X8_isDigit ml_X8_50 (c_X_isDigit (w 31 i) (wu (wu (wu w 32 (w 30 5) 2) 33 (w 30 5) 0) 34 (w 30 5) i)) (by decide) rfl rfl (Nat.le_of_ble_eq_true rfl) (n_ifeq_b 111 dX8_addToken_99 (by decide) (fun c_99 => ?_) (fun c_99 => ?_)))
            · skip
              refine s_ldcS dX8_addToken_111 st_1 (s_iload_n dX8_addToken_113 2 rfl (s_i2c dX8_addToken_114 ?_))
              rw [i2c_b hc0]
              refine n_invVS' (as := [(0, (w 31 i))]) dX8_addToken_115 kv_J0_indexOf_0f7a4 ml_X8_63 (c_J0_indexOf (show 1 < 19 by decide) (w 31 i) hc0 (wu (wu (wu w 32 (w 30 5) 2) 33 (w 30 5) 0) 34 (w 30 5) i)) (by decide) (by decide) rfl rfl rfl (Nat.le_of_ble_eq_true rfl) ?_
              rintro r_115 w_115 ⟨z_115, rfl, rfl, hz_115⟩
              show AtN _ _ ρ _ _ [(0, z_115)] _
              rw [hasS_1] at hz_115
              refine s_if_lt 131 dX8_addToken_118 (by decide) (fun c_118 => ?_) (fun c_118 => ?_)
              · skip
                refine s_aload_n dX8_addToken_131 0 rfl rfl (s_dup dX8_addToken_132 (show (2 : Nat) ≠ 1 by decide) (n_getf 30 5 0 dX8_addToken_133 cf_X8 ff_X8_36 rfl sh_30 rfl (by decide) (v := (w 30 5)) rfl (s_iconst dX8_addToken_136 (by decide) (n_add (z := ((w 30 5) + 1)) dX8_addToken_137 (wr_id (by omega) (by omega)) (n_putf 30 5 5 dX8_addToken_138 cf_X8 ff_X8_36 rfl rfl sh_30 rfl rfl rfl (n_ret dX8_addToken_141 hR rfl ?_))))))
                have hkd : kdT (w 31) n i = 2 := by unfold kdT; rw [if_neg c_72, if_neg c_99, if_neg (fun h => absurd (hz_115.mpr h) (by omega))]
                have hn1 : kdT (w 31) n i ≠ 1 := (fun h => c_99 (kdT_1 h).1)
                refine ⟨rfl, fun c a b d f => ?_, fun j hj => ?_, ?_, fun j hj => ⟨?_, ?_, ?_⟩, ?_, ?_, ?_⟩
                · simp [wu, a, b, d, f]
                · simp [wu, hj]
                · simp [wu]
                · simp [wu, hj]
                · simp [wu, hj]
                · simp [wu, hj]
                · rw [hkd]; simp [wu]
                · rw [if_neg hn1]; simp [wu]
                · simp [wu]
              · skip
                refine s_aload_n dX8_addToken_121 0 rfl rfl (n_getc (q := 32) 30 2 42 dX8_addToken_122 cf_X8 ff_X8_15 rfl sh_30 rfl (by decide) rfl (by decide) (s_aload_n dX8_addToken_125 0 rfl rfl (n_getf 30 5 0 dX8_addToken_126 cf_X8 ff_X8_36 rfl sh_30 rfl (by decide) (v := (w 30 5)) rfl (s_iload_n dX8_addToken_129 2 rfl (s_iastore 32 dX8_addToken_130 rfl sh_32 (by decide) ⟨(by omega), (by omega)⟩ (s_aload_n dX8_addToken_131 0 rfl rfl (s_dup dX8_addToken_132 (show (2 : Nat) ≠ 1 by decide) (n_getf 30 5 0 dX8_addToken_133 cf_X8 ff_X8_36 rfl sh_30 rfl (by decide) (v := (w 30 5)) rfl (s_iconst dX8_addToken_136 (by decide) ?_)))))))))
                refine n_add (z := ((w 30 5) + 1)) dX8_addToken_137 (wr_id (by omega) (by omega)) (n_putf 30 5 5 dX8_addToken_138 cf_X8 ff_X8_36 rfl rfl sh_30 rfl rfl rfl (n_ret dX8_addToken_141 hR rfl ?_))
                have hkd : kdT (w 31) n i = (w 31 i) := by unfold kdT; rw [if_neg c_72, if_neg c_99, if_pos (hz_115.mp (by omega))]
                have hn1 : kdT (w 31) n i ≠ 1 := (fun h => c_99 (kdT_1 h).1)
                refine ⟨rfl, fun c a b d f => ?_, fun j hj => ?_, ?_, fun j hj => ⟨?_, ?_, ?_⟩, ?_, ?_, ?_⟩
                · simp [wu, a, b, d, f]
                · simp [wu, hj]
                · simp [wu]
                · simp [wu, hj]
                · simp [wu, hj]
                · simp [wu, hj]
                · rw [hkd]; simp [wu]
                · rw [if_neg hn1]; simp [wu]
                · simp [wu]
            · skip
              refine s_aload_n dX8_addToken_102 0 rfl rfl (s_iload_n dX8_addToken_103 1 rfl (s_iload_n dX8_addToken_104 3 rfl (n_invV' (as := [(0, i), (0, to)]) dX8_addToken_105 kv_X8_addNumber ml_X8_57 (c_X_addNumber i to (w 30 5) n (wu (wu (wu w 32 (w 30 5) 2) 33 (w 30 5) 0) 34 (w 30 5) i) hn ⟨rfl, ht.1, ht.2⟩ (by omega) (hdg9 c_99) (wu_03 w)) (by decide) 30 cf_X8 rfl sh_30 rfl rfl rfl (Nat.le_of_ble_eq_true rfl) ?_)))
              rintro r_105 w_105 ⟨rfl, g0, g1, g2, g3⟩
              have q305 : w_105 30 5 = w 30 5 := by rw [g0 30 (by decide) (by decide)]; simp [wu]
              refine s_goto 131 dX8_addToken_108 (by decide) (s_aload_n dX8_addToken_131 0 rfl rfl (s_dup dX8_addToken_132 (show (2 : Nat) ≠ 1 by decide) (n_getf 30 5 0 dX8_addToken_133 cf_X8 ff_X8_36 rfl sh_30 rfl (by decide) (v := (w_105 30 5)) rfl (s_iconst dX8_addToken_136 (by decide) (n_add (z := ((w_105 30 5) + 1)) dX8_addToken_137 (wr_id (by omega) (by omega)) (n_putf 30 5 5 dX8_addToken_138 cf_X8 ff_X8_36 rfl rfl sh_30 rfl rfl rfl (n_ret dX8_addToken_141 hR rfl ?_)))))))
              have e105 : ∀ c, c ≠ 32 → c ≠ 33 → w_105 c = (wu (wu (wu w 32 (w 30 5) 2) 33 (w 30 5) 0) 34 (w 30 5) i) c := g0
              have e30 : w_105 30 = w 30 := by rw [e105 30 (by decide) (by decide)]; simp [wu]
              have hkd : kdT (w 31) n i = if to - i ≤ 4 then 1 else 2 := by unfold kdT; rw [if_neg c_72, if_pos c_99, he]
              refine ⟨rfl, fun c a b d f => ?_, fun j hj => ?_, ?_, fun j hj => ⟨?_, ?_, ?_⟩, ?_, ?_, ?_⟩
              · rw [wu_ne a, e105 c b d]; simp [wu, b, d, f]
              · rw [wu_at, if_neg hj, e30]
              · rw [wu_same, e30]
              · rw [wu_ne (by decide), (g1 j hj).1]; simp [wu, hj]
              · rw [wu_ne (by decide), (g1 j hj).2]; simp [wu, hj]
              · rw [wu_ne (by decide), e105 34 (by decide) (by decide)]; simp [wu, hj]
              · rw [wu_ne (by decide), g2, hkd]; simp [wu]
              · rw [wu_ne (by decide), g3, hkd]
                by_cases q : to - i ≤ 4
                · rw [if_pos q, if_pos q, if_pos rfl]
                  unfold nuT
                  rw [he, if_pos q]
                  rfl
                · rw [if_neg q, if_neg q, if_neg (by decide)]
              · rw [wu_ne (by decide), e105 34 (by decide) (by decide)]; simp [wu]
          · skip
            refine s_aload_n dX8_addToken_75 0 rfl rfl (n_getc (q := 32) 30 2 42 dX8_addToken_76 cf_X8 ff_X8_15 rfl sh_30 rfl (by decide) rfl (by decide) (s_aload_n dX8_addToken_79 0 rfl rfl (n_getf 30 5 0 dX8_addToken_80 cf_X8 ff_X8_36 rfl sh_30 rfl (by decide) (v := (w 30 5)) rfl (s_aload_n dX8_addToken_83 0 rfl rfl (s_iload_n dX8_addToken_84 1 rfl (s_iload_n dX8_addToken_85 3 rfl (s_iload_n dX8_addToken_86 1 rfl (n_sub (z := (to - i)) dX8_addToken_87 (wr_id (by omega) (by omega)) (n_invV (as := [(0, i), (0, (to - i))]) dX8_addToken_88 kv_X8_keyword ml_X8_53 (show CallN 6 mX8_keyword [(2, 30), (0, i), (0, to - i)] (wu (wu (wu w 32 (w 30 5) 2) 33 (w 30 5) 0) 34 (w 30 5) i) (RV (0, (if 0 ≤ kwT (w 31) i (to - i) then 256 + kwT (w 31) i (to - i) else 2)) (wu (wu (wu w 32 (w 30 5) 2) 33 (w 30 5) 0) 34 (w 30 5) i)) from c_X_keyword i (to - i) (wu (wu (wu w 32 (w 30 5) 2) 33 (w 30 5) 0) 34 (w 30 5) i) hi.1 (by omega) (by omega) (fun j a b => by have := hlt9 c_72 j a b; show w 31 (i + j) ≠ 32; omega)) (by decide) 30 cf_X8 rfl sh_30 rfl rfl rfl (Nat.le_of_ble_eq_true rfl) ?_)))))))))
            refine s_iastore 32 dX8_addToken_91 rfl sh_32 (by decide) ⟨(by omega), (by omega)⟩ (s_goto 131 dX8_addToken_92 (by decide) (s_aload_n dX8_addToken_131 0 rfl rfl (s_dup dX8_addToken_132 (show (2 : Nat) ≠ 1 by decide) (n_getf 30 5 0 dX8_addToken_133 cf_X8 ff_X8_36 rfl sh_30 rfl (by decide) (v := (w 30 5)) rfl (s_iconst dX8_addToken_136 (by decide) (n_add (z := ((w 30 5) + 1)) dX8_addToken_137 (wr_id (by omega) (by omega)) (n_putf 30 5 5 dX8_addToken_138 cf_X8 ff_X8_36 rfl rfl sh_30 rfl rfl rfl (n_ret dX8_addToken_141 hR rfl ?_))))))))
            have hkd : kdT (w 31) n i = (if 0 ≤ kwT (w 31) i (to - i) then 256 + kwT (w 31) i (to - i) else 2) := by unfold kdT; rw [if_pos c_72, he]
            have hn1 : kdT (w 31) n i ≠ 1 := (fun h => by have := (kdT_1 h).1; omega)
            refine ⟨rfl, fun c a b d f => ?_, fun j hj => ?_, ?_, fun j hj => ⟨?_, ?_, ?_⟩, ?_, ?_, ?_⟩
            · simp [wu, a, b, d, f]
            · simp [wu, hj]
            · simp [wu]
            · simp [wu, hj]
            · simp [wu, hj]
            · simp [wu, hj]
            · rw [hkd]; simp [wu]
            · rw [if_neg hn1]; simp [wu]
            · simp [wu]
        · skip
          refine s_iinc (z := (to + 1)) (ls' := [(0, (2, 30)), (1, (0, i)), (2, (0, (w 31 i))), (3, (0, (to + 1)))]) dX8_addToken_32 3 rfl (Nat.le_of_ble_eq_true rfl) (wr_id (by omega) (by omega)) rfl (s_goto 11 dX8_addToken_35 (by decide) ?_)
          exact ih (to + 1) (by omega) (hx.trans (exT_on (by omega) ⟨by omega, c_29⟩)) (by omega)
  refine s_aload_n dX8_addToken_0 0 rfl rfl (n_getc (q := 31) 30 0 41 dX8_addToken_1 cf_X8 ff_X8_11 rfl sh_30 rfl (by decide) rfl (by decide) (s_iload_n dX8_addToken_4 1 rfl (n_iald 31 dX8_addToken_5 rfl sh_31 (by decide) ⟨(by omega), (by omega)⟩ (v := (w 31 i)) rfl (s_istore_n (ls' := [(0, (2, 30)), (1, (0, i)), (2, (0, (w 31 i)))]) dX8_addToken_6 (Nat.le_of_ble_eq_true rfl) rfl (s_iload_n dX8_addToken_7 1 rfl (s_iconst dX8_addToken_8 (by decide) (n_add (z := (i + 1)) dX8_addToken_9 (wr_id (by omega) (by omega)) (s_istore_n (ls' := [(0, (2, 30)), (1, (0, i)), (2, (0, (w 31 i))), (3, (0, (i + 1)))]) dX8_addToken_10 (Nat.le_of_ble_eq_true rfl) rfl ?_))))))))
  exact L_11 _ (i + 1) (by omega) (by unfold enT; rw [show n - i = n - (i + 1) + 1 by omega]; exact enT_0 (by omega)) (Nat.lt_succ_self _)

/-- the tokens below i are found -/
def ScT (w v : Wd) (n : Int) (i : Nat) : Prop := (∀ c, c ≠ 30 → c ≠ 32 → c ≠ 33 → c ≠ 34 → v c = w c) ∧ (∀ j, j ≠ 5 → v 30 j = w 30 j) ∧ v 30 5 = (stL (w 31) i).length ∧ ∀ j : Nat, j < (stL (w 31) i).length → v 32 j = kdT (w 31) n ((stL (w 31) i).getD j 0) ∧ v 33 j = (if kdT (w 31) n ((stL (w 31) i).getD j 0) = 1 then nuT (w 31) n ((stL (w 31) i).getD j 0) else 0) ∧ v 34 j = (stL (w 31) i).getD j 0
theorem ScT.no {w v : Wd} {n : Int} {i : Nat} (h : ScT w v n i) (hn : ¬ staT (w 31) (i : Int)) : ScT w v n (i + 1) := by
  unfold ScT at h ⊢
  rw [stL, if_neg hn, List.append_nil]
  exact h
theorem getD_l {L M : List Int} {j : Nat} (h : j < L.length) : (L ++ M).getD j 0 = L.getD j 0 := by
  rw [List.getD_eq_getElem?_getD, List.getD_eq_getElem?_getD, List.getElem?_append_left h]
theorem getD_r (L : List Int) (x : Int) : (L ++ [x]).getD L.length 0 = x := by
  rw [List.getD_eq_getElem?_getD, List.getElem?_append_right (Nat.le_refl _), Nat.sub_self]
  rfl
theorem ScT.add {w v w1 : Wd} {n : Int} {i : Nat} (h : ScT w v n i) (hs : staT (w 31) (i : Int)) (hq : TkQ v w1 n i) : ScT w w1 n (i + 1) := by
  obtain ⟨h1, h2, h3, h4⟩ := h
  obtain ⟨q1, q2, q3, q4, q5, q6, q7⟩ := hq
  have e31 : v 31 = w 31 := h1 31 (by decide) (by decide) (by decide) (by decide)
  rw [e31] at q5 q6
  have hst : stL (w 31) (i + 1) = stL (w 31) i ++ [(i : Int)] := by rw [stL, if_pos hs]
  unfold ScT
  rw [hst, List.length_append]
  refine ⟨fun c a b d f => (q1 c a b d f).trans (h1 c a b d f), fun j hj => (q2 j hj).trans (h2 j hj), ?_, fun j hj => ?_⟩
  · rw [q3, h3]
    show _ = ((_ + 1 : Nat) : Int)
    omega
  · have hj2 : j < (stL (w 31) i).length + 1 := hj
    by_cases e : j = (stL (w 31) i).length
    · rw [e, getD_r, ← h3]
      exact ⟨q5, q6, q7⟩
    · rw [getD_l (by omega)]
      obtain ⟨a1, a2, a3⟩ := q4 j (by rw [h3]; omega)
      obtain ⟨b1, b2, b3⟩ := h4 j (by omega)
      exact ⟨a1.trans b1, a2.trans b2, a3.trans b3⟩
set_option maxRecDepth 100000 in
theorem c_X_scan (n : Int) (w : Wd) (hn : w 30 1 = n ∧ n ≤ 600) (hn0 : 0 ≤ n) (hch : ∀ j, 0 ≤ j → j < n → 0 ≤ w 31 j ∧ w 31 j ≤ 255) : CallN 8 mX8_scan [(2, 30)] w (RUQ (fun w1 => ScT w w1 n n.toNat)) := by
  refine CallN.intro (by decide +kernel) (Nat.le_of_ble_eq_true rfl) (fun ρ hR => ?_)
  show AtN mX8_scan 8 ρ 0 [(0, (2, 30))] [] w
  have L_7 : ∀ (fu : Nat) (i : Int) (v9 : Wd), 0 ≤ i ∧ i ≤ n → ScT w v9 n i.toNat → (n - i).toNat < fu → AtN mX8_scan 8 ρ 7 [(0, (2, 30)), (1, (0, i))] [] v9 := by
    intro fu
    induction fu with
    | zero => intro i v9 hi hS hm; exact absurd hm (Nat.not_lt_zero _)
    | succ fu ih =>
      intro i v9 hi hS hm
      have q31 : v9 31 = w 31 := hS.1 31 (by decide) (by decide) (by decide) (by decide)
      have q301 : v9 30 1 = w 30 1 := hS.2.1 1 (by decide)
      have qt := hS.2.2.1
      have qle := stL_len (T := w 31) i.toNat
      refine s_iload_n dX8_scan_7 1 rfl (s_aload_n dX8_scan_8 0 rfl rfl (n_getf 30 1 0 dX8_scan_9 cf_X8 ff_X8_24 rfl sh_30 rfl (by decide) (v := (v9 30 1)) rfl (s_icmp_ge 92 dX8_scan_12 (by decide) (fun c_12 => ?_) (fun c_12 => ?_))))
      · skip
        refine n_ret dX8_scan_92 hR rfl ?_
        have e9 : i = n := by omega
        rw [e9] at hS
        exact ⟨rfl, hS⟩
      · skip
        refine s_aload_n dX8_scan_15 0 rfl rfl (n_getc (q := 31) 30 0 41 dX8_scan_16 cf_X8 ff_X8_11 rfl sh_30 rfl (by decide) rfl (by decide) (s_iload_n dX8_scan_19 1 rfl (n_iald 31 dX8_scan_20 rfl sh_31 (by decide) ⟨(by omega), (by omega)⟩ (v := (v9 31 i)) rfl ?_)))
        rw [q31]
        refine s_bipush dX8_scan_21 (by decide) (s_icmp_eq 37 dX8_scan_23 (by decide) (fun c_23 => ?_) (fun c_23 => ?_))
        · skip
          refine s_iconst dX8_scan_37 (by decide) (s_goto 42 dX8_scan_38 (by decide) (s_istore_n (ls' := [(0, (2, 30)), (1, (0, i)), (2, (0, 1))]) dX8_scan_42 (Nat.le_of_ble_eq_true rfl) rfl (s_iload_n dX8_scan_43 1 rfl (s_if_le 71 dX8_scan_44 (by decide) (fun c_44 => ?_) (fun c_44 => ?_)))))
          · skip
            refine s_iconst dX8_scan_71 (by decide) (s_istore_n (ls' := [(0, (2, 30)), (1, (0, i)), (2, (0, 1)), (3, (0, 0))]) dX8_scan_72 (Nat.le_of_ble_eq_true rfl) rfl (s_iload_n dX8_scan_73 2 rfl (s_if_ne 86 dX8_scan_74 (by decide) (kf := fun c => absurd c (by decide)) (kt := fun _ => s_iinc (z := (i + 1)) (ls' := [(0, (2, 30)), (1, (0, (i + 1))), (2, (0, 1)), (3, (0, 0))]) dX8_scan_86 1 rfl (Nat.le_of_ble_eq_true rfl) (wr_id (by omega) (by omega)) rfl (s_goto 7 dX8_scan_89 (by decide) ?_)))))
            exact At.keep (ls' := [(0, (2, 30)), (1, (0, (i + 1)))]) [0, 1] rfl (ih (i + 1) v9 (by omega) (by rw [toN_s hi.1]; exact hS.no (by rw [toN_c hi.1]; exact (fun q => q.1 (by omega)))) (by omega))
          · skip
            refine s_aload_n dX8_scan_47 0 rfl rfl (n_getc (q := 31) 30 0 41 dX8_scan_48 cf_X8 ff_X8_11 rfl sh_30 rfl (by decide) rfl (by decide) (s_iload_n dX8_scan_51 1 rfl (s_iconst dX8_scan_52 (by decide) (n_sub (z := (i - 1)) dX8_scan_53 (wr_id (by omega) (by omega)) (n_iald 31 dX8_scan_54 rfl sh_31 (by decide) ⟨(by omega), (by omega)⟩ (v := (v9 31 (i - 1))) rfl ?_)))))
            rw [q31]
            refine s_aload_n dX8_scan_55 0 rfl rfl (n_getc (q := 31) 30 0 41 dX8_scan_56 cf_X8 ff_X8_11 rfl sh_30 rfl (by decide) rfl (by decide) (s_iload_n dX8_scan_59 1 rfl (n_iald 31 dX8_scan_60 rfl sh_31 (by decide) ⟨(by omega), (by omega)⟩ (v := (v9 31 i)) rfl ?_)))
            rw [q31]
            refine n_invS (as := [(0, (w 31 (i - 1))), (0, (w 31 i))]) dX8_scan_61 kv_X8_standTogether ml_X8_39 (c_X_tog (w 31 (i - 1)) (w 31 i) v9) (by decide) rfl rfl (Nat.le_of_ble_eq_true rfl) (n_ifeq_b 71 dX8_scan_64 (by decide) (fun c_64 => ?_) (fun c_64 => ?_))
            · skip
              refine s_iconst dX8_scan_71 (by decide) (s_istore_n (ls' := [(0, (2, 30)), (1, (0, i)), (2, (0, 1)), (3, (0, 0))]) dX8_scan_72 (Nat.le_of_ble_eq_true rfl) rfl (s_iload_n dX8_scan_73 2 rfl (s_if_ne 86 dX8_scan_74 (by decide) (kf := fun c => absurd c (by decide)) (kt := fun _ => s_iinc (z := (i + 1)) (ls' := [(0, (2, 30)), (1, (0, (i + 1))), (2, (0, 1)), (3, (0, 0))]) dX8_scan_86 1 rfl (Nat.le_of_ble_eq_true rfl) (wr_id (by omega) (by omega)) rfl (s_goto 7 dX8_scan_89 (by decide) ?_)))))
              exact At.keep (ls' := [(0, (2, 30)), (1, (0, (i + 1)))]) [0, 1] rfl (ih (i + 1) v9 (by omega) (by rw [toN_s hi.1]; exact hS.no (by rw [toN_c hi.1]; exact (fun q => q.1 (by omega)))) (by omega))
            · skip
              refine s_iconst dX8_scan_67 (by decide) (s_goto 72 dX8_scan_68 (by decide) (s_istore_n (ls' := [(0, (2, 30)), (1, (0, i)), (2, (0, 1)), (3, (0, 1))]) dX8_scan_72 (Nat.le_of_ble_eq_true rfl) rfl (s_iload_n dX8_scan_73 2 rfl (s_if_ne 86 dX8_scan_74 (by decide) (kf := fun c => absurd c (by decide)) (kt := fun _ => s_iinc (z := (i + 1)) (ls' := [(0, (2, 30)), (1, (0, (i + 1))), (2, (0, 1)), (3, (0, 1))]) dX8_scan_86 1 rfl (Nat.le_of_ble_eq_true rfl) (wr_id (by omega) (by omega)) rfl (s_goto 7 dX8_scan_89 (by decide) ?_))))))
              exact At.keep (ls' := [(0, (2, 30)), (1, (0, (i + 1)))]) [0, 1] rfl (ih (i + 1) v9 (by omega) (by rw [toN_s hi.1]; exact hS.no (by rw [toN_c hi.1]; exact (fun q => q.2 ⟨by omega, c_64⟩))) (by omega))
        · skip
          refine s_aload_n dX8_scan_26 0 rfl rfl (n_getc (q := 31) 30 0 41 dX8_scan_27 cf_X8 ff_X8_11 rfl sh_30 rfl (by decide) rfl (by decide) (s_iload_n dX8_scan_30 1 rfl (n_iald 31 dX8_scan_31 rfl sh_31 (by decide) ⟨(by omega), (by omega)⟩ (v := (v9 31 i)) rfl ?_)))
          rw [q31]
          refine s_bipush dX8_scan_32 (by decide) (s_icmp_ne 41 dX8_scan_34 (by decide) (fun c_34 => ?_) (fun c_34 => ?_))
          · skip
            refine s_iconst dX8_scan_41 (by decide) (s_istore_n (ls' := [(0, (2, 30)), (1, (0, i)), (2, (0, 0))]) dX8_scan_42 (Nat.le_of_ble_eq_true rfl) rfl (s_iload_n dX8_scan_43 1 rfl (s_if_le 71 dX8_scan_44 (by decide) (fun c_44 => ?_) (fun c_44 => ?_))))
            · skip
              refine s_iconst dX8_scan_71 (by decide) (s_istore_n (ls' := [(0, (2, 30)), (1, (0, i)), (2, (0, 0)), (3, (0, 0))]) dX8_scan_72 (Nat.le_of_ble_eq_true rfl) rfl (s_iload_n dX8_scan_73 2 rfl (s_if_ne 86 dX8_scan_74 (by decide) (kt := fun c => absurd c (by decide)) (kf := fun _ => s_iload_n dX8_scan_77 3 rfl (s_if_ne 86 dX8_scan_78 (by decide) (kt := fun c => absurd c (by decide)) (kf := fun _ => s_aload_n dX8_scan_81 0 rfl rfl (s_iload_n dX8_scan_82 1 rfl (n_invV' (as := [(0, i)]) dX8_scan_83 kv_X8_addToken ml_X8_43 (c_X_addToken i n v9 ⟨q301.trans hn.1, hn.2⟩ ⟨by omega, by omega⟩ ⟨hi.1, by omega⟩ (by rw [q31]; exact hch)) (by decide) 30 cf_X8 rfl sh_30 rfl rfl rfl (Nat.le_of_ble_eq_true rfl) ?_))))))))
              rintro r_83 w_83 ⟨rfl, hq83⟩
              refine s_iinc (z := (i + 1)) (ls' := [(0, (2, 30)), (1, (0, (i + 1))), (2, (0, 0)), (3, (0, 0))]) dX8_scan_86 1 rfl (Nat.le_of_ble_eq_true rfl) (wr_id (by omega) (by omega)) rfl (s_goto 7 dX8_scan_89 (by decide) ?_)
              exact At.keep (ls' := [(0, (2, 30)), (1, (0, (i + 1)))]) [0, 1] rfl (ih (i + 1) w_83 (by omega) (by rw [toN_s hi.1]; exact hS.add (by rw [toN_c hi.1]; exact ⟨fun q => by omega, fun q => by omega⟩) (by rw [toN_c hi.1]; exact hq83)) (by omega))
            · skip
              refine s_aload_n dX8_scan_47 0 rfl rfl (n_getc (q := 31) 30 0 41 dX8_scan_48 cf_X8 ff_X8_11 rfl sh_30 rfl (by decide) rfl (by decide) (s_iload_n dX8_scan_51 1 rfl (s_iconst dX8_scan_52 (by decide) (n_sub (z := (i - 1)) dX8_scan_53 (wr_id (by omega) (by omega)) (n_iald 31 dX8_scan_54 rfl sh_31 (by decide) ⟨(by omega), (by omega)⟩ (v := (v9 31 (i - 1))) rfl ?_)))))
              rw [q31]
              refine s_aload_n dX8_scan_55 0 rfl rfl (n_getc (q := 31) 30 0 41 dX8_scan_56 cf_X8 ff_X8_11 rfl sh_30 rfl (by decide) rfl (by decide) (s_iload_n dX8_scan_59 1 rfl (n_iald 31 dX8_scan_60 rfl sh_31 (by decide) ⟨(by omega), (by omega)⟩ (v := (v9 31 i)) rfl ?_)))
              rw [q31]
              refine n_invS (as := [(0, (w 31 (i - 1))), (0, (w 31 i))]) dX8_scan_61 kv_X8_standTogether ml_X8_39 (c_X_tog (w 31 (i - 1)) (w 31 i) v9) (by decide) rfl rfl (Nat.le_of_ble_eq_true rfl) (n_ifeq_b 71 dX8_scan_64 (by decide) (fun c_64 => ?_) (fun c_64 => ?_))
              · skip
                refine s_iconst dX8_scan_71 (by decide) (s_istore_n (ls' := [(0, (2, 30)), (1, (0, i)), (2, (0, 0)), (3, (0, 0))]) dX8_scan_72 (Nat.le_of_ble_eq_true rfl) rfl (s_iload_n dX8_scan_73 2 rfl (s_if_ne 86 dX8_scan_74 (by decide) (kt := fun c => absurd c (by decide)) (kf := fun _ => s_iload_n dX8_scan_77 3 rfl (s_if_ne 86 dX8_scan_78 (by decide) (kt := fun c => absurd c (by decide)) (kf := fun _ => s_aload_n dX8_scan_81 0 rfl rfl (s_iload_n dX8_scan_82 1 rfl (n_invV' (as := [(0, i)]) dX8_scan_83 kv_X8_addToken ml_X8_43 (c_X_addToken i n v9 ⟨q301.trans hn.1, hn.2⟩ ⟨by omega, by omega⟩ ⟨hi.1, by omega⟩ (by rw [q31]; exact hch)) (by decide) 30 cf_X8 rfl sh_30 rfl rfl rfl (Nat.le_of_ble_eq_true rfl) ?_))))))))
                rintro r_83 w_83 ⟨rfl, hq83⟩
                refine s_iinc (z := (i + 1)) (ls' := [(0, (2, 30)), (1, (0, (i + 1))), (2, (0, 0)), (3, (0, 0))]) dX8_scan_86 1 rfl (Nat.le_of_ble_eq_true rfl) (wr_id (by omega) (by omega)) rfl (s_goto 7 dX8_scan_89 (by decide) ?_)
                exact At.keep (ls' := [(0, (2, 30)), (1, (0, (i + 1)))]) [0, 1] rfl (ih (i + 1) w_83 (by omega) (by rw [toN_s hi.1]; exact hS.add (by rw [toN_c hi.1]; exact ⟨fun q => by omega, fun q => c_64 q.2⟩) (by rw [toN_c hi.1]; exact hq83)) (by omega))
              · skip
                refine s_iconst dX8_scan_67 (by decide) (s_goto 72 dX8_scan_68 (by decide) (s_istore_n (ls' := [(0, (2, 30)), (1, (0, i)), (2, (0, 0)), (3, (0, 1))]) dX8_scan_72 (Nat.le_of_ble_eq_true rfl) rfl (s_iload_n dX8_scan_73 2 rfl (s_if_ne 86 dX8_scan_74 (by decide) (kt := fun c => absurd c (by decide)) (kf := fun _ => s_iload_n dX8_scan_77 3 rfl (s_if_ne 86 dX8_scan_78 (by decide) (kf := fun c => absurd c (by decide)) (kt := fun _ => s_iinc (z := (i + 1)) (ls' := [(0, (2, 30)), (1, (0, (i + 1))), (2, (0, 0)), (3, (0, 1))]) dX8_scan_86 1 rfl (Nat.le_of_ble_eq_true rfl) (wr_id (by omega) (by omega)) rfl (s_goto 7 dX8_scan_89 (by decide) ?_))))))))
                exact At.keep (ls' := [(0, (2, 30)), (1, (0, (i + 1)))]) [0, 1] rfl (ih (i + 1) v9 (by omega) (by rw [toN_s hi.1]; exact hS.no (by rw [toN_c hi.1]; exact (fun q => q.2 ⟨by omega, c_64⟩))) (by omega))
          · skip
            refine s_iconst dX8_scan_37 (by decide) (s_goto 42 dX8_scan_38 (by decide) (s_istore_n (ls' := [(0, (2, 30)), (1, (0, i)), (2, (0, 1))]) dX8_scan_42 (Nat.le_of_ble_eq_true rfl) rfl (s_iload_n dX8_scan_43 1 rfl (s_if_le 71 dX8_scan_44 (by decide) (fun c_44 => ?_) (fun c_44 => ?_)))))
            · skip
              refine s_iconst dX8_scan_71 (by decide) (s_istore_n (ls' := [(0, (2, 30)), (1, (0, i)), (2, (0, 1)), (3, (0, 0))]) dX8_scan_72 (Nat.le_of_ble_eq_true rfl) rfl (s_iload_n dX8_scan_73 2 rfl (s_if_ne 86 dX8_scan_74 (by decide) (kf := fun c => absurd c (by decide)) (kt := fun _ => s_iinc (z := (i + 1)) (ls' := [(0, (2, 30)), (1, (0, (i + 1))), (2, (0, 1)), (3, (0, 0))]) dX8_scan_86 1 rfl (Nat.le_of_ble_eq_true rfl) (wr_id (by omega) (by omega)) rfl (s_goto 7 dX8_scan_89 (by decide) ?_)))))
              exact At.keep (ls' := [(0, (2, 30)), (1, (0, (i + 1)))]) [0, 1] rfl (ih (i + 1) v9 (by omega) (by rw [toN_s hi.1]; exact hS.no (by rw [toN_c hi.1]; exact (fun q => q.1 (by omega)))) (by omega))
            · skip
              refine s_aload_n dX8_scan_47 0 rfl rfl (n_getc (q := 31) 30 0 41 dX8_scan_48 cf_X8 ff_X8_11 rfl sh_30 rfl (by decide) rfl (by decide) (s_iload_n dX8_scan_51 1 rfl (s_iconst dX8_scan_52 (by decide) (n_sub (z := (i - 1)) dX8_scan_53 (wr_id (by omega) (by omega)) (n_iald 31 dX8_scan_54 rfl sh_31 (by decide) ⟨(by omega), (by omega)⟩ (v := (v9 31 (i - 1))) rfl ?_)))))
              rw [q31]
              refine s_aload_n dX8_scan_55 0 rfl rfl (n_getc (q := 31) 30 0 41 dX8_scan_56 cf_X8 ff_X8_11 rfl sh_30 rfl (by decide) rfl (by decide) (s_iload_n dX8_scan_59 1 rfl (n_iald 31 dX8_scan_60 rfl sh_31 (by decide) ⟨(by omega), (by omega)⟩ (v := (v9 31 i)) rfl ?_)))
              rw [q31]
              refine n_invS (as := [(0, (w 31 (i - 1))), (0, (w 31 i))]) dX8_scan_61 kv_X8_standTogether ml_X8_39 (c_X_tog (w 31 (i - 1)) (w 31 i) v9) (by decide) rfl rfl (Nat.le_of_ble_eq_true rfl) (n_ifeq_b 71 dX8_scan_64 (by decide) (fun c_64 => ?_) (fun c_64 => ?_))
              · skip
                refine s_iconst dX8_scan_71 (by decide) (s_istore_n (ls' := [(0, (2, 30)), (1, (0, i)), (2, (0, 1)), (3, (0, 0))]) dX8_scan_72 (Nat.le_of_ble_eq_true rfl) rfl (s_iload_n dX8_scan_73 2 rfl (s_if_ne 86 dX8_scan_74 (by decide) (kf := fun c => absurd c (by decide)) (kt := fun _ => s_iinc (z := (i + 1)) (ls' := [(0, (2, 30)), (1, (0, (i + 1))), (2, (0, 1)), (3, (0, 0))]) dX8_scan_86 1 rfl (Nat.le_of_ble_eq_true rfl) (wr_id (by omega) (by omega)) rfl (s_goto 7 dX8_scan_89 (by decide) ?_)))))
                exact At.keep (ls' := [(0, (2, 30)), (1, (0, (i + 1)))]) [0, 1] rfl (ih (i + 1) v9 (by omega) (by rw [toN_s hi.1]; exact hS.no (by rw [toN_c hi.1]; exact (fun q => q.1 (by omega)))) (by omega))
              · skip
                refine s_iconst dX8_scan_67 (by decide) (s_goto 72 dX8_scan_68 (by decide) (s_istore_n (ls' := [(0, (2, 30)), (1, (0, i)), (2, (0, 1)), (3, (0, 1))]) dX8_scan_72 (Nat.le_of_ble_eq_true rfl) rfl (s_iload_n dX8_scan_73 2 rfl (s_if_ne 86 dX8_scan_74 (by decide) (kf := fun c => absurd c (by decide)) (kt := fun _ => s_iinc (z := (i + 1)) (ls' := [(0, (2, 30)), (1, (0, (i + 1))), (2, (0, 1)), (3, (0, 1))]) dX8_scan_86 1 rfl (Nat.le_of_ble_eq_true rfl) (wr_id (by omega) (by omega)) rfl (s_goto 7 dX8_scan_89 (by decide) ?_))))))
                exact At.keep (ls' := [(0, (2, 30)), (1, (0, (i + 1)))]) [0, 1] rfl (ih (i + 1) v9 (by omega) (by rw [toN_s hi.1]; exact hS.no (by rw [toN_c hi.1]; exact (fun q => q.2 ⟨by omega, c_64⟩))) (by omega))
  refine s_aload_n dX8_scan_0 0 rfl rfl (s_iconst dX8_scan_1 (by decide) (n_putf 30 5 5 dX8_scan_2 cf_X8 ff_X8_36 rfl rfl sh_30 rfl rfl rfl (s_iconst dX8_scan_5 (by decide) (s_istore_n (ls' := [(0, (2, 30)), (1, (0, 0))]) dX8_scan_6 (Nat.le_of_ble_eq_true rfl) rfl ?_))))
  exact L_7 _ 0 (wu w 30 5 0) (by omega) ⟨fun c a b d f => wu_ne a, fun j hj => by rw [wu_at, if_neg hj], by rw [wu_same]; rfl, fun j hj => absurd hj (Nat.not_lt_zero j)⟩ (Nat.lt_succ_self _)

