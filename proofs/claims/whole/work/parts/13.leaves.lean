/-! LEAVES. -/
set_option maxRecDepth 100000 in
theorem c_within (v l m : Int) (w : Wd) : CallN 1 mX11_within [(0, v), (0, l), (0, m)] w (RV (0, bi (l ≤ v ∧ v ≤ m)) w) := by
  refine CallN.intro (by decide +kernel) (Nat.le_of_ble_eq_true rfl) (fun ρ hR => ?_)
  show AtN mX11_within 1 ρ 0 [(0, (0, v)), (1, (0, l)), (2, (0, m))] [] w
  refine s_iload_n dX11_within_0 0 rfl (s_iload_n dX11_within_1 1 rfl (s_icmp_lt 14 dX11_within_2 (by decide) (fun c_2 => ?_) (fun c_2 => ?_)))
  · skip
    refine s_iconst dX11_within_14 (by decide) (n_zret dX11_within_15 hR rfl (by first | exact Or.inl rfl | exact Or.inr rfl | exact bi_01 _ | omega) ?_)
    refine ⟨congrArg (fun z => some ((0 : Nat), z)) ?_, rfl⟩
    first | exact (bi_t (by omega)).symm | exact (bi_f (by omega)).symm | exact bi_congr (by omega)
  · skip
    refine s_iload_n dX11_within_5 0 rfl (s_iload_n dX11_within_6 2 rfl (s_icmp_gt 14 dX11_within_7 (by decide) (fun c_7 => ?_) (fun c_7 => ?_)))
    · skip
      refine s_iconst dX11_within_14 (by decide) (n_zret dX11_within_15 hR rfl (by first | exact Or.inl rfl | exact Or.inr rfl | exact bi_01 _ | omega) ?_)
      refine ⟨congrArg (fun z => some ((0 : Nat), z)) ?_, rfl⟩
      first | exact (bi_t (by omega)).symm | exact (bi_f (by omega)).symm | exact bi_congr (by omega)
    · skip
      refine s_iconst dX11_within_10 (by decide) (s_goto 15 dX11_within_11 (by decide) (n_zret dX11_within_15 hR rfl (by first | exact Or.inl rfl | exact Or.inr rfl | exact bi_01 _ | omega) ?_))
      refine ⟨congrArg (fun z => some ((0 : Nat), z)) ?_, rfl⟩
      first | exact (bi_t (by omega)).symm | exact (bi_f (by omega)).symm | exact bi_congr (by omega)

set_option maxRecDepth 100000 in
theorem c_isIn (v l m : Int) (w : Wd) : CallN 1 mX12_isIn [(0, v), (0, l), (0, m)] w (RV (0, bi (l ≤ v ∧ v ≤ m)) w) := by
  refine CallN.intro (by decide +kernel) (Nat.le_of_ble_eq_true rfl) (fun ρ hR => ?_)
  show AtN mX12_isIn 1 ρ 0 [(0, (0, v)), (1, (0, l)), (2, (0, m))] [] w
  refine s_iload_n dX12_isIn_0 0 rfl (s_iload_n dX12_isIn_1 1 rfl (s_icmp_lt 14 dX12_isIn_2 (by decide) (fun c_2 => ?_) (fun c_2 => ?_)))
  · skip
    refine s_iconst dX12_isIn_14 (by decide) (n_zret dX12_isIn_15 hR rfl (by first | exact Or.inl rfl | exact Or.inr rfl | exact bi_01 _ | omega) ?_)
    refine ⟨congrArg (fun z => some ((0 : Nat), z)) ?_, rfl⟩
    first | exact (bi_t (by omega)).symm | exact (bi_f (by omega)).symm | exact bi_congr (by omega)
  · skip
    refine s_iload_n dX12_isIn_5 0 rfl (s_iload_n dX12_isIn_6 2 rfl (s_icmp_gt 14 dX12_isIn_7 (by decide) (fun c_7 => ?_) (fun c_7 => ?_)))
    · skip
      refine s_iconst dX12_isIn_14 (by decide) (n_zret dX12_isIn_15 hR rfl (by first | exact Or.inl rfl | exact Or.inr rfl | exact bi_01 _ | omega) ?_)
      refine ⟨congrArg (fun z => some ((0 : Nat), z)) ?_, rfl⟩
      first | exact (bi_t (by omega)).symm | exact (bi_f (by omega)).symm | exact bi_congr (by omega)
    · skip
      refine s_iconst dX12_isIn_10 (by decide) (s_goto 15 dX12_isIn_11 (by decide) (n_zret dX12_isIn_15 hR rfl (by first | exact Or.inl rfl | exact Or.inr rfl | exact bi_01 _ | omega) ?_))
      refine ⟨congrArg (fun z => some ((0 : Nat), z)) ?_, rfl⟩
      first | exact (bi_t (by omega)).symm | exact (bi_f (by omega)).symm | exact bi_congr (by omega)

set_option maxRecDepth 100000 in
theorem c_X_canAsk (p b : Int) (w : Wd) : CallN 2 mX3_canAsk [(0, p), (0, b)] w (RV (0, bi ((1 ≤ p ∧ p ≤ 99) ∧ (0 ≤ b ∧ b ≤ 40))) w) := by
  refine CallN.intro (by decide +kernel) (Nat.le_of_ble_eq_true rfl) (fun ρ hR => ?_)
  show AtN mX3_canAsk 2 ρ 0 [(0, (0, p)), (1, (0, b))] [] w
  refine s_iload_n dX3_canAsk_0 0 rfl (s_iconst dX3_canAsk_1 (by decide) (s_bipush dX3_canAsk_2 (by decide) (n_invT (as := [(0, p), (0, 1), (0, 99)]) dX3_canAsk_4 kv_X11_within ml_X3_55 (c_within p 1 99 w) (by decide) rfl rfl (Nat.le_of_ble_eq_true rfl) (n_ifeq_b 24 dX3_canAsk_7 (by decide) (fun c_7 => ?_) (fun c_7 => ?_)))))
  · skip
    refine s_iconst dX3_canAsk_24 (by decide) (n_zret dX3_canAsk_25 hR rfl (by first | exact Or.inl rfl | exact Or.inr rfl | exact bi_01 _ | omega) ?_)
    refine ⟨congrArg (fun z => some ((0 : Nat), z)) ?_, rfl⟩
    first | exact (bi_t (by omega)).symm | exact (bi_f (by omega)).symm | exact bi_congr (by omega)
  · skip
    refine s_iload_n dX3_canAsk_10 1 rfl (s_iconst dX3_canAsk_11 (by decide) (s_bipush dX3_canAsk_12 (by decide) (n_invT (as := [(0, b), (0, 0), (0, 40)]) dX3_canAsk_14 kv_X11_within ml_X3_55 (c_within b 0 40 w) (by decide) rfl rfl (Nat.le_of_ble_eq_true rfl) (n_ifeq_b 24 dX3_canAsk_17 (by decide) (fun c_17 => ?_) (fun c_17 => ?_)))))
    · skip
      refine s_iconst dX3_canAsk_24 (by decide) (n_zret dX3_canAsk_25 hR rfl (by first | exact Or.inl rfl | exact Or.inr rfl | exact bi_01 _ | omega) ?_)
      refine ⟨congrArg (fun z => some ((0 : Nat), z)) ?_, rfl⟩
      first | exact (bi_t (by omega)).symm | exact (bi_f (by omega)).symm | exact bi_congr (by omega)
    · skip
      refine s_iconst dX3_canAsk_20 (by decide) (s_goto 25 dX3_canAsk_21 (by decide) (n_zret dX3_canAsk_25 hR rfl (by first | exact Or.inl rfl | exact Or.inr rfl | exact bi_01 _ | omega) ?_))
      refine ⟨congrArg (fun z => some ((0 : Nat), z)) ?_, rfl⟩
      first | exact (bi_t (by omega)).symm | exact (bi_f (by omega)).symm | exact bi_congr (by omega)
