/-! STRING ON THE TEXTS. -/
section NSU
variable {μ μ' : Mu} {d dc n idx : Nat} {ρ : Rh} {pc : Nat} {ls : List (Nat × PV)} {st stk as : List PV} {w w1 : Wd}
theorem n_invSu (dd : decode μ.2.1 pc = .ok (.invokestatic idx, 3)) (kv : KS μ' n) (ml : Cond.methodLink μ.1.cls idx μ'.1 ∈ TS) (hc : CallN dc μ' as w (RU w1)) (hdc : dc + 1 ≤ d) (hn : as.length = n) (hstk : stk = as.reverse ++ st) (hcat : catS st ≤ 8) (kk : AtN μ d ρ (pc + 3) ls st w1) : AtN μ d ρ pc ls stk w :=
  n_invS' dd kv ml hc hdc hn hstk hcat (fun r w1 h => by obtain ⟨rfl, rfl⟩ := h; exact kk)
end NSU
set_option maxRecDepth 100000 in
theorem c_J0_isLatin1 {i : Nat} (hi9 : i < 19) (w : Wd) : CallN 1 mJ0_isLatin1_aae02 [(3, (i : Nat))] w (RV (0, 1) w) := by
  refine CallN.intro (by decide +kernel) (Nat.le_of_ble_eq_true rfl) (fun ρ hR => ?_)
  show AtN mJ0_isLatin1_aae02 1 ρ 0 [(0, (3, (i : Nat)))] [] w
  refine s_getsC dJ0_isLatin1_aae02_0 fls_cs (s_if_eq 17 dJ0_isLatin1_aae02_3 (by decide) (kt := fun c => absurd c (by decide)) (kf := fun _ => s_aload_n dJ0_isLatin1_aae02_6 0 rfl rfl (s_getCo dJ0_isLatin1_aae02_7 hi9 fls_co (s_if_ne 17 dJ0_isLatin1_aae02_10 (by decide) (kt := fun c => absurd c (by decide)) (kf := fun _ => s_iconst dJ0_isLatin1_aae02_13 (by decide) (s_goto 18 dJ0_isLatin1_aae02_14 (by decide) (n_zret dJ0_isLatin1_aae02_18 hR rfl (by first | exact Or.inl rfl | exact Or.inr rfl | exact bi_01 _ | omega) ?_)))))))
  exact ⟨rfl, rfl⟩

set_option maxRecDepth 100000 in
theorem c_J0_coder {i : Nat} (hi9 : i < 19) (w : Wd) : CallN 1 mJ0_coder_7d493 [(3, (i : Nat))] w (RV (0, 0) w) := by
  refine CallN.intro (by decide +kernel) (Nat.le_of_ble_eq_true rfl) (fun ρ hR => ?_)
  show AtN mJ0_coder_7d493 1 ρ 0 [(0, (3, (i : Nat)))] [] w
  refine s_getsC dJ0_coder_7d493_0 fls_cs (s_if_eq 13 dJ0_coder_7d493_3 (by decide) (kt := fun c => absurd c (by decide)) (kf := fun _ => s_aload_n dJ0_coder_7d493_6 0 rfl rfl (s_getCo dJ0_coder_7d493_7 hi9 fls_co (s_goto 14 dJ0_coder_7d493_10 (by decide) (n_bret dJ0_coder_7d493_14 hR rfl ?_)))))
  exact ⟨rfl, rfl⟩

theorem shr_0 {x : Int} (h : InI x) : ishr x 0 = x := by
  unfold ishr
  rw [show (Int32.ofInt 0) = (0 : Int32) from rfl]
  rw [show Int32.ofInt x >>> (0 &&& 31 : Int32) = Int32.ofInt x from by
    apply Int32.toBitVec_inj.mp
    simp]
  exact toInt_in h
set_option maxRecDepth 100000 in
theorem c_J0_length {i : Nat} (hi9 : i < 19) (w : Wd) : CallN 2 mJ0_length_8abf5 [(3, (i : Nat))] w (RV (0, ((lnS i : Nat) : Int)) w) := by
  refine CallN.intro (by decide +kernel) (Nat.le_of_ble_eq_true rfl) (fun ρ hR => ?_)
  show AtN mJ0_length_8abf5 2 ρ 0 [(0, (3, (i : Nat)))] [] w
  refine s_aload_n dJ0_length_8abf5_0 0 rfl rfl (s_getVa dJ0_length_8abf5_1 hi9 fls_va (s_alenS dJ0_length_8abf5_4 hi9 (s_aload_n dJ0_length_8abf5_5 0 rfl rfl (n_invVS (as := []) dJ0_length_8abf5_6 kv_J0_coder_7d493 ml_J0_335 (c_J0_coder hi9 w) (by decide) hi9 rfl rfl rfl (Nat.le_of_ble_eq_true rfl) (s_ishr dJ0_length_8abf5_9 (n_iret dJ0_length_8abf5_10 hR rfl ?_))))))
  refine ⟨congrArg (fun z => some ((0 : Nat), z)) ?_, rfl⟩
  have := lnS_bd i
  exact shr_0 (by unfold InI; omega)

set_option maxRecDepth 100000 in
theorem c_J3_checkIndex (i n : Int) (v : PV) (w : Wd) (hv : v = (2, -1) ∨ v = (5, 0)) (h : 0 ≤ i ∧ i < n) : CallN 1 mJ3_checkIndex_8e157 [(0, i), (0, n), v] w (RV (0, i) w) := by
  refine CallN.intro (by decide +kernel) (by rcases hv with rfl | rfl <;> exact Nat.le_of_ble_eq_true rfl) (fun ρ hR => ?_)
  show AtN mJ3_checkIndex_8e157 1 ρ 0 [(0, (0, i)), (1, (0, n)), (2, v)] [] w
  refine s_iload_n dJ3_checkIndex_8e157_0 0 rfl (s_if_lt 9 dJ3_checkIndex_8e157_1 (by decide) (fun c => absurd c (by omega)) (fun c1 => ?_))
  refine s_iload_n dJ3_checkIndex_8e157_4 0 rfl (s_iload_n dJ3_checkIndex_8e157_5 1 rfl (s_icmp_lt 16 dJ3_checkIndex_8e157_6 (by decide) (fun c2 => ?_) (fun c => absurd h.2 c)))
  exact s_iload_n dJ3_checkIndex_8e157_16 0 rfl (n_iret dJ3_checkIndex_8e157_17 hR rfl ⟨rfl, rfl⟩)
set_option maxRecDepth 100000 in
theorem c_J0_checkIndex (i n : Int) (w : Wd) (h : 0 ≤ i ∧ i < n) : CallN 2 mJ0_checkIndex_df160 [(0, i), (0, n)] w (RU w) := by
  refine CallN.intro (by decide +kernel) (Nat.le_of_ble_eq_true rfl) (fun ρ hR => ?_)
  show AtN mJ0_checkIndex_df160 2 ρ 0 [(0, (0, i)), (1, (0, n))] [] w
  refine s_iload_n dJ0_checkIndex_df160_0 0 rfl (s_iload_n dJ0_checkIndex_df160_1 1 rfl (s_getsF dJ0_checkIndex_df160_2 fls_fz (fun v hv => ?_)))
  exact n_invS (as := [(0, i), (0, n), v]) (st := []) dJ0_checkIndex_df160_5 kv_J3_checkIndex_8e157 ml_J0_1059 (c_J3_checkIndex i n v w hv h) (by decide) rfl rfl (Nat.le_of_ble_eq_true rfl) (s_pop dJ0_checkIndex_df160_8 (show (0 : Nat) ≠ 1 by decide) (n_ret dJ0_checkIndex_df160_9 hR rfl ⟨rfl, rfl⟩))

set_option maxRecDepth 100000 in
theorem c_J1_charAt {i : Nat} (hi9 : i < 19) (j : Int) (hj : 0 ≤ j ∧ j < ((lnS i : Nat) : Int)) (w : Wd) : CallN 3 mJ1_charAt_3b067 [(4, (i : Nat)), (0, j)] w (RV (0, chS i j) w) := by
  refine CallN.intro (by decide +kernel) (Nat.le_of_ble_eq_true rfl) (fun ρ hR => ?_)
  show AtN mJ1_charAt_3b067 3 ρ 0 [(0, (4, (i : Nat))), (1, (0, j))] [] w
  have hcb := chS_bd i j
  have hlb := lnS_bd i
  refine s_iload_n dJ1_charAt_3b067_0 1 rfl (s_aload_n dJ1_charAt_3b067_1 0 rfl rfl (s_alenS dJ1_charAt_3b067_2 hi9 (n_invSu (as := [(0, j), (0, ((lnS i : Nat) : Int))]) dJ1_charAt_3b067_3 kv_J0_checkIndex_df160 ml_J1_9 (c_J0_checkIndex j ((lnS i : Nat) : Int) w (by omega)) (by decide) rfl rfl (Nat.le_of_ble_eq_true rfl) (s_aload_n dJ1_charAt_3b067_6 0 rfl rfl (s_iload_n dJ1_charAt_3b067_7 1 rfl (s_baldS dJ1_charAt_3b067_8 hi9 ⟨(by omega), (by omega)⟩ (s_sipush dJ1_charAt_3b067_9 (by decide) (s_iand dJ1_charAt_3b067_12 (s_i2c dJ1_charAt_3b067_13 ?_)))))))))
  rw [and255 (chS_bd i j), i2c_id (chS_bd i j)]
  refine n_cret dJ1_charAt_3b067_14 hR rfl (chS_bd _ _) ?_
  exact ⟨rfl, rfl⟩

set_option maxRecDepth 100000 in
theorem c_J0_charAt {i : Nat} (hi9 : i < 19) (j : Int) (hj : 0 ≤ j ∧ j < ((lnS i : Nat) : Int)) (w : Wd) : CallN 4 mJ0_charAt_5068e [(3, (i : Nat)), (0, j)] w (RV (0, chS i j) w) := by
  refine CallN.intro (by decide +kernel) (Nat.le_of_ble_eq_true rfl) (fun ρ hR => ?_)
  show AtN mJ0_charAt_5068e 4 ρ 0 [(0, (3, (i : Nat))), (1, (0, j))] [] w
  refine s_aload_n dJ0_charAt_5068e_0 0 rfl rfl (n_invVS (as := []) dJ0_charAt_5068e_1 kv_J0_isLatin1_aae02 ml_J0_492 (c_J0_isLatin1 hi9 w) (by decide) hi9 rfl rfl rfl (Nat.le_of_ble_eq_true rfl) (s_if_eq 16 dJ0_charAt_5068e_4 (by decide) (kt := fun c => absurd c (by decide)) (kf := fun _ => s_aload_n dJ0_charAt_5068e_7 0 rfl rfl (s_getVa dJ0_charAt_5068e_8 hi9 fls_va (s_iload_n dJ0_charAt_5068e_11 1 rfl (n_invS (as := [(4, (i : Nat)), (0, j)]) dJ0_charAt_5068e_12 kv_J1_charAt_3b067 ml_J0_495 (c_J1_charAt hi9 j hj w) (by decide) rfl rfl (Nat.le_of_ble_eq_true rfl) (n_cret dJ0_charAt_5068e_15 hR rfl (chS_bd _ _) ?_)))))))
  exact ⟨rfl, rfl⟩

/-- text i has the sign x -/
def hasS (i : Nat) (x : Int) : Prop := ∃ j : Int, 0 ≤ j ∧ j < ((lnS i : Nat) : Int) ∧ chS i j = x
set_option maxRecDepth 100000 in
theorem c_J1_canEncode (x : Int) (w : Wd) : CallN 1 mJ1_canEncode_9a6ad [(0, x)] w (RV (0, bi (0 ≤ x ∧ x ≤ 255)) w) := by
  refine CallN.intro (by decide +kernel) (Nat.le_of_ble_eq_true rfl) (fun ρ hR => ?_)
  show AtN mJ1_canEncode_9a6ad 1 ρ 0 [(0, (0, x))] [] w
  refine s_iload_n dJ1_canEncode_9a6ad_0 0 rfl (s_if_lt 15 dJ1_canEncode_9a6ad_1 (by decide) (fun c_1 => ?_) (fun c_1 => ?_))
  · skip
    refine s_iconst dJ1_canEncode_9a6ad_15 (by decide) (n_zret dJ1_canEncode_9a6ad_16 hR rfl (by first | exact Or.inl rfl | exact Or.inr rfl | exact bi_01 _ | omega) ?_)
    refine ⟨congrArg (fun z => some ((0 : Nat), z)) ?_, rfl⟩
    first | exact (bi_t (by omega)).symm | exact (bi_f (by omega)).symm | exact bi_congr (by omega)
  · skip
    refine s_iload_n dJ1_canEncode_9a6ad_4 0 rfl (s_sipush dJ1_canEncode_9a6ad_5 (by decide) (s_icmp_gt 15 dJ1_canEncode_9a6ad_8 (by decide) (fun c_8 => ?_) (fun c_8 => ?_)))
    · skip
      refine s_iconst dJ1_canEncode_9a6ad_15 (by decide) (n_zret dJ1_canEncode_9a6ad_16 hR rfl (by first | exact Or.inl rfl | exact Or.inr rfl | exact bi_01 _ | omega) ?_)
      refine ⟨congrArg (fun z => some ((0 : Nat), z)) ?_, rfl⟩
      first | exact (bi_t (by omega)).symm | exact (bi_f (by omega)).symm | exact bi_congr (by omega)
    · skip
      refine s_iconst dJ1_canEncode_9a6ad_11 (by decide) (s_goto 16 dJ1_canEncode_9a6ad_12 (by decide) (n_zret dJ1_canEncode_9a6ad_16 hR rfl (by first | exact Or.inl rfl | exact Or.inr rfl | exact bi_01 _ | omega) ?_))
      refine ⟨congrArg (fun z => some ((0 : Nat), z)) ?_, rfl⟩
      first | exact (bi_t (by omega)).symm | exact (bi_f (by omega)).symm | exact bi_congr (by omega)

set_option maxRecDepth 100000 in
theorem c_J1_indexOfChar {i : Nat} (hi9 : i < 19) (x : Int) (hx : 0 ≤ x ∧ x ≤ 255) (w : Wd) : CallN 1 mJ1_indexOfChar_4cfef [(4, (i : Nat)), (0, x), (0, 0), (0, ((lnS i : Nat) : Int))] w (RQ (fun z w1 => w1 = w ∧ (0 ≤ z ↔ hasS i x))) := by
  refine CallN.intro (by decide +kernel) (Nat.le_of_ble_eq_true rfl) (fun ρ hR => ?_)
  show AtN mJ1_indexOfChar_4cfef 1 ρ 0 [(0, (4, (i : Nat))), (1, (0, x)), (2, (0, 0)), (3, (0, ((lnS i : Nat) : Int)))] [] w
  have hlb := lnS_bd i
  have L_7 : ∀ (fu : Nat) (j : Int), 0 ≤ j ∧ j ≤ ((lnS i : Nat) : Int) → (∀ q : Int, 0 ≤ q → q < j → chS i q ≠ x) → (((lnS i : Nat) : Int) - j).toNat < fu → AtN mJ1_indexOfChar_4cfef 1 ρ 7 [(0, (4, (i : Nat))), (1, (0, x)), (2, (0, 0)), (3, (0, ((lnS i : Nat) : Int))), (4, (0, (if x < 128 then x else x - 256))), (5, (0, j))] [] w := by
    intro fu
    induction fu with
    | zero => intro j hj hno hm; exact absurd hm (Nat.not_lt_zero _)
    | succ fu ih =>
      intro j hj hno hm
      have hcb := chS_bd i j
      have hlb := lnS_bd i
      have hy : (if x < 128 then x else x - 256) = x ∨ ((if x < 128 then x else x - 256) < 0 ∧ 128 ≤ x) := by split <;> omega
      refine s_iload dJ1_indexOfChar_4cfef_7 5 rfl (s_iload_n dJ1_indexOfChar_4cfef_9 3 rfl (s_icmp_ge 31 dJ1_indexOfChar_4cfef_10 (by decide) (fun c_10 => ?_) (fun c_10 => ?_)))
      · skip
        refine s_iconst dJ1_indexOfChar_4cfef_31 (by decide) (n_iret dJ1_indexOfChar_4cfef_32 hR rfl ?_)
        exact ⟨_, rfl, rfl, fun q => absurd q (by decide), fun ⟨q, q0, q1, q2⟩ => absurd q2 (hno q q0 (by omega))⟩
      · skip
        refine s_aload_n dJ1_indexOfChar_4cfef_13 0 rfl rfl (s_iload dJ1_indexOfChar_4cfef_14 5 rfl (s_baldS dJ1_indexOfChar_4cfef_16 hi9 ⟨(by omega), (by omega)⟩ (s_iload dJ1_indexOfChar_4cfef_17 4 rfl (s_icmp_ne 25 dJ1_indexOfChar_4cfef_19 (by decide) (fun c_19 => ?_) (fun c_19 => ?_)))))
        · skip
          refine s_iinc (z := (j + 1)) (ls' := [(0, (4, (i : Nat))), (1, (0, x)), (2, (0, 0)), (3, (0, ((lnS i : Nat) : Int))), (4, (0, (if x < 128 then x else x - 256))), (5, (0, (j + 1)))]) dJ1_indexOfChar_4cfef_25 5 rfl (Nat.le_of_ble_eq_true rfl) (wr_id (by omega) (by omega)) rfl (s_goto 7 dJ1_indexOfChar_4cfef_28 (by decide) ?_)
          exact ih (j + 1) (by omega) (fun q q0 q1 => by
  by_cases e : q = j
  · rw [e]; omega
  · exact hno q q0 (by omega)) (by omega)
        · skip
          refine s_iload dJ1_indexOfChar_4cfef_22 5 rfl (n_iret dJ1_indexOfChar_4cfef_24 hR rfl ?_)
          exact ⟨_, rfl, rfl, fun _ => ⟨j, hj.1, by omega, by omega⟩, fun _ => hj.1⟩
  refine s_iload_n dJ1_indexOfChar_4cfef_0 1 rfl (s_i2bS ⟨(by omega), (by omega)⟩ dJ1_indexOfChar_4cfef_1 (s_istore (ls' := [(0, (4, (i : Nat))), (1, (0, x)), (2, (0, 0)), (3, (0, ((lnS i : Nat) : Int))), (4, (0, (if x < 128 then x else x - 256)))]) dJ1_indexOfChar_4cfef_2 (Nat.le_of_ble_eq_true rfl) rfl (s_iload_n dJ1_indexOfChar_4cfef_4 2 rfl (s_istore (ls' := [(0, (4, (i : Nat))), (1, (0, x)), (2, (0, 0)), (3, (0, ((lnS i : Nat) : Int))), (4, (0, (if x < 128 then x else x - 256))), (5, (0, 0))]) dJ1_indexOfChar_4cfef_5 (Nat.le_of_ble_eq_true rfl) rfl ?_))))
  exact L_7 _ 0 (by omega) (fun q q0 q1 => absurd q1 (by omega)) (Nat.lt_succ_self _)

set_option maxRecDepth 100000 in
theorem c_J1_indexOf {i : Nat} (hi9 : i < 19) (x : Int) (hx : 0 ≤ x ∧ x ≤ 255) (w : Wd) : CallN 2 mJ1_indexOf_4cfef [(4, (i : Nat)), (0, x), (0, 0), (0, ((lnS i : Nat) : Int))] w (RQ (fun z w1 => w1 = w ∧ (0 ≤ z ↔ hasS i x))) := by
  refine CallN.intro (by decide +kernel) (Nat.le_of_ble_eq_true rfl) (fun ρ hR => ?_)
  show AtN mJ1_indexOf_4cfef 2 ρ 0 [(0, (4, (i : Nat))), (1, (0, x)), (2, (0, 0)), (3, (0, ((lnS i : Nat) : Int)))] [] w
  have hlb := lnS_bd i
  refine s_iload_n dJ1_indexOf_4cfef_0 1 rfl (n_invS (as := [(0, x)]) dJ1_indexOf_4cfef_1 kv_J1_canEncode_9a6ad ml_J1_88 (c_J1_canEncode x w) (by decide) rfl rfl (Nat.le_of_ble_eq_true rfl) (n_ifne_b 9 dJ1_indexOf_4cfef_4 (by decide) (fun c_4 => ?_) (fun c_4 => ?_)))
  · skip
    refine s_iload_n dJ1_indexOf_4cfef_9 2 rfl (s_iconst dJ1_indexOf_4cfef_10 (by decide) (n_invS (as := [(0, 0), (0, 0)]) dJ1_indexOf_4cfef_11 kv_J9_max_7cf53 ml_J1_92 (j_maxI 0 0 w) (by decide) rfl rfl (Nat.le_of_ble_eq_true rfl) ?_))
    rw [show mxL 0 0 = 0 from rfl]
    refine s_istore_n (ls' := [(0, (4, (i : Nat))), (1, (0, x)), (2, (0, 0)), (3, (0, ((lnS i : Nat) : Int)))]) dJ1_indexOf_4cfef_14 (Nat.le_of_ble_eq_true rfl) rfl (s_iload_n dJ1_indexOf_4cfef_15 3 rfl (s_aload_n dJ1_indexOf_4cfef_16 0 rfl rfl (s_alenS dJ1_indexOf_4cfef_17 hi9 (n_invS (as := [(0, ((lnS i : Nat) : Int)), (0, ((lnS i : Nat) : Int))]) dJ1_indexOf_4cfef_18 kv_J9_min_7cf53 ml_J1_38 (j_minI ((lnS i : Nat) : Int) ((lnS i : Nat) : Int) w) (by decide) rfl rfl (Nat.le_of_ble_eq_true rfl) ?_))))
    rw [show mnL ((lnS i : Nat) : Int) ((lnS i : Nat) : Int) = ((lnS i : Nat) : Int) from if_pos (Int.le_refl _)]
    refine s_istore_n (ls' := [(0, (4, (i : Nat))), (1, (0, x)), (2, (0, 0)), (3, (0, ((lnS i : Nat) : Int)))]) dJ1_indexOf_4cfef_21 (Nat.le_of_ble_eq_true rfl) rfl (s_iload_n dJ1_indexOf_4cfef_22 2 rfl (s_iload_n dJ1_indexOf_4cfef_23 3 rfl (s_icmp_lt 29 dJ1_indexOf_4cfef_24 (by decide) (fun c_24 => ?_) (fun c_24 => ?_))))
    · skip
      refine s_aload_n dJ1_indexOf_4cfef_29 0 rfl rfl (s_iload_n dJ1_indexOf_4cfef_30 1 rfl (s_iload_n dJ1_indexOf_4cfef_31 2 rfl (s_iload_n dJ1_indexOf_4cfef_32 3 rfl (n_invS' (as := [(4, (i : Nat)), (0, x), (0, 0), (0, ((lnS i : Nat) : Int))]) dJ1_indexOf_4cfef_33 kv_J1_indexOfChar_4cfef ml_J1_95 (c_J1_indexOfChar hi9 x hx w) (by decide) rfl rfl (Nat.le_of_ble_eq_true rfl) ?_))))
      rintro r_33 w_33 ⟨z_33, rfl, rfl, hz_33⟩
      show AtN _ _ ρ _ _ [(0, z_33)] _
      refine n_iret dJ1_indexOf_4cfef_36 hR rfl ?_
      exact ⟨_, rfl, rfl, hz_33⟩
    · skip
      refine s_iconst dJ1_indexOf_4cfef_27 (by decide) (n_iret dJ1_indexOf_4cfef_28 hR rfl ?_)
      exact ⟨_, rfl, rfl, fun q => absurd q (by decide), fun ⟨q, q0, q1, q2⟩ => absurd q1 (by omega)⟩
  · skip
    exact absurd hx c_4

set_option maxRecDepth 100000 in
theorem c_J0_indexOf2 {i : Nat} (hi9 : i < 19) (x : Int) (hx : 0 ≤ x ∧ x ≤ 255) (w : Wd) : CallN 3 mJ0_indexOf_7cf53 [(3, (i : Nat)), (0, x), (0, 0)] w (RQ (fun z w1 => w1 = w ∧ (0 ≤ z ↔ hasS i x))) := by
  refine CallN.intro (by decide +kernel) (Nat.le_of_ble_eq_true rfl) (fun ρ hR => ?_)
  show AtN mJ0_indexOf_7cf53 3 ρ 0 [(0, (3, (i : Nat))), (1, (0, x)), (2, (0, 0))] [] w
  refine s_aload_n dJ0_indexOf_7cf53_0 0 rfl rfl (n_invVS (as := []) dJ0_indexOf_7cf53_1 kv_J0_isLatin1_aae02 ml_J0_492 (c_J0_isLatin1 hi9 w) (by decide) hi9 rfl rfl rfl (Nat.le_of_ble_eq_true rfl) (s_if_eq 23 dJ0_indexOf_7cf53_4 (by decide) (kt := fun c => absurd c (by decide)) (kf := fun _ => s_aload_n dJ0_indexOf_7cf53_7 0 rfl rfl (s_getVa dJ0_indexOf_7cf53_8 hi9 fls_va (s_iload_n dJ0_indexOf_7cf53_11 1 rfl (s_iload_n dJ0_indexOf_7cf53_12 2 rfl (s_aload_n dJ0_indexOf_7cf53_13 0 rfl rfl (n_invVS (as := []) dJ0_indexOf_7cf53_14 kv_J0_length_8abf5 ml_J0_505 (c_J0_length hi9 w) (by decide) hi9 rfl rfl rfl (Nat.le_of_ble_eq_true rfl) (n_invS' (as := [(4, (i : Nat)), (0, x), (0, 0), (0, ((lnS i : Nat) : Int))]) dJ0_indexOf_7cf53_17 kv_J1_indexOf_4cfef ml_J0_637 (c_J1_indexOf hi9 x hx w) (by decide) rfl rfl (Nat.le_of_ble_eq_true rfl) ?_)))))))))
  rintro r_17 w_17 ⟨z_17, rfl, rfl, hz_17⟩
  show AtN _ _ ρ _ _ [(0, z_17)] _
  refine s_goto 36 dJ0_indexOf_7cf53_20 (by decide) (n_iret dJ0_indexOf_7cf53_36 hR rfl ?_)
  exact ⟨_, rfl, rfl, hz_17⟩

set_option maxRecDepth 100000 in
theorem c_J0_indexOf {i : Nat} (hi9 : i < 19) (x : Int) (hx : 0 ≤ x ∧ x ≤ 255) (w : Wd) : CallN 4 mJ0_indexOf_0f7a4 [(3, (i : Nat)), (0, x)] w (RQ (fun z w1 => w1 = w ∧ (0 ≤ z ↔ hasS i x))) := by
  refine CallN.intro (by decide +kernel) (Nat.le_of_ble_eq_true rfl) (fun ρ hR => ?_)
  show AtN mJ0_indexOf_0f7a4 4 ρ 0 [(0, (3, (i : Nat))), (1, (0, x))] [] w
  refine s_aload_n dJ0_indexOf_0f7a4_0 0 rfl rfl (s_iload_n dJ0_indexOf_0f7a4_1 1 rfl (s_iconst dJ0_indexOf_0f7a4_2 (by decide) (n_invVS' (as := [(0, x), (0, 0)]) dJ0_indexOf_0f7a4_3 kv_J0_indexOf_7cf53 ml_J0_633 (c_J0_indexOf2 hi9 x hx w) (by decide) hi9 rfl rfl rfl (Nat.le_of_ble_eq_true rfl) ?_)))
  rintro r_3 w_3 ⟨z_3, rfl, rfl, hz_3⟩
  show AtN _ _ ρ _ _ [(0, z_3)] _
  refine n_iret dJ0_indexOf_0f7a4_6 hR rfl ?_
  exact ⟨_, rfl, rfl, hz_3⟩

