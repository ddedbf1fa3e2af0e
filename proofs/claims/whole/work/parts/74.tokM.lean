/-! THE REFERENCE FINDS A TOKEN. -/
def seV (w : Wd) (k : Int) : Int := if k < w 141 50 then w 178 k else -1
theorem seV_c {w : Wd} {k : Int} (hch : ∀ j, 0 ≤ j → j < w 141 50 → 0 ≤ w 178 j ∧ w 178 j ≤ 255) (h : 0 ≤ k) : (k < w 141 50 ∧ seV w k = w 178 k ∧ 0 ≤ w 178 k ∧ w 178 k ≤ 255) ∨ (w 141 50 ≤ k ∧ seV w k = -1) := by
  unfold seV
  by_cases q : k < w 141 50
  · rw [if_pos q]; exact Or.inl ⟨q, rfl, hch k h q⟩
  · rw [if_neg q]; exact Or.inr ⟨by omega, rfl⟩
set_option maxRecDepth 100000 in
theorem c_M_see (k : Int) (w : Wd) (h : 0 ≤ k) (hn : w 141 50 ≤ 600) : CallN 1 mX12_see [(2, 141), (0, k)] w (RV (0, seV w k) w) := by
  refine CallN.intro (by decide +kernel) (Nat.le_of_ble_eq_true rfl) (fun ρ hR => ?_)
  show AtN mX12_see 1 ρ 0 [(0, (2, 141)), (1, (0, k))] [] w
  refine s_iload_n dX12_see_0 1 rfl (s_aload_n dX12_see_1 0 rfl rfl (n_getf 141 50 0 dX12_see_2 cf_X12 ff_X12_277 rfl sh_141 rfl (by decide) (v := (w 141 50)) rfl (s_icmp_ge 17 dX12_see_5 (by decide) (fun c_5 => ?_) (fun c_5 => ?_))))
  · skip
    refine s_iconst dX12_see_17 (by decide) (n_iret dX12_see_18 hR rfl ?_)
    refine ⟨congrArg (fun z => some ((0 : Nat), z)) ?_, rfl⟩
    unfold seV
    first | exact (if_pos (by omega)).symm | exact (if_neg (by omega)).symm
  · skip
    refine s_aload_n dX12_see_8 0 rfl rfl (n_getc (q := 178) 141 46 188 dX12_see_9 cf_X12 ff_X12_119 rfl sh_141 rfl (by decide) rfl (by decide) (s_iload_n dX12_see_12 1 rfl (n_iald 178 dX12_see_13 rfl sh_178 (by decide) ⟨(by omega), (by omega)⟩ (v := (w 178 k)) rfl (s_goto 18 dX12_see_14 (by decide) (n_iret dX12_see_18 hR rfl ?_)))))
    refine ⟨congrArg (fun z => some ((0 : Nat), z)) ?_, rfl⟩
    unfold seV
    first | exact (if_pos (by omega)).symm | exact (if_neg (by omega)).symm

set_option maxRecDepth 100000 in
theorem c_M_isLetter (c : Int) (w : Wd) : CallN 2 mX12_isLetter [(0, c)] w (RV (0, bi (isLt c)) w) := by
  refine CallN.intro (by decide +kernel) (Nat.le_of_ble_eq_true rfl) (fun ρ hR => ?_)
  show AtN mX12_isLetter 2 ρ 0 [(0, (0, c))] [] w
  refine s_iload_n dX12_isLetter_0 0 rfl (s_bipush dX12_isLetter_1 (by decide) (s_bipush dX12_isLetter_3 (by decide) (n_invS (as := [(0, c), (0, 97), (0, 122)]) dX12_isLetter_5 kv_X12_isIn ml_X12_223 (c_isIn c 97 122 w) (by decide) rfl rfl (Nat.le_of_ble_eq_true rfl) (n_ifne_b 22 dX12_isLetter_8 (by decide) (fun c_8 => ?_) (fun c_8 => ?_)))))
  · skip
    refine s_iconst dX12_isLetter_22 (by decide) (s_goto 27 dX12_isLetter_23 (by decide) (n_zret dX12_isLetter_27 hR rfl (by first | exact Or.inl rfl | exact Or.inr rfl | exact bi_01 _ | omega) ?_))
    refine ⟨congrArg (fun z => some ((0 : Nat), z)) ?_, rfl⟩
    first | exact (bi_t (by omega)).symm | exact (bi_f (by omega)).symm | exact bi_congr (by omega)
  · skip
    refine s_iload_n dX12_isLetter_11 0 rfl (s_bipush dX12_isLetter_12 (by decide) (s_bipush dX12_isLetter_14 (by decide) (n_invS (as := [(0, c), (0, 65), (0, 90)]) dX12_isLetter_16 kv_X12_isIn ml_X12_223 (c_isIn c 65 90 w) (by decide) rfl rfl (Nat.le_of_ble_eq_true rfl) (n_ifeq_b 26 dX12_isLetter_19 (by decide) (fun c_19 => ?_) (fun c_19 => ?_)))))
    · skip
      refine s_iconst dX12_isLetter_26 (by decide) (n_zret dX12_isLetter_27 hR rfl (by first | exact Or.inl rfl | exact Or.inr rfl | exact bi_01 _ | omega) ?_)
      refine ⟨congrArg (fun z => some ((0 : Nat), z)) ?_, rfl⟩
      first | exact (bi_t (by omega)).symm | exact (bi_f (by omega)).symm | exact bi_congr (by omega)
    · skip
      refine s_iconst dX12_isLetter_22 (by decide) (s_goto 27 dX12_isLetter_23 (by decide) (n_zret dX12_isLetter_27 hR rfl (by first | exact Or.inl rfl | exact Or.inr rfl | exact bi_01 _ | omega) ?_))
      refine ⟨congrArg (fun z => some ((0 : Nat), z)) ?_, rfl⟩
      first | exact (bi_t (by omega)).symm | exact (bi_f (by omega)).symm | exact bi_congr (by omega)

set_option maxRecDepth 100000 in
theorem c_M_isDigit (c : Int) (w : Wd) : CallN 2 mX12_isDigit [(0, c)] w (RV (0, bi (isDg c)) w) := by
  refine CallN.intro (by decide +kernel) (Nat.le_of_ble_eq_true rfl) (fun ρ hR => ?_)
  show AtN mX12_isDigit 2 ρ 0 [(0, (0, c))] [] w
  refine s_iload_n dX12_isDigit_0 0 rfl (s_bipush dX12_isDigit_1 (by decide) (s_bipush dX12_isDigit_3 (by decide) (n_invS (as := [(0, c), (0, 48), (0, 57)]) dX12_isDigit_5 kv_X12_isIn ml_X12_223 (c_isIn c 48 57 w) (by decide) rfl rfl (Nat.le_of_ble_eq_true rfl) (n_zret dX12_isDigit_8 hR rfl (by first | exact Or.inl rfl | exact Or.inr rfl | exact bi_01 _ | omega) ?_))))
  refine ⟨congrArg (fun z => some ((0 : Nat), z)) ?_, rfl⟩
  first | exact (bi_t (by omega)).symm | exact (bi_f (by omega)).symm | exact bi_congr (by omega)

abbrev isP (T : Int → Int) (s l : Int) (i : Nat) (m : Int) : Prop := l = ((lnS i : Nat) : Int) ∧ ∀ j : Int, 0 ≤ j → j < m → T (s + j) = chS i j
set_option maxRecDepth 100000 in
theorem c_M_is {k : Nat} (hi9 : k + 2 < 19) (w : Wd) (hl : 0 ≤ w 141 53 ∧ w 141 53 ≤ w 141 51 ∧ w 141 51 ≤ 600) : CallN 5 mX12_is [(2, 141), (3, ((k + 2) : Nat))] w (RV (0, bi (isWb (w 178) (w 141 53) (w 141 51 - w 141 53) k = true)) w) := by
  refine CallN.intro (by decide +kernel) (Nat.le_of_ble_eq_true rfl) (fun ρ hR => ?_)
  show AtN mX12_is 5 ρ 0 [(0, (2, 141)), (1, (3, ((k + 2) : Nat)))] [] w
  have hlb := lnS_bd (k + 2)
  have L_24 : ∀ (fu : Nat) (sm : Int) (q : Int), 0 ≤ q ∧ q ≤ ((lnS (k + 2) : Nat) : Int) → ((sm = 1 ∧ isP (w 178) (w 141 53) (w 141 51 - w 141 53) (k + 2) q) ∨ (sm = 0 ∧ ¬ isP (w 178) (w 141 53) (w 141 51 - w 141 53) (k + 2) (w 141 51 - w 141 53))) → (((lnS (k + 2) : Nat) : Int) - q).toNat < fu → AtN mX12_is 5 ρ 24 [(0, (2, 141)), (1, (3, ((k + 2) : Nat))), (2, (0, sm)), (3, (0, q))] [] w := by
    intro fu
    induction fu with
    | zero => intro sm q hq hs hm; exact absurd hm (Nat.not_lt_zero _)
    | succ fu ih =>
      intro sm q hq hs hm
      have hlb := lnS_bd (k + 2)
      refine s_iload_n dX12_is_24 3 rfl (s_aload_n dX12_is_25 1 rfl rfl (n_invVS (as := []) dX12_is_26 kv_J0_length_8abf5 ml_X12_286 (c_J0_length hi9 w) (by decide) hi9 rfl rfl rfl (Nat.le_of_ble_eq_true rfl) (s_icmp_ge 67 dX12_is_29 (by decide) (fun c_29 => ?_) (fun c_29 => ?_))))
      · skip
        refine s_iload_n dX12_is_67 2 rfl (n_zret dX12_is_68 hR rfl (by first | exact Or.inl rfl | exact Or.inr rfl | exact bi_01 _ | omega) ?_)
        refine ⟨congrArg (fun z => some ((0 : Nat), z)) ?_, rfl⟩
        rcases hs with ⟨y, hp⟩ | ⟨y, hp⟩
        · rw [y]
          have hpl := hp.1
          exact (bi_t (isWb_iff.mpr ⟨hpl, fun j a b => hp.2 j a (by omega)⟩)).symm
        · rw [y]
          exact (bi_f (fun z => hp (isWb_iff.mp z))).symm
      · skip
        refine s_iload_n dX12_is_32 2 rfl (s_if_eq 67 dX12_is_33 (by decide) (fun c_33 => ?_) (fun c_33 => ?_))
        · skip
          refine s_iload_n dX12_is_67 2 rfl (n_zret dX12_is_68 hR rfl (by first | exact Or.inl rfl | exact Or.inr rfl | exact bi_01 _ | omega) ?_)
          refine ⟨congrArg (fun z => some ((0 : Nat), z)) ?_, rfl⟩
          rcases hs with ⟨y, hp⟩ | ⟨y, hp⟩
          · rw [y]
            have hpl := hp.1
            exact (bi_t (isWb_iff.mpr ⟨hpl, fun j a b => hp.2 j a (by omega)⟩)).symm
          · rw [y]
            exact (bi_f (fun z => hp (isWb_iff.mp z))).symm
        · skip
          have hp : isP (w 178) (w 141 53) (w 141 51 - w 141 53) (k + 2) q := by
            rcases hs with y | y
            · exact y.2
            · omega
          have hpl := hp.1
          refine s_aload_n dX12_is_36 0 rfl rfl (n_getc (q := 178) 141 46 188 dX12_is_37 cf_X12 ff_X12_119 rfl sh_141 rfl (by decide) rfl (by decide) (s_aload_n dX12_is_40 0 rfl rfl (n_getf 141 53 0 dX12_is_41 cf_X12 ff_X12_283 rfl sh_141 rfl (by decide) (v := (w 141 53)) rfl (s_iload_n dX12_is_44 3 rfl (n_add (z := ((w 141 53) + q)) dX12_is_45 (wr_id (by omega) (by omega)) (n_iald 178 dX12_is_46 rfl sh_178 (by decide) ⟨(by omega), (by omega)⟩ (v := (w 178 ((w 141 53) + q))) rfl (s_aload_n dX12_is_47 1 rfl rfl (s_iload_n dX12_is_48 3 rfl (n_invVS (as := [(0, q)]) dX12_is_49 kv_J0_charAt_5068e ml_X12_292 (c_J0_charAt hi9 q (by omega) w) (by decide) hi9 rfl rfl rfl (Nat.le_of_ble_eq_true rfl) ?_)))))))))
          refine s_icmp_ne 59 dX12_is_52 (by decide) (fun c_52 => ?_) (fun c_52 => ?_)
          · skip
            refine s_iconst dX12_is_59 (by decide) (s_istore_n (ls' := [(0, (2, 141)), (1, (3, ((k + 2) : Nat))), (2, (0, 0)), (3, (0, q))]) dX12_is_60 (Nat.le_of_ble_eq_true rfl) rfl (s_iinc (z := (q + 1)) (ls' := [(0, (2, 141)), (1, (3, ((k + 2) : Nat))), (2, (0, 0)), (3, (0, (q + 1)))]) dX12_is_61 3 rfl (Nat.le_of_ble_eq_true rfl) (wr_id (by omega) (by omega)) rfl (s_goto 24 dX12_is_64 (by decide) ?_)))
            exact ih 0 (q + 1) (by omega) (Or.inr ⟨rfl, fun y => absurd (y.2 q hq.1 (by omega)) (by omega)⟩) (by omega)
          · skip
            refine s_iconst dX12_is_55 (by decide) (s_goto 60 dX12_is_56 (by decide) (s_istore_n (ls' := [(0, (2, 141)), (1, (3, ((k + 2) : Nat))), (2, (0, 1)), (3, (0, q))]) dX12_is_60 (Nat.le_of_ble_eq_true rfl) rfl (s_iinc (z := (q + 1)) (ls' := [(0, (2, 141)), (1, (3, ((k + 2) : Nat))), (2, (0, 1)), (3, (0, (q + 1)))]) dX12_is_61 3 rfl (Nat.le_of_ble_eq_true rfl) (wr_id (by omega) (by omega)) rfl (s_goto 24 dX12_is_64 (by decide) ?_))))
            exact ih 1 (q + 1) (by omega) (Or.inl ⟨rfl, hp.1, fun j a b => by
  by_cases e : j = q
  · rw [e]; omega
  · exact hp.2 j a (by omega)⟩) (by omega)
  refine s_aload_n dX12_is_0 0 rfl rfl (n_getf 141 51 0 dX12_is_1 cf_X12 ff_X12_280 rfl sh_141 rfl (by decide) (v := (w 141 51)) rfl (s_aload_n dX12_is_4 0 rfl rfl (n_getf 141 53 0 dX12_is_5 cf_X12 ff_X12_283 rfl sh_141 rfl (by decide) (v := (w 141 53)) rfl (n_sub (z := ((w 141 51) - (w 141 53))) dX12_is_8 (wr_id (by omega) (by omega)) (s_aload_n dX12_is_9 1 rfl rfl (n_invVS (as := []) dX12_is_10 kv_J0_length_8abf5 ml_X12_286 (c_J0_length hi9 w) (by decide) hi9 rfl rfl rfl (Nat.le_of_ble_eq_true rfl) (s_icmp_ne 20 dX12_is_13 (by decide) (fun c_13 => ?_) (fun c_13 => ?_))))))))
  · skip
    refine s_iconst dX12_is_20 (by decide) (s_istore_n (ls' := [(0, (2, 141)), (1, (3, ((k + 2) : Nat))), (2, (0, 0))]) dX12_is_21 (Nat.le_of_ble_eq_true rfl) rfl (s_iconst dX12_is_22 (by decide) (s_istore_n (ls' := [(0, (2, 141)), (1, (3, ((k + 2) : Nat))), (2, (0, 0)), (3, (0, 0))]) dX12_is_23 (Nat.le_of_ble_eq_true rfl) rfl ?_)))
    exact L_24 _ 0 0 (by omega) (Or.inr ⟨rfl, fun q => absurd q.1 (by omega)⟩) (Nat.lt_succ_self _)
  · skip
    refine s_iconst dX12_is_16 (by decide) (s_goto 21 dX12_is_17 (by decide) (s_istore_n (ls' := [(0, (2, 141)), (1, (3, ((k + 2) : Nat))), (2, (0, 1))]) dX12_is_21 (Nat.le_of_ble_eq_true rfl) rfl (s_iconst dX12_is_22 (by decide) (s_istore_n (ls' := [(0, (2, 141)), (1, (3, ((k + 2) : Nat))), (2, (0, 1)), (3, (0, 0))]) dX12_is_23 (Nat.le_of_ble_eq_true rfl) rfl ?_))))
    exact L_24 _ 1 0 (by omega) (Or.inl ⟨rfl, by omega, fun j a b => absurd b (by omega)⟩) (Nat.lt_succ_self _)

set_option maxRecDepth 100000 in
set_option maxHeartbeats 1000000 in
theorem c_M_word (w : Wd) (hl : 0 ≤ w 141 53 ∧ w 141 53 ≤ w 141 51 ∧ w 141 51 ≤ 600) : CallN 6 mX12_word [(2, 141)] w (RV (0, if 0 ≤ kwT (w 178) (w 141 53) (w 141 51 - w 141 53) then mkK (256 + kwT (w 178) (w 141 53) (w 141 51 - w 141 53)) else 1) w) := by
  refine CallN.intro (by decide +kernel) (Nat.le_of_ble_eq_true rfl) (fun ρ hR => ?_)
  show AtN mX12_word 6 ρ 0 [(0, (2, 141))] [] w
  refine s_aload_n dX12_word_0 0 rfl rfl (s_ldcwS dX12_word_1 st_2 (n_invV (as := [(3, (2 : Nat))]) dX12_word_4 kv_X12_is ml_X12_298 (c_M_is (k := 0) (by decide) w hl) (by decide) 141 cf_X12 rfl sh_141 rfl rfl rfl (Nat.le_of_ble_eq_true rfl) (n_ifeq_b 14 dX12_word_7 (by decide) (fun c_7 => ?_) (fun c_7 => ?_))))
  · skip
    refine s_aload_n dX12_word_14 0 rfl rfl (s_ldcwS dX12_word_15 st_3 (n_invV (as := [(3, (3 : Nat))]) dX12_word_18 kv_X12_is ml_X12_298 (c_M_is (k := 1) (by decide) w hl) (by decide) 141 cf_X12 rfl sh_141 rfl rfl rfl (Nat.le_of_ble_eq_true rfl) (n_ifeq_b 28 dX12_word_21 (by decide) (fun c_21 => ?_) (fun c_21 => ?_))))
    · skip
      refine s_aload_n dX12_word_28 0 rfl rfl (s_ldcwS dX12_word_29 st_4 (n_invV (as := [(3, (4 : Nat))]) dX12_word_32 kv_X12_is ml_X12_298 (c_M_is (k := 2) (by decide) w hl) (by decide) 141 cf_X12 rfl sh_141 rfl rfl rfl (Nat.le_of_ble_eq_true rfl) (n_ifeq_b 42 dX12_word_35 (by decide) (fun c_35 => ?_) (fun c_35 => ?_))))
      · skip
        refine s_aload_n dX12_word_42 0 rfl rfl (s_ldcwS dX12_word_43 st_5 (n_invV (as := [(3, (5 : Nat))]) dX12_word_46 kv_X12_is ml_X12_298 (c_M_is (k := 3) (by decide) w hl) (by decide) 141 cf_X12 rfl sh_141 rfl rfl rfl (Nat.le_of_ble_eq_true rfl) (n_ifeq_b 54 dX12_word_49 (by decide) (fun c_49 => ?_) (fun c_49 => ?_))))
        · skip
          refine s_aload_n dX12_word_54 0 rfl rfl (s_ldcwS dX12_word_55 st_6 (n_invV (as := [(3, (6 : Nat))]) dX12_word_58 kv_X12_is ml_X12_298 (c_M_is (k := 4) (by decide) w hl) (by decide) 141 cf_X12 rfl sh_141 rfl rfl rfl (Nat.le_of_ble_eq_true rfl) (n_ifeq_b 66 dX12_word_61 (by decide) (fun c_61 => ?_) (fun c_61 => ?_))))
          · skip
            refine s_aload_n dX12_word_66 0 rfl rfl (s_ldcwS dX12_word_67 st_7 (n_invV (as := [(3, (7 : Nat))]) dX12_word_70 kv_X12_is ml_X12_298 (c_M_is (k := 5) (by decide) w hl) (by decide) 141 cf_X12 rfl sh_141 rfl rfl rfl (Nat.le_of_ble_eq_true rfl) (n_ifeq_b 78 dX12_word_73 (by decide) (fun c_73 => ?_) (fun c_73 => ?_))))
            · skip
              refine s_aload_n dX12_word_78 0 rfl rfl (s_ldcwS dX12_word_79 st_8 (n_invV (as := [(3, (8 : Nat))]) dX12_word_82 kv_X12_is ml_X12_298 (c_M_is (k := 6) (by decide) w hl) (by decide) 141 cf_X12 rfl sh_141 rfl rfl rfl (Nat.le_of_ble_eq_true rfl) (n_ifeq_b 91 dX12_word_85 (by decide) (fun c_85 => ?_) (fun c_85 => ?_))))
              · skip
                refine s_aload_n dX12_word_91 0 rfl rfl (s_ldcwS dX12_word_92 st_9 (n_invV (as := [(3, (9 : Nat))]) dX12_word_95 kv_X12_is ml_X12_298 (c_M_is (k := 7) (by decide) w hl) (by decide) 141 cf_X12 rfl sh_141 rfl rfl rfl (Nat.le_of_ble_eq_true rfl) (n_ifeq_b 105 dX12_word_98 (by decide) (fun c_98 => ?_) (fun c_98 => ?_))))
                · skip
                  refine s_aload_n dX12_word_105 0 rfl rfl (s_ldcwS dX12_word_106 st_10 (n_invV (as := [(3, (10 : Nat))]) dX12_word_109 kv_X12_is ml_X12_298 (c_M_is (k := 8) (by decide) w hl) (by decide) 141 cf_X12 rfl sh_141 rfl rfl rfl (Nat.le_of_ble_eq_true rfl) (n_ifeq_b 119 dX12_word_112 (by decide) (fun c_112 => ?_) (fun c_112 => ?_))))
                  · skip
                    refine s_aload_n dX12_word_119 0 rfl rfl (s_ldcwS dX12_word_120 st_11 (n_invV (as := [(3, (11 : Nat))]) dX12_word_123 kv_X12_is ml_X12_298 (c_M_is (k := 9) (by decide) w hl) (by decide) 141 cf_X12 rfl sh_141 rfl rfl rfl (Nat.le_of_ble_eq_true rfl) (n_ifeq_b 133 dX12_word_126 (by decide) (fun c_126 => ?_) (fun c_126 => ?_))))
                    · skip
                      refine s_aload_n dX12_word_133 0 rfl rfl (s_ldcwS dX12_word_134 st_12 (n_invV (as := [(3, (12 : Nat))]) dX12_word_137 kv_X12_is ml_X12_298 (c_M_is (k := 10) (by decide) w hl) (by decide) 141 cf_X12 rfl sh_141 rfl rfl rfl (Nat.le_of_ble_eq_true rfl) (n_ifeq_b 147 dX12_word_140 (by decide) (fun c_140 => ?_) (fun c_140 => ?_))))
                      · skip
                        refine s_aload_n dX12_word_147 0 rfl rfl (s_ldcwS dX12_word_148 st_13 (n_invV (as := [(3, (13 : Nat))]) dX12_word_151 kv_X12_is ml_X12_298 (c_M_is (k := 11) (by decide) w hl) (by decide) 141 cf_X12 rfl sh_141 rfl rfl rfl (Nat.le_of_ble_eq_true rfl) (n_ifeq_b 161 dX12_word_154 (by decide) (fun c_154 => ?_) (fun c_154 => ?_))))
                        · skip
                          refine s_aload_n dX12_word_161 0 rfl rfl (s_ldcwS dX12_word_162 st_14 (n_invV (as := [(3, (14 : Nat))]) dX12_word_165 kv_X12_is ml_X12_298 (c_M_is (k := 12) (by decide) w hl) (by decide) 141 cf_X12 rfl sh_141 rfl rfl rfl (Nat.le_of_ble_eq_true rfl) (n_ifeq_b 175 dX12_word_168 (by decide) (fun c_168 => ?_) (fun c_168 => ?_))))
                          · skip
                            refine s_aload_n dX12_word_175 0 rfl rfl (s_ldcwS dX12_word_176 st_15 (n_invV (as := [(3, (15 : Nat))]) dX12_word_179 kv_X12_is ml_X12_298 (c_M_is (k := 13) (by decide) w hl) (by decide) 141 cf_X12 rfl sh_141 rfl rfl rfl (Nat.le_of_ble_eq_true rfl) (n_ifeq_b 189 dX12_word_182 (by decide) (fun c_182 => ?_) (fun c_182 => ?_))))
                            · skip
                              refine s_aload_n dX12_word_189 0 rfl rfl (s_ldcwS dX12_word_190 st_16 (n_invV (as := [(3, (16 : Nat))]) dX12_word_193 kv_X12_is ml_X12_298 (c_M_is (k := 14) (by decide) w hl) (by decide) 141 cf_X12 rfl sh_141 rfl rfl rfl (Nat.le_of_ble_eq_true rfl) (n_ifeq_b 203 dX12_word_196 (by decide) (fun c_196 => ?_) (fun c_196 => ?_))))
                              · skip
                                refine s_aload_n dX12_word_203 0 rfl rfl (s_ldcwS dX12_word_204 st_17 (n_invV (as := [(3, (17 : Nat))]) dX12_word_207 kv_X12_is ml_X12_298 (c_M_is (k := 15) (by decide) w hl) (by decide) 141 cf_X12 rfl sh_141 rfl rfl rfl (Nat.le_of_ble_eq_true rfl) (n_ifeq_b 217 dX12_word_210 (by decide) (fun c_210 => ?_) (fun c_210 => ?_))))
                                · skip
                                  refine s_aload_n dX12_word_217 0 rfl rfl (s_ldcwS dX12_word_218 st_18 (n_invV (as := [(3, (18 : Nat))]) dX12_word_221 kv_X12_is ml_X12_298 (c_M_is (k := 16) (by decide) w hl) (by decide) 141 cf_X12 rfl sh_141 rfl rfl rfl (Nat.le_of_ble_eq_true rfl) (n_ifeq_b 233 dX12_word_224 (by decide) (fun c_224 => ?_) (fun c_224 => ?_))))
                                  · skip
                                    refine s_iconst dX12_word_233 (by decide) (n_iret dX12_word_234 hR rfl ?_)
                                    have hk : kwT (w 178) (w 141 53) (w 141 51 - w 141 53) = -1 := by
                                      unfold kwT
                                      rw [kwF, if_neg c_7]
                                      rw [kwF, if_neg c_21]
                                      rw [kwF, if_neg c_35]
                                      rw [kwF, if_neg c_49]
                                      rw [kwF, if_neg c_61]
                                      rw [kwF, if_neg c_73]
                                      rw [kwF, if_neg c_85]
                                      rw [kwF, if_neg c_98]
                                      rw [kwF, if_neg c_112]
                                      rw [kwF, if_neg c_126]
                                      rw [kwF, if_neg c_140]
                                      rw [kwF, if_neg c_154]
                                      rw [kwF, if_neg c_168]
                                      rw [kwF, if_neg c_182]
                                      rw [kwF, if_neg c_196]
                                      rw [kwF, if_neg c_210]
                                      rw [kwF, if_neg c_224]
                                      rfl
                                    exact ⟨congrArg (fun z => some ((0 : Nat), z)) (by rw [hk]; rfl), rfl⟩
                                  · skip
                                    refine s_sipush dX12_word_227 (by decide) (s_goto 234 dX12_word_230 (by decide) (n_iret dX12_word_234 hR rfl ?_))
                                    have hk : kwT (w 178) (w 141 53) (w 141 51 - w 141 53) = 16 := by
                                      unfold kwT
                                      rw [kwF, if_neg c_7]
                                      rw [kwF, if_neg c_21]
                                      rw [kwF, if_neg c_35]
                                      rw [kwF, if_neg c_49]
                                      rw [kwF, if_neg c_61]
                                      rw [kwF, if_neg c_73]
                                      rw [kwF, if_neg c_85]
                                      rw [kwF, if_neg c_98]
                                      rw [kwF, if_neg c_112]
                                      rw [kwF, if_neg c_126]
                                      rw [kwF, if_neg c_140]
                                      rw [kwF, if_neg c_154]
                                      rw [kwF, if_neg c_168]
                                      rw [kwF, if_neg c_182]
                                      rw [kwF, if_neg c_196]
                                      rw [kwF, if_neg c_210]
                                      rw [kwF, if_pos c_224]
                                      rfl
                                    exact ⟨congrArg (fun z => some ((0 : Nat), z)) (by rw [hk]; rfl), rfl⟩
                                · skip
                                  refine s_sipush dX12_word_213 (by decide) (n_iret dX12_word_216 hR rfl ?_)
                                  have hk : kwT (w 178) (w 141 53) (w 141 51 - w 141 53) = 15 := by
                                    unfold kwT
                                    rw [kwF, if_neg c_7]
                                    rw [kwF, if_neg c_21]
                                    rw [kwF, if_neg c_35]
                                    rw [kwF, if_neg c_49]
                                    rw [kwF, if_neg c_61]
                                    rw [kwF, if_neg c_73]
                                    rw [kwF, if_neg c_85]
                                    rw [kwF, if_neg c_98]
                                    rw [kwF, if_neg c_112]
                                    rw [kwF, if_neg c_126]
                                    rw [kwF, if_neg c_140]
                                    rw [kwF, if_neg c_154]
                                    rw [kwF, if_neg c_168]
                                    rw [kwF, if_neg c_182]
                                    rw [kwF, if_neg c_196]
                                    rw [kwF, if_pos c_210]
                                    rfl
                                  exact ⟨congrArg (fun z => some ((0 : Nat), z)) (by rw [hk]; rfl), rfl⟩
                              · skip
                                refine s_sipush dX12_word_199 (by decide) (n_iret dX12_word_202 hR rfl ?_)
                                have hk : kwT (w 178) (w 141 53) (w 141 51 - w 141 53) = 14 := by
                                  unfold kwT
                                  rw [kwF, if_neg c_7]
                                  rw [kwF, if_neg c_21]
                                  rw [kwF, if_neg c_35]
                                  rw [kwF, if_neg c_49]
                                  rw [kwF, if_neg c_61]
                                  rw [kwF, if_neg c_73]
                                  rw [kwF, if_neg c_85]
                                  rw [kwF, if_neg c_98]
                                  rw [kwF, if_neg c_112]
                                  rw [kwF, if_neg c_126]
                                  rw [kwF, if_neg c_140]
                                  rw [kwF, if_neg c_154]
                                  rw [kwF, if_neg c_168]
                                  rw [kwF, if_neg c_182]
                                  rw [kwF, if_pos c_196]
                                  rfl
                                exact ⟨congrArg (fun z => some ((0 : Nat), z)) (by rw [hk]; rfl), rfl⟩
                            · skip
                              refine s_sipush dX12_word_185 (by decide) (n_iret dX12_word_188 hR rfl ?_)
                              have hk : kwT (w 178) (w 141 53) (w 141 51 - w 141 53) = 13 := by
                                unfold kwT
                                rw [kwF, if_neg c_7]
                                rw [kwF, if_neg c_21]
                                rw [kwF, if_neg c_35]
                                rw [kwF, if_neg c_49]
                                rw [kwF, if_neg c_61]
                                rw [kwF, if_neg c_73]
                                rw [kwF, if_neg c_85]
                                rw [kwF, if_neg c_98]
                                rw [kwF, if_neg c_112]
                                rw [kwF, if_neg c_126]
                                rw [kwF, if_neg c_140]
                                rw [kwF, if_neg c_154]
                                rw [kwF, if_neg c_168]
                                rw [kwF, if_pos c_182]
                                rfl
                              exact ⟨congrArg (fun z => some ((0 : Nat), z)) (by rw [hk]; rfl), rfl⟩
                          · skip
                            refine s_sipush dX12_word_171 (by decide) (n_iret dX12_word_174 hR rfl ?_)
                            have hk : kwT (w 178) (w 141 53) (w 141 51 - w 141 53) = 12 := by
                              unfold kwT
                              rw [kwF, if_neg c_7]
                              rw [kwF, if_neg c_21]
                              rw [kwF, if_neg c_35]
                              rw [kwF, if_neg c_49]
                              rw [kwF, if_neg c_61]
                              rw [kwF, if_neg c_73]
                              rw [kwF, if_neg c_85]
                              rw [kwF, if_neg c_98]
                              rw [kwF, if_neg c_112]
                              rw [kwF, if_neg c_126]
                              rw [kwF, if_neg c_140]
                              rw [kwF, if_neg c_154]
                              rw [kwF, if_pos c_168]
                              rfl
                            exact ⟨congrArg (fun z => some ((0 : Nat), z)) (by rw [hk]; rfl), rfl⟩
                        · skip
                          refine s_sipush dX12_word_157 (by decide) (n_iret dX12_word_160 hR rfl ?_)
                          have hk : kwT (w 178) (w 141 53) (w 141 51 - w 141 53) = 11 := by
                            unfold kwT
                            rw [kwF, if_neg c_7]
                            rw [kwF, if_neg c_21]
                            rw [kwF, if_neg c_35]
                            rw [kwF, if_neg c_49]
                            rw [kwF, if_neg c_61]
                            rw [kwF, if_neg c_73]
                            rw [kwF, if_neg c_85]
                            rw [kwF, if_neg c_98]
                            rw [kwF, if_neg c_112]
                            rw [kwF, if_neg c_126]
                            rw [kwF, if_neg c_140]
                            rw [kwF, if_pos c_154]
                            rfl
                          exact ⟨congrArg (fun z => some ((0 : Nat), z)) (by rw [hk]; rfl), rfl⟩
                      · skip
                        refine s_sipush dX12_word_143 (by decide) (n_iret dX12_word_146 hR rfl ?_)
                        have hk : kwT (w 178) (w 141 53) (w 141 51 - w 141 53) = 10 := by
                          unfold kwT
                          rw [kwF, if_neg c_7]
                          rw [kwF, if_neg c_21]
                          rw [kwF, if_neg c_35]
                          rw [kwF, if_neg c_49]
                          rw [kwF, if_neg c_61]
                          rw [kwF, if_neg c_73]
                          rw [kwF, if_neg c_85]
                          rw [kwF, if_neg c_98]
                          rw [kwF, if_neg c_112]
                          rw [kwF, if_neg c_126]
                          rw [kwF, if_pos c_140]
                          rfl
                        exact ⟨congrArg (fun z => some ((0 : Nat), z)) (by rw [hk]; rfl), rfl⟩
                    · skip
                      refine s_sipush dX12_word_129 (by decide) (n_iret dX12_word_132 hR rfl ?_)
                      have hk : kwT (w 178) (w 141 53) (w 141 51 - w 141 53) = 9 := by
                        unfold kwT
                        rw [kwF, if_neg c_7]
                        rw [kwF, if_neg c_21]
                        rw [kwF, if_neg c_35]
                        rw [kwF, if_neg c_49]
                        rw [kwF, if_neg c_61]
                        rw [kwF, if_neg c_73]
                        rw [kwF, if_neg c_85]
                        rw [kwF, if_neg c_98]
                        rw [kwF, if_neg c_112]
                        rw [kwF, if_pos c_126]
                        rfl
                      exact ⟨congrArg (fun z => some ((0 : Nat), z)) (by rw [hk]; rfl), rfl⟩
                  · skip
                    refine s_sipush dX12_word_115 (by decide) (n_iret dX12_word_118 hR rfl ?_)
                    have hk : kwT (w 178) (w 141 53) (w 141 51 - w 141 53) = 8 := by
                      unfold kwT
                      rw [kwF, if_neg c_7]
                      rw [kwF, if_neg c_21]
                      rw [kwF, if_neg c_35]
                      rw [kwF, if_neg c_49]
                      rw [kwF, if_neg c_61]
                      rw [kwF, if_neg c_73]
                      rw [kwF, if_neg c_85]
                      rw [kwF, if_neg c_98]
                      rw [kwF, if_pos c_112]
                      rfl
                    exact ⟨congrArg (fun z => some ((0 : Nat), z)) (by rw [hk]; rfl), rfl⟩
                · skip
                  refine s_sipush dX12_word_101 (by decide) (n_iret dX12_word_104 hR rfl ?_)
                  have hk : kwT (w 178) (w 141 53) (w 141 51 - w 141 53) = 7 := by
                    unfold kwT
                    rw [kwF, if_neg c_7]
                    rw [kwF, if_neg c_21]
                    rw [kwF, if_neg c_35]
                    rw [kwF, if_neg c_49]
                    rw [kwF, if_neg c_61]
                    rw [kwF, if_neg c_73]
                    rw [kwF, if_neg c_85]
                    rw [kwF, if_pos c_98]
                    rfl
                  exact ⟨congrArg (fun z => some ((0 : Nat), z)) (by rw [hk]; rfl), rfl⟩
              · skip
                refine s_bipush dX12_word_88 (by decide) (n_iret dX12_word_90 hR rfl ?_)
                have hk : kwT (w 178) (w 141 53) (w 141 51 - w 141 53) = 6 := by
                  unfold kwT
                  rw [kwF, if_neg c_7]
                  rw [kwF, if_neg c_21]
                  rw [kwF, if_neg c_35]
                  rw [kwF, if_neg c_49]
                  rw [kwF, if_neg c_61]
                  rw [kwF, if_neg c_73]
                  rw [kwF, if_pos c_85]
                  rfl
                exact ⟨congrArg (fun z => some ((0 : Nat), z)) (by rw [hk]; rfl), rfl⟩
            · skip
              refine s_iconst dX12_word_76 (by decide) (n_iret dX12_word_77 hR rfl ?_)
              have hk : kwT (w 178) (w 141 53) (w 141 51 - w 141 53) = 5 := by
                unfold kwT
                rw [kwF, if_neg c_7]
                rw [kwF, if_neg c_21]
                rw [kwF, if_neg c_35]
                rw [kwF, if_neg c_49]
                rw [kwF, if_neg c_61]
                rw [kwF, if_pos c_73]
                rfl
              exact ⟨congrArg (fun z => some ((0 : Nat), z)) (by rw [hk]; rfl), rfl⟩
          · skip
            refine s_iconst dX12_word_64 (by decide) (n_iret dX12_word_65 hR rfl ?_)
            have hk : kwT (w 178) (w 141 53) (w 141 51 - w 141 53) = 4 := by
              unfold kwT
              rw [kwF, if_neg c_7]
              rw [kwF, if_neg c_21]
              rw [kwF, if_neg c_35]
              rw [kwF, if_neg c_49]
              rw [kwF, if_pos c_61]
              rfl
            exact ⟨congrArg (fun z => some ((0 : Nat), z)) (by rw [hk]; rfl), rfl⟩
        · skip
          refine s_iconst dX12_word_52 (by decide) (n_iret dX12_word_53 hR rfl ?_)
          have hk : kwT (w 178) (w 141 53) (w 141 51 - w 141 53) = 3 := by
            unfold kwT
            rw [kwF, if_neg c_7]
            rw [kwF, if_neg c_21]
            rw [kwF, if_neg c_35]
            rw [kwF, if_pos c_49]
            rfl
          exact ⟨congrArg (fun z => some ((0 : Nat), z)) (by rw [hk]; rfl), rfl⟩
      · skip
        refine s_sipush dX12_word_38 (by decide) (n_iret dX12_word_41 hR rfl ?_)
        have hk : kwT (w 178) (w 141 53) (w 141 51 - w 141 53) = 2 := by
          unfold kwT
          rw [kwF, if_neg c_7]
          rw [kwF, if_neg c_21]
          rw [kwF, if_pos c_35]
          rfl
        exact ⟨congrArg (fun z => some ((0 : Nat), z)) (by rw [hk]; rfl), rfl⟩
    · skip
      refine s_sipush dX12_word_24 (by decide) (n_iret dX12_word_27 hR rfl ?_)
      have hk : kwT (w 178) (w 141 53) (w 141 51 - w 141 53) = 1 := by
        unfold kwT
        rw [kwF, if_neg c_7]
        rw [kwF, if_pos c_21]
        rfl
      exact ⟨congrArg (fun z => some ((0 : Nat), z)) (by rw [hk]; rfl), rfl⟩
  · skip
    refine s_sipush dX12_word_10 (by decide) (n_iret dX12_word_13 hR rfl ?_)
    have hk : kwT (w 178) (w 141 53) (w 141 51 - w 141 53) = 0 := by
      unfold kwT
      rw [kwF, if_pos c_7]
      rfl
    exact ⟨congrArg (fun z => some ((0 : Nat), z)) (by rw [hk]; rfl), rfl⟩

