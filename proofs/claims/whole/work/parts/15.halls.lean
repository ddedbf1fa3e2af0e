/-! HALLS AND SETS. -/
/-- the first place below n at which f is h; -1 without -/
def fst (f : Int → Int) (h : Int) : Nat → Int
  | 0 => -1
  | n + 1 => if fst f h n = -1 then (if f (n : Int) = h then (n : Int) else -1) else fst f h n
theorem fst_spec (f : Int → Int) (h : Int) : ∀ n : Nat, (fst f h n = -1 ∧ ∀ j : Int, 0 ≤ j → j < n → f j ≠ h) ∨ (0 ≤ fst f h n ∧ fst f h n < n ∧ f (fst f h n) = h ∧ ∀ j : Int, 0 ≤ j → j < fst f h n → f j ≠ h)
  | 0 => Or.inl ⟨rfl, fun j h1 h2 => by omega⟩
  | n + 1 => by
    rcases fst_spec f h n with ⟨h1, h2⟩ | ⟨h1, h2, h3, h4⟩
    · by_cases e : f (n : Int) = h
      · right
        have e1 : fst f h (n + 1) = (n : Int) := by simp [fst, h1, e]
        rw [e1]
        exact ⟨by omega, by omega, e, fun j q1 q2 => h2 j q1 q2⟩
      · left
        have e1 : fst f h (n + 1) = -1 := by simp [fst, h1, e]
        rw [e1]
        refine ⟨rfl, fun j q1 q2 => ?_⟩
        by_cases e2 : j = n
        · rw [e2]; exact e
        · exact h2 j q1 (by omega)
    · right
      have e1 : fst f h (n + 1) = fst f h n := by simp [fst, show ¬ fst f h n = -1 by omega]
      rw [e1]
      exact ⟨h1, by omega, h3, h4⟩
theorem fst_step {f : Int → Int} {h i : Int} (h0 : 0 ≤ i) (h1 : fst f h i.toNat = -1) (h2 : f i ≠ h) : fst f h (i + 1).toNat = -1 := by
  have e : (i + 1).toNat = i.toNat + 1 := by omega
  have e2 : ((i.toNat : Nat) : Int) = i := by omega
  rw [e, fst, if_pos h1, e2, if_neg h2]
theorem fst_hit {f : Int → Int} {h i : Int} (h0 : 0 ≤ i) (h1 : fst f h i.toNat = -1) (h2 : f i = h) : ∀ n : Nat, i < n → fst f h n = i
  | 0, q => by omega
  | n + 1, q => by
    by_cases e : i = n
    · have e3 : i.toNat = n := by omega
      rw [e3] at h1
      rw [fst, if_pos h1, ← e, if_pos h2]
    · have := fst_hit h0 h1 h2 n (by omega)
      rw [fst, this, if_neg (by omega)]
theorem refb_nat (k : Nat) : refb (2, ((k : Nat) : Int)) = true := decide_eq_true (Int.natCast_nonneg k)
def mvW (w : Wd) (ka kb : Nat) (t h : Int) : Wd :=
  let w1 := if w ka t = -1 then w else wu w kb (w ka t) (-1)
  let w2 := if h = -1 then w1 else wu w1 kb h t
  wu w2 ka t h

set_option maxRecDepth 100000 in
theorem c_X_hasHall (q : Int) (w : Wd) : CallN 1 mX3_hasHall [(2, 15), (0, q)] w (RV (0, bi (0 ≤ q ∧ q < w 15 10)) w) := by
  refine CallN.intro (by decide +kernel) (Nat.le_of_ble_eq_true rfl) (fun ρ hR => ?_)
  show AtN mX3_hasHall 1 ρ 0 [(0, (2, 15)), (1, (0, q))] [] w
  refine s_iload_n dX3_hasHall_0 1 rfl (s_if_lt 16 dX3_hasHall_1 (by decide) (fun c_1 => ?_) (fun c_1 => ?_))
  · skip
    refine s_iconst dX3_hasHall_16 (by decide) (n_zret dX3_hasHall_17 hR rfl (by first | exact Or.inl rfl | exact Or.inr rfl | exact bi_01 _ | omega) ?_)
    refine ⟨congrArg (fun z => some ((0 : Nat), z)) ?_, rfl⟩
    first | exact (bi_t (by omega)).symm | exact (bi_f (by omega)).symm | exact bi_congr (by omega)
  · skip
    refine s_iload_n dX3_hasHall_4 1 rfl (s_aload_n dX3_hasHall_5 0 rfl rfl (n_getf 15 10 0 dX3_hasHall_6 cf_X3 ff_X3_63 rfl sh_15 rfl (by decide) (v := (w 15 10)) rfl (s_icmp_ge 16 dX3_hasHall_9 (by decide) (fun c_9 => ?_) (fun c_9 => ?_))))
    · skip
      refine s_iconst dX3_hasHall_16 (by decide) (n_zret dX3_hasHall_17 hR rfl (by first | exact Or.inl rfl | exact Or.inr rfl | exact bi_01 _ | omega) ?_)
      refine ⟨congrArg (fun z => some ((0 : Nat), z)) ?_, rfl⟩
      first | exact (bi_t (by omega)).symm | exact (bi_f (by omega)).symm | exact bi_congr (by omega)
    · skip
      refine s_iconst dX3_hasHall_12 (by decide) (s_goto 17 dX3_hasHall_13 (by decide) (n_zret dX3_hasHall_17 hR rfl (by first | exact Or.inl rfl | exact Or.inr rfl | exact bi_01 _ | omega) ?_))
      refine ⟨congrArg (fun z => some ((0 : Nat), z)) ?_, rfl⟩
      first | exact (bi_t (by omega)).symm | exact (bi_f (by omega)).symm | exact bi_congr (by omega)

set_option maxRecDepth 100000 in
theorem c_X_hasSet (q : Int) (w : Wd) : CallN 1 mX3_hasSet [(2, 15), (0, q)] w (RV (0, bi (0 ≤ q ∧ q < w 15 15)) w) := by
  refine CallN.intro (by decide +kernel) (Nat.le_of_ble_eq_true rfl) (fun ρ hR => ?_)
  show AtN mX3_hasSet 1 ρ 0 [(0, (2, 15)), (1, (0, q))] [] w
  refine s_iload_n dX3_hasSet_0 1 rfl (s_if_lt 16 dX3_hasSet_1 (by decide) (fun c_1 => ?_) (fun c_1 => ?_))
  · skip
    refine s_iconst dX3_hasSet_16 (by decide) (n_zret dX3_hasSet_17 hR rfl (by first | exact Or.inl rfl | exact Or.inr rfl | exact bi_01 _ | omega) ?_)
    refine ⟨congrArg (fun z => some ((0 : Nat), z)) ?_, rfl⟩
    first | exact (bi_t (by omega)).symm | exact (bi_f (by omega)).symm | exact bi_congr (by omega)
  · skip
    refine s_iload_n dX3_hasSet_4 1 rfl (s_aload_n dX3_hasSet_5 0 rfl rfl (n_getf 15 15 0 dX3_hasSet_6 cf_X3 ff_X3_71 rfl sh_15 rfl (by decide) (v := (w 15 15)) rfl (s_icmp_ge 16 dX3_hasSet_9 (by decide) (fun c_9 => ?_) (fun c_9 => ?_))))
    · skip
      refine s_iconst dX3_hasSet_16 (by decide) (n_zret dX3_hasSet_17 hR rfl (by first | exact Or.inl rfl | exact Or.inr rfl | exact bi_01 _ | omega) ?_)
      refine ⟨congrArg (fun z => some ((0 : Nat), z)) ?_, rfl⟩
      first | exact (bi_t (by omega)).symm | exact (bi_f (by omega)).symm | exact bi_congr (by omega)
    · skip
      refine s_iconst dX3_hasSet_12 (by decide) (s_goto 17 dX3_hasSet_13 (by decide) (n_zret dX3_hasSet_17 hR rfl (by first | exact Or.inl rfl | exact Or.inr rfl | exact bi_01 _ | omega) ?_))
      refine ⟨congrArg (fun z => some ((0 : Nat), z)) ?_, rfl⟩
      first | exact (bi_t (by omega)).symm | exact (bi_f (by omega)).symm | exact bi_congr (by omega)

set_option maxRecDepth 100000 in
theorem c_X_goesTo (q : Int) (w : Wd) : CallN 2 mX3_goesTo [(2, 15), (0, q)] w (RV (0, bi (q = -1 ∨ (0 ≤ q ∧ q < w 15 10))) w) := by
  refine CallN.intro (by decide +kernel) (Nat.le_of_ble_eq_true rfl) (fun ρ hR => ?_)
  show AtN mX3_goesTo 2 ρ 0 [(0, (2, 15)), (1, (0, q))] [] w
  refine s_iload_n dX3_goesTo_0 1 rfl (s_iconst dX3_goesTo_1 (by decide) (s_icmp_eq 13 dX3_goesTo_2 (by decide) (fun c_2 => ?_) (fun c_2 => ?_)))
  · skip
    refine s_iconst dX3_goesTo_13 (by decide) (s_goto 18 dX3_goesTo_14 (by decide) (n_zret dX3_goesTo_18 hR rfl (by first | exact Or.inl rfl | exact Or.inr rfl | exact bi_01 _ | omega) ?_))
    refine ⟨congrArg (fun z => some ((0 : Nat), z)) ?_, rfl⟩
    first | exact (bi_t (by omega)).symm | exact (bi_f (by omega)).symm | exact bi_congr (by omega)
  · skip
    refine s_aload_n dX3_goesTo_5 0 rfl rfl (s_iload_n dX3_goesTo_6 1 rfl (n_invV (as := [(0, q)]) dX3_goesTo_7 kv_X3_hasHall ml_X3_67 (c_X_hasHall q w) (by decide) 15 cf_X3 rfl sh_15 rfl rfl rfl (Nat.le_of_ble_eq_true rfl) (n_ifeq_b 17 dX3_goesTo_10 (by decide) (fun c_10 => ?_) (fun c_10 => ?_))))
    · skip
      refine s_iconst dX3_goesTo_17 (by decide) (n_zret dX3_goesTo_18 hR rfl (by first | exact Or.inl rfl | exact Or.inr rfl | exact bi_01 _ | omega) ?_)
      refine ⟨congrArg (fun z => some ((0 : Nat), z)) ?_, rfl⟩
      first | exact (bi_t (by omega)).symm | exact (bi_f (by omega)).symm | exact bi_congr (by omega)
    · skip
      refine s_iconst dX3_goesTo_13 (by decide) (s_goto 18 dX3_goesTo_14 (by decide) (n_zret dX3_goesTo_18 hR rfl (by first | exact Or.inl rfl | exact Or.inr rfl | exact bi_01 _ | omega) ?_))
      refine ⟨congrArg (fun z => some ((0 : Nat), z)) ?_, rfl⟩
      first | exact (bi_t (by omega)).symm | exact (bi_f (by omega)).symm | exact bi_congr (by omega)

set_option maxRecDepth 100000 in
theorem c_X_addHall (t s p b : Int) (w : Wd) (h : 0 ≤ w 15 10 ∧ w 15 10 ≤ 16) : CallN 3 mX3_addHall [(2, 15), (0, t), (0, s), (0, p), (0, b)] w (RQ (Two (((0 ≤ t ∧ t ≤ 3) ∧ (10 ≤ s ∧ s ≤ 999) ∧ (1 ≤ p ∧ p ≤ 99) ∧ (0 ≤ b ∧ b ≤ 40)) ∧ w 15 10 < 16) w (-1) (w 15 10) (wu (wu (wu (wu (wu (wu (wu w 16 (w 15 10) t) 17 (w 15 10) s) 18 (w 15 10) p) 19 (w 15 10) b) 24 (w 15 10) (-1)) 25 (w 15 10) (-1)) 15 10 ((w 15 10) + 1)))) := by
  refine CallN.intro (by decide +kernel) (Nat.le_of_ble_eq_true rfl) (fun ρ hR => ?_)
  show AtN mX3_addHall 3 ρ 0 [(0, (2, 15)), (1, (0, t)), (2, (0, s)), (3, (0, p)), (4, (0, b))] [] w
  refine s_iload_n dX3_addHall_0 1 rfl (s_iconst dX3_addHall_1 (by decide) (s_iconst dX3_addHall_2 (by decide) (n_invT (as := [(0, t), (0, 0), (0, 3)]) dX3_addHall_3 kv_X11_within ml_X3_55 (c_within t 0 3 w) (by decide) rfl rfl (Nat.le_of_ble_eq_true rfl) (n_ifeq_b 34 dX3_addHall_6 (by decide) (fun c_6 => ?_) (fun c_6 => ?_)))))
  · skip
    refine s_iconst dX3_addHall_34 (by decide) (s_istore (ls' := [(0, (2, 15)), (1, (0, t)), (2, (0, s)), (3, (0, p)), (4, (0, b)), (5, (0, 0))]) dX3_addHall_35 (Nat.le_of_ble_eq_true rfl) rfl (s_iload dX3_addHall_37 5 rfl (s_if_eq 51 dX3_addHall_39 (by decide) (kf := fun c => absurd c (by decide)) (kt := fun _ => s_iconst dX3_addHall_51 (by decide) (n_iret dX3_addHall_52 hR rfl ?_)))))
    first | exact ⟨_, rfl, Or.inl ⟨by omega, by omega, rfl⟩⟩ | exact ⟨_, rfl, Or.inr ⟨by omega, by omega, rfl⟩⟩ | (exfalso; omega)
  · skip
    refine s_iload_n dX3_addHall_9 2 rfl (s_bipush dX3_addHall_10 (by decide) (s_sipush dX3_addHall_12 (by decide) (n_invT (as := [(0, s), (0, 10), (0, 999)]) dX3_addHall_15 kv_X11_within ml_X3_55 (c_within s 10 999 w) (by decide) rfl rfl (Nat.le_of_ble_eq_true rfl) (n_ifeq_b 34 dX3_addHall_18 (by decide) (fun c_18 => ?_) (fun c_18 => ?_)))))
    · skip
      refine s_iconst dX3_addHall_34 (by decide) (s_istore (ls' := [(0, (2, 15)), (1, (0, t)), (2, (0, s)), (3, (0, p)), (4, (0, b)), (5, (0, 0))]) dX3_addHall_35 (Nat.le_of_ble_eq_true rfl) rfl (s_iload dX3_addHall_37 5 rfl (s_if_eq 51 dX3_addHall_39 (by decide) (kf := fun c => absurd c (by decide)) (kt := fun _ => s_iconst dX3_addHall_51 (by decide) (n_iret dX3_addHall_52 hR rfl ?_)))))
      first | exact ⟨_, rfl, Or.inl ⟨by omega, by omega, rfl⟩⟩ | exact ⟨_, rfl, Or.inr ⟨by omega, by omega, rfl⟩⟩ | (exfalso; omega)
    · skip
      refine s_iload_n dX3_addHall_21 3 rfl (s_iload dX3_addHall_22 4 rfl (n_invS (as := [(0, p), (0, b)]) dX3_addHall_24 kv_X3_canAsk ml_X3_59 (c_X_canAsk p b w) (by decide) rfl rfl (Nat.le_of_ble_eq_true rfl) (n_ifeq_b 34 dX3_addHall_27 (by decide) (fun c_27 => ?_) (fun c_27 => ?_))))
      · skip
        refine s_iconst dX3_addHall_34 (by decide) (s_istore (ls' := [(0, (2, 15)), (1, (0, t)), (2, (0, s)), (3, (0, p)), (4, (0, b)), (5, (0, 0))]) dX3_addHall_35 (Nat.le_of_ble_eq_true rfl) rfl (s_iload dX3_addHall_37 5 rfl (s_if_eq 51 dX3_addHall_39 (by decide) (kf := fun c => absurd c (by decide)) (kt := fun _ => s_iconst dX3_addHall_51 (by decide) (n_iret dX3_addHall_52 hR rfl ?_)))))
        first | exact ⟨_, rfl, Or.inl ⟨by omega, by omega, rfl⟩⟩ | exact ⟨_, rfl, Or.inr ⟨by omega, by omega, rfl⟩⟩ | (exfalso; omega)
      · skip
        refine s_iconst dX3_addHall_30 (by decide) (s_goto 35 dX3_addHall_31 (by decide) (s_istore (ls' := [(0, (2, 15)), (1, (0, t)), (2, (0, s)), (3, (0, p)), (4, (0, b)), (5, (0, 1))]) dX3_addHall_35 (Nat.le_of_ble_eq_true rfl) rfl (s_iload dX3_addHall_37 5 rfl (s_if_eq 51 dX3_addHall_39 (by decide) (kt := fun c => absurd c (by decide)) (kf := fun _ => s_aload_n dX3_addHall_42 0 rfl rfl (n_getf 15 10 0 dX3_addHall_43 cf_X3 ff_X3_63 rfl sh_15 rfl (by decide) (v := (w 15 10)) rfl (s_bipush dX3_addHall_46 (by decide) (s_icmp_lt 53 dX3_addHall_48 (by decide) (fun c_48 => ?_) (fun c_48 => ?_)))))))))
        · skip
          refine s_aload_n dX3_addHall_53 0 rfl rfl (n_getc (q := 16) 15 0 26 dX3_addHall_54 cf_X3 ff_X3_9 rfl sh_15 rfl (by decide) rfl (by decide) (s_aload_n dX3_addHall_57 0 rfl rfl (n_getf 15 10 0 dX3_addHall_58 cf_X3 ff_X3_63 rfl sh_15 rfl (by decide) (v := (w 15 10)) rfl (s_iload_n dX3_addHall_61 1 rfl (s_iastore 16 dX3_addHall_62 rfl sh_16 (by decide) ⟨(by omega), (by omega)⟩ (s_aload_n dX3_addHall_63 0 rfl rfl (n_getc (q := 17) 15 1 27 dX3_addHall_64 cf_X3 ff_X3_15 rfl sh_15 rfl (by decide) rfl (by decide) (s_aload_n dX3_addHall_67 0 rfl rfl (n_getf 15 10 0 dX3_addHall_68 cf_X3 ff_X3_63 rfl sh_15 rfl (by decide) (v := (w 15 10)) rfl ?_)))))))))
          refine s_iload_n dX3_addHall_71 2 rfl (s_iastore 17 dX3_addHall_72 rfl sh_17 (by decide) ⟨(by omega), (by omega)⟩ (s_aload_n dX3_addHall_73 0 rfl rfl (n_getc (q := 18) 15 2 28 dX3_addHall_74 cf_X3 ff_X3_18 rfl sh_15 rfl (by decide) rfl (by decide) (s_aload_n dX3_addHall_77 0 rfl rfl (n_getf 15 10 0 dX3_addHall_78 cf_X3 ff_X3_63 rfl sh_15 rfl (by decide) (v := (w 15 10)) rfl (s_iload_n dX3_addHall_81 3 rfl (s_iastore 18 dX3_addHall_82 rfl sh_18 (by decide) ⟨(by omega), (by omega)⟩ (s_aload_n dX3_addHall_83 0 rfl rfl (n_getc (q := 19) 15 3 29 dX3_addHall_84 cf_X3 ff_X3_21 rfl sh_15 rfl (by decide) rfl (by decide) ?_)))))))))
          refine s_aload_n dX3_addHall_87 0 rfl rfl (n_getf 15 10 0 dX3_addHall_88 cf_X3 ff_X3_63 rfl sh_15 rfl (by decide) (v := (w 15 10)) rfl (s_iload dX3_addHall_91 4 rfl (s_iastore 19 dX3_addHall_93 rfl sh_19 (by decide) ⟨(by omega), (by omega)⟩ (s_aload_n dX3_addHall_94 0 rfl rfl (n_getc (q := 24) 15 8 34 dX3_addHall_95 cf_X3 ff_X3_37 rfl sh_15 rfl (by decide) rfl (by decide) (s_aload_n dX3_addHall_98 0 rfl rfl (n_getf 15 10 0 dX3_addHall_99 cf_X3 ff_X3_63 rfl sh_15 rfl (by decide) (v := (w 15 10)) rfl (s_iconst dX3_addHall_102 (by decide) (s_iastore 24 dX3_addHall_103 rfl sh_24 (by decide) ⟨(by omega), (by omega)⟩ ?_)))))))))
          refine s_aload_n dX3_addHall_104 0 rfl rfl (n_getc (q := 25) 15 9 35 dX3_addHall_105 cf_X3 ff_X3_40 rfl sh_15 rfl (by decide) rfl (by decide) (s_aload_n dX3_addHall_108 0 rfl rfl (n_getf 15 10 0 dX3_addHall_109 cf_X3 ff_X3_63 rfl sh_15 rfl (by decide) (v := (w 15 10)) rfl (s_iconst dX3_addHall_112 (by decide) (s_iastore 25 dX3_addHall_113 rfl sh_25 (by decide) ⟨(by omega), (by omega)⟩ (s_aload_n dX3_addHall_114 0 rfl rfl (s_dup dX3_addHall_115 (show (2 : Nat) ≠ 1 by decide) (n_getf 15 10 0 dX3_addHall_116 cf_X3 ff_X3_63 rfl sh_15 rfl (by decide) (v := (w 15 10)) rfl (s_iconst dX3_addHall_119 (by decide) ?_)))))))))
          refine n_add (z := ((w 15 10) + 1)) dX3_addHall_120 (wr_id (by omega) (by omega)) (n_putf 15 10 10 dX3_addHall_121 cf_X3 ff_X3_63 rfl rfl sh_15 rfl rfl rfl (s_aload_n dX3_addHall_124 0 rfl rfl (n_getf 15 10 0 dX3_addHall_125 cf_X3 ff_X3_63 rfl sh_15 rfl (by decide) (v := ((w 15 10) + 1)) rfl (s_iconst dX3_addHall_128 (by decide) (n_sub (z := (((w 15 10) + 1) - 1)) dX3_addHall_129 (wr_id (by omega) (by omega)) (n_iret dX3_addHall_130 hR rfl ?_))))))
          first | exact ⟨_, rfl, Or.inl ⟨by omega, by omega, rfl⟩⟩ | exact ⟨_, rfl, Or.inr ⟨by omega, by omega, rfl⟩⟩ | (exfalso; omega)
        · skip
          refine s_iconst dX3_addHall_51 (by decide) (n_iret dX3_addHall_52 hR rfl ?_)
          first | exact ⟨_, rfl, Or.inl ⟨by omega, by omega, rfl⟩⟩ | exact ⟨_, rfl, Or.inr ⟨by omega, by omega, rfl⟩⟩ | (exfalso; omega)

set_option maxRecDepth 100000 in
theorem x_hall (t s p b : Int) (w : Wd) (h : 0 ≤ w 15 10 ∧ w 15 10 ≤ 16) : CallN 4 mX11_hall [(2, 0), (0, t), (0, s), (0, p), (0, b)] w (RQ (Two (((0 ≤ t ∧ t ≤ 3) ∧ (10 ≤ s ∧ s ≤ 999) ∧ (1 ≤ p ∧ p ≤ 99) ∧ (0 ≤ b ∧ b ≤ 40)) ∧ w 15 10 < 16) w (-1) (w 15 10) (wu (wu (wu (wu (wu (wu (wu w 16 (w 15 10) t) 17 (w 15 10) s) 18 (w 15 10) p) 19 (w 15 10) b) 24 (w 15 10) (-1)) 25 (w 15 10) (-1)) 15 10 ((w 15 10) + 1)))) := by
  refine CallN.intro (by decide +kernel) (Nat.le_of_ble_eq_true rfl) (fun ρ hR => ?_)
  show AtN mX11_hall 4 ρ 0 [(0, (2, 0)), (1, (0, t)), (2, (0, s)), (3, (0, p)), (4, (0, b))] [] w
  refine s_aload_n dX11_hall_0 0 rfl rfl (n_getc (q := 15) 0 1 25 dX11_hall_1 cf_X11 ff_X11_19 rfl sh_0 rfl (by decide) rfl (by decide) (s_iload_n dX11_hall_4 1 rfl (s_iload_n dX11_hall_5 2 rfl (s_iload_n dX11_hall_6 3 rfl (s_iload dX11_hall_7 4 rfl (n_invV' (as := [(0, t), (0, s), (0, p), (0, b)]) dX11_hall_9 kv_X3_addHall ml_X11_122 (c_X_addHall t s p b w h) (by decide) 15 cf_X3 rfl sh_15 rfl rfl rfl (Nat.le_of_ble_eq_true rfl) ?_))))))
  rintro r_9 w_9 ⟨z_9, rfl, hz_9⟩
  show AtN _ _ ρ _ _ [(0, z_9)] w_9
  refine n_iret dX11_hall_12 hR rfl ?_
  exact ⟨_, rfl, hz_9⟩

set_option maxRecDepth 100000 in
theorem m_hall (t s p b : Int) (w : Wd) (h : 0 ≤ w 141 4 ∧ w 141 4 ≤ 16) : CallN 2 mX12_hall [(2, 141), (0, t), (0, s), (0, p), (0, b)] w (RQ (Two (((0 ≤ t ∧ t ≤ 3) ∧ (10 ≤ s ∧ s ≤ 999) ∧ (1 ≤ p ∧ p ≤ 99) ∧ (0 ≤ b ∧ b ≤ 40)) ∧ w 141 4 < 16) w (-1) (w 141 4) (wu (wu (wu (wu (wu w 155 (w 141 4) t) 156 (w 141 4) s) 157 (w 141 4) p) 158 (w 141 4) b) 141 4 ((w 141 4) + 1)))) := by
  refine CallN.intro (by decide +kernel) (Nat.le_of_ble_eq_true rfl) (fun ρ hR => ?_)
  show AtN mX12_hall 2 ρ 0 [(0, (2, 141)), (1, (0, t)), (2, (0, s)), (3, (0, p)), (4, (0, b))] [] w
  refine s_iload_n dX12_hall_0 1 rfl (s_iconst dX12_hall_1 (by decide) (s_iconst dX12_hall_2 (by decide) (n_invS (as := [(0, t), (0, 0), (0, 3)]) dX12_hall_3 kv_X12_isIn ml_X12_223 (c_isIn t 0 3 w) (by decide) rfl rfl (Nat.le_of_ble_eq_true rfl) (n_ifeq_b 51 dX12_hall_6 (by decide) (fun c_6 => ?_) (fun c_6 => ?_)))))
  · skip
    refine s_iconst dX12_hall_51 (by decide) (n_iret dX12_hall_52 hR rfl ?_)
    first | exact ⟨_, rfl, Or.inl ⟨by omega, by omega, rfl⟩⟩ | exact ⟨_, rfl, Or.inr ⟨by omega, by omega, rfl⟩⟩ | (exfalso; omega)
  · skip
    refine s_iload_n dX12_hall_9 2 rfl (s_bipush dX12_hall_10 (by decide) (s_sipush dX12_hall_12 (by decide) (n_invS (as := [(0, s), (0, 10), (0, 999)]) dX12_hall_15 kv_X12_isIn ml_X12_223 (c_isIn s 10 999 w) (by decide) rfl rfl (Nat.le_of_ble_eq_true rfl) (n_ifeq_b 51 dX12_hall_18 (by decide) (fun c_18 => ?_) (fun c_18 => ?_)))))
    · skip
      refine s_iconst dX12_hall_51 (by decide) (n_iret dX12_hall_52 hR rfl ?_)
      first | exact ⟨_, rfl, Or.inl ⟨by omega, by omega, rfl⟩⟩ | exact ⟨_, rfl, Or.inr ⟨by omega, by omega, rfl⟩⟩ | (exfalso; omega)
    · skip
      refine s_iload_n dX12_hall_21 3 rfl (s_iconst dX12_hall_22 (by decide) (s_bipush dX12_hall_23 (by decide) (n_invS (as := [(0, p), (0, 1), (0, 99)]) dX12_hall_25 kv_X12_isIn ml_X12_223 (c_isIn p 1 99 w) (by decide) rfl rfl (Nat.le_of_ble_eq_true rfl) (n_ifeq_b 51 dX12_hall_28 (by decide) (fun c_28 => ?_) (fun c_28 => ?_)))))
      · skip
        refine s_iconst dX12_hall_51 (by decide) (n_iret dX12_hall_52 hR rfl ?_)
        first | exact ⟨_, rfl, Or.inl ⟨by omega, by omega, rfl⟩⟩ | exact ⟨_, rfl, Or.inr ⟨by omega, by omega, rfl⟩⟩ | (exfalso; omega)
      · skip
        refine s_iload dX12_hall_31 4 rfl (s_iconst dX12_hall_33 (by decide) (s_bipush dX12_hall_34 (by decide) (n_invS (as := [(0, b), (0, 0), (0, 40)]) dX12_hall_36 kv_X12_isIn ml_X12_223 (c_isIn b 0 40 w) (by decide) rfl rfl (Nat.le_of_ble_eq_true rfl) (n_ifeq_b 51 dX12_hall_39 (by decide) (fun c_39 => ?_) (fun c_39 => ?_)))))
        · skip
          refine s_iconst dX12_hall_51 (by decide) (n_iret dX12_hall_52 hR rfl ?_)
          first | exact ⟨_, rfl, Or.inl ⟨by omega, by omega, rfl⟩⟩ | exact ⟨_, rfl, Or.inr ⟨by omega, by omega, rfl⟩⟩ | (exfalso; omega)
        · skip
          refine s_aload_n dX12_hall_42 0 rfl rfl (n_getf 141 4 0 dX12_hall_43 cf_X12 ff_X12_230 rfl sh_141 rfl (by decide) (v := (w 141 4)) rfl (s_bipush dX12_hall_46 (by decide) (s_icmp_ne 53 dX12_hall_48 (by decide) (fun c_48 => ?_) (fun c_48 => ?_))))
          · skip
            refine s_aload_n dX12_hall_53 0 rfl rfl (n_getc (q := 155) 141 23 165 dX12_hall_54 cf_X12 ff_X12_49 rfl sh_141 rfl (by decide) rfl (by decide) (s_aload_n dX12_hall_57 0 rfl rfl (n_getf 141 4 0 dX12_hall_58 cf_X12 ff_X12_230 rfl sh_141 rfl (by decide) (v := (w 141 4)) rfl (s_iload_n dX12_hall_61 1 rfl (s_iastore 155 dX12_hall_62 rfl sh_155 (by decide) ⟨(by omega), (by omega)⟩ (s_aload_n dX12_hall_63 0 rfl rfl (n_getc (q := 156) 141 24 166 dX12_hall_64 cf_X12 ff_X12_52 rfl sh_141 rfl (by decide) rfl (by decide) (s_aload_n dX12_hall_67 0 rfl rfl (n_getf 141 4 0 dX12_hall_68 cf_X12 ff_X12_230 rfl sh_141 rfl (by decide) (v := (w 141 4)) rfl ?_)))))))))
            refine s_iload_n dX12_hall_71 2 rfl (s_iastore 156 dX12_hall_72 rfl sh_156 (by decide) ⟨(by omega), (by omega)⟩ (s_aload_n dX12_hall_73 0 rfl rfl (n_getc (q := 157) 141 25 167 dX12_hall_74 cf_X12 ff_X12_55 rfl sh_141 rfl (by decide) rfl (by decide) (s_aload_n dX12_hall_77 0 rfl rfl (n_getf 141 4 0 dX12_hall_78 cf_X12 ff_X12_230 rfl sh_141 rfl (by decide) (v := (w 141 4)) rfl (s_iload_n dX12_hall_81 3 rfl (s_iastore 157 dX12_hall_82 rfl sh_157 (by decide) ⟨(by omega), (by omega)⟩ (s_aload_n dX12_hall_83 0 rfl rfl (n_getc (q := 158) 141 26 168 dX12_hall_84 cf_X12 ff_X12_58 rfl sh_141 rfl (by decide) rfl (by decide) ?_)))))))))
            refine s_aload_n dX12_hall_87 0 rfl rfl (n_getf 141 4 0 dX12_hall_88 cf_X12 ff_X12_230 rfl sh_141 rfl (by decide) (v := (w 141 4)) rfl (s_iload dX12_hall_91 4 rfl (s_iastore 158 dX12_hall_93 rfl sh_158 (by decide) ⟨(by omega), (by omega)⟩ (s_aload_n dX12_hall_94 0 rfl rfl (s_dup dX12_hall_95 (show (2 : Nat) ≠ 1 by decide) (n_getf 141 4 0 dX12_hall_96 cf_X12 ff_X12_230 rfl sh_141 rfl (by decide) (v := (w 141 4)) rfl (s_iconst dX12_hall_99 (by decide) (n_add (z := ((w 141 4) + 1)) dX12_hall_100 (wr_id (by omega) (by omega)) (n_putf 141 4 4 dX12_hall_101 cf_X12 ff_X12_230 rfl rfl sh_141 rfl rfl rfl ?_)))))))))
            refine s_aload_n dX12_hall_104 0 rfl rfl (n_getf 141 4 0 dX12_hall_105 cf_X12 ff_X12_230 rfl sh_141 rfl (by decide) (v := ((w 141 4) + 1)) rfl (s_iconst dX12_hall_108 (by decide) (n_sub (z := (((w 141 4) + 1) - 1)) dX12_hall_109 (wr_id (by omega) (by omega)) (n_iret dX12_hall_110 hR rfl ?_))))
            first | exact ⟨_, rfl, Or.inl ⟨by omega, by omega, rfl⟩⟩ | exact ⟨_, rfl, Or.inr ⟨by omega, by omega, rfl⟩⟩ | (exfalso; omega)
          · skip
            refine s_iconst dX12_hall_51 (by decide) (n_iret dX12_hall_52 hR rfl ?_)
            first | exact ⟨_, rfl, Or.inl ⟨by omega, by omega, rfl⟩⟩ | exact ⟨_, rfl, Or.inr ⟨by omega, by omega, rfl⟩⟩ | (exfalso; omega)

set_option maxRecDepth 100000 in
theorem c_X_demand (q p b : Int) (w : Wd) (h : 0 ≤ w 15 10 ∧ w 15 10 ≤ 16) : CallN 3 mX3_demand [(2, 15), (0, q), (0, p), (0, b)] w (RQ (Two ((0 ≤ q ∧ q < w 15 10) ∧ (1 ≤ p ∧ p ≤ 99) ∧ (0 ≤ b ∧ b ≤ 40)) w 0 1 (wu (wu w 18 q p) 19 q b))) := by
  refine CallN.intro (by decide +kernel) (Nat.le_of_ble_eq_true rfl) (fun ρ hR => ?_)
  show AtN mX3_demand 3 ρ 0 [(0, (2, 15)), (1, (0, q)), (2, (0, p)), (3, (0, b))] [] w
  refine s_aload_n dX3_demand_0 0 rfl rfl (s_iload_n dX3_demand_1 1 rfl (n_invV (as := [(0, q)]) dX3_demand_2 kv_X3_hasHall ml_X3_67 (c_X_hasHall q w) (by decide) 15 cf_X3 rfl sh_15 rfl rfl rfl (Nat.le_of_ble_eq_true rfl) (n_ifeq_b 16 dX3_demand_5 (by decide) (fun c_5 => ?_) (fun c_5 => ?_))))
  · skip
    refine s_iconst dX3_demand_16 (by decide) (n_zret dX3_demand_17 hR rfl (by first | exact Or.inl rfl | exact Or.inr rfl | exact bi_01 _ | omega) ?_)
    first | exact ⟨_, rfl, Or.inl ⟨by omega, by omega, rfl⟩⟩ | exact ⟨_, rfl, Or.inr ⟨by omega, by omega, rfl⟩⟩ | (exfalso; omega)
  · skip
    refine s_iload_n dX3_demand_8 2 rfl (s_iload_n dX3_demand_9 3 rfl (n_invS (as := [(0, p), (0, b)]) dX3_demand_10 kv_X3_canAsk ml_X3_59 (c_X_canAsk p b w) (by decide) rfl rfl (Nat.le_of_ble_eq_true rfl) (n_ifne_b 18 dX3_demand_13 (by decide) (fun c_13 => ?_) (fun c_13 => ?_))))
    · skip
      refine s_aload_n dX3_demand_18 0 rfl rfl (n_getc (q := 18) 15 2 28 dX3_demand_19 cf_X3 ff_X3_18 rfl sh_15 rfl (by decide) rfl (by decide) (s_iload_n dX3_demand_22 1 rfl (s_iload_n dX3_demand_23 2 rfl (s_iastore 18 dX3_demand_24 rfl sh_18 (by decide) ⟨(by omega), (by omega)⟩ (s_aload_n dX3_demand_25 0 rfl rfl (n_getc (q := 19) 15 3 29 dX3_demand_26 cf_X3 ff_X3_21 rfl sh_15 rfl (by decide) rfl (by decide) (s_iload_n dX3_demand_29 1 rfl (s_iload_n dX3_demand_30 3 rfl (s_iastore 19 dX3_demand_31 rfl sh_19 (by decide) ⟨(by omega), (by omega)⟩ ?_)))))))))
      refine s_iconst dX3_demand_32 (by decide) (n_zret dX3_demand_33 hR rfl (by first | exact Or.inl rfl | exact Or.inr rfl | exact bi_01 _ | omega) ?_)
      first | exact ⟨_, rfl, Or.inl ⟨by omega, by omega, rfl⟩⟩ | exact ⟨_, rfl, Or.inr ⟨by omega, by omega, rfl⟩⟩ | (exfalso; omega)
    · skip
      refine s_iconst dX3_demand_16 (by decide) (n_zret dX3_demand_17 hR rfl (by first | exact Or.inl rfl | exact Or.inr rfl | exact bi_01 _ | omega) ?_)
      first | exact ⟨_, rfl, Or.inl ⟨by omega, by omega, rfl⟩⟩ | exact ⟨_, rfl, Or.inr ⟨by omega, by omega, rfl⟩⟩ | (exfalso; omega)

set_option maxRecDepth 100000 in
theorem x_asks (q p b : Int) (w : Wd) (h : 0 ≤ w 15 10 ∧ w 15 10 ≤ 16) : CallN 4 mX11_asks [(2, 0), (0, q), (0, p), (0, b)] w (RQ (Two ((0 ≤ q ∧ q < w 15 10) ∧ (1 ≤ p ∧ p ≤ 99) ∧ (0 ≤ b ∧ b ≤ 40)) w 0 1 (wu (wu w 18 q p) 19 q b))) := by
  refine CallN.intro (by decide +kernel) (Nat.le_of_ble_eq_true rfl) (fun ρ hR => ?_)
  show AtN mX11_asks 4 ρ 0 [(0, (2, 0)), (1, (0, q)), (2, (0, p)), (3, (0, b))] [] w
  refine s_aload_n dX11_asks_0 0 rfl rfl (n_getc (q := 15) 0 1 25 dX11_asks_1 cf_X11 ff_X11_19 rfl sh_0 rfl (by decide) rfl (by decide) (s_iload_n dX11_asks_4 1 rfl (s_iload_n dX11_asks_5 2 rfl (s_iload_n dX11_asks_6 3 rfl (n_invV' (as := [(0, q), (0, p), (0, b)]) dX11_asks_7 kv_X3_demand ml_X11_126 (c_X_demand q p b w h) (by decide) 15 cf_X3 rfl sh_15 rfl rfl rfl (Nat.le_of_ble_eq_true rfl) ?_)))))
  rintro r_7 w_7 ⟨z_7, rfl, hz_7⟩
  show AtN _ _ ρ _ _ [(0, z_7)] w_7
  refine n_zret dX11_asks_10 hR rfl (by first | exact Or.inl rfl | exact Or.inr rfl | exact bi_01 _ | omega) ?_
  exact ⟨_, rfl, hz_7⟩

set_option maxRecDepth 100000 in
theorem m_asks (q p b : Int) (w : Wd) (h : 0 ≤ w 141 4 ∧ w 141 4 ≤ 16) : CallN 3 mX12_asks [(2, 141), (0, q), (0, p), (0, b)] w (RQ (Two ((0 ≤ q ∧ q < w 141 4) ∧ (1 ≤ p ∧ p ≤ 99) ∧ (0 ≤ b ∧ b ≤ 40)) w 0 1 (wu (wu w 157 q p) 158 q b))) := by
  refine CallN.intro (by decide +kernel) (Nat.le_of_ble_eq_true rfl) (fun ρ hR => ?_)
  show AtN mX12_asks 3 ρ 0 [(0, (2, 141)), (1, (0, q)), (2, (0, p)), (3, (0, b))] [] w
  refine s_aload_n dX12_asks_0 0 rfl rfl (s_iload_n dX12_asks_1 1 rfl (n_invV (as := [(0, q)]) dX12_asks_2 kv_X12_isHall ml_X12_264 (c_M_isHall q w (by omega)) (by decide) 141 cf_X12 rfl sh_141 rfl rfl rfl (Nat.le_of_ble_eq_true rfl) (n_ifeq_b 28 dX12_asks_5 (by decide) (fun c_5 => ?_) (fun c_5 => ?_))))
  · skip
    refine s_iconst dX12_asks_28 (by decide) (n_zret dX12_asks_29 hR rfl (by first | exact Or.inl rfl | exact Or.inr rfl | exact bi_01 _ | omega) ?_)
    first | exact ⟨_, rfl, Or.inl ⟨by omega, by omega, rfl⟩⟩ | exact ⟨_, rfl, Or.inr ⟨by omega, by omega, rfl⟩⟩ | (exfalso; omega)
  · skip
    refine s_iload_n dX12_asks_8 2 rfl (s_iconst dX12_asks_9 (by decide) (s_bipush dX12_asks_10 (by decide) (n_invS (as := [(0, p), (0, 1), (0, 99)]) dX12_asks_12 kv_X12_isIn ml_X12_223 (c_isIn p 1 99 w) (by decide) rfl rfl (Nat.le_of_ble_eq_true rfl) (n_ifeq_b 28 dX12_asks_15 (by decide) (fun c_15 => ?_) (fun c_15 => ?_)))))
    · skip
      refine s_iconst dX12_asks_28 (by decide) (n_zret dX12_asks_29 hR rfl (by first | exact Or.inl rfl | exact Or.inr rfl | exact bi_01 _ | omega) ?_)
      first | exact ⟨_, rfl, Or.inl ⟨by omega, by omega, rfl⟩⟩ | exact ⟨_, rfl, Or.inr ⟨by omega, by omega, rfl⟩⟩ | (exfalso; omega)
    · skip
      refine s_iload_n dX12_asks_18 3 rfl (s_iconst dX12_asks_19 (by decide) (s_bipush dX12_asks_20 (by decide) (n_invS (as := [(0, b), (0, 0), (0, 40)]) dX12_asks_22 kv_X12_isIn ml_X12_223 (c_isIn b 0 40 w) (by decide) rfl rfl (Nat.le_of_ble_eq_true rfl) (n_ifne_b 30 dX12_asks_25 (by decide) (fun c_25 => ?_) (fun c_25 => ?_)))))
      · skip
        refine s_aload_n dX12_asks_30 0 rfl rfl (n_getc (q := 157) 141 25 167 dX12_asks_31 cf_X12 ff_X12_55 rfl sh_141 rfl (by decide) rfl (by decide) (s_iload_n dX12_asks_34 1 rfl (s_iload_n dX12_asks_35 2 rfl (s_iastore 157 dX12_asks_36 rfl sh_157 (by decide) ⟨(by omega), (by omega)⟩ (s_aload_n dX12_asks_37 0 rfl rfl (n_getc (q := 158) 141 26 168 dX12_asks_38 cf_X12 ff_X12_58 rfl sh_141 rfl (by decide) rfl (by decide) (s_iload_n dX12_asks_41 1 rfl (s_iload_n dX12_asks_42 3 rfl (s_iastore 158 dX12_asks_43 rfl sh_158 (by decide) ⟨(by omega), (by omega)⟩ ?_)))))))))
        refine s_iconst dX12_asks_44 (by decide) (n_zret dX12_asks_45 hR rfl (by first | exact Or.inl rfl | exact Or.inr rfl | exact bi_01 _ | omega) ?_)
        first | exact ⟨_, rfl, Or.inl ⟨by omega, by omega, rfl⟩⟩ | exact ⟨_, rfl, Or.inr ⟨by omega, by omega, rfl⟩⟩ | (exfalso; omega)
      · skip
        refine s_iconst dX12_asks_28 (by decide) (n_zret dX12_asks_29 hR rfl (by first | exact Or.inl rfl | exact Or.inr rfl | exact bi_01 _ | omega) ?_)
        first | exact ⟨_, rfl, Or.inl ⟨by omega, by omega, rfl⟩⟩ | exact ⟨_, rfl, Or.inr ⟨by omega, by omega, rfl⟩⟩ | (exfalso; omega)

set_option maxRecDepth 100000 in
theorem c_X_addSet (f p b : Int) (w : Wd) (h : 0 ≤ w 15 15 ∧ w 15 15 ≤ 20) : CallN 3 mX3_addSet [(2, 15), (0, f), (0, p), (0, b)] w (RQ (Two (((0 ≤ f ∧ f ≤ 2) ∧ (1 ≤ p ∧ p ≤ 7) ∧ (0 ≤ b ∧ b ≤ 99)) ∧ w 15 15 < 20) w (-1) (w 15 15) (wu (wu (wu (wu (wu w 26 (w 15 15) f) 27 (w 15 15) p) 28 (w 15 15) b) 29 (w 15 15) (-1)) 15 15 ((w 15 15) + 1)))) := by
  refine CallN.intro (by decide +kernel) (Nat.le_of_ble_eq_true rfl) (fun ρ hR => ?_)
  show AtN mX3_addSet 3 ρ 0 [(0, (2, 15)), (1, (0, f)), (2, (0, p)), (3, (0, b))] [] w
  refine s_iload_n dX3_addSet_0 1 rfl (s_iconst dX3_addSet_1 (by decide) (s_iconst dX3_addSet_2 (by decide) (n_invT (as := [(0, f), (0, 0), (0, 2)]) dX3_addSet_3 kv_X11_within ml_X3_55 (c_within f 0 2 w) (by decide) rfl rfl (Nat.le_of_ble_eq_true rfl) (n_ifeq_b 33 dX3_addSet_6 (by decide) (fun c_6 => ?_) (fun c_6 => ?_)))))
  · skip
    refine s_iconst dX3_addSet_33 (by decide) (s_istore (ls' := [(0, (2, 15)), (1, (0, f)), (2, (0, p)), (3, (0, b)), (4, (0, 0))]) dX3_addSet_34 (Nat.le_of_ble_eq_true rfl) rfl (s_iload dX3_addSet_36 4 rfl (s_if_eq 50 dX3_addSet_38 (by decide) (kf := fun c => absurd c (by decide)) (kt := fun _ => s_iconst dX3_addSet_50 (by decide) (n_iret dX3_addSet_51 hR rfl ?_)))))
    first | exact ⟨_, rfl, Or.inl ⟨by omega, by omega, rfl⟩⟩ | exact ⟨_, rfl, Or.inr ⟨by omega, by omega, rfl⟩⟩ | (exfalso; omega)
  · skip
    refine s_iload_n dX3_addSet_9 2 rfl (s_iconst dX3_addSet_10 (by decide) (s_bipush dX3_addSet_11 (by decide) (n_invT (as := [(0, p), (0, 1), (0, 7)]) dX3_addSet_13 kv_X11_within ml_X3_55 (c_within p 1 7 w) (by decide) rfl rfl (Nat.le_of_ble_eq_true rfl) (n_ifeq_b 33 dX3_addSet_16 (by decide) (fun c_16 => ?_) (fun c_16 => ?_)))))
    · skip
      refine s_iconst dX3_addSet_33 (by decide) (s_istore (ls' := [(0, (2, 15)), (1, (0, f)), (2, (0, p)), (3, (0, b)), (4, (0, 0))]) dX3_addSet_34 (Nat.le_of_ble_eq_true rfl) rfl (s_iload dX3_addSet_36 4 rfl (s_if_eq 50 dX3_addSet_38 (by decide) (kf := fun c => absurd c (by decide)) (kt := fun _ => s_iconst dX3_addSet_50 (by decide) (n_iret dX3_addSet_51 hR rfl ?_)))))
      first | exact ⟨_, rfl, Or.inl ⟨by omega, by omega, rfl⟩⟩ | exact ⟨_, rfl, Or.inr ⟨by omega, by omega, rfl⟩⟩ | (exfalso; omega)
    · skip
      refine s_iload_n dX3_addSet_19 3 rfl (s_iconst dX3_addSet_20 (by decide) (s_bipush dX3_addSet_21 (by decide) (n_invT (as := [(0, b), (0, 0), (0, 99)]) dX3_addSet_23 kv_X11_within ml_X3_55 (c_within b 0 99 w) (by decide) rfl rfl (Nat.le_of_ble_eq_true rfl) (n_ifeq_b 33 dX3_addSet_26 (by decide) (fun c_26 => ?_) (fun c_26 => ?_)))))
      · skip
        refine s_iconst dX3_addSet_33 (by decide) (s_istore (ls' := [(0, (2, 15)), (1, (0, f)), (2, (0, p)), (3, (0, b)), (4, (0, 0))]) dX3_addSet_34 (Nat.le_of_ble_eq_true rfl) rfl (s_iload dX3_addSet_36 4 rfl (s_if_eq 50 dX3_addSet_38 (by decide) (kf := fun c => absurd c (by decide)) (kt := fun _ => s_iconst dX3_addSet_50 (by decide) (n_iret dX3_addSet_51 hR rfl ?_)))))
        first | exact ⟨_, rfl, Or.inl ⟨by omega, by omega, rfl⟩⟩ | exact ⟨_, rfl, Or.inr ⟨by omega, by omega, rfl⟩⟩ | (exfalso; omega)
      · skip
        refine s_iconst dX3_addSet_29 (by decide) (s_goto 34 dX3_addSet_30 (by decide) (s_istore (ls' := [(0, (2, 15)), (1, (0, f)), (2, (0, p)), (3, (0, b)), (4, (0, 1))]) dX3_addSet_34 (Nat.le_of_ble_eq_true rfl) rfl (s_iload dX3_addSet_36 4 rfl (s_if_eq 50 dX3_addSet_38 (by decide) (kt := fun c => absurd c (by decide)) (kf := fun _ => s_aload_n dX3_addSet_41 0 rfl rfl (n_getf 15 15 0 dX3_addSet_42 cf_X3 ff_X3_71 rfl sh_15 rfl (by decide) (v := (w 15 15)) rfl (s_bipush dX3_addSet_45 (by decide) (s_icmp_lt 52 dX3_addSet_47 (by decide) (fun c_47 => ?_) (fun c_47 => ?_)))))))))
        · skip
          refine s_aload_n dX3_addSet_52 0 rfl rfl (n_getc (q := 26) 15 11 36 dX3_addSet_53 cf_X3 ff_X3_43 rfl sh_15 rfl (by decide) rfl (by decide) (s_aload_n dX3_addSet_56 0 rfl rfl (n_getf 15 15 0 dX3_addSet_57 cf_X3 ff_X3_71 rfl sh_15 rfl (by decide) (v := (w 15 15)) rfl (s_iload_n dX3_addSet_60 1 rfl (s_iastore 26 dX3_addSet_61 rfl sh_26 (by decide) ⟨(by omega), (by omega)⟩ (s_aload_n dX3_addSet_62 0 rfl rfl (n_getc (q := 27) 15 12 37 dX3_addSet_63 cf_X3 ff_X3_46 rfl sh_15 rfl (by decide) rfl (by decide) (s_aload_n dX3_addSet_66 0 rfl rfl (n_getf 15 15 0 dX3_addSet_67 cf_X3 ff_X3_71 rfl sh_15 rfl (by decide) (v := (w 15 15)) rfl ?_)))))))))
          refine s_iload_n dX3_addSet_70 2 rfl (s_iastore 27 dX3_addSet_71 rfl sh_27 (by decide) ⟨(by omega), (by omega)⟩ (s_aload_n dX3_addSet_72 0 rfl rfl (n_getc (q := 28) 15 13 38 dX3_addSet_73 cf_X3 ff_X3_49 rfl sh_15 rfl (by decide) rfl (by decide) (s_aload_n dX3_addSet_76 0 rfl rfl (n_getf 15 15 0 dX3_addSet_77 cf_X3 ff_X3_71 rfl sh_15 rfl (by decide) (v := (w 15 15)) rfl (s_iload_n dX3_addSet_80 3 rfl (s_iastore 28 dX3_addSet_81 rfl sh_28 (by decide) ⟨(by omega), (by omega)⟩ (s_aload_n dX3_addSet_82 0 rfl rfl (n_getc (q := 29) 15 14 39 dX3_addSet_83 cf_X3 ff_X3_52 rfl sh_15 rfl (by decide) rfl (by decide) ?_)))))))))
          refine s_aload_n dX3_addSet_86 0 rfl rfl (n_getf 15 15 0 dX3_addSet_87 cf_X3 ff_X3_71 rfl sh_15 rfl (by decide) (v := (w 15 15)) rfl (s_iconst dX3_addSet_90 (by decide) (s_iastore 29 dX3_addSet_91 rfl sh_29 (by decide) ⟨(by omega), (by omega)⟩ (s_aload_n dX3_addSet_92 0 rfl rfl (s_dup dX3_addSet_93 (show (2 : Nat) ≠ 1 by decide) (n_getf 15 15 0 dX3_addSet_94 cf_X3 ff_X3_71 rfl sh_15 rfl (by decide) (v := (w 15 15)) rfl (s_iconst dX3_addSet_97 (by decide) (n_add (z := ((w 15 15) + 1)) dX3_addSet_98 (wr_id (by omega) (by omega)) (n_putf 15 15 15 dX3_addSet_99 cf_X3 ff_X3_71 rfl rfl sh_15 rfl rfl rfl ?_)))))))))
          refine s_aload_n dX3_addSet_102 0 rfl rfl (n_getf 15 15 0 dX3_addSet_103 cf_X3 ff_X3_71 rfl sh_15 rfl (by decide) (v := ((w 15 15) + 1)) rfl (s_iconst dX3_addSet_106 (by decide) (n_sub (z := (((w 15 15) + 1) - 1)) dX3_addSet_107 (wr_id (by omega) (by omega)) (n_iret dX3_addSet_108 hR rfl ?_))))
          first | exact ⟨_, rfl, Or.inl ⟨by omega, by omega, rfl⟩⟩ | exact ⟨_, rfl, Or.inr ⟨by omega, by omega, rfl⟩⟩ | (exfalso; omega)
        · skip
          refine s_iconst dX3_addSet_50 (by decide) (n_iret dX3_addSet_51 hR rfl ?_)
          first | exact ⟨_, rfl, Or.inl ⟨by omega, by omega, rfl⟩⟩ | exact ⟨_, rfl, Or.inr ⟨by omega, by omega, rfl⟩⟩ | (exfalso; omega)

set_option maxRecDepth 100000 in
theorem x_set (f p b : Int) (w : Wd) (h : 0 ≤ w 15 15 ∧ w 15 15 ≤ 20) : CallN 4 mX11_set [(2, 0), (0, f), (0, p), (0, b)] w (RQ (Two (((0 ≤ f ∧ f ≤ 2) ∧ (1 ≤ p ∧ p ≤ 7) ∧ (0 ≤ b ∧ b ≤ 99)) ∧ w 15 15 < 20) w (-1) (w 15 15) (wu (wu (wu (wu (wu w 26 (w 15 15) f) 27 (w 15 15) p) 28 (w 15 15) b) 29 (w 15 15) (-1)) 15 15 ((w 15 15) + 1)))) := by
  refine CallN.intro (by decide +kernel) (Nat.le_of_ble_eq_true rfl) (fun ρ hR => ?_)
  show AtN mX11_set 4 ρ 0 [(0, (2, 0)), (1, (0, f)), (2, (0, p)), (3, (0, b))] [] w
  refine s_aload_n dX11_set_0 0 rfl rfl (n_getc (q := 15) 0 1 25 dX11_set_1 cf_X11 ff_X11_19 rfl sh_0 rfl (by decide) rfl (by decide) (s_iload_n dX11_set_4 1 rfl (s_iload_n dX11_set_5 2 rfl (s_iload_n dX11_set_6 3 rfl (n_invV' (as := [(0, f), (0, p), (0, b)]) dX11_set_7 kv_X3_addSet ml_X11_129 (c_X_addSet f p b w h) (by decide) 15 cf_X3 rfl sh_15 rfl rfl rfl (Nat.le_of_ble_eq_true rfl) ?_)))))
  rintro r_7 w_7 ⟨z_7, rfl, hz_7⟩
  show AtN _ _ ρ _ _ [(0, z_7)] w_7
  refine n_iret dX11_set_10 hR rfl ?_
  exact ⟨_, rfl, hz_7⟩

set_option maxRecDepth 100000 in
theorem m_set (f p b : Int) (w : Wd) (h : 0 ≤ w 141 5 ∧ w 141 5 ≤ 20) : CallN 2 mX12_set [(2, 141), (0, f), (0, p), (0, b)] w (RQ (Two (((0 ≤ f ∧ f ≤ 2) ∧ (1 ≤ p ∧ p ≤ 7) ∧ (0 ≤ b ∧ b ≤ 99)) ∧ w 141 5 < 20) w (-1) (w 141 5) (wu (wu (wu (wu (wu w 165 (w 141 5) f) 166 (w 141 5) p) 167 (w 141 5) b) 168 (w 141 5) (-1)) 141 5 ((w 141 5) + 1)))) := by
  refine CallN.intro (by decide +kernel) (Nat.le_of_ble_eq_true rfl) (fun ρ hR => ?_)
  show AtN mX12_set 2 ρ 0 [(0, (2, 141)), (1, (0, f)), (2, (0, p)), (3, (0, b))] [] w
  refine s_iload_n dX12_set_0 1 rfl (s_iconst dX12_set_1 (by decide) (s_iconst dX12_set_2 (by decide) (n_invS (as := [(0, f), (0, 0), (0, 2)]) dX12_set_3 kv_X12_isIn ml_X12_223 (c_isIn f 0 2 w) (by decide) rfl rfl (Nat.le_of_ble_eq_true rfl) (n_ifeq_b 38 dX12_set_6 (by decide) (fun c_6 => ?_) (fun c_6 => ?_)))))
  · skip
    refine s_iconst dX12_set_38 (by decide) (n_iret dX12_set_39 hR rfl ?_)
    first | exact ⟨_, rfl, Or.inl ⟨by omega, by omega, rfl⟩⟩ | exact ⟨_, rfl, Or.inr ⟨by omega, by omega, rfl⟩⟩ | (exfalso; omega)
  · skip
    refine s_iload_n dX12_set_9 2 rfl (s_iconst dX12_set_10 (by decide) (s_bipush dX12_set_11 (by decide) (n_invS (as := [(0, p), (0, 1), (0, 7)]) dX12_set_13 kv_X12_isIn ml_X12_223 (c_isIn p 1 7 w) (by decide) rfl rfl (Nat.le_of_ble_eq_true rfl) (n_ifeq_b 38 dX12_set_16 (by decide) (fun c_16 => ?_) (fun c_16 => ?_)))))
    · skip
      refine s_iconst dX12_set_38 (by decide) (n_iret dX12_set_39 hR rfl ?_)
      first | exact ⟨_, rfl, Or.inl ⟨by omega, by omega, rfl⟩⟩ | exact ⟨_, rfl, Or.inr ⟨by omega, by omega, rfl⟩⟩ | (exfalso; omega)
    · skip
      refine s_iload_n dX12_set_19 3 rfl (s_iconst dX12_set_20 (by decide) (s_bipush dX12_set_21 (by decide) (n_invS (as := [(0, b), (0, 0), (0, 99)]) dX12_set_23 kv_X12_isIn ml_X12_223 (c_isIn b 0 99 w) (by decide) rfl rfl (Nat.le_of_ble_eq_true rfl) (n_ifeq_b 38 dX12_set_26 (by decide) (fun c_26 => ?_) (fun c_26 => ?_)))))
      · skip
        refine s_iconst dX12_set_38 (by decide) (n_iret dX12_set_39 hR rfl ?_)
        first | exact ⟨_, rfl, Or.inl ⟨by omega, by omega, rfl⟩⟩ | exact ⟨_, rfl, Or.inr ⟨by omega, by omega, rfl⟩⟩ | (exfalso; omega)
      · skip
        refine s_aload_n dX12_set_29 0 rfl rfl (n_getf 141 5 0 dX12_set_30 cf_X12 ff_X12_233 rfl sh_141 rfl (by decide) (v := (w 141 5)) rfl (s_bipush dX12_set_33 (by decide) (s_icmp_ne 40 dX12_set_35 (by decide) (fun c_35 => ?_) (fun c_35 => ?_))))
        · skip
          refine s_aload_n dX12_set_40 0 rfl rfl (n_getc (q := 165) 141 33 175 dX12_set_41 cf_X12 ff_X12_80 rfl sh_141 rfl (by decide) rfl (by decide) (s_aload_n dX12_set_44 0 rfl rfl (n_getf 141 5 0 dX12_set_45 cf_X12 ff_X12_233 rfl sh_141 rfl (by decide) (v := (w 141 5)) rfl (s_iload_n dX12_set_48 1 rfl (s_iastore 165 dX12_set_49 rfl sh_165 (by decide) ⟨(by omega), (by omega)⟩ (s_aload_n dX12_set_50 0 rfl rfl (n_getc (q := 166) 141 34 176 dX12_set_51 cf_X12 ff_X12_83 rfl sh_141 rfl (by decide) rfl (by decide) (s_aload_n dX12_set_54 0 rfl rfl (n_getf 141 5 0 dX12_set_55 cf_X12 ff_X12_233 rfl sh_141 rfl (by decide) (v := (w 141 5)) rfl ?_)))))))))
          refine s_iload_n dX12_set_58 2 rfl (s_iastore 166 dX12_set_59 rfl sh_166 (by decide) ⟨(by omega), (by omega)⟩ (s_aload_n dX12_set_60 0 rfl rfl (n_getc (q := 167) 141 35 177 dX12_set_61 cf_X12 ff_X12_86 rfl sh_141 rfl (by decide) rfl (by decide) (s_aload_n dX12_set_64 0 rfl rfl (n_getf 141 5 0 dX12_set_65 cf_X12 ff_X12_233 rfl sh_141 rfl (by decide) (v := (w 141 5)) rfl (s_iload_n dX12_set_68 3 rfl (s_iastore 167 dX12_set_69 rfl sh_167 (by decide) ⟨(by omega), (by omega)⟩ (s_aload_n dX12_set_70 0 rfl rfl (n_getc (q := 168) 141 36 178 dX12_set_71 cf_X12 ff_X12_89 rfl sh_141 rfl (by decide) rfl (by decide) ?_)))))))))
          refine s_aload_n dX12_set_74 0 rfl rfl (n_getf 141 5 0 dX12_set_75 cf_X12 ff_X12_233 rfl sh_141 rfl (by decide) (v := (w 141 5)) rfl (s_iconst dX12_set_78 (by decide) (s_iastore 168 dX12_set_79 rfl sh_168 (by decide) ⟨(by omega), (by omega)⟩ (s_aload_n dX12_set_80 0 rfl rfl (s_dup dX12_set_81 (show (2 : Nat) ≠ 1 by decide) (n_getf 141 5 0 dX12_set_82 cf_X12 ff_X12_233 rfl sh_141 rfl (by decide) (v := (w 141 5)) rfl (s_iconst dX12_set_85 (by decide) (n_add (z := ((w 141 5) + 1)) dX12_set_86 (wr_id (by omega) (by omega)) (n_putf 141 5 5 dX12_set_87 cf_X12 ff_X12_233 rfl rfl sh_141 rfl rfl rfl ?_)))))))))
          refine s_aload_n dX12_set_90 0 rfl rfl (n_getf 141 5 0 dX12_set_91 cf_X12 ff_X12_233 rfl sh_141 rfl (by decide) (v := ((w 141 5) + 1)) rfl (s_iconst dX12_set_94 (by decide) (n_sub (z := (((w 141 5) + 1) - 1)) dX12_set_95 (wr_id (by omega) (by omega)) (n_iret dX12_set_96 hR rfl ?_))))
          first | exact ⟨_, rfl, Or.inl ⟨by omega, by omega, rfl⟩⟩ | exact ⟨_, rfl, Or.inr ⟨by omega, by omega, rfl⟩⟩ | (exfalso; omega)
        · skip
          refine s_iconst dX12_set_38 (by decide) (n_iret dX12_set_39 hR rfl ?_)
          first | exact ⟨_, rfl, Or.inl ⟨by omega, by omega, rfl⟩⟩ | exact ⟨_, rfl, Or.inr ⟨by omega, by omega, rfl⟩⟩ | (exfalso; omega)

set_option maxRecDepth 100000 in
theorem c_X_move (t q : Int) (ka kb na : Nat) (w : Wd) (hsa : SH[ka]? = some (1, na, [])) (hsb : SH[kb]? = some (1, 16, [])) (hna : na < 2147483648) (ht : 0 ≤ t ∧ t < na) (hq : -1 ≤ q ∧ q < 16) (hb : -1 ≤ w ka t ∧ w ka t < 16) : CallN 1 mX3_move [(0, t), (0, q), (2, ((ka : Nat) : Int)), (2, ((kb : Nat) : Int))] w (RQ (Two (w ka t ≠ q ∧ (q = -1 ∨ w kb q = -1)) w 0 1 (mvW w ka kb t q))) := by
  refine CallN.intro (by decide +kernel) (Nat.le_of_ble_eq_true rfl) (fun ρ hR => ?_)
  show AtN mX3_move 1 ρ 0 [(0, (0, t)), (1, (0, q)), (2, (2, ((ka : Nat) : Int))), (3, (2, ((kb : Nat) : Int)))] [] w
  refine s_aload_n dX3_move_0 2 rfl (refb_nat ka) (s_iload_n dX3_move_1 0 rfl (n_iald ka dX3_move_2 rfl hsa hna ⟨(by omega), (by omega)⟩ (v := (w ka t)) rfl (s_istore (ls' := [(0, (0, t)), (1, (0, q)), (2, (2, ((ka : Nat) : Int))), (3, (2, ((kb : Nat) : Int))), (4, (0, (w ka t)))]) dX3_move_3 (Nat.le_of_ble_eq_true rfl) rfl (s_iload dX3_move_5 4 rfl (s_iload_n dX3_move_7 1 rfl (s_icmp_eq 23 dX3_move_8 (by decide) (fun c_8 => ?_) (fun c_8 => ?_)))))))
  · skip
    refine s_iconst dX3_move_23 (by decide) (n_zret dX3_move_24 hR rfl (by first | exact Or.inl rfl | exact Or.inr rfl | exact bi_01 _ | omega) ?_)
    first | (exfalso; omega) | exact ⟨_, rfl, Or.inl ⟨by omega, rfl, by unfold mvW; simp [*]; done⟩⟩ | exact ⟨_, rfl, Or.inr ⟨by omega, rfl, rfl⟩⟩ | (exfalso; omega)
  · skip
    refine s_iload_n dX3_move_11 1 rfl (s_iconst dX3_move_12 (by decide) (s_icmp_eq 25 dX3_move_13 (by decide) (fun c_13 => ?_) (fun c_13 => ?_)))
    · skip
      refine s_iload dX3_move_25 4 rfl (s_iconst dX3_move_27 (by decide) (s_icmp_eq 36 dX3_move_28 (by decide) (fun c_28 => ?_) (fun c_28 => ?_)))
      · skip
        refine s_iload_n dX3_move_36 1 rfl (s_iconst dX3_move_37 (by decide) (s_icmp_eq 45 dX3_move_38 (by decide) (fun c_38 => ?_) (fun c_38 => ?_)))
        · skip
          refine s_aload_n dX3_move_45 2 rfl (refb_nat ka) (s_iload_n dX3_move_46 0 rfl (s_iload_n dX3_move_47 1 rfl (s_iastore ka dX3_move_48 rfl hsa hna ⟨(by omega), (by omega)⟩ (s_iconst dX3_move_49 (by decide) (n_zret dX3_move_50 hR rfl (by first | exact Or.inl rfl | exact Or.inr rfl | exact bi_01 _ | omega) ?_)))))
          first | (exfalso; omega) | exact ⟨_, rfl, Or.inl ⟨by omega, rfl, by unfold mvW; simp [*]; done⟩⟩ | exact ⟨_, rfl, Or.inr ⟨by omega, rfl, rfl⟩⟩ | (exfalso; omega)
        · skip
          refine s_aload_n dX3_move_41 3 rfl (refb_nat kb) (s_iload_n dX3_move_42 1 rfl (s_iload_n dX3_move_43 0 rfl (s_iastore kb dX3_move_44 rfl hsb (by decide) ⟨(by omega), (by omega)⟩ (s_aload_n dX3_move_45 2 rfl (refb_nat ka) (s_iload_n dX3_move_46 0 rfl (s_iload_n dX3_move_47 1 rfl (s_iastore ka dX3_move_48 rfl hsa hna ⟨(by omega), (by omega)⟩ (s_iconst dX3_move_49 (by decide) (n_zret dX3_move_50 hR rfl (by first | exact Or.inl rfl | exact Or.inr rfl | exact bi_01 _ | omega) ?_)))))))))
          first | (exfalso; omega) | exact ⟨_, rfl, Or.inl ⟨by omega, rfl, by unfold mvW; simp [*]; done⟩⟩ | exact ⟨_, rfl, Or.inr ⟨by omega, rfl, rfl⟩⟩ | (exfalso; omega)
      · skip
        refine s_aload_n dX3_move_31 3 rfl (refb_nat kb) (s_iload dX3_move_32 4 rfl (s_iconst dX3_move_34 (by decide) (s_iastore kb dX3_move_35 rfl hsb (by decide) ⟨(by omega), (by omega)⟩ (s_iload_n dX3_move_36 1 rfl (s_iconst dX3_move_37 (by decide) (s_icmp_eq 45 dX3_move_38 (by decide) (fun c_38 => ?_) (fun c_38 => ?_)))))))
        · skip
          refine s_aload_n dX3_move_45 2 rfl (refb_nat ka) (s_iload_n dX3_move_46 0 rfl (s_iload_n dX3_move_47 1 rfl (s_iastore ka dX3_move_48 rfl hsa hna ⟨(by omega), (by omega)⟩ (s_iconst dX3_move_49 (by decide) (n_zret dX3_move_50 hR rfl (by first | exact Or.inl rfl | exact Or.inr rfl | exact bi_01 _ | omega) ?_)))))
          first | (exfalso; omega) | exact ⟨_, rfl, Or.inl ⟨by omega, rfl, by unfold mvW; simp [*]; done⟩⟩ | exact ⟨_, rfl, Or.inr ⟨by omega, rfl, rfl⟩⟩ | (exfalso; omega)
        · skip
          refine s_aload_n dX3_move_41 3 rfl (refb_nat kb) (s_iload_n dX3_move_42 1 rfl (s_iload_n dX3_move_43 0 rfl (s_iastore kb dX3_move_44 rfl hsb (by decide) ⟨(by omega), (by omega)⟩ (s_aload_n dX3_move_45 2 rfl (refb_nat ka) (s_iload_n dX3_move_46 0 rfl (s_iload_n dX3_move_47 1 rfl (s_iastore ka dX3_move_48 rfl hsa hna ⟨(by omega), (by omega)⟩ (s_iconst dX3_move_49 (by decide) (n_zret dX3_move_50 hR rfl (by first | exact Or.inl rfl | exact Or.inr rfl | exact bi_01 _ | omega) ?_)))))))))
          first | (exfalso; omega) | exact ⟨_, rfl, Or.inl ⟨by omega, rfl, by unfold mvW; simp [*]; done⟩⟩ | exact ⟨_, rfl, Or.inr ⟨by omega, rfl, rfl⟩⟩ | (exfalso; omega)
    · skip
      refine s_aload_n dX3_move_16 3 rfl (refb_nat kb) (s_iload_n dX3_move_17 1 rfl (n_iald kb dX3_move_18 rfl hsb (by decide) ⟨(by omega), (by omega)⟩ (v := (w kb q)) rfl (s_iconst dX3_move_19 (by decide) (s_icmp_eq 25 dX3_move_20 (by decide) (fun c_20 => ?_) (fun c_20 => ?_)))))
      · skip
        refine s_iload dX3_move_25 4 rfl (s_iconst dX3_move_27 (by decide) (s_icmp_eq 36 dX3_move_28 (by decide) (fun c_28 => ?_) (fun c_28 => ?_)))
        · skip
          refine s_iload_n dX3_move_36 1 rfl (s_iconst dX3_move_37 (by decide) (s_icmp_eq 45 dX3_move_38 (by decide) (fun c_38 => ?_) (fun c_38 => ?_)))
          · skip
            refine s_aload_n dX3_move_45 2 rfl (refb_nat ka) (s_iload_n dX3_move_46 0 rfl (s_iload_n dX3_move_47 1 rfl (s_iastore ka dX3_move_48 rfl hsa hna ⟨(by omega), (by omega)⟩ (s_iconst dX3_move_49 (by decide) (n_zret dX3_move_50 hR rfl (by first | exact Or.inl rfl | exact Or.inr rfl | exact bi_01 _ | omega) ?_)))))
            first | (exfalso; omega) | exact ⟨_, rfl, Or.inl ⟨by omega, rfl, by unfold mvW; simp [*]; done⟩⟩ | exact ⟨_, rfl, Or.inr ⟨by omega, rfl, rfl⟩⟩ | (exfalso; omega)
          · skip
            refine s_aload_n dX3_move_41 3 rfl (refb_nat kb) (s_iload_n dX3_move_42 1 rfl (s_iload_n dX3_move_43 0 rfl (s_iastore kb dX3_move_44 rfl hsb (by decide) ⟨(by omega), (by omega)⟩ (s_aload_n dX3_move_45 2 rfl (refb_nat ka) (s_iload_n dX3_move_46 0 rfl (s_iload_n dX3_move_47 1 rfl (s_iastore ka dX3_move_48 rfl hsa hna ⟨(by omega), (by omega)⟩ (s_iconst dX3_move_49 (by decide) (n_zret dX3_move_50 hR rfl (by first | exact Or.inl rfl | exact Or.inr rfl | exact bi_01 _ | omega) ?_)))))))))
            first | (exfalso; omega) | exact ⟨_, rfl, Or.inl ⟨by omega, rfl, by unfold mvW; simp [*]; done⟩⟩ | exact ⟨_, rfl, Or.inr ⟨by omega, rfl, rfl⟩⟩ | (exfalso; omega)
        · skip
          refine s_aload_n dX3_move_31 3 rfl (refb_nat kb) (s_iload dX3_move_32 4 rfl (s_iconst dX3_move_34 (by decide) (s_iastore kb dX3_move_35 rfl hsb (by decide) ⟨(by omega), (by omega)⟩ (s_iload_n dX3_move_36 1 rfl (s_iconst dX3_move_37 (by decide) (s_icmp_eq 45 dX3_move_38 (by decide) (fun c_38 => ?_) (fun c_38 => ?_)))))))
          · skip
            refine s_aload_n dX3_move_45 2 rfl (refb_nat ka) (s_iload_n dX3_move_46 0 rfl (s_iload_n dX3_move_47 1 rfl (s_iastore ka dX3_move_48 rfl hsa hna ⟨(by omega), (by omega)⟩ (s_iconst dX3_move_49 (by decide) (n_zret dX3_move_50 hR rfl (by first | exact Or.inl rfl | exact Or.inr rfl | exact bi_01 _ | omega) ?_)))))
            first | (exfalso; omega) | exact ⟨_, rfl, Or.inl ⟨by omega, rfl, by unfold mvW; simp [*]; done⟩⟩ | exact ⟨_, rfl, Or.inr ⟨by omega, rfl, rfl⟩⟩ | (exfalso; omega)
          · skip
            refine s_aload_n dX3_move_41 3 rfl (refb_nat kb) (s_iload_n dX3_move_42 1 rfl (s_iload_n dX3_move_43 0 rfl (s_iastore kb dX3_move_44 rfl hsb (by decide) ⟨(by omega), (by omega)⟩ (s_aload_n dX3_move_45 2 rfl (refb_nat ka) (s_iload_n dX3_move_46 0 rfl (s_iload_n dX3_move_47 1 rfl (s_iastore ka dX3_move_48 rfl hsa hna ⟨(by omega), (by omega)⟩ (s_iconst dX3_move_49 (by decide) (n_zret dX3_move_50 hR rfl (by first | exact Or.inl rfl | exact Or.inr rfl | exact bi_01 _ | omega) ?_)))))))))
            first | (exfalso; omega) | exact ⟨_, rfl, Or.inl ⟨by omega, rfl, by unfold mvW; simp [*]; done⟩⟩ | exact ⟨_, rfl, Or.inr ⟨by omega, rfl, rfl⟩⟩ | (exfalso; omega)
      · skip
        refine s_iconst dX3_move_23 (by decide) (n_zret dX3_move_24 hR rfl (by first | exact Or.inl rfl | exact Or.inr rfl | exact bi_01 _ | omega) ?_)
        first | (exfalso; omega) | exact ⟨_, rfl, Or.inl ⟨by omega, rfl, by unfold mvW; simp [*]; done⟩⟩ | exact ⟨_, rfl, Or.inr ⟨by omega, rfl, rfl⟩⟩ | (exfalso; omega)

set_option maxRecDepth 100000 in
theorem x_hire (t q : Int) (w : Wd) (h : 0 ≤ w 15 10 ∧ w 15 10 ≤ 16) (hs : 0 ≤ w 15 15 ∧ w 15 15 ≤ 20) (hb : ∀ j, 0 ≤ j → j < w 15 15 → -1 ≤ w 29 j ∧ w 29 j < 16) : CallN 3 mX11_hire [(2, 0), (0, t), (0, q)] w (RQ (Two ((0 ≤ t ∧ t < w 15 15) ∧ (q = -1 ∨ (0 ≤ q ∧ q < w 15 10)) ∧ w 29 t ≠ q ∧ (q = -1 ∨ w 24 q = -1)) w 0 1 (mvW w 29 24 t q))) := by
  refine CallN.intro (by decide +kernel) (Nat.le_of_ble_eq_true rfl) (fun ρ hR => ?_)
  show AtN mX11_hire 3 ρ 0 [(0, (2, 0)), (1, (0, t)), (2, (0, q))] [] w
  refine s_aload_n dX11_hire_0 0 rfl rfl (n_getc (q := 15) 0 1 25 dX11_hire_1 cf_X11 ff_X11_19 rfl sh_0 rfl (by decide) rfl (by decide) (s_iload_n dX11_hire_4 1 rfl (n_invV (as := [(0, t)]) dX11_hire_5 kv_X3_hasSet ml_X11_132 (c_X_hasSet t w) (by decide) 15 cf_X3 rfl sh_15 rfl rfl rfl (Nat.le_of_ble_eq_true rfl) (n_ifeq_b 48 dX11_hire_8 (by decide) (fun c_8 => ?_) (fun c_8 => ?_)))))
  · skip
    refine s_iconst dX11_hire_48 (by decide) (n_zret dX11_hire_49 hR rfl (by first | exact Or.inl rfl | exact Or.inr rfl | exact bi_01 _ | omega) ?_)
    first | exact ⟨_, rfl, Or.inr ⟨by omega, rfl, rfl⟩⟩ | (rcases hz_38 with ⟨e1, e2, e3⟩ | ⟨e1, e2, e3⟩ <;> first | exact ⟨_, rfl, Or.inl ⟨by omega, by omega, e3⟩⟩ | exact ⟨_, rfl, Or.inr ⟨by omega, by omega, e3⟩⟩ | (exfalso; omega))
  · skip
    refine s_aload_n dX11_hire_11 0 rfl rfl (n_getc (q := 15) 0 1 25 dX11_hire_12 cf_X11 ff_X11_19 rfl sh_0 rfl (by decide) rfl (by decide) (s_iload_n dX11_hire_15 2 rfl (n_invV (as := [(0, q)]) dX11_hire_16 kv_X3_goesTo ml_X11_135 (c_X_goesTo q w) (by decide) 15 cf_X3 rfl sh_15 rfl rfl rfl (Nat.le_of_ble_eq_true rfl) (n_ifeq_b 48 dX11_hire_19 (by decide) (fun c_19 => ?_) (fun c_19 => ?_)))))
    · skip
      refine s_iconst dX11_hire_48 (by decide) (n_zret dX11_hire_49 hR rfl (by first | exact Or.inl rfl | exact Or.inr rfl | exact bi_01 _ | omega) ?_)
      first | exact ⟨_, rfl, Or.inr ⟨by omega, rfl, rfl⟩⟩ | (rcases hz_38 with ⟨e1, e2, e3⟩ | ⟨e1, e2, e3⟩ <;> first | exact ⟨_, rfl, Or.inl ⟨by omega, by omega, e3⟩⟩ | exact ⟨_, rfl, Or.inr ⟨by omega, by omega, e3⟩⟩ | (exfalso; omega))
    · skip
      refine s_iload_n dX11_hire_22 1 rfl (s_iload_n dX11_hire_23 2 rfl (s_aload_n dX11_hire_24 0 rfl rfl (n_getc (q := 15) 0 1 25 dX11_hire_25 cf_X11 ff_X11_19 rfl sh_0 rfl (by decide) rfl (by decide) (n_getc (q := 29) 15 14 39 dX11_hire_28 cf_X3 ff_X11_138 rfl sh_15 rfl (by decide) rfl (by decide) (s_aload_n dX11_hire_31 0 rfl rfl (n_getc (q := 15) 0 1 25 dX11_hire_32 cf_X11 ff_X11_19 rfl sh_0 rfl (by decide) rfl (by decide) (n_getc (q := 24) 15 8 34 dX11_hire_35 cf_X3 ff_X11_142 rfl sh_15 rfl (by decide) rfl (by decide) (n_invS' (as := [(0, t), (0, q), (2, 29), (2, 24)]) dX11_hire_38 kv_X3_move ml_X11_145 (c_X_move t q 29 24 _ w sh_29 sh_24 (by decide) ⟨by omega, by omega⟩ ⟨by omega, by omega⟩ (hb _ (by omega) (by omega))) (by decide) rfl rfl (Nat.le_of_ble_eq_true rfl) ?_))))))))
      rintro r_38 w_38 ⟨z_38, rfl, hz_38⟩
      show AtN _ _ ρ _ _ [(0, z_38)] w_38
      refine s_if_eq 48 dX11_hire_41 (by decide) (fun c_41 => ?_) (fun c_41 => ?_)
      · skip
        refine s_iconst dX11_hire_48 (by decide) (n_zret dX11_hire_49 hR rfl (by first | exact Or.inl rfl | exact Or.inr rfl | exact bi_01 _ | omega) ?_)
        first | exact ⟨_, rfl, Or.inr ⟨by omega, rfl, rfl⟩⟩ | (rcases hz_38 with ⟨e1, e2, e3⟩ | ⟨e1, e2, e3⟩ <;> first | exact ⟨_, rfl, Or.inl ⟨by omega, by omega, e3⟩⟩ | exact ⟨_, rfl, Or.inr ⟨by omega, by omega, e3⟩⟩ | (exfalso; omega))
      · skip
        refine s_iconst dX11_hire_44 (by decide) (s_goto 49 dX11_hire_45 (by decide) (n_zret dX11_hire_49 hR rfl (by first | exact Or.inl rfl | exact Or.inr rfl | exact bi_01 _ | omega) ?_))
        first | exact ⟨_, rfl, Or.inr ⟨by omega, rfl, rfl⟩⟩ | (rcases hz_38 with ⟨e1, e2, e3⟩ | ⟨e1, e2, e3⟩ <;> first | exact ⟨_, rfl, Or.inl ⟨by omega, by omega, e3⟩⟩ | exact ⟨_, rfl, Or.inr ⟨by omega, by omega, e3⟩⟩ | (exfalso; omega))

set_option maxRecDepth 100000 in
theorem x_book (t q : Int) (w : Wd) (h : 0 ≤ w 15 10 ∧ w 15 10 ≤ 16) (hs : 0 ≤ w 1 9 ∧ w 1 9 ≤ 30) (hb : ∀ j, 0 ≤ j → j < w 1 9 → -1 ≤ w 9 j ∧ w 9 j < 16) : CallN 3 mX11_book [(2, 0), (0, t), (0, q)] w (RQ (Two ((0 ≤ t ∧ t < w 1 9) ∧ (q = -1 ∨ (0 ≤ q ∧ q < w 15 10)) ∧ w 9 t ≠ q ∧ (q = -1 ∨ w 25 q = -1)) w 0 1 (mvW w 9 25 t q))) := by
  refine CallN.intro (by decide +kernel) (Nat.le_of_ble_eq_true rfl) (fun ρ hR => ?_)
  show AtN mX11_book 3 ρ 0 [(0, (2, 0)), (1, (0, t)), (2, (0, q))] [] w
  refine s_aload_n dX11_book_0 0 rfl rfl (n_getc (q := 1) 0 0 11 dX11_book_1 cf_X11 ff_X11_10 rfl sh_0 rfl (by decide) rfl (by decide) (s_iload_n dX11_book_4 1 rfl (n_invV (as := [(0, t)]) dX11_book_5 kv_X5_hasPrint ml_X11_114 (c_X_hasPrint t w) (by decide) 1 cf_X5 rfl sh_1 rfl rfl rfl (Nat.le_of_ble_eq_true rfl) (n_ifeq_b 48 dX11_book_8 (by decide) (fun c_8 => ?_) (fun c_8 => ?_)))))
  · skip
    refine s_iconst dX11_book_48 (by decide) (n_zret dX11_book_49 hR rfl (by first | exact Or.inl rfl | exact Or.inr rfl | exact bi_01 _ | omega) ?_)
    first | exact ⟨_, rfl, Or.inr ⟨by omega, rfl, rfl⟩⟩ | (rcases hz_38 with ⟨e1, e2, e3⟩ | ⟨e1, e2, e3⟩ <;> first | exact ⟨_, rfl, Or.inl ⟨by omega, by omega, e3⟩⟩ | exact ⟨_, rfl, Or.inr ⟨by omega, by omega, e3⟩⟩ | (exfalso; omega))
  · skip
    refine s_aload_n dX11_book_11 0 rfl rfl (n_getc (q := 15) 0 1 25 dX11_book_12 cf_X11 ff_X11_19 rfl sh_0 rfl (by decide) rfl (by decide) (s_iload_n dX11_book_15 2 rfl (n_invV (as := [(0, q)]) dX11_book_16 kv_X3_goesTo ml_X11_135 (c_X_goesTo q w) (by decide) 15 cf_X3 rfl sh_15 rfl rfl rfl (Nat.le_of_ble_eq_true rfl) (n_ifeq_b 48 dX11_book_19 (by decide) (fun c_19 => ?_) (fun c_19 => ?_)))))
    · skip
      refine s_iconst dX11_book_48 (by decide) (n_zret dX11_book_49 hR rfl (by first | exact Or.inl rfl | exact Or.inr rfl | exact bi_01 _ | omega) ?_)
      first | exact ⟨_, rfl, Or.inr ⟨by omega, rfl, rfl⟩⟩ | (rcases hz_38 with ⟨e1, e2, e3⟩ | ⟨e1, e2, e3⟩ <;> first | exact ⟨_, rfl, Or.inl ⟨by omega, by omega, e3⟩⟩ | exact ⟨_, rfl, Or.inr ⟨by omega, by omega, e3⟩⟩ | (exfalso; omega))
    · skip
      refine s_iload_n dX11_book_22 1 rfl (s_iload_n dX11_book_23 2 rfl (s_aload_n dX11_book_24 0 rfl rfl (n_getc (q := 1) 0 0 11 dX11_book_25 cf_X11 ff_X11_10 rfl sh_0 rfl (by decide) rfl (by decide) (n_getc (q := 9) 1 8 19 dX11_book_28 cf_X5 ff_X11_149 rfl sh_1 rfl (by decide) rfl (by decide) (s_aload_n dX11_book_31 0 rfl rfl (n_getc (q := 15) 0 1 25 dX11_book_32 cf_X11 ff_X11_19 rfl sh_0 rfl (by decide) rfl (by decide) (n_getc (q := 25) 15 9 35 dX11_book_35 cf_X3 ff_X11_152 rfl sh_15 rfl (by decide) rfl (by decide) (n_invS' (as := [(0, t), (0, q), (2, 9), (2, 25)]) dX11_book_38 kv_X3_move ml_X11_145 (c_X_move t q 9 25 _ w sh_9 sh_25 (by decide) ⟨by omega, by omega⟩ ⟨by omega, by omega⟩ (hb _ (by omega) (by omega))) (by decide) rfl rfl (Nat.le_of_ble_eq_true rfl) ?_))))))))
      rintro r_38 w_38 ⟨z_38, rfl, hz_38⟩
      show AtN _ _ ρ _ _ [(0, z_38)] w_38
      refine s_if_eq 48 dX11_book_41 (by decide) (fun c_41 => ?_) (fun c_41 => ?_)
      · skip
        refine s_iconst dX11_book_48 (by decide) (n_zret dX11_book_49 hR rfl (by first | exact Or.inl rfl | exact Or.inr rfl | exact bi_01 _ | omega) ?_)
        first | exact ⟨_, rfl, Or.inr ⟨by omega, rfl, rfl⟩⟩ | (rcases hz_38 with ⟨e1, e2, e3⟩ | ⟨e1, e2, e3⟩ <;> first | exact ⟨_, rfl, Or.inl ⟨by omega, by omega, e3⟩⟩ | exact ⟨_, rfl, Or.inr ⟨by omega, by omega, e3⟩⟩ | (exfalso; omega))
      · skip
        refine s_iconst dX11_book_44 (by decide) (s_goto 49 dX11_book_45 (by decide) (n_zret dX11_book_49 hR rfl (by first | exact Or.inl rfl | exact Or.inr rfl | exact bi_01 _ | omega) ?_))
        first | exact ⟨_, rfl, Or.inr ⟨by omega, rfl, rfl⟩⟩ | (rcases hz_38 with ⟨e1, e2, e3⟩ | ⟨e1, e2, e3⟩ <;> first | exact ⟨_, rfl, Or.inl ⟨by omega, by omega, e3⟩⟩ | exact ⟨_, rfl, Or.inr ⟨by omega, by omega, e3⟩⟩ | (exfalso; omega))

set_option maxRecDepth 100000 in
theorem c_M_setIn (q : Int) (w : Wd) (h : 0 ≤ w 141 5 ∧ w 141 5 ≤ 20) : CallN 1 mX12_setIn [(2, 141), (0, q)] w (RV (0, fst (w 168) q (w 141 5).toNat) w) := by
  refine CallN.intro (by decide +kernel) (Nat.le_of_ble_eq_true rfl) (fun ρ hR => ?_)
  show AtN mX12_setIn 1 ρ 0 [(0, (2, 141)), (1, (0, q))] [] w
  have L_2 : ∀ (fu : Nat) (i : Int), 0 ≤ i ∧ i ≤ w 141 5 → fst (w 168) q i.toNat = -1 → (w 141 5 - i).toNat < fu → AtN mX12_setIn 1 ρ 2 [(0, (2, 141)), (1, (0, q)), (2, (0, i))] [] w := by
    intro fu
    induction fu with
    | zero => intro i hi hf hm; exact absurd hm (Nat.not_lt_zero _)
    | succ fu ih =>
      intro i hi hf hm
      refine s_iload_n dX12_setIn_2 2 rfl (s_aload_n dX12_setIn_3 0 rfl rfl (n_getf 141 5 0 dX12_setIn_4 cf_X12 ff_X12_233 rfl sh_141 rfl (by decide) (v := (w 141 5)) rfl (s_icmp_ge 28 dX12_setIn_7 (by decide) (fun c_7 => ?_) (fun c_7 => ?_))))
      · skip
        refine s_iconst dX12_setIn_28 (by decide) (n_iret dX12_setIn_29 hR rfl ?_)
        have e9 : i = w 141 5 := by omega
        rw [e9] at hf
        exact ⟨congrArg (fun z => some ((0 : Nat), z)) hf.symm, rfl⟩
      · skip
        refine s_aload_n dX12_setIn_10 0 rfl rfl (n_getc (q := 168) 141 36 178 dX12_setIn_11 cf_X12 ff_X12_89 rfl sh_141 rfl (by decide) rfl (by decide) (s_iload_n dX12_setIn_14 2 rfl (n_iald 168 dX12_setIn_15 rfl sh_168 (by decide) ⟨(by omega), (by omega)⟩ (v := (w 168 i)) rfl (s_iload_n dX12_setIn_16 1 rfl (s_icmp_ne 22 dX12_setIn_17 (by decide) (fun c_17 => ?_) (fun c_17 => ?_))))))
        · skip
          refine s_iinc (z := (i + 1)) (ls' := [(0, (2, 141)), (1, (0, q)), (2, (0, (i + 1)))]) dX12_setIn_22 2 rfl (Nat.le_of_ble_eq_true rfl) (wr_id (by omega) (by omega)) rfl (s_goto 2 dX12_setIn_25 (by decide) ?_)
          exact ih (i + 1) (by omega) (fst_step hi.1 hf c_17) (by omega)
        · skip
          refine s_iload_n dX12_setIn_20 2 rfl (n_iret dX12_setIn_21 hR rfl ?_)
          exact ⟨congrArg (fun z => some ((0 : Nat), z)) (fst_hit hi.1 hf (Classical.not_not.mp c_17) _ (by omega)).symm, rfl⟩
  refine s_iconst dX12_setIn_0 (by decide) (s_istore_n (ls' := [(0, (2, 141)), (1, (0, q)), (2, (0, 0))]) dX12_setIn_1 (Nat.le_of_ble_eq_true rfl) rfl ?_)
  exact L_2 _ 0 (by omega) rfl (Nat.lt_succ_self _)

set_option maxRecDepth 100000 in
theorem c_M_printIn (q : Int) (w : Wd) (h : 0 ≤ w 141 2 ∧ w 141 2 ≤ 30) : CallN 1 mX12_printIn [(2, 141), (0, q)] w (RV (0, fst (w 149) q (w 141 2).toNat) w) := by
  refine CallN.intro (by decide +kernel) (Nat.le_of_ble_eq_true rfl) (fun ρ hR => ?_)
  show AtN mX12_printIn 1 ρ 0 [(0, (2, 141)), (1, (0, q))] [] w
  have L_2 : ∀ (fu : Nat) (i : Int), 0 ≤ i ∧ i ≤ w 141 2 → fst (w 149) q i.toNat = -1 → (w 141 2 - i).toNat < fu → AtN mX12_printIn 1 ρ 2 [(0, (2, 141)), (1, (0, q)), (2, (0, i))] [] w := by
    intro fu
    induction fu with
    | zero => intro i hi hf hm; exact absurd hm (Nat.not_lt_zero _)
    | succ fu ih =>
      intro i hi hf hm
      refine s_iload_n dX12_printIn_2 2 rfl (s_aload_n dX12_printIn_3 0 rfl rfl (n_getf 141 2 0 dX12_printIn_4 cf_X12 ff_X12_227 rfl sh_141 rfl (by decide) (v := (w 141 2)) rfl (s_icmp_ge 28 dX12_printIn_7 (by decide) (fun c_7 => ?_) (fun c_7 => ?_))))
      · skip
        refine s_iconst dX12_printIn_28 (by decide) (n_iret dX12_printIn_29 hR rfl ?_)
        have e9 : i = w 141 2 := by omega
        rw [e9] at hf
        exact ⟨congrArg (fun z => some ((0 : Nat), z)) hf.symm, rfl⟩
      · skip
        refine s_aload_n dX12_printIn_10 0 rfl rfl (n_getc (q := 149) 141 17 159 dX12_printIn_11 cf_X12 ff_X12_31 rfl sh_141 rfl (by decide) rfl (by decide) (s_iload_n dX12_printIn_14 2 rfl (n_iald 149 dX12_printIn_15 rfl sh_149 (by decide) ⟨(by omega), (by omega)⟩ (v := (w 149 i)) rfl (s_iload_n dX12_printIn_16 1 rfl (s_icmp_ne 22 dX12_printIn_17 (by decide) (fun c_17 => ?_) (fun c_17 => ?_))))))
        · skip
          refine s_iinc (z := (i + 1)) (ls' := [(0, (2, 141)), (1, (0, q)), (2, (0, (i + 1)))]) dX12_printIn_22 2 rfl (Nat.le_of_ble_eq_true rfl) (wr_id (by omega) (by omega)) rfl (s_goto 2 dX12_printIn_25 (by decide) ?_)
          exact ih (i + 1) (by omega) (fst_step hi.1 hf c_17) (by omega)
        · skip
          refine s_iload_n dX12_printIn_20 2 rfl (n_iret dX12_printIn_21 hR rfl ?_)
          exact ⟨congrArg (fun z => some ((0 : Nat), z)) (fst_hit hi.1 hf (Classical.not_not.mp c_17) _ (by omega)).symm, rfl⟩
  refine s_iconst dX12_printIn_0 (by decide) (s_istore_n (ls' := [(0, (2, 141)), (1, (0, q)), (2, (0, 0))]) dX12_printIn_1 (Nat.le_of_ble_eq_true rfl) rfl ?_)
  exact L_2 _ 0 (by omega) rfl (Nat.lt_succ_self _)

set_option maxRecDepth 100000 in
theorem m_hire (t q : Int) (w : Wd) (h : 0 ≤ w 141 4 ∧ w 141 4 ≤ 16) (hs : 0 ≤ w 141 5 ∧ w 141 5 ≤ 20) : CallN 3 mX12_hire [(2, 141), (0, t), (0, q)] w (RQ (Two ((0 ≤ t ∧ t < w 141 5) ∧ (q = -1 ∨ (0 ≤ q ∧ q < w 141 4)) ∧ w 168 t ≠ q ∧ (q = -1 ∨ fst (w 168) q (w 141 5).toNat = -1)) w 0 1 (wu w 168 t q))) := by
  refine CallN.intro (by decide +kernel) (Nat.le_of_ble_eq_true rfl) (fun ρ hR => ?_)
  show AtN mX12_hire 3 ρ 0 [(0, (2, 141)), (1, (0, t)), (2, (0, q))] [] w
  refine s_aload_n dX12_hire_0 0 rfl rfl (s_iload_n dX12_hire_1 1 rfl (n_invV (as := [(0, t)]) dX12_hire_2 kv_X12_isSet ml_X12_267 (c_M_isSet t w (by omega)) (by decide) 141 cf_X12 rfl sh_141 rfl rfl rfl (Nat.le_of_ble_eq_true rfl) (n_ifeq_b 45 dX12_hire_5 (by decide) (fun c_5 => ?_) (fun c_5 => ?_))))
  · skip
    refine s_iconst dX12_hire_45 (by decide) (n_zret dX12_hire_46 hR rfl (by first | exact Or.inl rfl | exact Or.inr rfl | exact bi_01 _ | omega) ?_)
    first | exact ⟨_, rfl, Or.inl ⟨by omega, rfl, rfl⟩⟩ | exact ⟨_, rfl, Or.inr ⟨by omega, rfl, rfl⟩⟩
  · skip
    refine s_iload_n dX12_hire_8 2 rfl (s_iconst dX12_hire_9 (by decide) (s_icmp_eq 21 dX12_hire_10 (by decide) (fun c_10 => ?_) (fun c_10 => ?_)))
    · skip
      refine s_aload_n dX12_hire_21 0 rfl rfl (n_getc (q := 168) 141 36 178 dX12_hire_22 cf_X12 ff_X12_89 rfl sh_141 rfl (by decide) rfl (by decide) (s_iload_n dX12_hire_25 1 rfl (n_iald 168 dX12_hire_26 rfl sh_168 (by decide) ⟨(by omega), (by omega)⟩ (v := (w 168 t)) rfl (s_iload_n dX12_hire_27 2 rfl (s_icmp_eq 45 dX12_hire_28 (by decide) (fun c_28 => ?_) (fun c_28 => ?_))))))
      · skip
        refine s_iconst dX12_hire_45 (by decide) (n_zret dX12_hire_46 hR rfl (by first | exact Or.inl rfl | exact Or.inr rfl | exact bi_01 _ | omega) ?_)
        first | exact ⟨_, rfl, Or.inl ⟨by omega, rfl, rfl⟩⟩ | exact ⟨_, rfl, Or.inr ⟨by omega, rfl, rfl⟩⟩
      · skip
        refine s_iload_n dX12_hire_31 2 rfl (s_iconst dX12_hire_32 (by decide) (s_icmp_eq 47 dX12_hire_33 (by decide) (fun c_33 => ?_) (fun c_33 => ?_)))
        · skip
          refine s_aload_n dX12_hire_47 0 rfl rfl (n_getc (q := 168) 141 36 178 dX12_hire_48 cf_X12 ff_X12_89 rfl sh_141 rfl (by decide) rfl (by decide) (s_iload_n dX12_hire_51 1 rfl (s_iload_n dX12_hire_52 2 rfl (s_iastore 168 dX12_hire_53 rfl sh_168 (by decide) ⟨(by omega), (by omega)⟩ (s_iconst dX12_hire_54 (by decide) (n_zret dX12_hire_55 hR rfl (by first | exact Or.inl rfl | exact Or.inr rfl | exact bi_01 _ | omega) ?_))))))
          first | exact ⟨_, rfl, Or.inl ⟨by omega, rfl, rfl⟩⟩ | exact ⟨_, rfl, Or.inr ⟨by omega, rfl, rfl⟩⟩
        · skip
          refine s_aload_n dX12_hire_36 0 rfl rfl (s_iload_n dX12_hire_37 2 rfl (n_invV (as := [(0, q)]) dX12_hire_38 kv_X12_setIn ml_X12_270 (c_M_setIn q w (by omega)) (by decide) 141 cf_X12 rfl sh_141 rfl rfl rfl (Nat.le_of_ble_eq_true rfl) (s_iconst dX12_hire_41 (by decide) (s_icmp_eq 47 dX12_hire_42 (by decide) (fun c_42 => ?_) (fun c_42 => ?_)))))
          · skip
            refine s_aload_n dX12_hire_47 0 rfl rfl (n_getc (q := 168) 141 36 178 dX12_hire_48 cf_X12 ff_X12_89 rfl sh_141 rfl (by decide) rfl (by decide) (s_iload_n dX12_hire_51 1 rfl (s_iload_n dX12_hire_52 2 rfl (s_iastore 168 dX12_hire_53 rfl sh_168 (by decide) ⟨(by omega), (by omega)⟩ (s_iconst dX12_hire_54 (by decide) (n_zret dX12_hire_55 hR rfl (by first | exact Or.inl rfl | exact Or.inr rfl | exact bi_01 _ | omega) ?_))))))
            first | exact ⟨_, rfl, Or.inl ⟨by omega, rfl, rfl⟩⟩ | exact ⟨_, rfl, Or.inr ⟨by omega, rfl, rfl⟩⟩
          · skip
            refine s_iconst dX12_hire_45 (by decide) (n_zret dX12_hire_46 hR rfl (by first | exact Or.inl rfl | exact Or.inr rfl | exact bi_01 _ | omega) ?_)
            first | exact ⟨_, rfl, Or.inl ⟨by omega, rfl, rfl⟩⟩ | exact ⟨_, rfl, Or.inr ⟨by omega, rfl, rfl⟩⟩
    · skip
      refine s_aload_n dX12_hire_13 0 rfl rfl (s_iload_n dX12_hire_14 2 rfl (n_invV (as := [(0, q)]) dX12_hire_15 kv_X12_isHall ml_X12_264 (c_M_isHall q w (by omega)) (by decide) 141 cf_X12 rfl sh_141 rfl rfl rfl (Nat.le_of_ble_eq_true rfl) (n_ifeq_b 45 dX12_hire_18 (by decide) (fun c_18 => ?_) (fun c_18 => ?_))))
      · skip
        refine s_iconst dX12_hire_45 (by decide) (n_zret dX12_hire_46 hR rfl (by first | exact Or.inl rfl | exact Or.inr rfl | exact bi_01 _ | omega) ?_)
        first | exact ⟨_, rfl, Or.inl ⟨by omega, rfl, rfl⟩⟩ | exact ⟨_, rfl, Or.inr ⟨by omega, rfl, rfl⟩⟩
      · skip
        refine s_aload_n dX12_hire_21 0 rfl rfl (n_getc (q := 168) 141 36 178 dX12_hire_22 cf_X12 ff_X12_89 rfl sh_141 rfl (by decide) rfl (by decide) (s_iload_n dX12_hire_25 1 rfl (n_iald 168 dX12_hire_26 rfl sh_168 (by decide) ⟨(by omega), (by omega)⟩ (v := (w 168 t)) rfl (s_iload_n dX12_hire_27 2 rfl (s_icmp_eq 45 dX12_hire_28 (by decide) (fun c_28 => ?_) (fun c_28 => ?_))))))
        · skip
          refine s_iconst dX12_hire_45 (by decide) (n_zret dX12_hire_46 hR rfl (by first | exact Or.inl rfl | exact Or.inr rfl | exact bi_01 _ | omega) ?_)
          first | exact ⟨_, rfl, Or.inl ⟨by omega, rfl, rfl⟩⟩ | exact ⟨_, rfl, Or.inr ⟨by omega, rfl, rfl⟩⟩
        · skip
          refine s_iload_n dX12_hire_31 2 rfl (s_iconst dX12_hire_32 (by decide) (s_icmp_eq 47 dX12_hire_33 (by decide) (fun c_33 => ?_) (fun c_33 => ?_)))
          · skip
            refine s_aload_n dX12_hire_47 0 rfl rfl (n_getc (q := 168) 141 36 178 dX12_hire_48 cf_X12 ff_X12_89 rfl sh_141 rfl (by decide) rfl (by decide) (s_iload_n dX12_hire_51 1 rfl (s_iload_n dX12_hire_52 2 rfl (s_iastore 168 dX12_hire_53 rfl sh_168 (by decide) ⟨(by omega), (by omega)⟩ (s_iconst dX12_hire_54 (by decide) (n_zret dX12_hire_55 hR rfl (by first | exact Or.inl rfl | exact Or.inr rfl | exact bi_01 _ | omega) ?_))))))
            first | exact ⟨_, rfl, Or.inl ⟨by omega, rfl, rfl⟩⟩ | exact ⟨_, rfl, Or.inr ⟨by omega, rfl, rfl⟩⟩
          · skip
            refine s_aload_n dX12_hire_36 0 rfl rfl (s_iload_n dX12_hire_37 2 rfl (n_invV (as := [(0, q)]) dX12_hire_38 kv_X12_setIn ml_X12_270 (c_M_setIn q w (by omega)) (by decide) 141 cf_X12 rfl sh_141 rfl rfl rfl (Nat.le_of_ble_eq_true rfl) (s_iconst dX12_hire_41 (by decide) (s_icmp_eq 47 dX12_hire_42 (by decide) (fun c_42 => ?_) (fun c_42 => ?_)))))
            · skip
              refine s_aload_n dX12_hire_47 0 rfl rfl (n_getc (q := 168) 141 36 178 dX12_hire_48 cf_X12 ff_X12_89 rfl sh_141 rfl (by decide) rfl (by decide) (s_iload_n dX12_hire_51 1 rfl (s_iload_n dX12_hire_52 2 rfl (s_iastore 168 dX12_hire_53 rfl sh_168 (by decide) ⟨(by omega), (by omega)⟩ (s_iconst dX12_hire_54 (by decide) (n_zret dX12_hire_55 hR rfl (by first | exact Or.inl rfl | exact Or.inr rfl | exact bi_01 _ | omega) ?_))))))
              first | exact ⟨_, rfl, Or.inl ⟨by omega, rfl, rfl⟩⟩ | exact ⟨_, rfl, Or.inr ⟨by omega, rfl, rfl⟩⟩
            · skip
              refine s_iconst dX12_hire_45 (by decide) (n_zret dX12_hire_46 hR rfl (by first | exact Or.inl rfl | exact Or.inr rfl | exact bi_01 _ | omega) ?_)
              first | exact ⟨_, rfl, Or.inl ⟨by omega, rfl, rfl⟩⟩ | exact ⟨_, rfl, Or.inr ⟨by omega, rfl, rfl⟩⟩

set_option maxRecDepth 100000 in
theorem m_book (t q : Int) (w : Wd) (h : 0 ≤ w 141 4 ∧ w 141 4 ≤ 16) (hs : 0 ≤ w 141 2 ∧ w 141 2 ≤ 30) : CallN 3 mX12_book [(2, 141), (0, t), (0, q)] w (RQ (Two ((0 ≤ t ∧ t < w 141 2) ∧ (q = -1 ∨ (0 ≤ q ∧ q < w 141 4)) ∧ w 149 t ≠ q ∧ (q = -1 ∨ fst (w 149) q (w 141 2).toNat = -1)) w 0 1 (wu w 149 t q))) := by
  refine CallN.intro (by decide +kernel) (Nat.le_of_ble_eq_true rfl) (fun ρ hR => ?_)
  show AtN mX12_book 3 ρ 0 [(0, (2, 141)), (1, (0, t)), (2, (0, q))] [] w
  refine s_aload_n dX12_book_0 0 rfl rfl (s_iload_n dX12_book_1 1 rfl (n_invV (as := [(0, t)]) dX12_book_2 kv_X12_isPrint ml_X12_243 (c_M_isPrint t w (by omega)) (by decide) 141 cf_X12 rfl sh_141 rfl rfl rfl (Nat.le_of_ble_eq_true rfl) (n_ifeq_b 45 dX12_book_5 (by decide) (fun c_5 => ?_) (fun c_5 => ?_))))
  · skip
    refine s_iconst dX12_book_45 (by decide) (n_zret dX12_book_46 hR rfl (by first | exact Or.inl rfl | exact Or.inr rfl | exact bi_01 _ | omega) ?_)
    first | exact ⟨_, rfl, Or.inl ⟨by omega, rfl, rfl⟩⟩ | exact ⟨_, rfl, Or.inr ⟨by omega, rfl, rfl⟩⟩
  · skip
    refine s_iload_n dX12_book_8 2 rfl (s_iconst dX12_book_9 (by decide) (s_icmp_eq 21 dX12_book_10 (by decide) (fun c_10 => ?_) (fun c_10 => ?_)))
    · skip
      refine s_aload_n dX12_book_21 0 rfl rfl (n_getc (q := 149) 141 17 159 dX12_book_22 cf_X12 ff_X12_31 rfl sh_141 rfl (by decide) rfl (by decide) (s_iload_n dX12_book_25 1 rfl (n_iald 149 dX12_book_26 rfl sh_149 (by decide) ⟨(by omega), (by omega)⟩ (v := (w 149 t)) rfl (s_iload_n dX12_book_27 2 rfl (s_icmp_eq 45 dX12_book_28 (by decide) (fun c_28 => ?_) (fun c_28 => ?_))))))
      · skip
        refine s_iconst dX12_book_45 (by decide) (n_zret dX12_book_46 hR rfl (by first | exact Or.inl rfl | exact Or.inr rfl | exact bi_01 _ | omega) ?_)
        first | exact ⟨_, rfl, Or.inl ⟨by omega, rfl, rfl⟩⟩ | exact ⟨_, rfl, Or.inr ⟨by omega, rfl, rfl⟩⟩
      · skip
        refine s_iload_n dX12_book_31 2 rfl (s_iconst dX12_book_32 (by decide) (s_icmp_eq 47 dX12_book_33 (by decide) (fun c_33 => ?_) (fun c_33 => ?_)))
        · skip
          refine s_aload_n dX12_book_47 0 rfl rfl (n_getc (q := 149) 141 17 159 dX12_book_48 cf_X12 ff_X12_31 rfl sh_141 rfl (by decide) rfl (by decide) (s_iload_n dX12_book_51 1 rfl (s_iload_n dX12_book_52 2 rfl (s_iastore 149 dX12_book_53 rfl sh_149 (by decide) ⟨(by omega), (by omega)⟩ (s_iconst dX12_book_54 (by decide) (n_zret dX12_book_55 hR rfl (by first | exact Or.inl rfl | exact Or.inr rfl | exact bi_01 _ | omega) ?_))))))
          first | exact ⟨_, rfl, Or.inl ⟨by omega, rfl, rfl⟩⟩ | exact ⟨_, rfl, Or.inr ⟨by omega, rfl, rfl⟩⟩
        · skip
          refine s_aload_n dX12_book_36 0 rfl rfl (s_iload_n dX12_book_37 2 rfl (n_invV (as := [(0, q)]) dX12_book_38 kv_X12_printIn ml_X12_274 (c_M_printIn q w (by omega)) (by decide) 141 cf_X12 rfl sh_141 rfl rfl rfl (Nat.le_of_ble_eq_true rfl) (s_iconst dX12_book_41 (by decide) (s_icmp_eq 47 dX12_book_42 (by decide) (fun c_42 => ?_) (fun c_42 => ?_)))))
          · skip
            refine s_aload_n dX12_book_47 0 rfl rfl (n_getc (q := 149) 141 17 159 dX12_book_48 cf_X12 ff_X12_31 rfl sh_141 rfl (by decide) rfl (by decide) (s_iload_n dX12_book_51 1 rfl (s_iload_n dX12_book_52 2 rfl (s_iastore 149 dX12_book_53 rfl sh_149 (by decide) ⟨(by omega), (by omega)⟩ (s_iconst dX12_book_54 (by decide) (n_zret dX12_book_55 hR rfl (by first | exact Or.inl rfl | exact Or.inr rfl | exact bi_01 _ | omega) ?_))))))
            first | exact ⟨_, rfl, Or.inl ⟨by omega, rfl, rfl⟩⟩ | exact ⟨_, rfl, Or.inr ⟨by omega, rfl, rfl⟩⟩
          · skip
            refine s_iconst dX12_book_45 (by decide) (n_zret dX12_book_46 hR rfl (by first | exact Or.inl rfl | exact Or.inr rfl | exact bi_01 _ | omega) ?_)
            first | exact ⟨_, rfl, Or.inl ⟨by omega, rfl, rfl⟩⟩ | exact ⟨_, rfl, Or.inr ⟨by omega, rfl, rfl⟩⟩
    · skip
      refine s_aload_n dX12_book_13 0 rfl rfl (s_iload_n dX12_book_14 2 rfl (n_invV (as := [(0, q)]) dX12_book_15 kv_X12_isHall ml_X12_264 (c_M_isHall q w (by omega)) (by decide) 141 cf_X12 rfl sh_141 rfl rfl rfl (Nat.le_of_ble_eq_true rfl) (n_ifeq_b 45 dX12_book_18 (by decide) (fun c_18 => ?_) (fun c_18 => ?_))))
      · skip
        refine s_iconst dX12_book_45 (by decide) (n_zret dX12_book_46 hR rfl (by first | exact Or.inl rfl | exact Or.inr rfl | exact bi_01 _ | omega) ?_)
        first | exact ⟨_, rfl, Or.inl ⟨by omega, rfl, rfl⟩⟩ | exact ⟨_, rfl, Or.inr ⟨by omega, rfl, rfl⟩⟩
      · skip
        refine s_aload_n dX12_book_21 0 rfl rfl (n_getc (q := 149) 141 17 159 dX12_book_22 cf_X12 ff_X12_31 rfl sh_141 rfl (by decide) rfl (by decide) (s_iload_n dX12_book_25 1 rfl (n_iald 149 dX12_book_26 rfl sh_149 (by decide) ⟨(by omega), (by omega)⟩ (v := (w 149 t)) rfl (s_iload_n dX12_book_27 2 rfl (s_icmp_eq 45 dX12_book_28 (by decide) (fun c_28 => ?_) (fun c_28 => ?_))))))
        · skip
          refine s_iconst dX12_book_45 (by decide) (n_zret dX12_book_46 hR rfl (by first | exact Or.inl rfl | exact Or.inr rfl | exact bi_01 _ | omega) ?_)
          first | exact ⟨_, rfl, Or.inl ⟨by omega, rfl, rfl⟩⟩ | exact ⟨_, rfl, Or.inr ⟨by omega, rfl, rfl⟩⟩
        · skip
          refine s_iload_n dX12_book_31 2 rfl (s_iconst dX12_book_32 (by decide) (s_icmp_eq 47 dX12_book_33 (by decide) (fun c_33 => ?_) (fun c_33 => ?_)))
          · skip
            refine s_aload_n dX12_book_47 0 rfl rfl (n_getc (q := 149) 141 17 159 dX12_book_48 cf_X12 ff_X12_31 rfl sh_141 rfl (by decide) rfl (by decide) (s_iload_n dX12_book_51 1 rfl (s_iload_n dX12_book_52 2 rfl (s_iastore 149 dX12_book_53 rfl sh_149 (by decide) ⟨(by omega), (by omega)⟩ (s_iconst dX12_book_54 (by decide) (n_zret dX12_book_55 hR rfl (by first | exact Or.inl rfl | exact Or.inr rfl | exact bi_01 _ | omega) ?_))))))
            first | exact ⟨_, rfl, Or.inl ⟨by omega, rfl, rfl⟩⟩ | exact ⟨_, rfl, Or.inr ⟨by omega, rfl, rfl⟩⟩
          · skip
            refine s_aload_n dX12_book_36 0 rfl rfl (s_iload_n dX12_book_37 2 rfl (n_invV (as := [(0, q)]) dX12_book_38 kv_X12_printIn ml_X12_274 (c_M_printIn q w (by omega)) (by decide) 141 cf_X12 rfl sh_141 rfl rfl rfl (Nat.le_of_ble_eq_true rfl) (s_iconst dX12_book_41 (by decide) (s_icmp_eq 47 dX12_book_42 (by decide) (fun c_42 => ?_) (fun c_42 => ?_)))))
            · skip
              refine s_aload_n dX12_book_47 0 rfl rfl (n_getc (q := 149) 141 17 159 dX12_book_48 cf_X12 ff_X12_31 rfl sh_141 rfl (by decide) rfl (by decide) (s_iload_n dX12_book_51 1 rfl (s_iload_n dX12_book_52 2 rfl (s_iastore 149 dX12_book_53 rfl sh_149 (by decide) ⟨(by omega), (by omega)⟩ (s_iconst dX12_book_54 (by decide) (n_zret dX12_book_55 hR rfl (by first | exact Or.inl rfl | exact Or.inr rfl | exact bi_01 _ | omega) ?_))))))
              first | exact ⟨_, rfl, Or.inl ⟨by omega, rfl, rfl⟩⟩ | exact ⟨_, rfl, Or.inr ⟨by omega, rfl, rfl⟩⟩
            · skip
              refine s_iconst dX12_book_45 (by decide) (n_zret dX12_book_46 hR rfl (by first | exact Or.inl rfl | exact Or.inr rfl | exact bi_01 _ | omega) ?_)
              first | exact ⟨_, rfl, Or.inl ⟨by omega, rfl, rfl⟩⟩ | exact ⟨_, rfl, Or.inr ⟨by omega, rfl, rfl⟩⟩
