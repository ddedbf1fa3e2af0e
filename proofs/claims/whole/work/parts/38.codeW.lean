/-! WHAT A LINE COMES TO, WALKED. -/
/-- cell c holds a stack, its top last -/
def PIL (v : Wd) (c : Nat) (st : List Int) : Prop := ∀ k : Nat, k < st.length → v c k = st.getD (st.length - 1 - k) 0
theorem PIL_nil {v : Wd} {c : Nat} : PIL v c [] := fun k h => absurd h (by simp)
theorem PIL_push {v : Wd} {c : Nat} {st : List Int} {x : Int} {n : Int} (h : PIL v c st) (hn : n = st.length) : PIL (wu v c n x) c (x :: st) := fun k hk => by
  subst hn
  rw [wu_at]
  have hk2 : k < st.length + 1 := hk
  by_cases e : k = st.length
  · subst e
    rw [if_pos rfl]
    show x = (x :: st).getD (st.length + 1 - 1 - st.length) 0
    rw [show st.length + 1 - 1 - st.length = 0 by omega]
    rfl
  · rw [if_neg (by omega), h k (by omega)]
    show _ = (x :: st).getD (st.length + 1 - 1 - k) 0
    rw [show st.length + 1 - 1 - k = (st.length - 1 - k) + 1 by omega]
    rfl
theorem PIL_low {v : Wd} {c : Nat} {a : Int} {r : List Int} (h : PIL v c (a :: r)) : PIL v c r := fun k hk => by
  rw [h k (by show k < r.length + 1; omega)]
  show (a :: r).getD (r.length + 1 - 1 - k) 0 = _
  rw [show r.length + 1 - 1 - k = (r.length - 1 - k) + 1 by omega]
  rfl
theorem PIL_top {v : Wd} {c : Nat} {a n : Int} {r : List Int} (h : PIL v c (a :: r)) (hn : n = r.length) : v c n = a := by
  subst hn
  rw [h r.length (by show r.length < r.length + 1; omega)]
  show (a :: r).getD (r.length + 1 - 1 - r.length) 0 = a
  rw [show r.length + 1 - 1 - r.length = 0 by omega]
  rfl
theorem PIL_set {v : Wd} {c : Nat} {r : List Int} {x n : Int} (h : PIL v c r) (hn : n = r.length) : PIL (wu v c n x) c (x :: r) := PIL_push h hn

set_option maxRecDepth 100000 in
set_option maxHeartbeats 1000000 in
theorem c_M_both (k a b : Int) (w : Wd) : CallN 1 mX12_both [(0, k), (0, a), (0, b)] w (RV (0, joV k a b) w) := by
  refine CallN.intro (by decide +kernel) (Nat.le_of_ble_eq_true rfl) (fun ρ hR => ?_)
  show AtN mX12_both 1 ρ 0 [(0, (0, k)), (1, (0, a)), (2, (0, b))] [] w
  refine s_iload_n dX12_both_0 0 rfl ?_
  rcases (show (k < 12 ∨ 20 < k) ∨ k = 12 ∨ k = 13 ∨ k = 14 ∨ k = 15 ∨ k = 16 ∨ k = 17 ∨ k = 18 ∨ k = 19 ∨ k = 20 from by omega) with c_1 | c_1 | c_1 | c_1 | c_1 | c_1 | c_1 | c_1 | c_1 | c_1
  · refine s_tableOut 101 dX12_both_1 c_1 (by decide) ?_
    refine s_iload_n dX12_both_101 1 rfl (s_iload_n dX12_both_102 2 rfl (s_ior dX12_both_103 (n_iret dX12_both_104 hR rfl ?_)))
    refine ⟨congrArg (fun z => some ((0 : Nat), z)) ?_, rfl⟩
    unfold joV
    first
    | (subst c_1; first | rfl | exact (if_pos (by omega)).symm | exact (if_neg (by omega)).symm)
    | (repeat' split
       all_goals first | rfl | (exfalso; omega))
  · refine s_tableIn 52 0 dX12_both_1 (by rw [c_1]; rfl) (by decide) rfl (by decide) ?_
    refine s_iload_n dX12_both_52 1 rfl (s_iload_n dX12_both_53 2 rfl (n_add (z := (wr (a + b))) dX12_both_54 rfl (n_iret dX12_both_55 hR rfl ?_)))
    refine ⟨congrArg (fun z => some ((0 : Nat), z)) ?_, rfl⟩
    unfold joV
    first
    | (subst c_1; first | rfl | exact (if_pos (by omega)).symm | exact (if_neg (by omega)).symm)
    | (repeat' split
       all_goals first | rfl | (exfalso; omega))
  · refine s_tableIn 56 1 dX12_both_1 (by rw [c_1]; rfl) (by decide) rfl (by decide) ?_
    refine s_iload_n dX12_both_56 1 rfl (s_iload_n dX12_both_57 2 rfl (n_sub (z := (wr (a - b))) dX12_both_58 rfl (n_iret dX12_both_59 hR rfl ?_)))
    refine ⟨congrArg (fun z => some ((0 : Nat), z)) ?_, rfl⟩
    unfold joV
    first
    | (subst c_1; first | rfl | exact (if_pos (by omega)).symm | exact (if_neg (by omega)).symm)
    | (repeat' split
       all_goals first | rfl | (exfalso; omega))
  · refine s_tableIn 60 2 dX12_both_1 (by rw [c_1]; rfl) (by decide) rfl (by decide) ?_
    refine s_iload_n dX12_both_60 1 rfl (s_iload_n dX12_both_61 2 rfl (n_mul (z := (wr (a * b))) dX12_both_62 rfl (n_iret dX12_both_63 hR rfl ?_)))
    refine ⟨congrArg (fun z => some ((0 : Nat), z)) ?_, rfl⟩
    unfold joV
    first
    | (subst c_1; first | rfl | exact (if_pos (by omega)).symm | exact (if_neg (by omega)).symm)
    | (repeat' split
       all_goals first | rfl | (exfalso; omega))
  · refine s_tableIn 101 3 dX12_both_1 (by rw [c_1]; rfl) (by decide) rfl (by decide) ?_
    refine s_iload_n dX12_both_101 1 rfl (s_iload_n dX12_both_102 2 rfl (s_ior dX12_both_103 (n_iret dX12_both_104 hR rfl ?_)))
    refine ⟨congrArg (fun z => some ((0 : Nat), z)) ?_, rfl⟩
    unfold joV
    first
    | (subst c_1; first | rfl | exact (if_pos (by omega)).symm | exact (if_neg (by omega)).symm)
    | (repeat' split
       all_goals first | rfl | (exfalso; omega))
  · refine s_tableIn 64 4 dX12_both_1 (by rw [c_1]; rfl) (by decide) rfl (by decide) ?_
    refine s_iload_n dX12_both_64 1 rfl (s_iload_n dX12_both_65 2 rfl (s_icmp_ge 73 dX12_both_66 (by decide) (fun c_66 => ?_) (fun c_66 => ?_)))
    · skip
      refine s_iconst dX12_both_73 (by decide) (n_iret dX12_both_74 hR rfl ?_)
      refine ⟨congrArg (fun z => some ((0 : Nat), z)) ?_, rfl⟩
      unfold joV
      first
      | (subst c_1; first | rfl | exact (if_pos (by omega)).symm | exact (if_neg (by omega)).symm)
      | (repeat' split
         all_goals first | rfl | (exfalso; omega))
    · skip
      refine s_iconst dX12_both_69 (by decide) (s_goto 74 dX12_both_70 (by decide) (n_iret dX12_both_74 hR rfl ?_))
      refine ⟨congrArg (fun z => some ((0 : Nat), z)) ?_, rfl⟩
      unfold joV
      first
      | (subst c_1; first | rfl | exact (if_pos (by omega)).symm | exact (if_neg (by omega)).symm)
      | (repeat' split
         all_goals first | rfl | (exfalso; omega))
  · refine s_tableIn 75 5 dX12_both_1 (by rw [c_1]; rfl) (by decide) rfl (by decide) ?_
    refine s_iload_n dX12_both_75 1 rfl (s_iload_n dX12_both_76 2 rfl (s_icmp_ne 84 dX12_both_77 (by decide) (fun c_77 => ?_) (fun c_77 => ?_)))
    · skip
      refine s_iconst dX12_both_84 (by decide) (n_iret dX12_both_85 hR rfl ?_)
      refine ⟨congrArg (fun z => some ((0 : Nat), z)) ?_, rfl⟩
      unfold joV
      first
      | (subst c_1; first | rfl | exact (if_pos (by omega)).symm | exact (if_neg (by omega)).symm)
      | (repeat' split
         all_goals first | rfl | (exfalso; omega))
    · skip
      refine s_iconst dX12_both_80 (by decide) (s_goto 85 dX12_both_81 (by decide) (n_iret dX12_both_85 hR rfl ?_))
      refine ⟨congrArg (fun z => some ((0 : Nat), z)) ?_, rfl⟩
      unfold joV
      first
      | (subst c_1; first | rfl | exact (if_pos (by omega)).symm | exact (if_neg (by omega)).symm)
      | (repeat' split
         all_goals first | rfl | (exfalso; omega))
  · refine s_tableIn 86 6 dX12_both_1 (by rw [c_1]; rfl) (by decide) rfl (by decide) ?_
    refine s_iload_n dX12_both_86 1 rfl (s_iload_n dX12_both_87 2 rfl (s_icmp_le 95 dX12_both_88 (by decide) (fun c_88 => ?_) (fun c_88 => ?_)))
    · skip
      refine s_iconst dX12_both_95 (by decide) (n_iret dX12_both_96 hR rfl ?_)
      refine ⟨congrArg (fun z => some ((0 : Nat), z)) ?_, rfl⟩
      unfold joV
      first
      | (subst c_1; first | rfl | exact (if_pos (by omega)).symm | exact (if_neg (by omega)).symm)
      | (repeat' split
         all_goals first | rfl | (exfalso; omega))
    · skip
      refine s_iconst dX12_both_91 (by decide) (s_goto 96 dX12_both_92 (by decide) (n_iret dX12_both_96 hR rfl ?_))
      refine ⟨congrArg (fun z => some ((0 : Nat), z)) ?_, rfl⟩
      unfold joV
      first
      | (subst c_1; first | rfl | exact (if_pos (by omega)).symm | exact (if_neg (by omega)).symm)
      | (repeat' split
         all_goals first | rfl | (exfalso; omega))
  · refine s_tableIn 101 7 dX12_both_1 (by rw [c_1]; rfl) (by decide) rfl (by decide) ?_
    refine s_iload_n dX12_both_101 1 rfl (s_iload_n dX12_both_102 2 rfl (s_ior dX12_both_103 (n_iret dX12_both_104 hR rfl ?_)))
    refine ⟨congrArg (fun z => some ((0 : Nat), z)) ?_, rfl⟩
    unfold joV
    first
    | (subst c_1; first | rfl | exact (if_pos (by omega)).symm | exact (if_neg (by omega)).symm)
    | (repeat' split
       all_goals first | rfl | (exfalso; omega))
  · refine s_tableIn 97 8 dX12_both_1 (by rw [c_1]; rfl) (by decide) rfl (by decide) ?_
    refine s_iload_n dX12_both_97 1 rfl (s_iload_n dX12_both_98 2 rfl (s_iand dX12_both_99 (n_iret dX12_both_100 hR rfl ?_)))
    refine ⟨congrArg (fun z => some ((0 : Nat), z)) ?_, rfl⟩
    unfold joV
    first
    | (subst c_1; first | rfl | exact (if_pos (by omega)).symm | exact (if_neg (by omega)).symm)
    | (repeat' split
       all_goals first | rfl | (exfalso; omega))

set_option maxRecDepth 100000 in
set_option maxHeartbeats 1000000 in
theorem c_X_join (op a b : Int) (w : Wd) : CallN 1 mX6_join [(0, op), (0, a), (0, b)] w (RV (0, jnX op a b) w) := by
  refine CallN.intro (by decide +kernel) (Nat.le_of_ble_eq_true rfl) (fun ρ hR => ?_)
  show AtN mX6_join 1 ρ 0 [(0, (0, op)), (1, (0, a)), (2, (0, b))] [] w
  refine s_iload_n dX6_join_0 0 rfl ?_
  rcases (show (op ≠ 42 ∧ op ≠ 43 ∧ op ≠ 45 ∧ op ≠ 47 ∧ op ≠ 60 ∧ op ≠ 61 ∧ op ≠ 62 ∧ op ≠ 261) ∨ op = 42 ∨ op = 43 ∨ op = 45 ∨ op = 47 ∨ op = 60 ∨ op = 61 ∨ op = 62 ∨ op = 261 from by omega) with c_1 | c_1 | c_1 | c_1 | c_1 | c_1 | c_1 | c_1 | c_1
  · refine s_lookup (off := 136) 137 dX6_join_1 (by decide) (by show Op.lookupswitch.offset [(42, 83), (43, 75), (45, 79), (47, 87), (60, 99), (61, 110), (62, 121), (261, 132)] 136 op = _; rw [Op.lookupswitch.offset_cons, if_neg (by omega), Op.lookupswitch.offset_cons, if_neg (by omega), Op.lookupswitch.offset_cons, if_neg (by omega), Op.lookupswitch.offset_cons, if_neg (by omega), Op.lookupswitch.offset_cons, if_neg (by omega), Op.lookupswitch.offset_cons, if_neg (by omega), Op.lookupswitch.offset_cons, if_neg (by omega), Op.lookupswitch.offset_cons, if_neg (by omega), Op.lookupswitch.offset_nil]) (by decide) ?_
    refine s_iload_n dX6_join_137 1 rfl (s_iload_n dX6_join_138 2 rfl (s_ior dX6_join_139 (n_iret dX6_join_140 hR rfl ?_)))
    refine ⟨congrArg (fun z => some ((0 : Nat), z)) ?_, rfl⟩
    unfold jnX
    repeat' split
    all_goals first | rfl | (exfalso; omega)
  · refine s_lookup (off := 83) 84 dX6_join_1 (by decide) (by rw [c_1] <;> rfl) (by decide) ?_
    refine s_iload_n dX6_join_84 1 rfl (s_iload_n dX6_join_85 2 rfl (n_mul (z := (wr (a * b))) dX6_join_86 rfl (n_iret dX6_join_87 hR rfl ?_)))
    refine ⟨congrArg (fun z => some ((0 : Nat), z)) ?_, rfl⟩
    unfold jnX
    repeat' split
    all_goals first | rfl | (exfalso; omega)
  · refine s_lookup (off := 75) 76 dX6_join_1 (by decide) (by rw [c_1] <;> rfl) (by decide) ?_
    refine s_iload_n dX6_join_76 1 rfl (s_iload_n dX6_join_77 2 rfl (n_add (z := (wr (a + b))) dX6_join_78 rfl (n_iret dX6_join_79 hR rfl ?_)))
    refine ⟨congrArg (fun z => some ((0 : Nat), z)) ?_, rfl⟩
    unfold jnX
    repeat' split
    all_goals first | rfl | (exfalso; omega)
  · refine s_lookup (off := 79) 80 dX6_join_1 (by decide) (by rw [c_1] <;> rfl) (by decide) ?_
    refine s_iload_n dX6_join_80 1 rfl (s_iload_n dX6_join_81 2 rfl (n_sub (z := (wr (a - b))) dX6_join_82 rfl (n_iret dX6_join_83 hR rfl ?_)))
    refine ⟨congrArg (fun z => some ((0 : Nat), z)) ?_, rfl⟩
    unfold jnX
    repeat' split
    all_goals first | rfl | (exfalso; omega)
  · refine s_lookup (off := 87) 88 dX6_join_1 (by decide) (by rw [c_1] <;> rfl) (by decide) ?_
    refine s_iload_n dX6_join_88 2 rfl (s_if_ne 96 dX6_join_89 (by decide) (fun c_89 => ?_) (fun c_89 => ?_))
    · skip
      refine s_iload_n dX6_join_96 1 rfl (s_iload_n dX6_join_97 2 rfl (s_idiv dX6_join_98 (by omega) (n_iret dX6_join_99 hR rfl ?_)))
      refine ⟨congrArg (fun z => some ((0 : Nat), z)) ?_, rfl⟩
      unfold jnX
      repeat' split
      all_goals first | rfl | (exfalso; omega)
    · skip
      refine s_iconst dX6_join_92 (by decide) (s_goto 99 dX6_join_93 (by decide) (n_iret dX6_join_99 hR rfl ?_))
      refine ⟨congrArg (fun z => some ((0 : Nat), z)) ?_, rfl⟩
      unfold jnX
      repeat' split
      all_goals first | rfl | (exfalso; omega)
  · refine s_lookup (off := 99) 100 dX6_join_1 (by decide) (by rw [c_1] <;> rfl) (by decide) ?_
    refine s_iload_n dX6_join_100 1 rfl (s_iload_n dX6_join_101 2 rfl (s_icmp_ge 109 dX6_join_102 (by decide) (fun c_102 => ?_) (fun c_102 => ?_)))
    · skip
      refine s_iconst dX6_join_109 (by decide) (n_iret dX6_join_110 hR rfl ?_)
      refine ⟨congrArg (fun z => some ((0 : Nat), z)) ?_, rfl⟩
      unfold jnX
      repeat' split
      all_goals first | rfl | (exfalso; omega)
    · skip
      refine s_iconst dX6_join_105 (by decide) (s_goto 110 dX6_join_106 (by decide) (n_iret dX6_join_110 hR rfl ?_))
      refine ⟨congrArg (fun z => some ((0 : Nat), z)) ?_, rfl⟩
      unfold jnX
      repeat' split
      all_goals first | rfl | (exfalso; omega)
  · refine s_lookup (off := 110) 111 dX6_join_1 (by decide) (by rw [c_1] <;> rfl) (by decide) ?_
    refine s_iload_n dX6_join_111 1 rfl (s_iload_n dX6_join_112 2 rfl (s_icmp_ne 120 dX6_join_113 (by decide) (fun c_113 => ?_) (fun c_113 => ?_)))
    · skip
      refine s_iconst dX6_join_120 (by decide) (n_iret dX6_join_121 hR rfl ?_)
      refine ⟨congrArg (fun z => some ((0 : Nat), z)) ?_, rfl⟩
      unfold jnX
      repeat' split
      all_goals first | rfl | (exfalso; omega)
    · skip
      refine s_iconst dX6_join_116 (by decide) (s_goto 121 dX6_join_117 (by decide) (n_iret dX6_join_121 hR rfl ?_))
      refine ⟨congrArg (fun z => some ((0 : Nat), z)) ?_, rfl⟩
      unfold jnX
      repeat' split
      all_goals first | rfl | (exfalso; omega)
  · refine s_lookup (off := 121) 122 dX6_join_1 (by decide) (by rw [c_1] <;> rfl) (by decide) ?_
    refine s_iload_n dX6_join_122 1 rfl (s_iload_n dX6_join_123 2 rfl (s_icmp_le 131 dX6_join_124 (by decide) (fun c_124 => ?_) (fun c_124 => ?_)))
    · skip
      refine s_iconst dX6_join_131 (by decide) (n_iret dX6_join_132 hR rfl ?_)
      refine ⟨congrArg (fun z => some ((0 : Nat), z)) ?_, rfl⟩
      unfold jnX
      repeat' split
      all_goals first | rfl | (exfalso; omega)
    · skip
      refine s_iconst dX6_join_127 (by decide) (s_goto 132 dX6_join_128 (by decide) (n_iret dX6_join_132 hR rfl ?_))
      refine ⟨congrArg (fun z => some ((0 : Nat), z)) ?_, rfl⟩
      unfold jnX
      repeat' split
      all_goals first | rfl | (exfalso; omega)
  · refine s_lookup (off := 132) 133 dX6_join_1 (by decide) (by rw [c_1] <;> rfl) (by decide) ?_
    refine s_iload_n dX6_join_133 1 rfl (s_iload_n dX6_join_134 2 rfl (s_iand dX6_join_135 (n_iret dX6_join_136 hR rfl ?_)))
    refine ⟨congrArg (fun z => some ((0 : Nat), z)) ?_, rfl⟩
    unfold jnX
    repeat' split
    all_goals first | rfl | (exfalso; omega)

/-- steps stand in the reference's table of firm f from place i on -/
def stA (w : Wd) (f i : Int) (L : List Stq) : Prop := ∀ j : Nat, j < L.length → w 173 (1220 * f + 2 * (i + j)) = (L.getD j (0, 0)).1 ∧ w 173 (1220 * f + 2 * (i + j) + 1) = (L.getD j (0, 0)).2
theorem stA_hd {w : Wd} {f i : Int} {p : Stq} {r : List Stq} (h : stA w f i (p :: r)) : w 173 (1220 * f + 2 * i) = p.1 ∧ w 173 (1220 * f + 2 * i + 1) = p.2 := by
  have := h 0 (by simp)
  rw [show i + ((0 : Nat) : Int) = i by omega] at this
  exact this
theorem stA_tl {w : Wd} {f i : Int} {p : Stq} {r : List Stq} (h : stA w f i (p :: r)) : stA w f (i + 1) r := fun j hj => by
  have := h (j + 1) (by simp; exact hj)
  rw [show i + ((j + 1 : Nat) : Int) = i + 1 + j by omega] at this
  exact this

set_option maxRecDepth 100000 in
set_option maxHeartbeats 2000000 in
theorem c_M_comesTo (f a b : Int) (L : List Stq) (w : Wd) (hf : 0 ≤ f ∧ f < 3) (ha : 0 ≤ a) (hb : b = a + L.length) (hb6 : b ≤ 610) (hS : stA w f a L) (hO : okL 600 L 0 1) : CallN 2 mX12_comesTo [(2, 141), (0, f), (0, a), (0, b)] w (RQ (fun z w1 => (∀ c, c ≠ 179 → w1 c = w c) ∧ z = vaL (w 180) L)) := by
  refine CallN.intro (by decide +kernel) (Nat.le_of_ble_eq_true rfl) (fun ρ hR => ?_)
  show AtN mX12_comesTo 2 ρ 0 [(0, (2, 141)), (1, (0, f)), (2, (0, a)), (3, (0, b))] [] w
  have L_6 : ∀ (fu : Nat) (top : Int) (i : Int) (v9 : Wd) (R : List Stq) (st : List Int), 0 ≤ i → b = i + R.length → (∀ c, c ≠ 179 → v9 c = w c) → stA w f i R → okL 600 R st.length 1 → evL (w 180) R st = evL (w 180) L [] → top = st.length → PIL v9 179 st → st.length ≤ 600 → R.length < fu → AtN mX12_comesTo 2 ρ 6 [(0, (2, 141)), (1, (0, f)), (2, (0, a)), (3, (0, b)), (4, (0, top)), (5, (0, i))] [] v9 := by
    intro fu
    induction fu with
    | zero => intro top i v9 R st hi hb2 hw hS hO hE ht hP hst hm; exact absurd hm (Nat.not_lt_zero _)
    | succ fu ih =>
      intro top i v9 R st hi hb2 hw hS hO hE ht hP hst hm
      refine s_iload dX12_comesTo_6 5 rfl (s_iload_n dX12_comesTo_8 3 rfl (s_icmp_ge 178 dX12_comesTo_9 (by decide) (fun c_9 => ?_) (fun c_9 => ?_)))
      · skip
        refine s_aload_n dX12_comesTo_178 0 rfl rfl (n_getc (q := 179) 141 47 189 dX12_comesTo_179 cf_X12 ff_X12_122 rfl sh_141 rfl (by decide) rfl (by decide) (s_iconst dX12_comesTo_182 (by decide) (n_iald 179 dX12_comesTo_183 rfl sh_179 (by decide) (by decide) (v := (v9 179 0)) rfl (n_iret dX12_comesTo_184 hR rfl ?_))))
        have eR : R = [] := by
          cases R with
          | nil => rfl
          | cons p R1 => exfalso; simp only [List.length_cons] at hb2; omega
        subst eR
        have h1 : st.length = 1 := hO
        obtain ⟨x9, es⟩ : ∃ x9, st = [x9] := by
          match st, h1 with
          | [x9], _ => exact ⟨_, rfl⟩
        subst es
        have htp := PIL_top (n := 0) hP rfl
        refine ⟨_, rfl, hw, ?_⟩
        rw [htp]
        unfold vaL
        rw [← hE]
        rfl
      · skip
        obtain ⟨p, R1, eR⟩ : ∃ p R1, R = p :: R1 := by
          cases R with
          | nil => exfalso; simp only [List.length_nil] at hb2; omega
          | cons p R1 => exact ⟨_, _, rfl⟩
        subst eR
        simp only [List.length_cons] at hb2
        have hs1 : v9 173 (1220 * f + 2 * i) = p.1 := by rw [hw 173 (by decide)]; exact (stA_hd hS).1
        have hs2 : v9 173 (1220 * f + 2 * i + 1) = p.2 := by rw [hw 173 (by decide)]; exact (stA_hd hS).2
        have hl1 := ev1_len (F := w 180) hO
        have hO2 := hO
        rw [okL] at hO2
        have hF : v9 180 = w 180 := hw 180 (by decide)
        refine s_aload_n dX12_comesTo_12 0 rfl rfl (n_getc (q := 173) 141 41 183 dX12_comesTo_13 cf_X12 ff_X12_104 rfl sh_141 rfl (by decide) rfl (by decide) (s_sipush dX12_comesTo_16 (by decide) (s_iload_n dX12_comesTo_19 1 rfl (n_mul (z := (1220 * f)) dX12_comesTo_20 (wr_id (by omega) (by omega)) (s_iconst dX12_comesTo_21 (by decide) (s_iload dX12_comesTo_22 5 rfl (n_mul (z := (2 * i)) dX12_comesTo_24 (wr_id (by omega) (by omega)) (n_add (z := ((1220 * f) + (2 * i))) dX12_comesTo_25 (wr_id (by omega) (by omega)) (n_iald 173 dX12_comesTo_26 rfl sh_173 (by decide) ⟨(by omega), (by omega)⟩ (v := (v9 173 ((1220 * f) + (2 * i)))) rfl ?_)))))))))
        refine s_istore (ls' := [(0, (2, 141)), (1, (0, f)), (2, (0, a)), (3, (0, b)), (4, (0, top)), (5, (0, i)), (6, (0, (v9 173 ((1220 * f) + (2 * i)))))]) dX12_comesTo_27 (Nat.le_of_ble_eq_true rfl) rfl (s_aload_n dX12_comesTo_29 0 rfl rfl (n_getc (q := 173) 141 41 183 dX12_comesTo_30 cf_X12 ff_X12_104 rfl sh_141 rfl (by decide) rfl (by decide) (s_sipush dX12_comesTo_33 (by decide) (s_iload_n dX12_comesTo_36 1 rfl (n_mul (z := (1220 * f)) dX12_comesTo_37 (wr_id (by omega) (by omega)) (s_iconst dX12_comesTo_38 (by decide) (s_iload dX12_comesTo_39 5 rfl (n_mul (z := (2 * i)) dX12_comesTo_41 (wr_id (by omega) (by omega)) (n_add (z := ((1220 * f) + (2 * i))) dX12_comesTo_42 (wr_id (by omega) (by omega)) ?_)))))))))
        refine s_iconst dX12_comesTo_43 (by decide) (n_add (z := (((1220 * f) + (2 * i)) + 1)) dX12_comesTo_44 (wr_id (by omega) (by omega)) (n_iald 173 dX12_comesTo_45 rfl sh_173 (by decide) ⟨(by omega), (by omega)⟩ (v := (v9 173 (((1220 * f) + (2 * i)) + 1))) rfl (s_istore (ls' := [(0, (2, 141)), (1, (0, f)), (2, (0, a)), (3, (0, b)), (4, (0, top)), (5, (0, i)), (6, (0, (v9 173 ((1220 * f) + (2 * i))))), (7, (0, (v9 173 (((1220 * f) + (2 * i)) + 1))))]) dX12_comesTo_46 (Nat.le_of_ble_eq_true rfl) rfl (s_iload dX12_comesTo_48 6 rfl (s_bipush dX12_comesTo_50 (by decide) (s_icmp_ge 85 dX12_comesTo_52 (by decide) (fun c_52 => ?_) (fun c_52 => ?_)))))))
        · skip
          refine s_iload dX12_comesTo_85 6 rfl (s_bipush dX12_comesTo_87 (by decide) (s_icmp_ne 109 dX12_comesTo_89 (by decide) (fun c_89 => ?_) (fun c_89 => ?_)))
          · skip
            refine s_iload dX12_comesTo_109 6 rfl (s_bipush dX12_comesTo_111 (by decide) (s_icmp_ne 139 dX12_comesTo_113 (by decide) (fun c_113 => ?_) (fun c_113 => ?_)))
            · skip
              rw [if_neg (by omega), if_neg (by omega), if_neg (by omega)] at hO2
              obtain ⟨y9, x9, r9, es⟩ : ∃ y9 x9 r9, st = y9 :: x9 :: r9 := by
                match st, hO2 with
                | y9 :: x9 :: r9, _ => exact ⟨_, _, _, rfl⟩
                | [x9], h => have := h.1.2; simp at this
                | [], h => have := h.1.2; simp at this
              subst es
              have hst2 := hst
              simp only [List.length_cons] at ht hst2
              have htp := PIL_top (n := top - 1) hP (by simp only [List.length_cons]; omega)
              have htq := PIL_top (n := top - 1 - 1) (PIL_low hP) (by omega)
              refine s_iinc (z := (top + (-1))) (ls' := [(0, (2, 141)), (1, (0, f)), (2, (0, a)), (3, (0, b)), (4, (0, (top + (-1)))), (5, (0, i)), (6, (0, (v9 173 ((1220 * f) + (2 * i))))), (7, (0, (v9 173 (((1220 * f) + (2 * i)) + 1))))]) dX12_comesTo_139 4 rfl (Nat.le_of_ble_eq_true rfl) (wr_id (by omega) (by omega)) rfl (s_aload_n dX12_comesTo_142 0 rfl rfl (n_getc (q := 179) 141 47 189 dX12_comesTo_143 cf_X12 ff_X12_122 rfl sh_141 rfl (by decide) rfl (by decide) (s_iload dX12_comesTo_146 4 rfl (s_iconst dX12_comesTo_148 (by decide) (n_sub (z := ((top + (-1)) - 1)) dX12_comesTo_149 (wr_id (by omega) (by omega)) (s_iload dX12_comesTo_150 6 rfl (s_aload_n dX12_comesTo_152 0 rfl rfl (n_getc (q := 179) 141 47 189 dX12_comesTo_153 cf_X12 ff_X12_122 rfl sh_141 rfl (by decide) rfl (by decide) (s_iload dX12_comesTo_156 4 rfl ?_)))))))))
              refine s_iconst dX12_comesTo_158 (by decide) (n_sub (z := ((top + (-1)) - 1)) dX12_comesTo_159 (wr_id (by omega) (by omega)) (n_iald 179 dX12_comesTo_160 rfl sh_179 (by decide) ⟨(by omega), (by omega)⟩ (v := (v9 179 ((top + (-1)) - 1))) rfl (s_aload_n dX12_comesTo_161 0 rfl rfl (n_getc (q := 179) 141 47 189 dX12_comesTo_162 cf_X12 ff_X12_122 rfl sh_141 rfl (by decide) rfl (by decide) (s_iload dX12_comesTo_165 4 rfl (n_iald 179 dX12_comesTo_167 rfl sh_179 (by decide) ⟨(by omega), (by omega)⟩ (v := (v9 179 (top + (-1)))) rfl (n_invS (as := [(0, (v9 173 ((1220 * f) + (2 * i)))), (0, (v9 179 ((top + (-1)) - 1))), (0, (v9 179 (top + (-1))))]) dX12_comesTo_168 kv_X12_both ml_X12_399 (c_M_both (v9 173 ((1220 * f) + (2 * i))) (v9 179 ((top + (-1)) - 1)) (v9 179 (top + (-1))) v9) (by decide) rfl rfl (Nat.le_of_ble_eq_true rfl) ?_)))))))
              have e1 : ev1 (w 180) p (y9 :: x9 :: r9) = ((joV (v9 173 ((1220 * f) + (2 * i))) (v9 179 ((top + (-1)) - 1)) (v9 179 (top + (-1))))) :: r9 := by
                unfold ev1
                rw [if_neg (by omega), if_neg (by omega), if_neg (by omega)]
                show joV p.1 x9 y9 :: r9 = _
                rw [show top + -1 - 1 = top - 1 - 1 by omega, show top + -1 = top - 1 by omega, htp, htq, hs1]
              have hP1 := PIL_set (x := (joV (v9 173 ((1220 * f) + (2 * i))) (v9 179 ((top + (-1)) - 1)) (v9 179 (top + (-1))))) (n := top + -1 - 1) (PIL_low (PIL_low hP)) (by omega)
              refine s_iastore 179 dX12_comesTo_171 rfl sh_179 (by decide) ⟨(by omega), (by omega)⟩ (s_iinc (z := (i + 1)) (ls' := [(0, (2, 141)), (1, (0, f)), (2, (0, a)), (3, (0, b)), (4, (0, (top + (-1)))), (5, (0, (i + 1))), (6, (0, (v9 173 ((1220 * f) + (2 * i))))), (7, (0, (v9 173 (((1220 * f) + (2 * i)) + 1))))]) dX12_comesTo_172 5 rfl (Nat.le_of_ble_eq_true rfl) (wr_id (by omega) (by omega)) rfl (s_goto 6 dX12_comesTo_175 (by decide) ?_))
              exact At.keep (ls' := [(0, (2, 141)), (1, (0, f)), (2, (0, a)), (3, (0, b)), (4, (0, (top + (-1)))), (5, (0, (i + 1)))]) [0, 1, 2, 3, 4, 5] rfl (ih (top + (-1)) (i + 1) (wu v9 179 ((top + (-1)) - 1) (joV (v9 173 ((1220 * f) + (2 * i))) (v9 179 ((top + (-1)) - 1)) (v9 179 (top + (-1))))) R1 (ev1 (w 180) p (y9 :: x9 :: r9)) (by omega) (by omega) (fun c a => by rw [wu_ne a]; exact hw c a) (stA_tl hS) hl1.1 hE (by rw [e1]; simp only [List.length_cons] at *; omega) (by rw [e1]; exact hP1) (hl1.2.2 hst) (by simp only [List.length_cons] at hm; omega))
            · skip
              rw [if_neg (by omega), if_neg (by omega), if_pos (by omega)] at hO2
              obtain ⟨x9, r9, es⟩ : ∃ x9 r9, st = x9 :: r9 := by
                cases st with
                | nil => exfalso; have := hO2.1; simp at this
                | cons x9 r9 => exact ⟨_, _, rfl⟩
              subst es
              have hst2 := hst
              simp only [List.length_cons] at ht hst2
              have htp := PIL_top (n := top - 1) hP (by omega)
              refine s_aload_n dX12_comesTo_116 0 rfl rfl (n_getc (q := 179) 141 47 189 dX12_comesTo_117 cf_X12 ff_X12_122 rfl sh_141 rfl (by decide) rfl (by decide) (s_iload dX12_comesTo_120 4 rfl (s_iconst dX12_comesTo_122 (by decide) (n_sub (z := (top - 1)) dX12_comesTo_123 (wr_id (by omega) (by omega)) (s_iconst dX12_comesTo_124 (by decide) (s_aload_n dX12_comesTo_125 0 rfl rfl (n_getc (q := 179) 141 47 189 dX12_comesTo_126 cf_X12 ff_X12_122 rfl sh_141 rfl (by decide) rfl (by decide) (s_iload dX12_comesTo_129 4 rfl (s_iconst dX12_comesTo_131 (by decide) ?_)))))))))
              refine n_sub (z := (top - 1)) dX12_comesTo_132 (wr_id (by omega) (by omega)) (n_iald 179 dX12_comesTo_133 rfl sh_179 (by decide) ⟨(by omega), (by omega)⟩ (v := (v9 179 (top - 1))) rfl (n_sub (z := (wr (1 - (v9 179 (top - 1))))) dX12_comesTo_134 rfl ?_))
              have e1 : ev1 (w 180) p (x9 :: r9) = ((wr (1 - (v9 179 (top - 1))))) :: r9 := by
                unfold ev1
                rw [if_neg (by omega), if_neg (by omega), if_pos (by omega), htp]
              have hP1 := PIL_set (x := (wr (1 - (v9 179 (top - 1))))) (n := top - 1) (PIL_low hP) (by omega)
              refine s_iastore 179 dX12_comesTo_135 rfl sh_179 (by decide) ⟨(by omega), (by omega)⟩ (s_goto 172 dX12_comesTo_136 (by decide) (s_iinc (z := (i + 1)) (ls' := [(0, (2, 141)), (1, (0, f)), (2, (0, a)), (3, (0, b)), (4, (0, top)), (5, (0, (i + 1))), (6, (0, (v9 173 ((1220 * f) + (2 * i))))), (7, (0, (v9 173 (((1220 * f) + (2 * i)) + 1))))]) dX12_comesTo_172 5 rfl (Nat.le_of_ble_eq_true rfl) (wr_id (by omega) (by omega)) rfl (s_goto 6 dX12_comesTo_175 (by decide) ?_)))
              exact At.keep (ls' := [(0, (2, 141)), (1, (0, f)), (2, (0, a)), (3, (0, b)), (4, (0, top)), (5, (0, (i + 1)))]) [0, 1, 2, 3, 4, 5] rfl (ih top (i + 1) (wu v9 179 (top - 1) (wr (1 - (v9 179 (top - 1))))) R1 (ev1 (w 180) p (x9 :: r9)) (by omega) (by omega) (fun c a => by rw [wu_ne a]; exact hw c a) (stA_tl hS) hl1.1 hE (by rw [e1]; simp only [List.length_cons] at *; omega) (by rw [e1]; exact hP1) (hl1.2.2 hst) (by simp only [List.length_cons] at hm; omega))
          · skip
            rw [if_neg (by omega), if_pos (by omega)] at hO2
            obtain ⟨x9, r9, es⟩ : ∃ x9 r9, st = x9 :: r9 := by
              cases st with
              | nil => exfalso; have := hO2.1.2; simp at this
              | cons x9 r9 => exact ⟨_, _, rfl⟩
            subst es
            have hst2 := hst
            simp only [List.length_cons] at ht hst2
            have htp := PIL_top (n := top - 1) hP (by omega)
            refine s_aload_n dX12_comesTo_92 0 rfl rfl (n_getc (q := 179) 141 47 189 dX12_comesTo_93 cf_X12 ff_X12_122 rfl sh_141 rfl (by decide) rfl (by decide) (s_iload dX12_comesTo_96 4 rfl (s_iconst dX12_comesTo_98 (by decide) (n_sub (z := (top - 1)) dX12_comesTo_99 (wr_id (by omega) (by omega)) (s_dup2 dX12_comesTo_100 (show (0 : Nat) ≠ 1 by decide) (show (2 : Nat) ≠ 1 by decide) (n_iald 179 dX12_comesTo_101 rfl sh_179 (by decide) ⟨(by omega), (by omega)⟩ (v := (v9 179 (top - 1))) rfl (s_iload dX12_comesTo_102 7 rfl (s_idiv dX12_comesTo_104 (by omega) ?_))))))))
            have e1 : ev1 (w 180) p (x9 :: r9) = ((wr (Int.tdiv (v9 179 (top - 1)) (v9 173 (((1220 * f) + (2 * i)) + 1))))) :: r9 := by
              unfold ev1
              rw [if_neg (by omega), if_pos (by omega), htp, hs2]
            have hP1 := PIL_set (x := (wr (Int.tdiv (v9 179 (top - 1)) (v9 173 (((1220 * f) + (2 * i)) + 1))))) (n := top - 1) (PIL_low hP) (by omega)
            refine s_iastore 179 dX12_comesTo_105 rfl sh_179 (by decide) ⟨(by omega), (by omega)⟩ (s_goto 172 dX12_comesTo_106 (by decide) (s_iinc (z := (i + 1)) (ls' := [(0, (2, 141)), (1, (0, f)), (2, (0, a)), (3, (0, b)), (4, (0, top)), (5, (0, (i + 1))), (6, (0, (v9 173 ((1220 * f) + (2 * i))))), (7, (0, (v9 173 (((1220 * f) + (2 * i)) + 1))))]) dX12_comesTo_172 5 rfl (Nat.le_of_ble_eq_true rfl) (wr_id (by omega) (by omega)) rfl (s_goto 6 dX12_comesTo_175 (by decide) ?_)))
            exact At.keep (ls' := [(0, (2, 141)), (1, (0, f)), (2, (0, a)), (3, (0, b)), (4, (0, top)), (5, (0, (i + 1)))]) [0, 1, 2, 3, 4, 5] rfl (ih top (i + 1) (wu v9 179 (top - 1) (wr (Int.tdiv (v9 179 (top - 1)) (v9 173 (((1220 * f) + (2 * i)) + 1))))) R1 (ev1 (w 180) p (x9 :: r9)) (by omega) (by omega) (fun c a => by rw [wu_ne a]; exact hw c a) (stA_tl hS) hl1.1 hE (by rw [e1]; simp only [List.length_cons] at *; omega) (by rw [e1]; exact hP1) (hl1.2.2 hst) (by simp only [List.length_cons] at hm; omega))
        · skip
          rw [if_pos (by omega)] at hO2
          refine s_aload_n dX12_comesTo_55 0 rfl rfl (n_getc (q := 179) 141 47 189 dX12_comesTo_56 cf_X12 ff_X12_122 rfl sh_141 rfl (by decide) rfl (by decide) (s_iload dX12_comesTo_59 4 rfl (s_iload dX12_comesTo_61 6 rfl (s_if_ne 71 dX12_comesTo_63 (by decide) (fun c_63 => ?_) (fun c_63 => ?_)))))
          · skip
            refine s_aload_n dX12_comesTo_71 0 rfl rfl (n_getc (q := 180) 141 60 190 dX12_comesTo_72 cf_X12 ff_X12_129 rfl sh_141 rfl (by decide) rfl (by decide) (s_iload dX12_comesTo_75 6 rfl (n_iald 180 dX12_comesTo_77 rfl sh_180 (by decide) ⟨(by omega), (by omega)⟩ (v := (v9 180 (v9 173 ((1220 * f) + (2 * i))))) rfl ?_)))
            have e1 : ev1 (w 180) p st = ((v9 180 (v9 173 ((1220 * f) + (2 * i))))) :: st := by
              unfold ev1
              rw [if_pos (by omega)]
              first
              | (rw [if_pos (by omega), hs2]; done)
              | (rw [if_neg (by omega), hs1, hF]; done)
            have hP1 := PIL_push (x := (v9 180 (v9 173 ((1220 * f) + (2 * i))))) hP ht
            refine s_iastore 179 dX12_comesTo_78 rfl sh_179 (by decide) ⟨(by omega), (by omega)⟩ (s_iinc (z := (top + 1)) (ls' := [(0, (2, 141)), (1, (0, f)), (2, (0, a)), (3, (0, b)), (4, (0, (top + 1))), (5, (0, i)), (6, (0, (v9 173 ((1220 * f) + (2 * i))))), (7, (0, (v9 173 (((1220 * f) + (2 * i)) + 1))))]) dX12_comesTo_79 4 rfl (Nat.le_of_ble_eq_true rfl) (wr_id (by omega) (by omega)) rfl (s_goto 172 dX12_comesTo_82 (by decide) (s_iinc (z := (i + 1)) (ls' := [(0, (2, 141)), (1, (0, f)), (2, (0, a)), (3, (0, b)), (4, (0, (top + 1))), (5, (0, (i + 1))), (6, (0, (v9 173 ((1220 * f) + (2 * i))))), (7, (0, (v9 173 (((1220 * f) + (2 * i)) + 1))))]) dX12_comesTo_172 5 rfl (Nat.le_of_ble_eq_true rfl) (wr_id (by omega) (by omega)) rfl (s_goto 6 dX12_comesTo_175 (by decide) ?_))))
            exact At.keep (ls' := [(0, (2, 141)), (1, (0, f)), (2, (0, a)), (3, (0, b)), (4, (0, (top + 1))), (5, (0, (i + 1)))]) [0, 1, 2, 3, 4, 5] rfl (ih (top + 1) (i + 1) (wu v9 179 top (v9 180 (v9 173 ((1220 * f) + (2 * i))))) R1 (ev1 (w 180) p st) (by omega) (by omega) (fun c a => by rw [wu_ne a]; exact hw c a) (stA_tl hS) hl1.1 hE (by rw [e1]; simp only [List.length_cons] at *; omega) (by rw [e1]; exact hP1) (hl1.2.2 hst) (by simp only [List.length_cons] at hm; omega))
          · skip
            refine s_iload dX12_comesTo_66 7 rfl (s_goto 78 dX12_comesTo_68 (by decide) ?_)
            have e1 : ev1 (w 180) p st = ((v9 173 (((1220 * f) + (2 * i)) + 1))) :: st := by
              unfold ev1
              rw [if_pos (by omega)]
              first
              | (rw [if_pos (by omega), hs2]; done)
              | (rw [if_neg (by omega), hs1, hF]; done)
            have hP1 := PIL_push (x := (v9 173 (((1220 * f) + (2 * i)) + 1))) hP ht
            refine s_iastore 179 dX12_comesTo_78 rfl sh_179 (by decide) ⟨(by omega), (by omega)⟩ (s_iinc (z := (top + 1)) (ls' := [(0, (2, 141)), (1, (0, f)), (2, (0, a)), (3, (0, b)), (4, (0, (top + 1))), (5, (0, i)), (6, (0, (v9 173 ((1220 * f) + (2 * i))))), (7, (0, (v9 173 (((1220 * f) + (2 * i)) + 1))))]) dX12_comesTo_79 4 rfl (Nat.le_of_ble_eq_true rfl) (wr_id (by omega) (by omega)) rfl (s_goto 172 dX12_comesTo_82 (by decide) (s_iinc (z := (i + 1)) (ls' := [(0, (2, 141)), (1, (0, f)), (2, (0, a)), (3, (0, b)), (4, (0, (top + 1))), (5, (0, (i + 1))), (6, (0, (v9 173 ((1220 * f) + (2 * i))))), (7, (0, (v9 173 (((1220 * f) + (2 * i)) + 1))))]) dX12_comesTo_172 5 rfl (Nat.le_of_ble_eq_true rfl) (wr_id (by omega) (by omega)) rfl (s_goto 6 dX12_comesTo_175 (by decide) ?_))))
            exact At.keep (ls' := [(0, (2, 141)), (1, (0, f)), (2, (0, a)), (3, (0, b)), (4, (0, (top + 1))), (5, (0, (i + 1)))]) [0, 1, 2, 3, 4, 5] rfl (ih (top + 1) (i + 1) (wu v9 179 top (v9 173 (((1220 * f) + (2 * i)) + 1))) R1 (ev1 (w 180) p st) (by omega) (by omega) (fun c a => by rw [wu_ne a]; exact hw c a) (stA_tl hS) hl1.1 hE (by rw [e1]; simp only [List.length_cons] at *; omega) (by rw [e1]; exact hP1) (hl1.2.2 hst) (by simp only [List.length_cons] at hm; omega))
  refine s_iconst dX12_comesTo_0 (by decide) (s_istore (ls' := [(0, (2, 141)), (1, (0, f)), (2, (0, a)), (3, (0, b)), (4, (0, 0))]) dX12_comesTo_1 (Nat.le_of_ble_eq_true rfl) rfl (s_iload_n dX12_comesTo_3 2 rfl (s_istore (ls' := [(0, (2, 141)), (1, (0, f)), (2, (0, a)), (3, (0, b)), (4, (0, 0)), (5, (0, a))]) dX12_comesTo_4 (Nat.le_of_ble_eq_true rfl) rfl ?_)))
  exact L_6 _ 0 a w L ([]) (by omega) hb (fun _ _ => rfl) hS hO rfl rfl PIL_nil (by simp) (Nat.lt_succ_self _)
