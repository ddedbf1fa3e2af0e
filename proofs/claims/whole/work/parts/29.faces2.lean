/-! FACES, WALKED. -/
def castW (w : Wd) (f l k : Int) : Wd := fun c j => if c = 88 then (if j = 7 then f else if j = 8 then l else if j = 9 then k else w 88 j) else w c j
theorem castW_0 {w : Wd} {f : Int} : wu w 88 7 f = castW w f (w 88 8) (w 88 9) := by
  funext c j
  unfold castW wu
  by_cases hc : c = 88
  · subst hc
    simp only [if_true]
    repeat' split
    all_goals first | rfl | omega | (subst_vars; rfl)
  · simp only [if_neg hc]
theorem castW_n {w : Wd} {f l k f1 l1 a : Int} : wu (wu (wu (wu (castW w f l k) 88 7 f1) 88 8 l1) 88 9 0) 88 9 a = castW w f1 l1 a := by
  funext c j
  unfold castW wu
  by_cases hc : c = 88
  · subst hc
    simp only [if_true]
    repeat' split
    all_goals first | rfl | omega | (subst_vars; rfl)
  · simp only [if_neg hc]
theorem castW_a {w : Wd} {f l k a : Int} : wu (castW w f l k) 88 9 a = castW w f l a := by
  funext c j
  unfold castW wu
  by_cases hc : c = 88
  · subst hc
    simp only [if_true]
    repeat' split
    all_goals first | rfl | omega | (subst_vars; rfl)
  · simp only [if_neg hc]
theorem castW_N {w : Wd} {f l k : Int} {c : Nat} (h : c ≠ 88) : castW w f l k c = w c := by funext j; unfold castW; rw [if_neg h]

set_option maxRecDepth 100000 in
theorem c_X_ableSet (v : Int) (w : Wd) (h : 0 ≤ w 88 6 ∧ w 88 6 ≤ 14) : CallN 1 mX7_ableSet [(2, 88), (0, v)] w (RV (0, abI (w 102) v (w 88 6).toNat) w) := by
  refine CallN.intro (by decide +kernel) (Nat.le_of_ble_eq_true rfl) (fun ρ hR => ?_)
  show AtN mX7_ableSet 1 ρ 0 [(0, (2, 88)), (1, (0, v))] [] w
  have L_4 : ∀ (fu : Nat) (i : Int) (a : Int), 0 ≤ i ∧ i ≤ w 88 6 → a = abI (w 102) v i.toNat → (w 88 6 - i).toNat < fu → AtN mX7_ableSet 1 ρ 4 [(0, (2, 88)), (1, (0, v)), (2, (0, a)), (3, (0, i))] [] w := by
    intro fu
    induction fu with
    | zero => intro i a hi ha hm; exact absurd hm (Nat.not_lt_zero _)
    | succ fu ih =>
      intro i a hi ha hm
      refine s_iload_n dX7_ableSet_4 3 rfl (s_aload_n dX7_ableSet_5 0 rfl rfl (n_getf 88 6 0 dX7_ableSet_6 cf_X7 ff_X7_66 rfl sh_88 rfl (by decide) (v := (w 88 6)) rfl (s_icmp_ge 34 dX7_ableSet_9 (by decide) (fun c_9 => ?_) (fun c_9 => ?_))))
      · skip
        refine s_iload_n dX7_ableSet_34 2 rfl (n_iret dX7_ableSet_35 hR rfl ?_)
        have e9 : i = w 88 6 := by omega
        rw [e9] at ha
        exact ⟨congrArg (fun z => some ((0 : Nat), z)) ha, rfl⟩
      · skip
        refine s_aload_n dX7_ableSet_12 0 rfl rfl (n_getc (q := 102) 88 5 112 dX7_ableSet_13 cf_X7 ff_X7_26 rfl sh_88 rfl (by decide) rfl (by decide) (s_iload_n dX7_ableSet_16 3 rfl (n_iald 102 dX7_ableSet_17 rfl sh_102 (by decide) ⟨(by omega), (by omega)⟩ (v := (w 102 i)) rfl (s_iload_n dX7_ableSet_18 1 rfl (s_icmp_lt 28 dX7_ableSet_19 (by decide) (fun c_19 => ?_) (fun c_19 => ?_))))))
        · skip
          refine s_iinc (z := (i + 1)) (ls' := [(0, (2, 88)), (1, (0, v)), (2, (0, a)), (3, (0, (i + 1)))]) dX7_ableSet_28 3 rfl (Nat.le_of_ble_eq_true rfl) (wr_id (by omega) (by omega)) rfl (s_goto 4 dX7_ableSet_31 (by decide) ?_)
          exact ih (i + 1) a (by omega) (by rw [abI_s hi.1, ← ha]; first | exact (if_pos (by omega)).symm | exact (if_neg (by omega)).symm) (by omega)
        · skip
          refine s_iload_n dX7_ableSet_22 2 rfl (s_iconst dX7_ableSet_23 (by decide) (s_iload_n dX7_ableSet_24 3 rfl (s_ishl dX7_ableSet_25 (s_ior dX7_ableSet_26 (s_istore_n (ls' := [(0, (2, 88)), (1, (0, v)), (2, (0, (ior a (ishl 1 i)))), (3, (0, i))]) dX7_ableSet_27 (Nat.le_of_ble_eq_true rfl) rfl (s_iinc (z := (i + 1)) (ls' := [(0, (2, 88)), (1, (0, v)), (2, (0, (ior a (ishl 1 i)))), (3, (0, (i + 1)))]) dX7_ableSet_28 3 rfl (Nat.le_of_ble_eq_true rfl) (wr_id (by omega) (by omega)) rfl (s_goto 4 dX7_ableSet_31 (by decide) ?_)))))))
          exact ih (i + 1) (ior a (ishl 1 i)) (by omega) (by rw [abI_s hi.1, ← ha]; first | exact (if_pos (by omega)).symm | exact (if_neg (by omega)).symm) (by omega)
  refine s_iconst dX7_ableSet_0 (by decide) (s_istore_n (ls' := [(0, (2, 88)), (1, (0, v)), (2, (0, 0))]) dX7_ableSet_1 (Nat.le_of_ble_eq_true rfl) rfl (s_iconst dX7_ableSet_2 (by decide) (s_istore_n (ls' := [(0, (2, 88)), (1, (0, v)), (2, (0, 0)), (3, (0, 0))]) dX7_ableSet_3 (Nat.le_of_ble_eq_true rfl) rfl ?_)))
  exact L_4 _ 0 0 (by omega) rfl (Nat.lt_succ_self _)

set_option maxRecDepth 100000 in
theorem c_X_speaks (s t : Int) (w : Wd) (h : 0 ≤ w 88 6 ∧ w 88 6 ≤ 14) : CallN 2 mX7_speaks [(2, 88), (0, s), (0, t)] w (RV (0, bi (iand (orI (w 101) s (w 88 6).toNat) t = t)) w) := by
  refine CallN.intro (by decide +kernel) (Nat.le_of_ble_eq_true rfl) (fun ρ hR => ?_)
  show AtN mX7_speaks 2 ρ 0 [(0, (2, 88)), (1, (0, s)), (2, (0, t))] [] w
  have L_5 : ∀ (fu : Nat) (i : Int) (a : Int), 0 ≤ i ∧ i ≤ w 88 6 → a = orI (w 101) s i.toNat → (w 88 6 - i).toNat < fu → AtN mX7_speaks 2 ρ 5 [(0, (2, 88)), (1, (0, s)), (2, (0, t)), (3, (0, a)), (4, (0, i))] [] w := by
    intro fu
    induction fu with
    | zero => intro i a hi ha hm; exact absurd hm (Nat.not_lt_zero _)
    | succ fu ih =>
      intro i a hi ha hm
      refine s_iload dX7_speaks_5 4 rfl (s_aload_n dX7_speaks_7 0 rfl rfl (n_getf 88 6 0 dX7_speaks_8 cf_X7 ff_X7_66 rfl sh_88 rfl (by decide) (v := (w 88 6)) rfl (s_icmp_ge 39 dX7_speaks_11 (by decide) (fun c_11 => ?_) (fun c_11 => ?_))))
      · skip
        refine s_iload_n dX7_speaks_39 3 rfl (s_iload_n dX7_speaks_40 2 rfl (s_iand dX7_speaks_41 (s_iload_n dX7_speaks_42 2 rfl (s_icmp_ne 50 dX7_speaks_43 (by decide) (fun c_43 => ?_) (fun c_43 => ?_)))))
        · skip
          refine s_iconst dX7_speaks_50 (by decide) (n_zret dX7_speaks_51 hR rfl (by first | exact Or.inl rfl | exact Or.inr rfl | exact bi_01 _ | omega) ?_)
          have e9 : i = w 88 6 := by omega
          rw [e9] at ha
          subst ha
          refine ⟨congrArg (fun z => some ((0 : Nat), z)) ?_, rfl⟩
          first | exact (bi_t (by omega)).symm | exact (bi_f (by omega)).symm | exact bi_congr (by omega)
        · skip
          refine s_iconst dX7_speaks_46 (by decide) (s_goto 51 dX7_speaks_47 (by decide) (n_zret dX7_speaks_51 hR rfl (by first | exact Or.inl rfl | exact Or.inr rfl | exact bi_01 _ | omega) ?_))
          have e9 : i = w 88 6 := by omega
          rw [e9] at ha
          subst ha
          refine ⟨congrArg (fun z => some ((0 : Nat), z)) ?_, rfl⟩
          first | exact (bi_t (by omega)).symm | exact (bi_f (by omega)).symm | exact bi_congr (by omega)
      · skip
        refine s_iload_n dX7_speaks_14 1 rfl (s_iload dX7_speaks_15 4 rfl (n_invT (as := [(0, s), (0, i)]) dX7_speaks_17 kv_X11_has ml_X7_58 (c_X_has s i w) (by decide) rfl rfl (Nat.le_of_ble_eq_true rfl) (n_ifeq_b 33 dX7_speaks_20 (by decide) (fun c_20 => ?_) (fun c_20 => ?_))))
        · skip
          refine s_iinc (z := (i + 1)) (ls' := [(0, (2, 88)), (1, (0, s)), (2, (0, t)), (3, (0, a)), (4, (0, (i + 1)))]) dX7_speaks_33 4 rfl (Nat.le_of_ble_eq_true rfl) (wr_id (by omega) (by omega)) rfl (s_goto 5 dX7_speaks_36 (by decide) ?_)
          exact ih (i + 1) a (by omega) (by rw [orI_s hi.1, ← ha]; first | exact (if_pos (by omega)).symm | exact (if_neg (by omega)).symm) (by omega)
        · skip
          refine s_iload_n dX7_speaks_23 3 rfl (s_aload_n dX7_speaks_24 0 rfl rfl (n_getc (q := 101) 88 4 111 dX7_speaks_25 cf_X7 ff_X7_23 rfl sh_88 rfl (by decide) rfl (by decide) (s_iload dX7_speaks_28 4 rfl (n_iald 101 dX7_speaks_30 rfl sh_101 (by decide) ⟨(by omega), (by omega)⟩ (v := (w 101 i)) rfl (s_ior dX7_speaks_31 (s_istore_n (ls' := [(0, (2, 88)), (1, (0, s)), (2, (0, t)), (3, (0, (ior a (w 101 i)))), (4, (0, i))]) dX7_speaks_32 (Nat.le_of_ble_eq_true rfl) rfl (s_iinc (z := (i + 1)) (ls' := [(0, (2, 88)), (1, (0, s)), (2, (0, t)), (3, (0, (ior a (w 101 i)))), (4, (0, (i + 1)))]) dX7_speaks_33 4 rfl (Nat.le_of_ble_eq_true rfl) (wr_id (by omega) (by omega)) rfl (s_goto 5 dX7_speaks_36 (by decide) ?_))))))))
          exact ih (i + 1) (ior a (w 101 i)) (by omega) (by rw [orI_s hi.1, ← ha]; first | exact (if_pos (by omega)).symm | exact (if_neg (by omega)).symm) (by omega)
  refine s_iconst dX7_speaks_0 (by decide) (s_istore_n (ls' := [(0, (2, 88)), (1, (0, s)), (2, (0, t)), (3, (0, 0))]) dX7_speaks_1 (Nat.le_of_ble_eq_true rfl) rfl (s_iconst dX7_speaks_2 (by decide) (s_istore (ls' := [(0, (2, 88)), (1, (0, s)), (2, (0, t)), (3, (0, 0)), (4, (0, 0))]) dX7_speaks_3 (Nat.le_of_ble_eq_true rfl) rfl ?_)))
  exact L_5 _ 0 0 (by omega) rfl (Nat.lt_succ_self _)

set_option maxRecDepth 100000 in
theorem c_X_count (s z : Int) (w : Wd) (hk : w 88 7 ≤ z → 0 ≤ w 88 9 ∧ w 88 9 ≤ 100000) : CallN 1 mX7_count [(2, 88), (0, s), (0, z)] w (RUQ (fun w1 => w1 = if z < w 88 7 then wu (wu (wu (wu w 88 7 z) 88 8 s) 88 9 0) 88 9 1 else wu w 88 9 (w 88 9 + 1))) := by
  refine CallN.intro (by decide +kernel) (Nat.le_of_ble_eq_true rfl) (fun ρ hR => ?_)
  show AtN mX7_count 1 ρ 0 [(0, (2, 88)), (1, (0, s)), (2, (0, z))] [] w
  refine s_iload_n dX7_count_0 2 rfl (s_aload_n dX7_count_1 0 rfl rfl (n_getf 88 7 0 dX7_count_2 cf_X7 ff_X7_69 rfl sh_88 rfl (by decide) (v := (w 88 7)) rfl (s_icmp_ge 23 dX7_count_5 (by decide) (fun c_5 => ?_) (fun c_5 => ?_))))
  · skip
    refine s_aload_n dX7_count_23 0 rfl rfl (s_dup dX7_count_24 (show (2 : Nat) ≠ 1 by decide) (n_getf 88 9 0 dX7_count_25 cf_X7 ff_X7_85 rfl sh_88 rfl (by decide) (v := (w 88 9)) rfl (s_iconst dX7_count_28 (by decide) (n_add (z := ((w 88 9) + 1)) dX7_count_29 (wr_id (by omega) (by omega)) (n_putf 88 9 9 dX7_count_30 cf_X7 ff_X7_85 rfl rfl sh_88 rfl rfl rfl (n_ret dX7_count_33 hR rfl ?_))))))
    refine ⟨rfl, ?_⟩
    rw [if_neg (by omega)]
  · skip
    refine s_aload_n dX7_count_8 0 rfl rfl (s_iload_n dX7_count_9 2 rfl (n_putf 88 7 7 dX7_count_10 cf_X7 ff_X7_69 rfl rfl sh_88 rfl rfl rfl (s_aload_n dX7_count_13 0 rfl rfl (s_iload_n dX7_count_14 1 rfl (n_putf 88 8 8 dX7_count_15 cf_X7 ff_X7_82 rfl rfl sh_88 rfl rfl rfl (s_aload_n dX7_count_18 0 rfl rfl (s_iconst dX7_count_19 (by decide) (n_putf 88 9 9 dX7_count_20 cf_X7 ff_X7_85 rfl rfl sh_88 rfl rfl rfl (s_aload_n dX7_count_23 0 rfl rfl ?_)))))))))
    refine s_dup dX7_count_24 (show (2 : Nat) ≠ 1 by decide) (n_getf 88 9 0 dX7_count_25 cf_X7 ff_X7_85 rfl sh_88 rfl (by decide) (v := 0) rfl (s_iconst dX7_count_28 (by decide) (n_add (z := 1) dX7_count_29 (by decide) (n_putf 88 9 9 dX7_count_30 cf_X7 ff_X7_85 rfl rfl sh_88 rfl rfl rfl (n_ret dX7_count_33 hR rfl ?_)))))
    refine ⟨rfl, ?_⟩
    rw [if_pos (by omega)]

/-- one more set -/
theorem faX_s {V T : Int → Int} {n v t l k s : Int} (h : 1 ≤ s) : faX V T n v t l k (s + 1 - 1).toNat = @ite _ (cvX V T n v t s ∧ ppI s ≤ (faX V T n v t l k (s - 1).toNat).1 ∧ ppI s ≤ 5) (@instDecidableAnd _ _ (cvXd V T n v t s) _) (if ppI s < (faX V T n v t l k (s - 1).toNat).1 then (ppI s, s, 1) else ((faX V T n v t l k (s - 1).toNat).1, (faX V T n v t l k (s - 1).toNat).2.1, (faX V T n v t l k (s - 1).toNat).2.2 + 1)) (faX V T n v t l k (s - 1).toNat) := by
  rw [show (s + 1 - 1).toNat = (s - 1).toNat + 1 by omega]
  unfold faX
  rw [@fbX, show (((s - 1).toNat : Nat) : Int) + 1 = s by omega]
theorem faM_s {V T : Int → Int} {n v t s : Int} (h : 1 ≤ s) : faM V T n v t (s + 1 - 1).toNat = @ite _ (cvM V T n v t s ∧ ((faM V T n v t (s - 1).toNat).1 = -1 ∨ ppI s ≤ ppI (faM V T n v t (s - 1).toNat).1)) (@instDecidableAnd _ _ (cvMd V T n v t s) _) (if (faM V T n v t (s - 1).toNat).1 = -1 ∨ ppI s < ppI (faM V T n v t (s - 1).toNat).1 then (s, 1) else ((faM V T n v t (s - 1).toNat).1, (faM V T n v t (s - 1).toNat).2 + 1)) (faM V T n v t (s - 1).toNat) := by
  rw [show (s + 1 - 1).toNat = (s - 1).toNat + 1 by omega]
  unfold faM
  rw [@fbM, show (((s - 1).toNat : Nat) : Int) + 1 = s by omega]
theorem faM_st {V T : Int → Int} {n v t s b y c o : Int} (h : 1 ≤ s) (hb : b = (faM V T n v t (s - 1).toNat).1) (hy : y = (faM V T n v t (s - 1).toNat).2) (hc : c = caI V v s n.toNat) (ho : o = orI T s n.toNat) : faM V T n v t (s + 1 - 1).toNat = if (c = 1 ∧ iand o t = t) ∧ (b = -1 ∨ ppI s ≤ ppI b) then (if b = -1 ∨ ppI s < ppI b then (s, 1) else (b, y + 1)) else (b, y) := by
  rw [faM_s h, ← hb, ← hy]
  have e : cvM V T n v t s ↔ (c = 1 ∧ iand o t = t) := by unfold cvM; rw [← hc, ← ho]
  have e3 : faM V T n v t (s - 1).toNat = (b, y) := by rw [hb, hy]
  by_cases q : (c = 1 ∧ iand o t = t) ∧ (b = -1 ∨ ppI s ≤ ppI b)
  · rw [if_pos q, if_pos ⟨e.mpr q.1, q.2⟩]
  · rw [if_neg q, if_neg (fun z => q ⟨e.mp z.1, z.2⟩), e3]
def faW (w : Wd) (X : Int × Int × Int) : Wd := castW w X.1 X.2.1 X.2.2
theorem do_cast {w v9 : Wd} {v t s : Int} (h : 1 ≤ s) (hv : v9 = faW w (faX (w 102) (w 101) (w 88 6) v t (w 88 8) (w 88 9) (s - 1).toNat)) (c1 : ppI s ≤ v9 88 7) (c2 : cvX (w 102) (w 101) (w 88 6) v t s) (c3 : ppI s ≤ 5) : (if ppI s < v9 88 7 then wu (wu (wu (wu v9 88 7 (ppI s)) 88 8 s) 88 9 0) 88 9 1 else wu v9 88 9 (v9 88 9 + 1)) = faW w (faX (w 102) (w 101) (w 88 6) v t (w 88 8) (w 88 9) (s + 1 - 1).toNat) := by
  rw [faX_s h]
  have e : v9 88 7 = (faX (w 102) (w 101) (w 88 6) v t (w 88 8) (w 88 9) (s - 1).toNat).1 := by rw [hv]; rfl
  have e2 : v9 88 9 = (faX (w 102) (w 101) (w 88 6) v t (w 88 8) (w 88 9) (s - 1).toNat).2.2 := by rw [hv]; rfl
  have hq : cvX (w 102) (w 101) (w 88 6) v t s ∧ ppI s ≤ (faX (w 102) (w 101) (w 88 6) v t (w 88 8) (w 88 9) (s - 1).toNat).1 ∧ ppI s ≤ 5 := ⟨c2, by rw [← e]; exact c1, c3⟩
  rw [if_pos hq, ← e]
  by_cases c : ppI s < v9 88 7
  · rw [if_pos c, if_pos c, hv]
    exact castW_n
  · rw [if_neg c, if_neg c, e2, hv]
    exact castW_a
theorem no_cast {w v9 : Wd} {v t s : Int} (h : 1 ≤ s) (hv : v9 = faW w (faX (w 102) (w 101) (w 88 6) v t (w 88 8) (w 88 9) (s - 1).toNat)) (c : ¬ (cvX (w 102) (w 101) (w 88 6) v t s ∧ ppI s ≤ v9 88 7 ∧ ppI s ≤ 5)) : v9 = faW w (faX (w 102) (w 101) (w 88 6) v t (w 88 8) (w 88 9) (s + 1 - 1).toNat) := by
  rw [faX_s h]
  have e : v9 88 7 = (faX (w 102) (w 101) (w 88 6) v t (w 88 8) (w 88 9) (s - 1).toNat).1 := by rw [hv]; rfl
  rw [if_neg (by rw [← e]; exact c)]
  exact hv
theorem abI_bd {V : Int → Int} {v n : Int} (h : 0 ≤ n) (h2 : n ≤ 14) : 0 ≤ abI V v n.toNat ∧ abI V v n.toNat < 16384 := by
  obtain ⟨o, o1, o2, o3⟩ := abI_b (V := V) (v := v) n.toNat (by omega)
  have hp : 2 ^ n.toNat ≤ 2 ^ 14 := Nat.pow_le_pow_right (by omega) (by omega)
  omega

set_option maxRecDepth 100000 in
theorem c_X_cast (t v : Int) (w : Wd) (h : 0 ≤ w 88 6 ∧ w 88 6 ≤ 14) : CallN 3 mX7_cast [(2, 88), (0, t), (0, v)] w (RQ (fun z w1 => (¬ ((1 ≤ t ∧ t ≤ 31) ∧ (0 ≤ v ∧ v ≤ 9)) ∧ z = 0 ∧ w1 = w) ∨ (((1 ≤ t ∧ t ≤ 31) ∧ (0 ≤ v ∧ v ≤ 9)) ∧ w1 = faW w (faX (w 102) (w 101) (w 88 6) v t (w 88 8) (w 88 9) (abI (w 102) v (w 88 6).toNat).toNat) ∧ z = bi ((faX (w 102) (w 101) (w 88 6) v t (w 88 8) (w 88 9) (abI (w 102) v (w 88 6).toNat).toNat).1 ≤ 5)))) := by
  refine CallN.intro (by decide +kernel) (Nat.le_of_ble_eq_true rfl) (fun ρ hR => ?_)
  show AtN mX7_cast 3 ρ 0 [(0, (2, 88)), (1, (0, t)), (2, (0, v))] [] w
  have hab := abI_bd (V := w 102) (v := v) h.1 h.2
  have L_37 : ∀ (fu : Nat) (a : Int) (s : Int) (v9 : Wd), ((1 ≤ t ∧ t ≤ 31) ∧ (0 ≤ v ∧ v ≤ 9)) → a = abI (w 102) v (w 88 6).toNat → 1 ≤ s ∧ s ≤ a + 1 → v9 = faW w (faX (w 102) (w 101) (w 88 6) v t (w 88 8) (w 88 9) (s - 1).toNat) → (a + 1 - s).toNat < fu → AtN mX7_cast 3 ρ 37 [(0, (2, 88)), (1, (0, t)), (2, (0, v)), (3, (0, a)), (4, (0, s))] [] v9 := by
    intro fu
    induction fu with
    | zero => intro a s v9 hok ha hi hw hm; exact absurd hm (Nat.not_lt_zero _)
    | succ fu ih =>
      intro a s v9 hok ha hi hw hm
      have hab := abI_bd (V := w 102) (v := v) h.1 h.2
      rw [← ha] at hab
      have q2 : v9 88 6 = w 88 6 := by rw [hw]; rfl
      have q6 : orI (v9 101) s (v9 88 6).toNat = orI (w 101) s (w 88 6).toNat := by rw [q2, show v9 101 = w 101 by rw [hw]; exact castW_N (by decide)]
      have h9 : 0 ≤ v9 88 6 ∧ v9 88 6 ≤ 14 := by rw [q2]; exact h
      have k9 : v9 88 9 = (faX (w 102) (w 101) (w 88 6) v t (w 88 8) (w 88 9) (s - 1).toNat).2.2 := by rw [hw]; rfl
      have k8 : (0 ≤ (faX (w 102) (w 101) (w 88 6) v t (w 88 8) (w 88 9) (s - 1).toNat).1 ∧ (faX (w 102) (w 101) (w 88 6) v t (w 88 8) (w 88 9) (s - 1).toNat).1 ≤ 6) ∧ (0 ≤ (faX (w 102) (w 101) (w 88 6) v t (w 88 8) (w 88 9) (s - 1).toNat).2.2 ∧ (faX (w 102) (w 101) (w 88 6) v t (w 88 8) (w 88 9) (s - 1).toNat).2.2 ≤ ((s - 1).toNat : Nat) ∨ (faX (w 102) (w 101) (w 88 6) v t (w 88 8) (w 88 9) (s - 1).toNat).2.2 = w 88 9 ∧ (faX (w 102) (w 101) (w 88 6) v t (w 88 8) (w 88 9) (s - 1).toNat).1 = 6) := @fbX_bd (cvX (w 102) (w 101) (w 88 6) v t) (cvXd (w 102) (w 101) (w 88 6) v t) ppI (w 88 8) (w 88 9) (fun z => (ppI_bd z).1) (s - 1).toNat
      have k7 : v9 88 7 = (faX (w 102) (w 101) (w 88 6) v t (w 88 8) (w 88 9) (s - 1).toNat).1 := by rw [hw]; rfl
      rw [← k7, ← k9] at k8
      have hp9 := ppI_bd s
      refine s_iload dX7_cast_37 4 rfl (s_iload_n dX7_cast_39 3 rfl (s_icmp_gt 98 dX7_cast_40 (by decide) (fun c_40 => ?_) (fun c_40 => ?_)))
      · skip
        refine s_aload_n dX7_cast_98 0 rfl rfl (n_getf 88 7 0 dX7_cast_99 cf_X7 ff_X7_69 rfl sh_88 rfl (by decide) (v := (v9 88 7)) rfl (s_iconst dX7_cast_102 (by decide) (s_icmp_gt 110 dX7_cast_103 (by decide) (fun c_103 => ?_) (fun c_103 => ?_))))
        · skip
          refine s_iconst dX7_cast_110 (by decide) (n_zret dX7_cast_111 hR rfl (by first | exact Or.inl rfl | exact Or.inr rfl | exact bi_01 _ | omega) ?_)
          have e9 : s - 1 = abI (w 102) v (w 88 6).toNat := by omega
          rw [e9] at hw
          have k5 : v9 88 7 = (faX (w 102) (w 101) (w 88 6) v t (w 88 8) (w 88 9) (abI (w 102) v (w 88 6).toNat).toNat).1 := by rw [hw]; rfl
          refine ⟨_, rfl, Or.inr ⟨by omega, hw, ?_⟩⟩
          first | exact (bi_t (by omega)).symm | exact (bi_f (by omega)).symm
        · skip
          refine s_iconst dX7_cast_106 (by decide) (s_goto 111 dX7_cast_107 (by decide) (n_zret dX7_cast_111 hR rfl (by first | exact Or.inl rfl | exact Or.inr rfl | exact bi_01 _ | omega) ?_))
          have e9 : s - 1 = abI (w 102) v (w 88 6).toNat := by omega
          rw [e9] at hw
          have k5 : v9 88 7 = (faX (w 102) (w 101) (w 88 6) v t (w 88 8) (w 88 9) (abI (w 102) v (w 88 6).toNat).toNat).1 := by rw [hw]; rfl
          refine ⟨_, rfl, Or.inr ⟨by omega, hw, ?_⟩⟩
          first | exact (bi_t (by omega)).symm | exact (bi_f (by omega)).symm
      · skip
        refine s_iload dX7_cast_43 4 rfl (n_invS (as := [(0, s)]) dX7_cast_45 kv_J6_bitCount_0f7a4 ml_X7_41 (j_bits s v9 (by omega) (by omega)) (by decide) rfl rfl (Nat.le_of_ble_eq_true rfl) (s_istore (ls' := [(0, (2, 88)), (1, (0, t)), (2, (0, v)), (3, (0, a)), (4, (0, s)), (5, (0, (ppI s)))]) dX7_cast_48 (Nat.le_of_ble_eq_true rfl) rfl (s_iload dX7_cast_50 4 rfl (s_iload_n dX7_cast_52 3 rfl (s_iand dX7_cast_53 (s_iload dX7_cast_54 4 rfl (s_icmp_ne 92 dX7_cast_56 (by decide) (fun c_56 => ?_) (fun c_56 => ?_))))))))
        · skip
          refine s_iinc (z := (s + 1)) (ls' := [(0, (2, 88)), (1, (0, t)), (2, (0, v)), (3, (0, a)), (4, (0, (s + 1))), (5, (0, (ppI s)))]) dX7_cast_92 4 rfl (Nat.le_of_ble_eq_true rfl) (wr_id (by omega) (by omega)) rfl (s_goto 37 dX7_cast_95 (by decide) ?_)
          exact At.keep (ls' := [(0, (2, 88)), (1, (0, t)), (2, (0, v)), (3, (0, a)), (4, (0, (s + 1)))]) [0, 1, 2, 3, 4] rfl (ih a (s + 1) v9 (by omega) ha (by omega) (no_cast hi.1 hw (by unfold cvX; rw [← ha, ← q6]; omega)) (by omega))
        · skip
          refine s_iload dX7_cast_59 5 rfl (s_aload_n dX7_cast_61 0 rfl rfl (n_getf 88 7 0 dX7_cast_62 cf_X7 ff_X7_69 rfl sh_88 rfl (by decide) (v := (v9 88 7)) rfl (s_icmp_gt 92 dX7_cast_65 (by decide) (fun c_65 => ?_) (fun c_65 => ?_))))
          · skip
            refine s_iinc (z := (s + 1)) (ls' := [(0, (2, 88)), (1, (0, t)), (2, (0, v)), (3, (0, a)), (4, (0, (s + 1))), (5, (0, (ppI s)))]) dX7_cast_92 4 rfl (Nat.le_of_ble_eq_true rfl) (wr_id (by omega) (by omega)) rfl (s_goto 37 dX7_cast_95 (by decide) ?_)
            exact At.keep (ls' := [(0, (2, 88)), (1, (0, t)), (2, (0, v)), (3, (0, a)), (4, (0, (s + 1)))]) [0, 1, 2, 3, 4] rfl (ih a (s + 1) v9 (by omega) ha (by omega) (no_cast hi.1 hw (by unfold cvX; rw [← ha, ← q6]; omega)) (by omega))
          · skip
            refine s_iload dX7_cast_68 5 rfl (s_iconst dX7_cast_70 (by decide) (s_icmp_gt 92 dX7_cast_71 (by decide) (fun c_71 => ?_) (fun c_71 => ?_)))
            · skip
              refine s_iinc (z := (s + 1)) (ls' := [(0, (2, 88)), (1, (0, t)), (2, (0, v)), (3, (0, a)), (4, (0, (s + 1))), (5, (0, (ppI s)))]) dX7_cast_92 4 rfl (Nat.le_of_ble_eq_true rfl) (wr_id (by omega) (by omega)) rfl (s_goto 37 dX7_cast_95 (by decide) ?_)
              exact At.keep (ls' := [(0, (2, 88)), (1, (0, t)), (2, (0, v)), (3, (0, a)), (4, (0, (s + 1)))]) [0, 1, 2, 3, 4] rfl (ih a (s + 1) v9 (by omega) ha (by omega) (no_cast hi.1 hw (by unfold cvX; rw [← ha, ← q6]; omega)) (by omega))
            · skip
              refine s_aload_n dX7_cast_74 0 rfl rfl (s_iload dX7_cast_75 4 rfl (s_iload_n dX7_cast_77 1 rfl (n_invV (as := [(0, s), (0, t)]) dX7_cast_78 kv_X7_speaks ml_X7_75 (c_X_speaks s t v9 h9) (by decide) 88 cf_X7 rfl sh_88 rfl rfl rfl (Nat.le_of_ble_eq_true rfl) (n_ifeq_b 92 dX7_cast_81 (by decide) (fun c_81 => ?_) (fun c_81 => ?_)))))
              · skip
                refine s_iinc (z := (s + 1)) (ls' := [(0, (2, 88)), (1, (0, t)), (2, (0, v)), (3, (0, a)), (4, (0, (s + 1))), (5, (0, (ppI s)))]) dX7_cast_92 4 rfl (Nat.le_of_ble_eq_true rfl) (wr_id (by omega) (by omega)) rfl (s_goto 37 dX7_cast_95 (by decide) ?_)
                exact At.keep (ls' := [(0, (2, 88)), (1, (0, t)), (2, (0, v)), (3, (0, a)), (4, (0, (s + 1)))]) [0, 1, 2, 3, 4] rfl (ih a (s + 1) v9 (by omega) ha (by omega) (no_cast hi.1 hw (by unfold cvX; rw [← ha, ← q6]; omega)) (by omega))
              · skip
                refine s_aload_n dX7_cast_84 0 rfl rfl (s_iload dX7_cast_85 4 rfl (s_iload dX7_cast_87 5 rfl (n_invV' (as := [(0, s), (0, (ppI s))]) dX7_cast_89 kv_X7_count ml_X7_78 (c_X_count s (ppI s) v9 (fun z9 => by omega)) (by decide) 88 cf_X7 rfl sh_88 rfl rfl rfl (Nat.le_of_ble_eq_true rfl) ?_)))
                rintro r_89 w_89 ⟨rfl, hz_89⟩
                refine s_iinc (z := (s + 1)) (ls' := [(0, (2, 88)), (1, (0, t)), (2, (0, v)), (3, (0, a)), (4, (0, (s + 1))), (5, (0, (ppI s)))]) dX7_cast_92 4 rfl (Nat.le_of_ble_eq_true rfl) (wr_id (by omega) (by omega)) rfl (s_goto 37 dX7_cast_95 (by decide) ?_)
                exact At.keep (ls' := [(0, (2, 88)), (1, (0, t)), (2, (0, v)), (3, (0, a)), (4, (0, (s + 1)))]) [0, 1, 2, 3, 4] rfl (ih a (s + 1) w_89 (by omega) ha (by omega) (by rw [hz_89]; exact do_cast hi.1 hw (by omega) (by unfold cvX; rw [← ha, ← q6]; exact ⟨by omega, by omega⟩) (by omega)) (by omega))
  refine s_iload_n dX7_cast_0 1 rfl (s_iconst dX7_cast_1 (by decide) (s_bipush dX7_cast_2 (by decide) (n_invT (as := [(0, t), (0, 1), (0, 31)]) dX7_cast_4 kv_X11_within ml_X7_29 (c_within t 1 31 w) (by decide) rfl rfl (Nat.le_of_ble_eq_true rfl) (n_ifeq_b 20 dX7_cast_7 (by decide) (fun c_7 => ?_) (fun c_7 => ?_)))))
  · skip
    refine s_iconst dX7_cast_20 (by decide) (n_zret dX7_cast_21 hR rfl (by first | exact Or.inl rfl | exact Or.inr rfl | exact bi_01 _ | omega) ?_)
    exact ⟨_, rfl, Or.inl ⟨by omega, rfl, rfl⟩⟩
  · skip
    refine s_iload_n dX7_cast_10 2 rfl (s_iconst dX7_cast_11 (by decide) (s_bipush dX7_cast_12 (by decide) (n_invT (as := [(0, v), (0, 0), (0, 9)]) dX7_cast_14 kv_X11_within ml_X7_29 (c_within v 0 9 w) (by decide) rfl rfl (Nat.le_of_ble_eq_true rfl) (n_ifne_b 22 dX7_cast_17 (by decide) (fun c_17 => ?_) (fun c_17 => ?_)))))
    · skip
      refine s_aload_n dX7_cast_22 0 rfl rfl (s_bipush dX7_cast_23 (by decide) (n_putf 88 7 7 dX7_cast_25 cf_X7 ff_X7_69 rfl rfl sh_88 rfl rfl rfl (s_aload_n dX7_cast_28 0 rfl rfl (s_iload_n dX7_cast_29 2 rfl (n_invV (as := [(0, v)]) dX7_cast_30 kv_X7_ableSet ml_X7_72 (c_X_ableSet v (wu w 88 7 6) h) (by decide) 88 cf_X7 rfl sh_88 rfl rfl rfl (Nat.le_of_ble_eq_true rfl) (s_istore_n (ls' := [(0, (2, 88)), (1, (0, t)), (2, (0, v)), (3, (0, (abI (w 102) v (w 88 6).toNat)))]) dX7_cast_33 (Nat.le_of_ble_eq_true rfl) rfl (s_iconst dX7_cast_34 (by decide) (s_istore (ls' := [(0, (2, 88)), (1, (0, t)), (2, (0, v)), (3, (0, (abI (w 102) v (w 88 6).toNat))), (4, (0, 1))]) dX7_cast_35 (Nat.le_of_ble_eq_true rfl) rfl ?_))))))))
      exact L_37 _ (abI (w 102) v (w 88 6).toNat) 1 (wu w 88 7 6) (by omega) rfl (by omega) castW_0 (Nat.lt_succ_self _)
    · skip
      refine s_iconst dX7_cast_20 (by decide) (n_zret dX7_cast_21 hR rfl (by first | exact Or.inl rfl | exact Or.inr rfl | exact bi_01 _ | omega) ?_)
      exact ⟨_, rfl, Or.inl ⟨by omega, rfl, rfl⟩⟩

set_option maxRecDepth 100000 in
theorem x_faces (t v q : Int) (w : Wd) (h : 0 ≤ w 88 6 ∧ w 88 6 ≤ 14) (hT : ∀ p, 0 ≤ p → p < w 88 6 → 0 ≤ w 101 p ∧ w 101 p ≤ 31) : CallN 4 mX11_faces [(2, 0), (0, t), (0, v), (0, q)] w (RQ (fun z w1 => z = facesV (w 102) (w 101) (w 88 6) t v q ∧ (w1 = w ∨ ∃ X, w1 = faW w X))) := by
  refine CallN.intro (by decide +kernel) (Nat.le_of_ble_eq_true rfl) (fun ρ hR => ?_)
  show AtN mX11_faces 4 ρ 0 [(0, (2, 0)), (1, (0, t)), (2, (0, v)), (3, (0, q))] [] w
  refine s_iload_n dX11_faces_0 3 rfl (s_iconst dX11_faces_1 (by decide) (s_iconst dX11_faces_2 (by decide) (n_invS (as := [(0, q), (0, 0), (0, 2)]) dX11_faces_3 kv_X11_within ml_X11_102 (c_within q 0 2 w) (by decide) rfl rfl (Nat.le_of_ble_eq_true rfl) (n_ifeq_b 21 dX11_faces_6 (by decide) (fun c_6 => ?_) (fun c_6 => ?_)))))
  · skip
    refine s_iconst dX11_faces_21 (by decide) (n_iret dX11_faces_22 hR rfl ?_)
    refine ⟨_, rfl, ?_, Or.inl rfl⟩
    unfold facesV
    rw [if_neg (by omega)]
  · skip
    refine s_aload_n dX11_faces_9 0 rfl rfl (n_getc (q := 88) 0 6 98 dX11_faces_10 cf_X11 ff_X11_60 rfl sh_0 rfl (by decide) rfl (by decide) (s_iload_n dX11_faces_13 1 rfl (s_iload_n dX11_faces_14 2 rfl (n_invV' (as := [(0, t), (0, v)]) dX11_faces_15 kv_X7_cast ml_X11_249 (c_X_cast t v w h) (by decide) 88 cf_X7 rfl sh_88 rfl rfl rfl (Nat.le_of_ble_eq_true rfl) ?_))))
    rintro r_15 w_15 ⟨z_15, rfl, hz_15⟩
    show AtN _ _ ρ _ _ [(0, z_15)] w_15
    refine s_if_ne 23 dX11_faces_18 (by decide) (fun c_18 => ?_) (fun c_18 => ?_)
    · skip
      refine s_iload_n dX11_faces_23 3 rfl (s_if_ne 35 dX11_faces_24 (by decide) (fun c_24 => ?_) (fun c_24 => ?_))
      · skip
        refine s_iload_n dX11_faces_35 3 rfl (s_iconst dX11_faces_36 (by decide) (s_icmp_ne 50 dX11_faces_37 (by decide) (fun c_37 => ?_) (fun c_37 => ?_)))
        · skip
          refine s_aload_n dX11_faces_50 0 rfl rfl (n_getc (q := 88) 0 6 98 dX11_faces_51 cf_X11 ff_X11_60 rfl sh_0 rfl (by decide) rfl (by decide) (n_getf 88 9 0 dX11_faces_54 cf_X7 ff_X11_258 rfl sh_88 rfl (by decide) (v := (w_15 88 9)) rfl (n_iret dX11_faces_57 hR rfl ?_)))
          rcases hz_15 with ⟨g1, g2, g3⟩ | ⟨g1, g2, g3⟩
          · first
            | (exfalso; omega)
            | (refine ⟨_, rfl, ?_, Or.inl g3⟩
               unfold facesV
               rw [if_neg (by omega)])
          · have hq := faces_eq (V := w 102) (T := w 101) (n := w 88 6) (v := v) (t := t) (l := w 88 8) (k := w 88 9) h.1 h.2 g1.1 hT
            have m1 : w_15 88 7 = (faX (w 102) (w 101) (w 88 6) v t (w 88 8) (w 88 9) (abI (w 102) v (w 88 6).toNat).toNat).1 := by rw [g2]; rfl
            have m2 : w_15 88 8 = (faX (w 102) (w 101) (w 88 6) v t (w 88 8) (w 88 9) (abI (w 102) v (w 88 6).toNat).toNat).2.1 := by rw [g2]; rfl
            have m3 : w_15 88 9 = (faX (w 102) (w 101) (w 88 6) v t (w 88 8) (w 88 9) (abI (w 102) v (w 88 6).toNat).toNat).2.2 := by rw [g2]; rfl
            refine ⟨_, rfl, ?_, Or.inr ⟨_, g2⟩⟩
            unfold facesV
            rw [if_pos ⟨g1, by omega⟩]
            rcases hq with ⟨n1, n2⟩ | ⟨n1, n2, n3⟩
            · rw [n2, bi_f (by decide)] at g3
              first
              | (exfalso; omega)
              | (rw [if_pos n1]; done)
            · rw [bi_t n2] at g3
              rw [n3] at m1 m2 m3
              rw [if_neg n1]
              first
              | (exfalso; omega)
              | (rw [if_pos (show q = 0 by omega)]; exact m1)
              | (rw [if_neg (show ¬ q = 0 by omega), if_pos (show q = 1 by omega)]; exact m2)
              | (rw [if_neg (show ¬ q = 0 by omega), if_neg (show ¬ q = 1 by omega)]; exact m3)
        · skip
          refine s_aload_n dX11_faces_40 0 rfl rfl (n_getc (q := 88) 0 6 98 dX11_faces_41 cf_X11 ff_X11_60 rfl sh_0 rfl (by decide) rfl (by decide) (n_getf 88 8 0 dX11_faces_44 cf_X7 ff_X11_255 rfl sh_88 rfl (by decide) (v := (w_15 88 8)) rfl (s_goto 57 dX11_faces_47 (by decide) (n_iret dX11_faces_57 hR rfl ?_))))
          rcases hz_15 with ⟨g1, g2, g3⟩ | ⟨g1, g2, g3⟩
          · first
            | (exfalso; omega)
            | (refine ⟨_, rfl, ?_, Or.inl g3⟩
               unfold facesV
               rw [if_neg (by omega)])
          · have hq := faces_eq (V := w 102) (T := w 101) (n := w 88 6) (v := v) (t := t) (l := w 88 8) (k := w 88 9) h.1 h.2 g1.1 hT
            have m1 : w_15 88 7 = (faX (w 102) (w 101) (w 88 6) v t (w 88 8) (w 88 9) (abI (w 102) v (w 88 6).toNat).toNat).1 := by rw [g2]; rfl
            have m2 : w_15 88 8 = (faX (w 102) (w 101) (w 88 6) v t (w 88 8) (w 88 9) (abI (w 102) v (w 88 6).toNat).toNat).2.1 := by rw [g2]; rfl
            have m3 : w_15 88 9 = (faX (w 102) (w 101) (w 88 6) v t (w 88 8) (w 88 9) (abI (w 102) v (w 88 6).toNat).toNat).2.2 := by rw [g2]; rfl
            refine ⟨_, rfl, ?_, Or.inr ⟨_, g2⟩⟩
            unfold facesV
            rw [if_pos ⟨g1, by omega⟩]
            rcases hq with ⟨n1, n2⟩ | ⟨n1, n2, n3⟩
            · rw [n2, bi_f (by decide)] at g3
              first
              | (exfalso; omega)
              | (rw [if_pos n1]; done)
            · rw [bi_t n2] at g3
              rw [n3] at m1 m2 m3
              rw [if_neg n1]
              first
              | (exfalso; omega)
              | (rw [if_pos (show q = 0 by omega)]; exact m1)
              | (rw [if_neg (show ¬ q = 0 by omega), if_pos (show q = 1 by omega)]; exact m2)
              | (rw [if_neg (show ¬ q = 0 by omega), if_neg (show ¬ q = 1 by omega)]; exact m3)
      · skip
        refine s_aload_n dX11_faces_27 0 rfl rfl (n_getc (q := 88) 0 6 98 dX11_faces_28 cf_X11 ff_X11_60 rfl sh_0 rfl (by decide) rfl (by decide) (n_getf 88 7 0 dX11_faces_31 cf_X7 ff_X11_252 rfl sh_88 rfl (by decide) (v := (w_15 88 7)) rfl (n_iret dX11_faces_34 hR rfl ?_)))
        rcases hz_15 with ⟨g1, g2, g3⟩ | ⟨g1, g2, g3⟩
        · first
          | (exfalso; omega)
          | (refine ⟨_, rfl, ?_, Or.inl g3⟩
             unfold facesV
             rw [if_neg (by omega)])
        · have hq := faces_eq (V := w 102) (T := w 101) (n := w 88 6) (v := v) (t := t) (l := w 88 8) (k := w 88 9) h.1 h.2 g1.1 hT
          have m1 : w_15 88 7 = (faX (w 102) (w 101) (w 88 6) v t (w 88 8) (w 88 9) (abI (w 102) v (w 88 6).toNat).toNat).1 := by rw [g2]; rfl
          have m2 : w_15 88 8 = (faX (w 102) (w 101) (w 88 6) v t (w 88 8) (w 88 9) (abI (w 102) v (w 88 6).toNat).toNat).2.1 := by rw [g2]; rfl
          have m3 : w_15 88 9 = (faX (w 102) (w 101) (w 88 6) v t (w 88 8) (w 88 9) (abI (w 102) v (w 88 6).toNat).toNat).2.2 := by rw [g2]; rfl
          refine ⟨_, rfl, ?_, Or.inr ⟨_, g2⟩⟩
          unfold facesV
          rw [if_pos ⟨g1, by omega⟩]
          rcases hq with ⟨n1, n2⟩ | ⟨n1, n2, n3⟩
          · rw [n2, bi_f (by decide)] at g3
            first
            | (exfalso; omega)
            | (rw [if_pos n1]; done)
          · rw [bi_t n2] at g3
            rw [n3] at m1 m2 m3
            rw [if_neg n1]
            first
            | (exfalso; omega)
            | (rw [if_pos (show q = 0 by omega)]; exact m1)
            | (rw [if_neg (show ¬ q = 0 by omega), if_pos (show q = 1 by omega)]; exact m2)
            | (rw [if_neg (show ¬ q = 0 by omega), if_neg (show ¬ q = 1 by omega)]; exact m3)
    · skip
      refine s_iconst dX11_faces_21 (by decide) (n_iret dX11_faces_22 hR rfl ?_)
      rcases hz_15 with ⟨g1, g2, g3⟩ | ⟨g1, g2, g3⟩
      · first
        | (exfalso; omega)
        | (refine ⟨_, rfl, ?_, Or.inl g3⟩
           unfold facesV
           rw [if_neg (by omega)])
      · have hq := faces_eq (V := w 102) (T := w 101) (n := w 88 6) (v := v) (t := t) (l := w 88 8) (k := w 88 9) h.1 h.2 g1.1 hT
        have m1 : w_15 88 7 = (faX (w 102) (w 101) (w 88 6) v t (w 88 8) (w 88 9) (abI (w 102) v (w 88 6).toNat).toNat).1 := by rw [g2]; rfl
        have m2 : w_15 88 8 = (faX (w 102) (w 101) (w 88 6) v t (w 88 8) (w 88 9) (abI (w 102) v (w 88 6).toNat).toNat).2.1 := by rw [g2]; rfl
        have m3 : w_15 88 9 = (faX (w 102) (w 101) (w 88 6) v t (w 88 8) (w 88 9) (abI (w 102) v (w 88 6).toNat).toNat).2.2 := by rw [g2]; rfl
        refine ⟨_, rfl, ?_, Or.inr ⟨_, g2⟩⟩
        unfold facesV
        rw [if_pos ⟨g1, by omega⟩]
        rcases hq with ⟨n1, n2⟩ | ⟨n1, n2, n3⟩
        · rw [n2, bi_f (by decide)] at g3
          first
          | (exfalso; omega)
          | (rw [if_pos n1]; done)
        · rw [bi_t n2] at g3
          rw [n3] at m1 m2 m3
          rw [if_neg n1]
          first
          | (exfalso; omega)
          | (rw [if_pos (show q = 0 by omega)]; exact m1)
          | (rw [if_neg (show ¬ q = 0 by omega), if_pos (show q = 1 by omega)]; exact m2)
          | (rw [if_neg (show ¬ q = 0 by omega), if_neg (show ¬ q = 1 by omega)]; exact m3)

set_option maxRecDepth 100000 in
theorem m_faces (t v q : Int) (w : Wd) (h : 0 ≤ w 141 8 ∧ w 141 8 ≤ 14) : CallN 2 mX12_faces [(2, 141), (0, t), (0, v), (0, q)] w (RV (0, facesV (w 198) (w 197) (w 141 8) t v q) w) := by
  refine CallN.intro (by decide +kernel) (Nat.le_of_ble_eq_true rfl) (fun ρ hR => ?_)
  show AtN mX12_faces 2 ρ 0 [(0, (2, 141)), (1, (0, t)), (2, (0, v)), (3, (0, q))] [] w
  have qb := ishl1_bd h.1 (show w 141 8 ≤ 16 by omega)
  have L_82 : ∀ (fu : Nat) (b : Int) (y : Int) (s : Int) (o : Int) (c : Int) (p : Int), (1 ≤ t ∧ t ≤ 31) ∧ (0 ≤ v ∧ v ≤ 9) ∧ (0 ≤ q ∧ q ≤ 2) → 1 ≤ s ∧ s < ishl 1 (w 141 8) → 0 ≤ p ∧ p ≤ w 141 8 → o = orI (w 197) s p.toNat → c = caI (w 198) v s p.toNat → b = (faM (w 198) (w 197) (w 141 8) v t (s - 1).toNat).1 → y = (faM (w 198) (w 197) (w 141 8) v t (s - 1).toNat).2 → b = -1 ∨ ppI s ≤ ppI b → (∀ b1 y1, b1 = (faM (w 198) (w 197) (w 141 8) v t (s + 1 - 1).toNat).1 → y1 = (faM (w 198) (w 197) (w 141 8) v t (s + 1 - 1).toNat).2 → AtN mX12_faces 2 ρ 190 [(0, (2, 141)), (1, (0, t)), (2, (0, v)), (3, (0, q)), (4, (0, b1)), (5, (0, y1)), (6, (0, s))] [] w) → (w 141 8 - p).toNat < fu → AtN mX12_faces 2 ρ 82 [(0, (2, 141)), (1, (0, t)), (2, (0, v)), (3, (0, q)), (4, (0, b)), (5, (0, y)), (6, (0, s)), (7, (0, o)), (8, (0, c)), (9, (0, p))] [] w := by
    intro fu
    induction fu with
    | zero => intro b y s o c p hok hs hp ho hc hb hy hby hK hm; exact absurd hm (Nat.not_lt_zero _)
    | succ fu ih =>
      intro b y s o c p hok hs hp ho hc hb hy hby hK hm
      have b01 := bt01 s p
      have c01 := caI_01 (V := w 198) (v := v) (s := s) p.toNat
      rw [← hc] at c01
      have hbd2 : (-1 ≤ (faM (w 198) (w 197) (w 141 8) v t (s - 1).toNat).1 ∧ (faM (w 198) (w 197) (w 141 8) v t (s - 1).toNat).1 ≤ ((s - 1).toNat : Nat)) ∧ 0 ≤ (faM (w 198) (w 197) (w 141 8) v t (s - 1).toNat).2 ∧ (faM (w 198) (w 197) (w 141 8) v t (s - 1).toNat).2 ≤ ((s - 1).toNat : Nat) := @fbM_bd (cvM (w 198) (w 197) (w 141 8) v t) (cvMd (w 198) (w 197) (w 141 8) v t) ppI (s - 1).toNat
      rw [← hb, ← hy] at hbd2
      refine s_iload dX12_faces_82 9 rfl (s_aload_n dX12_faces_84 0 rfl rfl (n_getf 141 8 0 dX12_faces_85 cf_X12 ff_X12_469 rfl sh_141 rfl (by decide) (v := (w 141 8)) rfl (s_icmp_ge 145 dX12_faces_88 (by decide) (fun c_88 => ?_) (fun c_88 => ?_))))
      · skip
        refine s_iload dX12_faces_145 8 rfl (s_if_eq 190 dX12_faces_147 (by decide) (fun c_147 => ?_) (fun c_147 => ?_))
        · skip
          have e8 : p = w 141 8 := by omega
          rw [e8] at ho hc
          refine At.keep (ls' := [(0, (2, 141)), (1, (0, t)), (2, (0, v)), (3, (0, q)), (4, (0, b)), (5, (0, y)), (6, (0, s))]) [0, 1, 2, 3, 4, 5, 6] rfl (hK b y ?_ ?_)
          all_goals
            rw [faM_st hs.1 hb hy hc ho]
            first
            | (rw [if_pos (by omega), if_pos (by omega)]; done)
            | (rw [if_pos (by omega), if_neg (by omega)]; done)
            | (rw [if_neg (by omega)]; done)
        · skip
          refine s_iload dX12_faces_150 7 rfl (s_iload_n dX12_faces_152 1 rfl (s_iand dX12_faces_153 (s_iload_n dX12_faces_154 1 rfl (s_icmp_eq 161 dX12_faces_155 (by decide) (fun c_155 => ?_) (fun c_155 => ?_)))))
          · skip
            refine s_iload dX12_faces_161 4 rfl (s_iconst dX12_faces_163 (by decide) (s_icmp_eq 180 dX12_faces_164 (by decide) (fun c_164 => ?_) (fun c_164 => ?_)))
            · skip
              refine s_iload dX12_faces_180 6 rfl (s_istore (ls' := [(0, (2, 141)), (1, (0, t)), (2, (0, v)), (3, (0, q)), (4, (0, s)), (5, (0, y)), (6, (0, s)), (7, (0, o)), (8, (0, c)), (9, (0, p))]) dX12_faces_182 (Nat.le_of_ble_eq_true rfl) rfl (s_iconst dX12_faces_184 (by decide) (s_istore (ls' := [(0, (2, 141)), (1, (0, t)), (2, (0, v)), (3, (0, q)), (4, (0, s)), (5, (0, 0)), (6, (0, s)), (7, (0, o)), (8, (0, c)), (9, (0, p))]) dX12_faces_185 (Nat.le_of_ble_eq_true rfl) rfl (s_iinc (z := 1) (ls' := [(0, (2, 141)), (1, (0, t)), (2, (0, v)), (3, (0, q)), (4, (0, s)), (5, (0, 1)), (6, (0, s)), (7, (0, o)), (8, (0, c)), (9, (0, p))]) dX12_faces_187 5 rfl (Nat.le_of_ble_eq_true rfl) (by decide) rfl ?_))))
              have e8 : p = w 141 8 := by omega
              rw [e8] at ho hc
              refine At.keep (ls' := [(0, (2, 141)), (1, (0, t)), (2, (0, v)), (3, (0, q)), (4, (0, s)), (5, (0, 1)), (6, (0, s))]) [0, 1, 2, 3, 4, 5, 6] rfl (hK s 1 ?_ ?_)
              all_goals
                rw [faM_st hs.1 hb hy hc ho]
                first
                | (rw [if_pos (by omega), if_pos (by omega)]; done)
                | (rw [if_pos (by omega), if_neg (by omega)]; done)
                | (rw [if_neg (by omega)]; done)
            · skip
              refine s_iload dX12_faces_167 6 rfl (n_invS (as := [(0, s)]) dX12_faces_169 kv_X12_bits ml_X12_460 (c_M_bits s w) (by decide) rfl rfl (Nat.le_of_ble_eq_true rfl) (s_iload dX12_faces_172 4 rfl (n_invS (as := [(0, b)]) dX12_faces_174 kv_X12_bits ml_X12_460 (c_M_bits b w) (by decide) rfl rfl (Nat.le_of_ble_eq_true rfl) (s_icmp_ge 187 dX12_faces_177 (by decide) (fun c_177 => ?_) (fun c_177 => ?_)))))
              · skip
                refine s_iinc (z := (y + 1)) (ls' := [(0, (2, 141)), (1, (0, t)), (2, (0, v)), (3, (0, q)), (4, (0, b)), (5, (0, (y + 1))), (6, (0, s)), (7, (0, o)), (8, (0, c)), (9, (0, p))]) dX12_faces_187 5 rfl (Nat.le_of_ble_eq_true rfl) (wr_id (by omega) (by omega)) rfl ?_
                have e8 : p = w 141 8 := by omega
                rw [e8] at ho hc
                refine At.keep (ls' := [(0, (2, 141)), (1, (0, t)), (2, (0, v)), (3, (0, q)), (4, (0, b)), (5, (0, (y + 1))), (6, (0, s))]) [0, 1, 2, 3, 4, 5, 6] rfl (hK b (y + 1) ?_ ?_)
                all_goals
                  rw [faM_st hs.1 hb hy hc ho]
                  first
                  | (rw [if_pos (by omega), if_pos (by omega)]; done)
                  | (rw [if_pos (by omega), if_neg (by omega)]; done)
                  | (rw [if_neg (by omega)]; done)
              · skip
                refine s_iload dX12_faces_180 6 rfl (s_istore (ls' := [(0, (2, 141)), (1, (0, t)), (2, (0, v)), (3, (0, q)), (4, (0, s)), (5, (0, y)), (6, (0, s)), (7, (0, o)), (8, (0, c)), (9, (0, p))]) dX12_faces_182 (Nat.le_of_ble_eq_true rfl) rfl (s_iconst dX12_faces_184 (by decide) (s_istore (ls' := [(0, (2, 141)), (1, (0, t)), (2, (0, v)), (3, (0, q)), (4, (0, s)), (5, (0, 0)), (6, (0, s)), (7, (0, o)), (8, (0, c)), (9, (0, p))]) dX12_faces_185 (Nat.le_of_ble_eq_true rfl) rfl (s_iinc (z := 1) (ls' := [(0, (2, 141)), (1, (0, t)), (2, (0, v)), (3, (0, q)), (4, (0, s)), (5, (0, 1)), (6, (0, s)), (7, (0, o)), (8, (0, c)), (9, (0, p))]) dX12_faces_187 5 rfl (Nat.le_of_ble_eq_true rfl) (by decide) rfl ?_))))
                have e8 : p = w 141 8 := by omega
                rw [e8] at ho hc
                refine At.keep (ls' := [(0, (2, 141)), (1, (0, t)), (2, (0, v)), (3, (0, q)), (4, (0, s)), (5, (0, 1)), (6, (0, s))]) [0, 1, 2, 3, 4, 5, 6] rfl (hK s 1 ?_ ?_)
                all_goals
                  rw [faM_st hs.1 hb hy hc ho]
                  first
                  | (rw [if_pos (by omega), if_pos (by omega)]; done)
                  | (rw [if_pos (by omega), if_neg (by omega)]; done)
                  | (rw [if_neg (by omega)]; done)
          · skip
            refine s_goto 190 dX12_faces_158 (by decide) ?_
            have e8 : p = w 141 8 := by omega
            rw [e8] at ho hc
            refine At.keep (ls' := [(0, (2, 141)), (1, (0, t)), (2, (0, v)), (3, (0, q)), (4, (0, b)), (5, (0, y)), (6, (0, s))]) [0, 1, 2, 3, 4, 5, 6] rfl (hK b y ?_ ?_)
            all_goals
              rw [faM_st hs.1 hb hy hc ho]
              first
              | (rw [if_pos (by omega), if_pos (by omega)]; done)
              | (rw [if_pos (by omega), if_neg (by omega)]; done)
              | (rw [if_neg (by omega)]; done)
      · skip
        refine s_iload dX12_faces_91 6 rfl (s_iload dX12_faces_93 9 rfl (s_ishr dX12_faces_95 (s_iconst dX12_faces_96 (by decide) (n_bt dX12_faces_97 (s_if_ne 104 dX12_faces_98 (by decide) (fun c_98 => ?_) (fun c_98 => ?_))))))
        · skip
          refine s_iload dX12_faces_104 7 rfl (s_aload_n dX12_faces_106 0 rfl rfl (n_getc (q := 197) 141 83 207 dX12_faces_107 cf_X12 ff_X12_181 rfl sh_141 rfl (by decide) rfl (by decide) (s_iload dX12_faces_110 9 rfl (n_iald 197 dX12_faces_112 rfl sh_197 (by decide) ⟨(by omega), (by omega)⟩ (v := (w 197 p)) rfl (s_ior dX12_faces_113 (s_istore (ls' := [(0, (2, 141)), (1, (0, t)), (2, (0, v)), (3, (0, q)), (4, (0, b)), (5, (0, y)), (6, (0, s)), (7, (0, (ior o (w 197 p)))), (8, (0, c)), (9, (0, p))]) dX12_faces_114 (Nat.le_of_ble_eq_true rfl) rfl (s_iload dX12_faces_116 8 rfl (s_if_eq 136 dX12_faces_118 (by decide) (fun c_118 => ?_) (fun c_118 => ?_)))))))))
          · skip
            refine s_iconst dX12_faces_136 (by decide) (s_istore (ls' := [(0, (2, 141)), (1, (0, t)), (2, (0, v)), (3, (0, q)), (4, (0, b)), (5, (0, y)), (6, (0, s)), (7, (0, (ior o (w 197 p)))), (8, (0, 0)), (9, (0, p))]) dX12_faces_137 (Nat.le_of_ble_eq_true rfl) rfl (s_iinc (z := (p + 1)) (ls' := [(0, (2, 141)), (1, (0, t)), (2, (0, v)), (3, (0, q)), (4, (0, b)), (5, (0, y)), (6, (0, s)), (7, (0, (ior o (w 197 p)))), (8, (0, 0)), (9, (0, (p + 1)))]) dX12_faces_139 9 rfl (Nat.le_of_ble_eq_true rfl) (wr_id (by omega) (by omega)) rfl (s_goto 82 dX12_faces_142 (by decide) ?_)))
            exact ih b y s (ior o (w 197 p)) 0 (p + 1) (by omega) (by omega) (by omega) (by rw [orI_s hp.1, ← ho]; first | exact (if_pos (by omega)).symm | exact (if_neg (by omega)).symm) (by rw [caI_s hp.1, ← hc]; first | (rw [if_pos (by omega), if_pos (by omega)]; done) | (rw [if_pos (by omega), if_neg (by omega)]; done) | (rw [if_neg (by omega)]; done)) hb hy hby hK (by omega)
          · skip
            refine s_aload_n dX12_faces_121 0 rfl rfl (n_getc (q := 198) 141 84 208 dX12_faces_122 cf_X12 ff_X12_184 rfl sh_141 rfl (by decide) rfl (by decide) (s_iload dX12_faces_125 9 rfl (n_iald 198 dX12_faces_127 rfl sh_198 (by decide) ⟨(by omega), (by omega)⟩ (v := (w 198 p)) rfl (s_iload_n dX12_faces_128 2 rfl (s_icmp_lt 136 dX12_faces_129 (by decide) (fun c_129 => ?_) (fun c_129 => ?_))))))
            · skip
              refine s_iconst dX12_faces_136 (by decide) (s_istore (ls' := [(0, (2, 141)), (1, (0, t)), (2, (0, v)), (3, (0, q)), (4, (0, b)), (5, (0, y)), (6, (0, s)), (7, (0, (ior o (w 197 p)))), (8, (0, 0)), (9, (0, p))]) dX12_faces_137 (Nat.le_of_ble_eq_true rfl) rfl (s_iinc (z := (p + 1)) (ls' := [(0, (2, 141)), (1, (0, t)), (2, (0, v)), (3, (0, q)), (4, (0, b)), (5, (0, y)), (6, (0, s)), (7, (0, (ior o (w 197 p)))), (8, (0, 0)), (9, (0, (p + 1)))]) dX12_faces_139 9 rfl (Nat.le_of_ble_eq_true rfl) (wr_id (by omega) (by omega)) rfl (s_goto 82 dX12_faces_142 (by decide) ?_)))
              exact ih b y s (ior o (w 197 p)) 0 (p + 1) (by omega) (by omega) (by omega) (by rw [orI_s hp.1, ← ho]; first | exact (if_pos (by omega)).symm | exact (if_neg (by omega)).symm) (by rw [caI_s hp.1, ← hc]; first | (rw [if_pos (by omega), if_pos (by omega)]; done) | (rw [if_pos (by omega), if_neg (by omega)]; done) | (rw [if_neg (by omega)]; done)) hb hy hby hK (by omega)
            · skip
              refine s_iconst dX12_faces_132 (by decide) (s_goto 137 dX12_faces_133 (by decide) (s_istore (ls' := [(0, (2, 141)), (1, (0, t)), (2, (0, v)), (3, (0, q)), (4, (0, b)), (5, (0, y)), (6, (0, s)), (7, (0, (ior o (w 197 p)))), (8, (0, 1)), (9, (0, p))]) dX12_faces_137 (Nat.le_of_ble_eq_true rfl) rfl (s_iinc (z := (p + 1)) (ls' := [(0, (2, 141)), (1, (0, t)), (2, (0, v)), (3, (0, q)), (4, (0, b)), (5, (0, y)), (6, (0, s)), (7, (0, (ior o (w 197 p)))), (8, (0, 1)), (9, (0, (p + 1)))]) dX12_faces_139 9 rfl (Nat.le_of_ble_eq_true rfl) (wr_id (by omega) (by omega)) rfl (s_goto 82 dX12_faces_142 (by decide) ?_))))
              exact ih b y s (ior o (w 197 p)) 1 (p + 1) (by omega) (by omega) (by omega) (by rw [orI_s hp.1, ← ho]; first | exact (if_pos (by omega)).symm | exact (if_neg (by omega)).symm) (by rw [caI_s hp.1, ← hc]; first | (rw [if_pos (by omega), if_pos (by omega)]; done) | (rw [if_pos (by omega), if_neg (by omega)]; done) | (rw [if_neg (by omega)]; done)) hb hy hby hK (by omega)
        · skip
          refine s_goto 139 dX12_faces_101 (by decide) (s_iinc (z := (p + 1)) (ls' := [(0, (2, 141)), (1, (0, t)), (2, (0, v)), (3, (0, q)), (4, (0, b)), (5, (0, y)), (6, (0, s)), (7, (0, o)), (8, (0, c)), (9, (0, (p + 1)))]) dX12_faces_139 9 rfl (Nat.le_of_ble_eq_true rfl) (wr_id (by omega) (by omega)) rfl (s_goto 82 dX12_faces_142 (by decide) ?_))
          exact ih b y s o c (p + 1) (by omega) (by omega) (by omega) (by rw [orI_s hp.1, ← ho]; first | exact (if_pos (by omega)).symm | exact (if_neg (by omega)).symm) (by rw [caI_s hp.1, ← hc]; first | (rw [if_pos (by omega), if_pos (by omega)]; done) | (rw [if_pos (by omega), if_neg (by omega)]; done) | (rw [if_neg (by omega)]; done)) hb hy hby hK (by omega)
  have L_40 : ∀ (fu : Nat) (b : Int) (y : Int) (s : Int), (1 ≤ t ∧ t ≤ 31) ∧ (0 ≤ v ∧ v ≤ 9) ∧ (0 ≤ q ∧ q ≤ 2) → 1 ≤ s ∧ s ≤ ishl 1 (w 141 8) → b = (faM (w 198) (w 197) (w 141 8) v t (s - 1).toNat).1 → y = (faM (w 198) (w 197) (w 141 8) v t (s - 1).toNat).2 → (ishl 1 (w 141 8) - s).toNat < fu → AtN mX12_faces 2 ρ 40 [(0, (2, 141)), (1, (0, t)), (2, (0, v)), (3, (0, q)), (4, (0, b)), (5, (0, y)), (6, (0, s))] [] w := by
    intro fu
    induction fu with
    | zero => intro b y s hok hs hb hy hm; exact absurd hm (Nat.not_lt_zero _)
    | succ fu ih =>
      intro b y s hok hs hb hy hm
      refine s_iload dX12_faces_40 6 rfl (s_iconst dX12_faces_42 (by decide) (s_aload_n dX12_faces_43 0 rfl rfl (n_getf 141 8 0 dX12_faces_44 cf_X12 ff_X12_469 rfl sh_141 rfl (by decide) (v := (w 141 8)) rfl (s_ishl dX12_faces_47 (s_icmp_ge 196 dX12_faces_48 (by decide) (fun c_48 => ?_) (fun c_48 => ?_))))))
      · skip
        refine s_iload dX12_faces_196 4 rfl (s_iconst dX12_faces_198 (by decide) (s_icmp_ne 206 dX12_faces_199 (by decide) (fun c_199 => ?_) (fun c_199 => ?_)))
        · skip
          refine s_iload_n dX12_faces_206 3 rfl (s_if_ne 218 dX12_faces_207 (by decide) (fun c_207 => ?_) (fun c_207 => ?_))
          · skip
            refine s_iload_n dX12_faces_218 3 rfl (s_iconst dX12_faces_219 (by decide) (s_icmp_ne 228 dX12_faces_220 (by decide) (fun c_220 => ?_) (fun c_220 => ?_)))
            · skip
              refine s_iload dX12_faces_228 5 rfl (n_iret dX12_faces_230 hR rfl ?_)
              refine ⟨congrArg (fun z => some ((0 : Nat), z)) ?_, rfl⟩
              have e9 : s = ishl 1 (w 141 8) := by omega
              rw [e9] at hb hy
              unfold facesV
              rw [if_pos (by omega), ← hb, ← hy]
              first
              | (rw [if_pos (show b = -1 by omega)]; done)
              | (rw [if_neg (show ¬ b = -1 by omega), if_pos (show q = 0 by omega)]; done)
              | (rw [if_neg (show ¬ b = -1 by omega), if_neg (show ¬ q = 0 by omega), if_pos (show q = 1 by omega)]; done)
              | (rw [if_neg (show ¬ b = -1 by omega), if_neg (show ¬ q = 0 by omega), if_neg (show ¬ q = 1 by omega)]; done)
            · skip
              refine s_iload dX12_faces_223 4 rfl (s_goto 230 dX12_faces_225 (by decide) (n_iret dX12_faces_230 hR rfl ?_))
              refine ⟨congrArg (fun z => some ((0 : Nat), z)) ?_, rfl⟩
              have e9 : s = ishl 1 (w 141 8) := by omega
              rw [e9] at hb hy
              unfold facesV
              rw [if_pos (by omega), ← hb, ← hy]
              first
              | (rw [if_pos (show b = -1 by omega)]; done)
              | (rw [if_neg (show ¬ b = -1 by omega), if_pos (show q = 0 by omega)]; done)
              | (rw [if_neg (show ¬ b = -1 by omega), if_neg (show ¬ q = 0 by omega), if_pos (show q = 1 by omega)]; done)
              | (rw [if_neg (show ¬ b = -1 by omega), if_neg (show ¬ q = 0 by omega), if_neg (show ¬ q = 1 by omega)]; done)
          · skip
            refine s_iload dX12_faces_210 4 rfl (n_invS (as := [(0, b)]) dX12_faces_212 kv_X12_bits ml_X12_460 (c_M_bits b w) (by decide) rfl rfl (Nat.le_of_ble_eq_true rfl) (s_goto 230 dX12_faces_215 (by decide) (n_iret dX12_faces_230 hR rfl ?_)))
            refine ⟨congrArg (fun z => some ((0 : Nat), z)) ?_, rfl⟩
            have e9 : s = ishl 1 (w 141 8) := by omega
            rw [e9] at hb hy
            unfold facesV
            rw [if_pos (by omega), ← hb, ← hy]
            first
            | (rw [if_pos (show b = -1 by omega)]; done)
            | (rw [if_neg (show ¬ b = -1 by omega), if_pos (show q = 0 by omega)]; done)
            | (rw [if_neg (show ¬ b = -1 by omega), if_neg (show ¬ q = 0 by omega), if_pos (show q = 1 by omega)]; done)
            | (rw [if_neg (show ¬ b = -1 by omega), if_neg (show ¬ q = 0 by omega), if_neg (show ¬ q = 1 by omega)]; done)
        · skip
          refine s_iconst dX12_faces_202 (by decide) (s_goto 230 dX12_faces_203 (by decide) (n_iret dX12_faces_230 hR rfl ?_))
          refine ⟨congrArg (fun z => some ((0 : Nat), z)) ?_, rfl⟩
          have e9 : s = ishl 1 (w 141 8) := by omega
          rw [e9] at hb hy
          unfold facesV
          rw [if_pos (by omega), ← hb, ← hy]
          first
          | (rw [if_pos (show b = -1 by omega)]; done)
          | (rw [if_neg (show ¬ b = -1 by omega), if_pos (show q = 0 by omega)]; done)
          | (rw [if_neg (show ¬ b = -1 by omega), if_neg (show ¬ q = 0 by omega), if_pos (show q = 1 by omega)]; done)
          | (rw [if_neg (show ¬ b = -1 by omega), if_neg (show ¬ q = 0 by omega), if_neg (show ¬ q = 1 by omega)]; done)
      · skip
        refine s_iload dX12_faces_51 4 rfl (s_iconst dX12_faces_53 (by decide) (s_icmp_eq 73 dX12_faces_54 (by decide) (fun c_54 => ?_) (fun c_54 => ?_)))
        · skip
          refine s_iconst dX12_faces_73 (by decide) (s_istore (ls' := [(0, (2, 141)), (1, (0, t)), (2, (0, v)), (3, (0, q)), (4, (0, b)), (5, (0, y)), (6, (0, s)), (7, (0, 0))]) dX12_faces_74 (Nat.le_of_ble_eq_true rfl) rfl (s_iconst dX12_faces_76 (by decide) (s_istore (ls' := [(0, (2, 141)), (1, (0, t)), (2, (0, v)), (3, (0, q)), (4, (0, b)), (5, (0, y)), (6, (0, s)), (7, (0, 0)), (8, (0, 1))]) dX12_faces_77 (Nat.le_of_ble_eq_true rfl) rfl (s_iconst dX12_faces_79 (by decide) (s_istore (ls' := [(0, (2, 141)), (1, (0, t)), (2, (0, v)), (3, (0, q)), (4, (0, b)), (5, (0, y)), (6, (0, s)), (7, (0, 0)), (8, (0, 1)), (9, (0, 0))]) dX12_faces_80 (Nat.le_of_ble_eq_true rfl) rfl ?_)))))
          exact L_82 _ b y s 0 1 0 (by omega) (by omega) (by omega) rfl rfl hb hy (by omega) (fun b1 y1 e1 e2 => s_iinc (z := (s + 1)) (ls' := [(0, (2, 141)), (1, (0, t)), (2, (0, v)), (3, (0, q)), (4, (0, b1)), (5, (0, y1)), (6, (0, (s + 1)))]) dX12_faces_190 6 rfl (Nat.le_of_ble_eq_true rfl) (wr_id (by omega) (by omega)) rfl (s_goto 40 dX12_faces_193 (by decide) (ih b1 y1 (s + 1) (by omega) (by omega) e1 e2 (by omega)))) (Nat.lt_succ_self _)
        · skip
          refine s_iload dX12_faces_57 6 rfl (n_invS (as := [(0, s)]) dX12_faces_59 kv_X12_bits ml_X12_460 (c_M_bits s w) (by decide) rfl rfl (Nat.le_of_ble_eq_true rfl) (s_iload dX12_faces_62 4 rfl (n_invS (as := [(0, b)]) dX12_faces_64 kv_X12_bits ml_X12_460 (c_M_bits b w) (by decide) rfl rfl (Nat.le_of_ble_eq_true rfl) (s_icmp_le 73 dX12_faces_67 (by decide) (fun c_67 => ?_) (fun c_67 => ?_)))))
          · skip
            refine s_iconst dX12_faces_73 (by decide) (s_istore (ls' := [(0, (2, 141)), (1, (0, t)), (2, (0, v)), (3, (0, q)), (4, (0, b)), (5, (0, y)), (6, (0, s)), (7, (0, 0))]) dX12_faces_74 (Nat.le_of_ble_eq_true rfl) rfl (s_iconst dX12_faces_76 (by decide) (s_istore (ls' := [(0, (2, 141)), (1, (0, t)), (2, (0, v)), (3, (0, q)), (4, (0, b)), (5, (0, y)), (6, (0, s)), (7, (0, 0)), (8, (0, 1))]) dX12_faces_77 (Nat.le_of_ble_eq_true rfl) rfl (s_iconst dX12_faces_79 (by decide) (s_istore (ls' := [(0, (2, 141)), (1, (0, t)), (2, (0, v)), (3, (0, q)), (4, (0, b)), (5, (0, y)), (6, (0, s)), (7, (0, 0)), (8, (0, 1)), (9, (0, 0))]) dX12_faces_80 (Nat.le_of_ble_eq_true rfl) rfl ?_)))))
            exact L_82 _ b y s 0 1 0 (by omega) (by omega) (by omega) rfl rfl hb hy (by omega) (fun b1 y1 e1 e2 => s_iinc (z := (s + 1)) (ls' := [(0, (2, 141)), (1, (0, t)), (2, (0, v)), (3, (0, q)), (4, (0, b1)), (5, (0, y1)), (6, (0, (s + 1)))]) dX12_faces_190 6 rfl (Nat.le_of_ble_eq_true rfl) (wr_id (by omega) (by omega)) rfl (s_goto 40 dX12_faces_193 (by decide) (ih b1 y1 (s + 1) (by omega) (by omega) e1 e2 (by omega)))) (Nat.lt_succ_self _)
          · skip
            refine s_goto 190 dX12_faces_70 (by decide) ?_
            refine s_iinc (z := (s + 1)) (ls' := [(0, (2, 141)), (1, (0, t)), (2, (0, v)), (3, (0, q)), (4, (0, b)), (5, (0, y)), (6, (0, (s + 1)))]) dX12_faces_190 6 rfl (Nat.le_of_ble_eq_true rfl) (wr_id (by omega) (by omega)) rfl (s_goto 40 dX12_faces_193 (by decide) ?_)
            exact ih b y (s + 1) (by omega) (by omega) (by rw [faM_st hs.1 hb hy rfl rfl, if_neg (by omega)]) (by rw [faM_st hs.1 hb hy rfl rfl, if_neg (by omega)]) (by omega)
  refine s_iload_n dX12_faces_0 1 rfl (s_iconst dX12_faces_1 (by decide) (s_bipush dX12_faces_2 (by decide) (n_invS (as := [(0, t), (0, 1), (0, 31)]) dX12_faces_4 kv_X12_isIn ml_X12_223 (c_isIn t 1 31 w) (by decide) rfl rfl (Nat.le_of_ble_eq_true rfl) (n_ifeq_b 29 dX12_faces_7 (by decide) (fun c_7 => ?_) (fun c_7 => ?_)))))
  · skip
    refine s_iconst dX12_faces_29 (by decide) (n_iret dX12_faces_30 hR rfl ?_)
    refine ⟨congrArg (fun z => some ((0 : Nat), z)) ?_, rfl⟩
    unfold facesV
    rw [if_neg (by omega)]
  · skip
    refine s_iload_n dX12_faces_10 2 rfl (s_iconst dX12_faces_11 (by decide) (s_bipush dX12_faces_12 (by decide) (n_invS (as := [(0, v), (0, 0), (0, 9)]) dX12_faces_14 kv_X12_isIn ml_X12_223 (c_isIn v 0 9 w) (by decide) rfl rfl (Nat.le_of_ble_eq_true rfl) (n_ifeq_b 29 dX12_faces_17 (by decide) (fun c_17 => ?_) (fun c_17 => ?_)))))
    · skip
      refine s_iconst dX12_faces_29 (by decide) (n_iret dX12_faces_30 hR rfl ?_)
      refine ⟨congrArg (fun z => some ((0 : Nat), z)) ?_, rfl⟩
      unfold facesV
      rw [if_neg (by omega)]
    · skip
      refine s_iload_n dX12_faces_20 3 rfl (s_iconst dX12_faces_21 (by decide) (s_iconst dX12_faces_22 (by decide) (n_invS (as := [(0, q), (0, 0), (0, 2)]) dX12_faces_23 kv_X12_isIn ml_X12_223 (c_isIn q 0 2 w) (by decide) rfl rfl (Nat.le_of_ble_eq_true rfl) (n_ifne_b 31 dX12_faces_26 (by decide) (fun c_26 => ?_) (fun c_26 => ?_)))))
      · skip
        refine s_iconst dX12_faces_31 (by decide) (s_istore (ls' := [(0, (2, 141)), (1, (0, t)), (2, (0, v)), (3, (0, q)), (4, (0, (-1)))]) dX12_faces_32 (Nat.le_of_ble_eq_true rfl) rfl (s_iconst dX12_faces_34 (by decide) (s_istore (ls' := [(0, (2, 141)), (1, (0, t)), (2, (0, v)), (3, (0, q)), (4, (0, (-1))), (5, (0, 0))]) dX12_faces_35 (Nat.le_of_ble_eq_true rfl) rfl (s_iconst dX12_faces_37 (by decide) (s_istore (ls' := [(0, (2, 141)), (1, (0, t)), (2, (0, v)), (3, (0, q)), (4, (0, (-1))), (5, (0, 0)), (6, (0, 1))]) dX12_faces_38 (Nat.le_of_ble_eq_true rfl) rfl ?_)))))
        exact L_40 _ (-1) 0 1 (by omega) (by omega) rfl rfl (Nat.lt_succ_self _)
      · skip
        refine s_iconst dX12_faces_29 (by decide) (n_iret dX12_faces_30 hR rfl ?_)
        refine ⟨congrArg (fun z => some ((0 : Nat), z)) ?_, rfl⟩
        unfold facesV
        rw [if_neg (by omega)]
