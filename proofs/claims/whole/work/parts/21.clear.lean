/-! CLEAR. -/
/-- cell T holds f at 0 .. n - 1 -/
def fillW (w : Wd) (T : Nat) (f : Int → Int) (n : Int) : Wd := fun c j => if c = T then (if 0 ≤ j ∧ j < n then f j else w T j) else w c j
theorem fill0 {w : Wd} {T : Nat} {f : Int → Int} : w = fillW w T f 0 := by
  funext c j
  unfold fillW
  by_cases hT : c = T
  · subst hT; rw [if_pos rfl, if_neg (by omega)]
  · rw [if_neg hT]
theorem fillV {w : Wd} {T : Nat} {f : Int → Int} {n j : Int} (h : 0 ≤ j ∧ j < n) : fillW w T f n T j = f j := by unfold fillW; rw [if_pos rfl, if_pos h]
theorem fillN {w : Wd} {T c : Nat} {f : Int → Int} {n : Int} (h : c ≠ T) : fillW w T f n c = w c := by funext j; unfold fillW; rw [if_neg h]
theorem fillB {w : Wd} {T : Nat} {f g : Int → Int} {n : Int} (h : ∀ k, 0 ≤ k → k < n → f k = g k) : fillW w T f n = fillW w T g n := by
  funext c j
  unfold fillW
  by_cases hT : c = T
  · subst hT
    rw [if_pos rfl, if_pos rfl]
    by_cases c1 : 0 ≤ j ∧ j < n
    · rw [if_pos c1, if_pos c1, h j c1.1 c1.2]
    · rw [if_neg c1, if_neg c1]
  · rw [if_neg hT, if_neg hT]
theorem fillU {w v : Wd} {T : Nat} {f g : Int → Int} {n j x : Int} (hv : v = fillW w T f n) (hj : 0 ≤ j ∧ j < n) (hx : x = g j) (hg : ∀ k, 0 ≤ k → k < n → k ≠ j → g k = f k) : wu v T j x = fillW w T g n := by
  subst hv
  funext c k
  unfold wu fillW
  by_cases hT : c = T
  · subst hT
    simp only [if_true]
    by_cases e : k = j
    · subst e; rw [if_pos rfl, if_pos hj, hx]
    · rw [if_neg e]
      by_cases c1 : 0 ≤ k ∧ k < n
      · rw [if_pos c1, if_pos c1, hg k c1.1 c1.2 e]
      · rw [if_neg c1, if_neg c1]
  · simp only [if_neg hT]
theorem fillS {w v : Wd} {T : Nat} {f g : Int → Int} {n x : Int} (hv : v = fillW w T f n) (h0 : 0 ≤ n) (hx : x = g n) (hg : ∀ k, 0 ≤ k → k < n → g k = f k) : wu v T n x = fillW w T g (n + 1) := by
  subst hv
  funext c k
  unfold wu fillW
  by_cases hT : c = T
  · subst hT
    simp only [if_true]
    by_cases e : k = n
    · subst e; rw [if_pos rfl, if_pos (by omega), hx]
    · rw [if_neg e]
      by_cases c1 : 0 ≤ k ∧ k < n
      · rw [if_pos c1, if_pos (show 0 ≤ k ∧ k < n + 1 by omega), hg k c1.1 c1.2]
      · rw [if_neg c1, if_neg (show ¬ (0 ≤ k ∧ k < n + 1) by omega)]
  · simp only [if_neg hT]
/-- what j gets of i's payment -/
def tS (A P : Int → Int) (O : Int → Int → Int) (i j : Int) : Int := if 0 < A i then (O i j * P i).tdiv (A i) else 0
theorem mul_bd {x y X Y : Int} (h : 0 ≤ x ∧ x ≤ X) (h1 : 0 ≤ y ∧ y ≤ Y) : 0 ≤ x * y ∧ x * y ≤ X * Y := ⟨Int.mul_nonneg h.1 h1.1, Int.mul_le_mul h.2 h1.2 h1.1 (by omega)⟩
theorem tdiv_bd {n d : Int} (h : 0 ≤ n) (hd : 0 < d) : 0 ≤ n.tdiv d ∧ n.tdiv d ≤ n := by
  rw [Int.tdiv_eq_ediv_of_nonneg h]
  exact ⟨Int.ediv_nonneg h (by omega), Int.ediv_le_self d h⟩
theorem tS_bd {A P : Int → Int} {O : Int → Int → Int} {i j : Int} (hO : 0 ≤ O i j ∧ O i j ≤ 99999) (hP : 0 ≤ P i ∧ P i ≤ 2000000) : 0 ≤ tS A P O i j ∧ tS A P O i j ≤ 199998000000 := by
  unfold tS
  split
  · rename_i hA
    have h1 := mul_bd hO hP
    have h2 := tdiv_bd h1.1 hA
    omega
  · omega
/-- what comes to j -/
def comesS (A P : Int → Int) (O : Int → Int → Int) (j : Int) : Int := sumI (fun i => tS A P O i j) 20

set_option maxRecDepth 100000 in
theorem c_X_share (w : Wd) (hO : ∀ i j, 0 ≤ i → i < 20 → 0 ≤ j → j < 20 → 0 ≤ w (111 + Int.toNat i) j ∧ w (111 + Int.toNat i) j ≤ 99999) (hA : ∀ j, 0 ≤ j → j < 20 → 0 ≤ w 132 j ∧ w 132 j ≤ 2000000) (hP : ∀ j, 0 ≤ j → j < 20 → 0 ≤ w 133 j ∧ w 133 j ≤ 2000000) : CallN 1 mX1_share [(2, 109)] w (RUQ (fun w1 => w1 = fillW w 134 (comesS (w 132) (w 133) (fun i j => w (111 + Int.toNat i) j)) 20)) := by
  refine CallN.intro (by decide +kernel) (Nat.le_of_ble_eq_true rfl) (fun ρ hR => ?_)
  show AtN mX1_share 1 ρ 0 [(0, (2, 109))] [] w
  have L_31 : ∀ (fu : Nat) (i : Int) (j : Int) (v9 : Wd), 0 ≤ i ∧ i < 20 → 0 ≤ j ∧ j ≤ 20 → v9 = fillW w 134 (fun k => if k < j then sumI (fun q => tS (w 132) (w 133) (fun i j => w (111 + Int.toNat i) j) q k) (i + 1).toNat else sumI (fun q => tS (w 132) (w 133) (fun i j => w (111 + Int.toNat i) j) q k) (i).toNat) 20 → (∀ v : Wd, v = fillW w 134 (fun k => sumI (fun q => tS (w 132) (w 133) (fun i j => w (111 + Int.toNat i) j) q k) (i + 1).toNat) 20 → AtN mX1_share 1 ρ 97 [(0, (2, 109)), (1, (0, i))] [] v) → (20 - j).toNat < fu → AtN mX1_share 1 ρ 31 [(0, (2, 109)), (1, (0, i)), (2, (0, j))] [] v9 := by
    intro fu
    induction fu with
    | zero => intro i j v9 hi hj hw hK hm; exact absurd hm (Nat.not_lt_zero _)
    | succ fu ih =>
      intro i j v9 hi hj hw hK hm
      have q2 : v9 133 = w 133 := by rw [hw]; exact fillN (by decide)
      have q3 : v9 132 = w 132 := by rw [hw]; exact fillN (by decide)
      have q4 : v9 (111 + Int.toNat i) = w (111 + Int.toNat i) := by rw [hw]; exact fillN (by omega)
      have b2 := hP i hi.1 hi.2
      have b3 := hA i hi.1 hi.2
      rw [← q2] at b2
      rw [← q3] at b3
      refine s_iload_n dX1_share_31 2 rfl (s_bipush dX1_share_32 (by decide) (s_icmp_ge 97 dX1_share_34 (by decide) (fun c_34 => ?_) (fun c_34 => ?_)))
      · skip
        exact At.keep (ls' := [(0, (2, 109)), (1, (0, i))]) [0, 1] rfl (hK v9 (by
          rw [hw]
          refine fillB (fun k k0 k1 => ?_)
          show (if k < j then _ else _) = _
          split
          · rfl
          · first
            | (exfalso; omega)
            | (rw [sumI_s hi.1]
               have hz : tS (w 132) (w 133) (fun i j => w (111 + Int.toNat i) j) i k = 0 := by
                 unfold tS
                 rw [← q2, ← q3]
                 split
                 · first
                   | (exfalso; omega)
                   | (rw [show v9 133 i = 0 from by omega, Int.mul_zero]; exact Int.zero_tdiv _)
                 · rfl
               simp only [hz, Int.add_zero])))
      · skip
        refine s_aload_n dX1_share_37 0 rfl rfl (n_getc (q := 133) 109 4 143 dX1_share_38 cf_X1 ff_X1_24 rfl sh_109 rfl (by decide) rfl (by decide) (s_iload_n dX1_share_41 1 rfl (n_lald 133 dX1_share_42 rfl sh_133 (by decide) ⟨(by omega), (by omega)⟩ (v := (v9 133 i)) rfl (s_lconst (z := 0) dX1_share_43 rfl (s_lcmp dX1_share_44 (s_if_le 97 dX1_share_45 (by decide) (fun c_45 => ?_) (fun c_45 => ?_)))))))
        · skip
          exact At.keep (ls' := [(0, (2, 109)), (1, (0, i))]) [0, 1] rfl (hK v9 (by
            rw [hw]
            refine fillB (fun k k0 k1 => ?_)
            show (if k < j then _ else _) = _
            split
            · rfl
            · first
              | (exfalso; omega)
              | (rw [sumI_s hi.1]
                 have hz : tS (w 132) (w 133) (fun i j => w (111 + Int.toNat i) j) i k = 0 := by
                   unfold tS
                   rw [← q2, ← q3]
                   split
                   · first
                     | (exfalso; omega)
                     | (rw [show v9 133 i = 0 from by omega, Int.mul_zero]; exact Int.zero_tdiv _)
                   · rfl
                 simp only [hz, Int.add_zero])))
        · skip
          refine s_aload_n dX1_share_48 0 rfl rfl (n_getc (q := 132) 109 3 142 dX1_share_49 cf_X1 ff_X1_20 rfl sh_109 rfl (by decide) rfl (by decide) (s_iload_n dX1_share_52 1 rfl (n_lald 132 dX1_share_53 rfl sh_132 (by decide) ⟨(by omega), (by omega)⟩ (v := (v9 132 i)) rfl (s_lconst (z := 0) dX1_share_54 rfl (s_lcmp dX1_share_55 (s_if_le 97 dX1_share_56 (by decide) (fun c_56 => ?_) (fun c_56 => ?_)))))))
          · skip
            exact At.keep (ls' := [(0, (2, 109)), (1, (0, i))]) [0, 1] rfl (hK v9 (by
              rw [hw]
              refine fillB (fun k k0 k1 => ?_)
              show (if k < j then _ else _) = _
              split
              · rfl
              · first
                | (exfalso; omega)
                | (rw [sumI_s hi.1]
                   have hz : tS (w 132) (w 133) (fun i j => w (111 + Int.toNat i) j) i k = 0 := by
                     unfold tS
                     rw [← q2, ← q3]
                     split
                     · first
                       | (exfalso; omega)
                       | (rw [show v9 133 i = 0 from by omega, Int.mul_zero]; exact Int.zero_tdiv _)
                     · rfl
                   simp only [hz, Int.add_zero])))
          · skip
            have q1 : v9 134 j = sumI (fun q => tS (w 132) (w 133) (fun i j => w (111 + Int.toNat i) j) q j) (i).toNat := by rw [hw, fillV ⟨by omega, by omega⟩]; exact if_neg (by omega)
            have q5 := sumI_bd' (f := fun q => tS (w 132) (w 133) (fun i j => w (111 + Int.toNat i) j) q j) (B := 199998000000) (N := 20) (fun q a b => tS_bd (hO q j a b hj.1 (by omega)) (hP q a b)) hi.1 (by omega)
            rw [← q1] at q5
            have b4 := hO i j hi.1 hi.2 hj.1 (by omega)
            have b5 := mul_bd b4 (hP i hi.1 hi.2)
            have b6 := tdiv_bd b5.1 (show 0 < w 132 i by rw [← q3]; omega)
            rw [← q2, ← q3, ← q4] at b6
            rw [← q2, ← q4] at b5
            refine s_aload_n dX1_share_59 0 rfl rfl (n_getc (q := 134) 109 5 144 dX1_share_60 cf_X1 ff_X1_27 rfl sh_109 rfl (by decide) rfl (by decide) (s_iload_n dX1_share_63 2 rfl (s_dup2 dX1_share_64 (show (0 : Nat) ≠ 1 by decide) (show (2 : Nat) ≠ 1 by decide) (n_lald 134 dX1_share_65 rfl sh_134 (by decide) ⟨(by omega), (by omega)⟩ (v := (v9 134 j)) rfl (s_aload_n dX1_share_66 0 rfl rfl (n_getc (q := 110) 109 1 120 dX1_share_67 cf_X1 ff_X1_11 rfl sh_109 rfl (by decide) rfl (by decide) (s_iload_n dX1_share_70 1 rfl (s_aaload6 110 dX1_share_71 rfl sh_110 (by decide) ⟨(by omega), (by omega)⟩ (s_iload_n dX1_share_72 2 rfl ?_)))))))))
            refine n_iald (111 + Int.toNat i) dX1_share_73 rfl (rowsh_111 _ (by omega)) (by decide) ⟨(by omega), (by omega)⟩ (v := (v9 (111 + Int.toNat i) j)) rfl (s_i2l dX1_share_74 (s_aload_n dX1_share_75 0 rfl rfl (n_getc (q := 133) 109 4 143 dX1_share_76 cf_X1 ff_X1_24 rfl sh_109 rfl (by decide) rfl (by decide) (s_iload_n dX1_share_79 1 rfl (n_lald 133 dX1_share_80 rfl sh_133 (by decide) ⟨(by omega), (by omega)⟩ (v := (v9 133 i)) rfl (n_lmul (z := ((v9 (111 + Int.toNat i) j) * (v9 133 i))) dX1_share_81 (wrL_id (by omega) (by omega)) (s_aload_n dX1_share_82 0 rfl rfl (n_getc (q := 132) 109 3 142 dX1_share_83 cf_X1 ff_X1_20 rfl sh_109 rfl (by decide) rfl (by decide) (s_iload_n dX1_share_86 1 rfl ?_)))))))))
            refine n_lald 132 dX1_share_87 rfl sh_132 (by decide) ⟨(by omega), (by omega)⟩ (v := (v9 132 i)) rfl (n_ldiv (z := (Int.tdiv ((v9 (111 + Int.toNat i) j) * (v9 133 i)) (v9 132 i))) dX1_share_88 (by omega) (wrL_id (by omega) (by omega)) (n_ladd (z := ((v9 134 j) + (Int.tdiv ((v9 (111 + Int.toNat i) j) * (v9 133 i)) (v9 132 i)))) dX1_share_89 (wrL_id (by omega) (by omega)) (s_lastore 134 dX1_share_90 rfl sh_134 (by decide) ⟨(by omega), (by omega)⟩ ?_)))
            have hx : ((v9 134 j) + (Int.tdiv ((v9 (111 + Int.toNat i) j) * (v9 133 i)) (v9 132 i))) = (if j < j + 1 then sumI (fun q => tS (w 132) (w 133) (fun i j => w (111 + Int.toNat i) j) q j) (i + 1).toNat else sumI (fun q => tS (w 132) (w 133) (fun i j => w (111 + Int.toNat i) j) q j) (i).toNat) := by
              have h5 : 0 < w 132 i := by rw [← q3]; omega
              rw [if_pos (show j < j + 1 by omega), sumI_s hi.1, q1, q2, q3, q4]
              unfold tS
              rw [if_pos h5]
            refine s_iinc (z := (j + 1)) (ls' := [(0, (2, 109)), (1, (0, i)), (2, (0, (j + 1)))]) dX1_share_91 2 rfl (Nat.le_of_ble_eq_true rfl) (wr_id (by omega) (by omega)) rfl (s_goto 31 dX1_share_94 (by decide) ?_)
            exact ih i (j + 1) (wu v9 134 j ((v9 134 j) + (Int.tdiv ((v9 (111 + Int.toNat i) j) * (v9 133 i)) (v9 132 i)))) (by omega) (by omega) (fillU hw ⟨hj.1, by omega⟩ hx (fun k _ _ hk => by split <;> split <;> first | rfl | omega)) hK (by omega)
  have L_23 : ∀ (fu : Nat) (i : Int) (v9 : Wd), 0 ≤ i ∧ i ≤ 20 → v9 = fillW w 134 (fun k => sumI (fun q => tS (w 132) (w 133) (fun i j => w (111 + Int.toNat i) j) q k) (i).toNat) 20 → (20 - i).toNat < fu → AtN mX1_share 1 ρ 23 [(0, (2, 109)), (1, (0, i))] [] v9 := by
    intro fu
    induction fu with
    | zero => intro i v9 hi hw hm; exact absurd hm (Nat.not_lt_zero _)
    | succ fu ih =>
      intro i v9 hi hw hm
      refine s_iload_n dX1_share_23 1 rfl (s_bipush dX1_share_24 (by decide) (s_icmp_ge 103 dX1_share_26 (by decide) (fun c_26 => ?_) (fun c_26 => ?_)))
      · skip
        refine n_ret dX1_share_103 hR rfl ?_
        have e : i = 20 := by omega
        rw [e] at hw
        exact ⟨rfl, hw⟩
      · skip
        refine s_iconst dX1_share_29 (by decide) (s_istore_n (ls' := [(0, (2, 109)), (1, (0, i)), (2, (0, 0))]) dX1_share_30 (Nat.le_of_ble_eq_true rfl) rfl ?_)
        exact L_31 _ i 0 v9 (by omega) (by omega) (by rw [hw]; exact fillB (fun k k0 k1 => (if_neg (by omega)).symm)) (fun v hv => s_iinc (z := (i + 1)) (ls' := [(0, (2, 109)), (1, (0, (i + 1)))]) dX1_share_97 1 rfl (Nat.le_of_ble_eq_true rfl) (wr_id (by omega) (by omega)) rfl (s_goto 23 dX1_share_100 (by decide) (ih (i + 1) v (by omega) hv (by omega)))) (Nat.lt_succ_self _)
  have L_2 : ∀ (fu : Nat) (i : Int) (v9 : Wd), 0 ≤ i ∧ i ≤ 20 → v9 = fillW w 134 (fun _ => 0) i → (20 - i).toNat < fu → AtN mX1_share 1 ρ 2 [(0, (2, 109)), (1, (0, i))] [] v9 := by
    intro fu
    induction fu with
    | zero => intro i v9 hi hw hm; exact absurd hm (Nat.not_lt_zero _)
    | succ fu ih =>
      intro i v9 hi hw hm
      refine s_iload_n dX1_share_2 1 rfl (s_bipush dX1_share_3 (by decide) (s_icmp_ge 21 dX1_share_5 (by decide) (fun c_5 => ?_) (fun c_5 => ?_)))
      · skip
        refine s_iconst dX1_share_21 (by decide) (s_istore_n (ls' := [(0, (2, 109)), (1, (0, 0))]) dX1_share_22 (Nat.le_of_ble_eq_true rfl) rfl ?_)
        exact L_23 _ 0 v9 (by omega) (by have e : i = 20 := (by omega); rw [e] at hw; exact hw) (Nat.lt_succ_self _)
      · skip
        refine s_aload_n dX1_share_8 0 rfl rfl (n_getc (q := 134) 109 5 144 dX1_share_9 cf_X1 ff_X1_27 rfl sh_109 rfl (by decide) rfl (by decide) (s_iload_n dX1_share_12 1 rfl (s_lconst (z := 0) dX1_share_13 rfl (s_lastore 134 dX1_share_14 rfl sh_134 (by decide) ⟨(by omega), (by omega)⟩ (s_iinc (z := (i + 1)) (ls' := [(0, (2, 109)), (1, (0, (i + 1)))]) dX1_share_15 1 rfl (Nat.le_of_ble_eq_true rfl) (wr_id (by omega) (by omega)) rfl (s_goto 2 dX1_share_18 (by decide) ?_))))))
        exact ih (i + 1) (wu v9 134 i 0) (by omega) (fillS hw hi.1 rfl (fun _ _ _ => rfl)) (by omega)
  refine s_iconst dX1_share_0 (by decide) (s_istore_n (ls' := [(0, (2, 109)), (1, (0, 0))]) dX1_share_1 (Nat.le_of_ble_eq_true rfl) rfl ?_)
  exact L_2 _ 0 w (by omega) fill0 (Nat.lt_succ_self _)

set_option maxRecDepth 100000 in
theorem c_M_come (w : Wd) (hO : ∀ i j, 0 ≤ i → i < 20 → 0 ≤ j → j < 20 → 0 ≤ w 201 (20 * i + j) ∧ w 201 (20 * i + j) ≤ 99999) (hA : ∀ j, 0 ≤ j → j < 20 → 0 ≤ w 206 j ∧ w 206 j ≤ 2000000) (hP : ∀ j, 0 ≤ j → j < 20 → 0 ≤ w 204 j ∧ w 204 j ≤ 2000000) : CallN 1 mX12_come [(2, 141)] w (RUQ (fun w1 => w1 = fillW w 207 (comesS (w 206) (w 204) (fun i j => w 201 (20 * i + j))) 20)) := by
  refine CallN.intro (by decide +kernel) (Nat.le_of_ble_eq_true rfl) (fun ρ hR => ?_)
  show AtN mX12_come 1 ρ 0 [(0, (2, 141))] [] w
  have L_17 : ∀ (fu : Nat) (j : Int) (i : Int) (v9 : Wd), 0 ≤ j ∧ j < 20 → 0 ≤ i ∧ i ≤ 20 → v9 = fillW w 207 (fun k => if k < j then comesS (w 206) (w 204) (fun i j => w 201 (20 * i + j)) k else sumI (fun q => tS (w 206) (w 204) (fun i j => w 201 (20 * i + j)) q j) i.toNat) (j + 1) → (∀ v : Wd, v = fillW w 207 (comesS (w 206) (w 204) (fun i j => w 201 (20 * i + j))) (j + 1) → AtN mX12_come 1 ρ 75 [(0, (2, 141)), (1, (0, j))] [] v) → (20 - i).toNat < fu → AtN mX12_come 1 ρ 17 [(0, (2, 141)), (1, (0, j)), (2, (0, i))] [] v9 := by
    intro fu
    induction fu with
    | zero => intro j i v9 hj hi hw hK hm; exact absurd hm (Nat.not_lt_zero _)
    | succ fu ih =>
      intro j i v9 hj hi hw hK hm
      have q2 : v9 204 = w 204 := by rw [hw]; exact fillN (by decide)
      have q3 : v9 206 = w 206 := by rw [hw]; exact fillN (by decide)
      have q4 : v9 201 = w 201 := by rw [hw]; exact fillN (by decide)
      refine s_iload_n dX12_come_17 2 rfl (s_bipush dX12_come_18 (by decide) (s_icmp_ge 75 dX12_come_20 (by decide) (fun c_20 => ?_) (fun c_20 => ?_)))
      · skip
        exact At.keep (ls' := [(0, (2, 141)), (1, (0, j))]) [0, 1] rfl (hK v9 (by
          have e : i = 20 := by omega
          rw [e] at hw
          rw [hw]
          refine fillB (fun k k0 k1 => ?_)
          show (if k < j then _ else _) = _
          split
          · rfl
          · rw [show k = j by omega]; rfl))
      · skip
        refine s_aload_n dX12_come_23 0 rfl rfl (n_getc (q := 206) 141 93 216 dX12_come_24 cf_X12 ff_X12_208 rfl sh_141 rfl (by decide) rfl (by decide) (s_iload_n dX12_come_27 2 rfl (n_lald 206 dX12_come_28 rfl sh_206 (by decide) ⟨(by omega), (by omega)⟩ (v := (v9 206 i)) rfl (s_lconst (z := 0) dX12_come_29 rfl (s_lcmp dX12_come_30 (s_if_le 69 dX12_come_31 (by decide) (fun c_31 => ?_) (fun c_31 => ?_)))))))
        · skip
          have hz : tS (w 206) (w 204) (fun i j => w 201 (20 * i + j)) i j = 0 := by unfold tS; rw [← q3]; exact if_neg (by omega)
          refine s_iinc (z := (i + 1)) (ls' := [(0, (2, 141)), (1, (0, j)), (2, (0, (i + 1)))]) dX12_come_69 2 rfl (Nat.le_of_ble_eq_true rfl) (wr_id (by omega) (by omega)) rfl (s_goto 17 dX12_come_72 (by decide) ?_)
          exact ih j (i + 1) v9 (by omega) (by omega) (by rw [hw]; refine fillB (fun k k0 k1 => ?_); rw [sumI_s hi.1, hz, Int.add_zero]) hK (by omega)
        · skip
          have q1 : v9 207 j = sumI (fun q => tS (w 206) (w 204) (fun i j => w 201 (20 * i + j)) q j) i.toNat := by rw [hw, fillV ⟨by omega, by omega⟩]; exact if_neg (by omega)
          have q5 := sumI_bd' (f := fun q => tS (w 206) (w 204) (fun i j => w 201 (20 * i + j)) q j) (B := 199998000000) (N := 20) (fun q a b => tS_bd (hO q j a b hj.1 (by omega)) (hP q a b)) hi.1 (by omega)
          rw [← q1] at q5
          have b4 := hO i j hi.1 (by omega) hj.1 (by omega)
          have b5 := mul_bd b4 (hP i hi.1 (by omega))
          have b6 := tdiv_bd b5.1 (show 0 < w 206 i by rw [← q3]; omega)
          rw [← q2, ← q3, ← q4] at b6
          rw [← q2, ← q4] at b5
          refine s_aload_n dX12_come_34 0 rfl rfl (n_getc (q := 207) 141 94 217 dX12_come_35 cf_X12 ff_X12_211 rfl sh_141 rfl (by decide) rfl (by decide) (s_iload_n dX12_come_38 1 rfl (s_dup2 dX12_come_39 (show (0 : Nat) ≠ 1 by decide) (show (2 : Nat) ≠ 1 by decide) (n_lald 207 dX12_come_40 rfl sh_207 (by decide) ⟨(by omega), (by omega)⟩ (v := (v9 207 j)) rfl (s_aload_n dX12_come_41 0 rfl rfl (n_getc (q := 201) 141 88 211 dX12_come_42 cf_X12 ff_X12_193 rfl sh_141 rfl (by decide) rfl (by decide) (s_bipush dX12_come_45 (by decide) (s_iload_n dX12_come_47 2 rfl (n_mul (z := (20 * i)) dX12_come_48 (wr_id (by omega) (by omega)) ?_)))))))))
          refine s_iload_n dX12_come_49 1 rfl (n_add (z := ((20 * i) + j)) dX12_come_50 (wr_id (by omega) (by omega)) (n_iald 201 dX12_come_51 rfl sh_201 (by decide) ⟨(by omega), (by omega)⟩ (v := (v9 201 ((20 * i) + j))) rfl (s_i2l dX12_come_52 (s_aload_n dX12_come_53 0 rfl rfl (n_getc (q := 204) 141 91 214 dX12_come_54 cf_X12 ff_X12_202 rfl sh_141 rfl (by decide) rfl (by decide) (s_iload_n dX12_come_57 2 rfl (n_lald 204 dX12_come_58 rfl sh_204 (by decide) ⟨(by omega), (by omega)⟩ (v := (v9 204 i)) rfl (n_lmul (z := ((v9 201 ((20 * i) + j)) * (v9 204 i))) dX12_come_59 (wrL_id (by omega) (by omega)) (s_aload_n dX12_come_60 0 rfl rfl ?_)))))))))
          refine n_getc (q := 206) 141 93 216 dX12_come_61 cf_X12 ff_X12_208 rfl sh_141 rfl (by decide) rfl (by decide) (s_iload_n dX12_come_64 2 rfl (n_lald 206 dX12_come_65 rfl sh_206 (by decide) ⟨(by omega), (by omega)⟩ (v := (v9 206 i)) rfl (n_ldiv (z := (Int.tdiv ((v9 201 ((20 * i) + j)) * (v9 204 i)) (v9 206 i))) dX12_come_66 (by omega) (wrL_id (by omega) (by omega)) (n_ladd (z := ((v9 207 j) + (Int.tdiv ((v9 201 ((20 * i) + j)) * (v9 204 i)) (v9 206 i)))) dX12_come_67 (wrL_id (by omega) (by omega)) (s_lastore 207 dX12_come_68 rfl sh_207 (by decide) ⟨(by omega), (by omega)⟩ ?_)))))
          have hx : ((v9 207 j) + (Int.tdiv ((v9 201 ((20 * i) + j)) * (v9 204 i)) (v9 206 i))) = (if j < j then comesS (w 206) (w 204) (fun i j => w 201 (20 * i + j)) j else sumI (fun q => tS (w 206) (w 204) (fun i j => w 201 (20 * i + j)) q j) (i + 1).toNat) := by
            have h5 : 0 < w 206 i := by rw [← q3]; omega
            rw [if_neg (show ¬ j < j by omega), sumI_s hi.1, q1, q2, q3, q4]
            unfold tS
            rw [if_pos h5]
          refine s_iinc (z := (i + 1)) (ls' := [(0, (2, 141)), (1, (0, j)), (2, (0, (i + 1)))]) dX12_come_69 2 rfl (Nat.le_of_ble_eq_true rfl) (wr_id (by omega) (by omega)) rfl (s_goto 17 dX12_come_72 (by decide) ?_)
          exact ih j (i + 1) (wu v9 207 j ((v9 207 j) + (Int.tdiv ((v9 201 ((20 * i) + j)) * (v9 204 i)) (v9 206 i)))) (by omega) (by omega) (fillU hw ⟨hj.1, by omega⟩ hx (fun k _ _ hk => by rw [if_pos (show k < j by omega), if_pos (show k < j by omega)])) hK (by omega)
  have L_2 : ∀ (fu : Nat) (j : Int) (v9 : Wd), 0 ≤ j ∧ j ≤ 20 → v9 = fillW w 207 (comesS (w 206) (w 204) (fun i j => w 201 (20 * i + j))) j → (20 - j).toNat < fu → AtN mX12_come 1 ρ 2 [(0, (2, 141)), (1, (0, j))] [] v9 := by
    intro fu
    induction fu with
    | zero => intro j v9 hj hw hm; exact absurd hm (Nat.not_lt_zero _)
    | succ fu ih =>
      intro j v9 hj hw hm
      refine s_iload_n dX12_come_2 1 rfl (s_bipush dX12_come_3 (by decide) (s_icmp_ge 81 dX12_come_5 (by decide) (fun c_5 => ?_) (fun c_5 => ?_)))
      · skip
        refine n_ret dX12_come_81 hR rfl ?_
        have e : j = 20 := by omega
        rw [e] at hw
        exact ⟨rfl, hw⟩
      · skip
        refine s_aload_n dX12_come_8 0 rfl rfl (n_getc (q := 207) 141 94 217 dX12_come_9 cf_X12 ff_X12_211 rfl sh_141 rfl (by decide) rfl (by decide) (s_iload_n dX12_come_12 1 rfl (s_lconst (z := 0) dX12_come_13 rfl (s_lastore 207 dX12_come_14 rfl sh_207 (by decide) ⟨(by omega), (by omega)⟩ (s_iconst dX12_come_15 (by decide) (s_istore_n (ls' := [(0, (2, 141)), (1, (0, j)), (2, (0, 0))]) dX12_come_16 (Nat.le_of_ble_eq_true rfl) rfl ?_))))))
        exact L_17 _ j 0 (wu v9 207 j 0) (by omega) (by omega) (fillS hw hj.1 (by show _ = if j < j then _ else _; rw [if_neg (show ¬ j < j by omega)]; rfl) (fun k _ h => if_pos h)) (fun v hv => s_iinc (z := (j + 1)) (ls' := [(0, (2, 141)), (1, (0, (j + 1)))]) dX12_come_75 1 rfl (Nat.le_of_ble_eq_true rfl) (wr_id (by omega) (by omega)) rfl (s_goto 2 dX12_come_78 (by decide) (ih (j + 1) v (by omega) hv (by omega)))) (Nat.lt_succ_self _)
  refine s_iconst dX12_come_0 (by decide) (s_istore_n (ls' := [(0, (2, 141)), (1, (0, 0))]) dX12_come_1 (Nat.le_of_ble_eq_true rfl) rfl ?_)
  exact L_2 _ 0 w (by omega) fill0 (Nat.lt_succ_self _)
