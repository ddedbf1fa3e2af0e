/-! CLEAR. -/
/-- cell T holds f at 0 .. n - 1 -/
def fillW (w : Wd) (T : Nat) (f : Int → Int) (n : Int) : Wd := fun c j => if c = T then (if 0 ≤ j ∧ j < n then f j else w T j) else w c j
theorem fill0 {w : Wd} {T : Nat} {f : Int → Int} : w = fillW w T f 0 := by
  funext c j
  unfold fillW
  by_cases hT : c = T
  · subst hT; rw [if_pos rfl, if_neg (by omega)]
  · rw [if_neg hT]
theorem fillV {w : Wd} {T : Nat} {f : Int → Int} {n j : Int} (h : 0 ≤ j ∧ j < n) : fillW w T f n T j = f j := by unfold fillW; rw [if_pos rfl, if_pos h]
theorem fillN {w : Wd} {T c : Nat} {f : Int → Int} {n : Int} (h : c ≠ T) : fillW w T f n c = w c := by funext j; unfold fillW; rw [if_neg h]
theorem fillB {w : Wd} {T : Nat} {f g : Int → Int} {n : Int} (h : ∀ k, 0 ≤ k → k < n → f k = g k) : fillW w T f n = fillW w T g n := by
  funext c j
  unfold fillW
  by_cases hT : c = T
  · subst hT
    rw [if_pos rfl, if_pos rfl]
    by_cases c1 : 0 ≤ j ∧ j < n
    · rw [if_pos c1, if_pos c1, h j c1.1 c1.2]
    · rw [if_neg c1, if_neg c1]
  · rw [if_neg hT, if_neg hT]
theorem fillU {w v : Wd} {T : Nat} {f g : Int → Int} {n j x : Int} (hv : v = fillW w T f n) (hj : 0 ≤ j ∧ j < n) (hx : x = g j) (hg : ∀ k, 0 ≤ k → k < n → k ≠ j → g k = f k) : wu v T j x = fillW w T g n := by
  subst hv
  funext c k
  unfold wu fillW
  by_cases hT : c = T
  · subst hT
    simp only [if_true]
    by_cases e : k = j
    · subst e; rw [if_pos rfl, if_pos hj, hx]
    · rw [if_neg e]
      by_cases c1 : 0 ≤ k ∧ k < n
      · rw [if_pos c1, if_pos c1, hg k c1.1 c1.2 e]
      · rw [if_neg c1, if_neg c1]
  · simp only [if_neg hT]
theorem fillS {w v : Wd} {T : Nat} {f g : Int → Int} {n x : Int} (hv : v = fillW w T f n) (h0 : 0 ≤ n) (hx : x = g n) (hg : ∀ k, 0 ≤ k → k < n → g k = f k) : wu v T n x = fillW w T g (n + 1) := by
  subst hv
  funext c k
  unfold wu fillW
  by_cases hT : c = T
  · subst hT
    simp only [if_true]
    by_cases e : k = n
    · subst e; rw [if_pos rfl, if_pos (by omega), hx]
    · rw [if_neg e]
      by_cases c1 : 0 ≤ k ∧ k < n
      · rw [if_pos c1, if_pos (show 0 ≤ k ∧ k < n + 1 by omega), hg k c1.1 c1.2]
      · rw [if_neg c1, if_neg (show ¬ (0 ≤ k ∧ k < n + 1) by omega)]
  · simp only [if_neg hT]
/-- what j gets of i's payment -/
def tS (A P : Int → Int) (O : Int → Int → Int) (i j : Int) : Int := if 0 < A i then (O i j * P i).tdiv (A i) else 0
theorem mul_bd {x y X Y : Int} (h : 0 ≤ x ∧ x ≤ X) (h1 : 0 ≤ y ∧ y ≤ Y) : 0 ≤ x * y ∧ x * y ≤ X * Y := ⟨Int.mul_nonneg h.1 h1.1, Int.mul_le_mul h.2 h1.2 h1.1 (by omega)⟩
theorem tdiv_bd {n d : Int} (h : 0 ≤ n) (hd : 0 < d) : 0 ≤ n.tdiv d ∧ n.tdiv d ≤ n := by
  rw [Int.tdiv_eq_ediv_of_nonneg h]
  exact ⟨Int.ediv_nonneg h (by omega), Int.ediv_le_self d h⟩
theorem tS_bd {A P : Int → Int} {O : Int → Int → Int} {i j : Int} (hO : 0 ≤ O i j ∧ O i j ≤ 99999) (hP : 0 ≤ P i ∧ P i ≤ 2000000) : 0 ≤ tS A P O i j ∧ tS A P O i j ≤ 199998000000 := by
  unfold tS
  split
  · rename_i hA
    have h1 := mul_bd hO hP
    have h2 := tdiv_bd h1.1 hA
    omega
  · omega
/-- what comes to j -/
def comesS (A P : Int → Int) (O : Int → Int → Int) (j : Int) : Int := sumI (fun i => tS A P O i j) 20

set_option maxRecDepth 100000 in
theorem c_X_share (w : Wd) (hO : ∀ i j, 0 ≤ i → i < 20 → 0 ≤ j → j < 20 → 0 ≤ w (111 + Int.toNat i) j ∧ w (111 + Int.toNat i) j ≤ 99999) (hA : ∀ j, 0 ≤ j → j < 20 → 0 ≤ w 132 j ∧ w 132 j ≤ 2000000) (hP : ∀ j, 0 ≤ j → j < 20 → 0 ≤ w 133 j ∧ w 133 j ≤ 2000000) : CallN 1 mX1_share [(2, 109)] w (RUQ (fun w1 => w1 = fillW w 134 (comesS (w 132) (w 133) (fun i j => w (111 + Int.toNat i) j)) 20)) := by
  refine CallN.intro (by decide +kernel) (Nat.le_of_ble_eq_true rfl) (fun ρ hR => ?_)
  show AtN mX1_share 1 ρ 0 [(0, (2, 109))] [] w
  have L_31 : ∀ (fu : Nat) (i : Int) (j : Int) (v9 : Wd), 0 ≤ i ∧ i < 20 → 0 ≤ j ∧ j ≤ 20 → v9 = fillW w 134 (fun k => if k < j then sumI (fun q => tS (w 132) (w 133) (fun i j => w (111 + Int.toNat i) j) q k) (i + 1).toNat else sumI (fun q => tS (w 132) (w 133) (fun i j => w (111 + Int.toNat i) j) q k) (i).toNat) 20 → (∀ v : Wd, v = fillW w 134 (fun k => sumI (fun q => tS (w 132) (w 133) (fun i j => w (111 + Int.toNat i) j) q k) (i + 1).toNat) 20 → AtN mX1_share 1 ρ 97 [(0, (2, 109)), (1, (0, i))] [] v) → (20 - j).toNat < fu → AtN mX1_share 1 ρ 31 [(0, (2, 109)), (1, (0, i)), (2, (0, j))] [] v9 := by
    intro fu
    induction fu with
    | zero => intro i j v9 hi hj hw hK hm; exact absurd hm (Nat.not_lt_zero _)
    | succ fu ih =>
      intro i j v9 hi hj hw hK hm
      have q2 : v9 133 = w 133 := by rw [hw]; exact fillN (by decide)
      have q3 : v9 132 = w 132 := by rw [hw]; exact fillN (by decide)
      have q4 : v9 (111 + Int.toNat i) = w (111 + Int.toNat i) := by rw [hw]; exact fillN (by omega)
      have b2 := hP i hi.1 hi.2
      have b3 := hA i hi.1 hi.2
      rw [← q2] at b2
      rw [← q3] at b3
      refine s_iload_n dX1_share_31 2 rfl (s_bipush dX1_share_32 (by decide) (s_icmp_ge 97 dX1_share_34 (by decide) (fun c_34 => ?_) (fun c_34 => ?_)))
      · skip
        exact At.keep (ls' := [(0, (2, 109)), (1, (0, i))]) [0, 1] rfl (hK v9 (by
          rw [hw]
          refine fillB (fun k k0 k1 => ?_)
          show (if k < j then _ else _) = _
          split
          · rfl
          · first
            | (exfalso; omega)
            | (rw [sumI_s hi.1]
               have hz : tS (w 132) (w 133) (fun i j => w (111 + Int.toNat i) j) i k = 0 := by
                 unfold tS
                 rw [← q2, ← q3]
                 split
                 · first
                   | (exfalso; omega)
                   | (rw [show v9 133 i = 0 from by omega, Int.mul_zero]; exact Int.zero_tdiv _)
                 · rfl
               simp only [hz, Int.add_zero])))
      · skip
        refine s_aload_n dX1_share_37 0 rfl rfl (n_getc (q := 133) 109 4 143 dX1_share_38 cf_X1 ff_X1_24 rfl sh_109 rfl (by decide) rfl (by decide) (s_iload_n dX1_share_41 1 rfl (n_lald 133 dX1_share_42 rfl sh_133 (by decide) ⟨(by omega), (by omega)⟩ (v := (v9 133 i)) rfl (s_lconst (z := 0) dX1_share_43 rfl (s_lcmp dX1_share_44 (s_if_le 97 dX1_share_45 (by decide) (fun c_45 => ?_) (fun c_45 => ?_)))))))
        · skip
          exact At.keep (ls' := [(0, (2, 109)), (1, (0, i))]) [0, 1] rfl (hK v9 (by
            rw [hw]
            refine fillB (fun k k0 k1 => ?_)
            show (if k < j then _ else _) = _
            split
            · rfl
            · first
              | (exfalso; omega)
              | (rw [sumI_s hi.1]
                 have hz : tS (w 132) (w 133) (fun i j => w (111 + Int.toNat i) j) i k = 0 := by
                   unfold tS
                   rw [← q2, ← q3]
                   split
                   · first
                     | (exfalso; omega)
                     | (rw [show v9 133 i = 0 from by omega, Int.mul_zero]; exact Int.zero_tdiv _)
                   · rfl
                 simp only [hz, Int.add_zero])))
        · skip
          refine s_aload_n dX1_share_48 0 rfl rfl (n_getc (q := 132) 109 3 142 dX1_share_49 cf_X1 ff_X1_20 rfl sh_109 rfl (by decide) rfl (by decide) (s_iload_n dX1_share_52 1 rfl (n_lald 132 dX1_share_53 rfl sh_132 (by decide) ⟨(by omega), (by omega)⟩ (v := (v9 132 i)) rfl (s_lconst (z := 0) dX1_share_54 rfl (s_lcmp dX1_share_55 (s_if_le 97 dX1_share_56 (by decide) (fun c_56 => ?_) (fun c_56 => ?_)))))))
          · skip
            exact At.keep (ls' := [(0, (2, 109)), (1, (0, i))]) [0, 1] rfl (hK v9 (by
              rw [hw]
              refine fillB (fun k k0 k1 => ?_)
              show (if k < j then _ else _) = _
              split
              · rfl
              · first
                | (exfalso; omega)
                | (rw [sumI_s hi.1]
                   have hz : tS (w 132) (w 133) (fun i j => w (111 + Int.toNat i) j) i k = 0 := by
                     unfold tS
                     rw [← q2, ← q3]
                     split
                     · first
                       | (exfalso; omega)
                       | (rw [show v9 133 i = 0 from by omega, Int.mul_zero]; exact Int.zero_tdiv _)
                     · rfl
                   simp only [hz, Int.add_zero])))
          · skip
            have q1 : v9 134 j = sumI (fun q => tS (w 132) (w 133) (fun i j => w (111 + Int.toNat i) j) q j) (i).toNat := by rw [hw, fillV ⟨by omega, by omega⟩]; exact if_neg (by omega)
            have q5 := sumI_bd' (f := fun q => tS (w 132) (w 133) (fun i j => w (111 + Int.toNat i) j) q j) (B := 199998000000) (N := 20) (fun q a b => tS_bd (hO q j a b hj.1 (by omega)) (hP q a b)) hi.1 (by omega)
            rw [← q1] at q5
            have b4 := hO i j hi.1 hi.2 hj.1 (by omega)
            have b5 := mul_bd b4 (hP i hi.1 hi.2)
            have b6 := tdiv_bd b5.1 (show 0 < w 132 i by rw [← q3]; omega)
            rw [← q2, ← q3, ← q4] at b6
            rw [← q2, ← q4] at b5
            refine s_aload_n dX1_share_59 0 rfl rfl (n_getc (q := 134) 109 5 144 dX1_share_60 cf_X1 ff_X1_27 rfl sh_109 rfl (by decide) rfl (by decide) (s_iload_n dX1_share_63 2 rfl (s_dup2 dX1_share_64 (show (0 : Nat) ≠ 1 by decide) (show (2 : Nat) ≠ 1 by decide) (n_lald 134 dX1_share_65 rfl sh_134 (by decide) ⟨(by omega), (by omega)⟩ (v := (v9 134 j)) rfl (s_aload_n dX1_share_66 0 rfl rfl (n_getc (q := 110) 109 1 120 dX1_share_67 cf_X1 ff_X1_11 rfl sh_109 rfl (by decide) rfl (by decide) (s_iload_n dX1_share_70 1 rfl (s_aaload6 110 dX1_share_71 rfl sh_110 (by decide) ⟨(by omega), (by omega)⟩ (s_iload_n dX1_share_72 2 rfl ?_)))))))))
            refine n_iald (111 + Int.toNat i) dX1_share_73 rfl (rowsh_111 _ (by omega)) (by decide) ⟨(by omega), (by omega)⟩ (v := (v9 (111 + Int.toNat i) j)) rfl (s_i2l dX1_share_74 (s_aload_n dX1_share_75 0 rfl rfl (n_getc (q := 133) 109 4 143 dX1_share_76 cf_X1 ff_X1_24 rfl sh_109 rfl (by decide) rfl (by decide) (s_iload_n dX1_share_79 1 rfl (n_lald 133 dX1_share_80 rfl sh_133 (by decide) ⟨(by omega), (by omega)⟩ (v := (v9 133 i)) rfl (n_lmul (z := ((v9 (111 + Int.toNat i) j) * (v9 133 i))) dX1_share_81 (wrL_id (by omega) (by omega)) (s_aload_n dX1_share_82 0 rfl rfl (n_getc (q := 132) 109 3 142 dX1_share_83 cf_X1 ff_X1_20 rfl sh_109 rfl (by decide) rfl (by decide) (s_iload_n dX1_share_86 1 rfl ?_)))))))))
            refine n_lald 132 dX1_share_87 rfl sh_132 (by decide) ⟨(by omega), (by omega)⟩ (v := (v9 132 i)) rfl (n_ldiv (z := (Int.tdiv ((v9 (111 + Int.toNat i) j) * (v9 133 i)) (v9 132 i))) dX1_share_88 (by omega) (wrL_id (by omega) (by omega)) (n_ladd (z := ((v9 134 j) + (Int.tdiv ((v9 (111 + Int.toNat i) j) * (v9 133 i)) (v9 132 i)))) dX1_share_89 (wrL_id (by omega) (by omega)) (s_lastore 134 dX1_share_90 rfl sh_134 (by decide) ⟨(by omega), (by omega)⟩ ?_)))
            have hx : ((v9 134 j) + (Int.tdiv ((v9 (111 + Int.toNat i) j) * (v9 133 i)) (v9 132 i))) = (if j < j + 1 then sumI (fun q => tS (w 132) (w 133) (fun i j => w (111 + Int.toNat i) j) q j) (i + 1).toNat else sumI (fun q => tS (w 132) (w 133) (fun i j => w (111 + Int.toNat i) j) q j) (i).toNat) := by
              have h5 : 0 < w 132 i := by rw [← q3]; omega
              rw [if_pos (show j < j + 1 by omega), sumI_s hi.1, q1, q2, q3, q4]
              unfold tS
              rw [if_pos h5]
            refine s_iinc (z := (j + 1)) (ls' := [(0, (2, 109)), (1, (0, i)), (2, (0, (j + 1)))]) dX1_share_91 2 rfl (Nat.le_of_ble_eq_true rfl) (wr_id (by omega) (by omega)) rfl (s_goto 31 dX1_share_94 (by decide) ?_)
            exact ih i (j + 1) (wu v9 134 j ((v9 134 j) + (Int.tdiv ((v9 (111 + Int.toNat i) j) * (v9 133 i)) (v9 132 i)))) (by omega) (by omega) (fillU hw ⟨hj.1, by omega⟩ hx (fun k _ _ hk => by split <;> split <;> first | rfl | omega)) hK (by omega)
  have L_23 : ∀ (fu : Nat) (i : Int) (v9 : Wd), 0 ≤ i ∧ i ≤ 20 → v9 = fillW w 134 (fun k => sumI (fun q => tS (w 132) (w 133) (fun i j => w (111 + Int.toNat i) j) q k) (i).toNat) 20 → (20 - i).toNat < fu → AtN mX1_share 1 ρ 23 [(0, (2, 109)), (1, (0, i))] [] v9 := by
    intro fu
    induction fu with
    | zero => intro i v9 hi hw hm; exact absurd hm (Nat.not_lt_zero _)
    | succ fu ih =>
      intro i v9 hi hw hm
      refine s_iload_n dX1_share_23 1 rfl (s_bipush dX1_share_24 (by decide) (s_icmp_ge 103 dX1_share_26 (by decide) (fun c_26 => ?_) (fun c_26 => ?_)))
      · skip
        refine n_ret dX1_share_103 hR rfl ?_
        have e : i = 20 := by omega
        rw [e] at hw
        exact ⟨rfl, hw⟩
      · skip
        refine s_iconst dX1_share_29 (by decide) (s_istore_n (ls' := [(0, (2, 109)), (1, (0, i)), (2, (0, 0))]) dX1_share_30 (Nat.le_of_ble_eq_true rfl) rfl ?_)
        exact L_31 _ i 0 v9 (by omega) (by omega) (by rw [hw]; exact fillB (fun k k0 k1 => (if_neg (by omega)).symm)) (fun v hv => s_iinc (z := (i + 1)) (ls' := [(0, (2, 109)), (1, (0, (i + 1)))]) dX1_share_97 1 rfl (Nat.le_of_ble_eq_true rfl) (wr_id (by omega) (by omega)) rfl (s_goto 23 dX1_share_100 (by decide) (ih (i + 1) v (by omega) hv (by omega)))) (Nat.lt_succ_self _)
  have L_2 : ∀ (fu : Nat) (i : Int) (v9 : Wd), 0 ≤ i ∧ i ≤ 20 → v9 = fillW w 134 (fun _ => 0) i → (20 - i).toNat < fu → AtN mX1_share 1 ρ 2 [(0, (2, 109)), (1, (0, i))] [] v9 := by
    intro fu
    induction fu with
    | zero => intro i v9 hi hw hm; exact absurd hm (Nat.not_lt_zero _)
    | succ fu ih =>
      intro i v9 hi hw hm
      refine s_iload_n dX1_share_2 1 rfl (s_bipush dX1_share_3 (by decide) (s_icmp_ge 21 dX1_share_5 (by decide) (fun c_5 => ?_) (fun c_5 => ?_)))
      · skip
        refine s_iconst dX1_share_21 (by decide) (s_istore_n (ls' := [(0, (2, 109)), (1, (0, 0))]) dX1_share_22 (Nat.le_of_ble_eq_true rfl) rfl ?_)
        exact L_23 _ 0 v9 (by omega) (by have e : i = 20 := (by omega); rw [e] at hw; exact hw) (Nat.lt_succ_self _)
      · skip
        refine s_aload_n dX1_share_8 0 rfl rfl (n_getc (q := 134) 109 5 144 dX1_share_9 cf_X1 ff_X1_27 rfl sh_109 rfl (by decide) rfl (by decide) (s_iload_n dX1_share_12 1 rfl (s_lconst (z := 0) dX1_share_13 rfl (s_lastore 134 dX1_share_14 rfl sh_134 (by decide) ⟨(by omega), (by omega)⟩ (s_iinc (z := (i + 1)) (ls' := [(0, (2, 109)), (1, (0, (i + 1)))]) dX1_share_15 1 rfl (Nat.le_of_ble_eq_true rfl) (wr_id (by omega) (by omega)) rfl (s_goto 2 dX1_share_18 (by decide) ?_))))))
        exact ih (i + 1) (wu v9 134 i 0) (by omega) (fillS hw hi.1 rfl (fun _ _ _ => rfl)) (by omega)
  refine s_iconst dX1_share_0 (by decide) (s_istore_n (ls' := [(0, (2, 109)), (1, (0, 0))]) dX1_share_1 (Nat.le_of_ble_eq_true rfl) rfl ?_)
  exact L_2 _ 0 w (by omega) fill0 (Nat.lt_succ_self _)

set_option maxRecDepth 100000 in
theorem c_M_come (w : Wd) (hO : ∀ i j, 0 ≤ i → i < 20 → 0 ≤ j → j < 20 → 0 ≤ w 201 (20 * i + j) ∧ w 201 (20 * i + j) ≤ 99999) (hA : ∀ j, 0 ≤ j → j < 20 → 0 ≤ w 206 j ∧ w 206 j ≤ 2000000) (hP : ∀ j, 0 ≤ j → j < 20 → 0 ≤ w 204 j ∧ w 204 j ≤ 2000000) : CallN 1 mX12_come [(2, 141)] w (RUQ (fun w1 => w1 = fillW w 207 (comesS (w 206) (w 204) (fun i j => w 201 (20 * i + j))) 20)) := by
  refine CallN.intro (by decide +kernel) (Nat.le_of_ble_eq_true rfl) (fun ρ hR => ?_)
  show AtN mX12_come 1 ρ 0 [(0, (2, 141))] [] w
  have L_17 : ∀ (fu : Nat) (j : Int) (i : Int) (v9 : Wd), 0 ≤ j ∧ j < 20 → 0 ≤ i ∧ i ≤ 20 → v9 = fillW w 207 (fun k => if k < j then comesS (w 206) (w 204) (fun i j => w 201 (20 * i + j)) k else sumI (fun q => tS (w 206) (w 204) (fun i j => w 201 (20 * i + j)) q j) i.toNat) (j + 1) → (∀ v : Wd, v = fillW w 207 (comesS (w 206) (w 204) (fun i j => w 201 (20 * i + j))) (j + 1) → AtN mX12_come 1 ρ 75 [(0, (2, 141)), (1, (0, j))] [] v) → (20 - i).toNat < fu → AtN mX12_come 1 ρ 17 [(0, (2, 141)), (1, (0, j)), (2, (0, i))] [] v9 := by
    intro fu
    induction fu with
    | zero => intro j i v9 hj hi hw hK hm; exact absurd hm (Nat.not_lt_zero _)
    | succ fu ih =>
      intro j i v9 hj hi hw hK hm
      have q2 : v9 204 = w 204 := by rw [hw]; exact fillN (by decide)
      have q3 : v9 206 = w 206 := by rw [hw]; exact fillN (by decide)
      have q4 : v9 201 = w 201 := by rw [hw]; exact fillN (by decide)
      refine s_iload_n dX12_come_17 2 rfl (s_bipush dX12_come_18 (by decide) (s_icmp_ge 75 dX12_come_20 (by decide) (fun c_20 => ?_) (fun c_20 => ?_)))
      · skip
        exact At.keep (ls' := [(0, (2, 141)), (1, (0, j))]) [0, 1] rfl (hK v9 (by
          have e : i = 20 := by omega
          rw [e] at hw
          rw [hw]
          refine fillB (fun k k0 k1 => ?_)
          show (if k < j then _ else _) = _
          split
          · rfl
          · rw [show k = j by omega]; rfl))
      · skip
        refine s_aload_n dX12_come_23 0 rfl rfl (n_getc (q := 206) 141 93 216 dX12_come_24 cf_X12 ff_X12_208 rfl sh_141 rfl (by decide) rfl (by decide) (s_iload_n dX12_come_27 2 rfl (n_lald 206 dX12_come_28 rfl sh_206 (by decide) ⟨(by omega), (by omega)⟩ (v := (v9 206 i)) rfl (s_lconst (z := 0) dX12_come_29 rfl (s_lcmp dX12_come_30 (s_if_le 69 dX12_come_31 (by decide) (fun c_31 => ?_) (fun c_31 => ?_)))))))
        · skip
          have hz : tS (w 206) (w 204) (fun i j => w 201 (20 * i + j)) i j = 0 := by unfold tS; rw [← q3]; exact if_neg (by omega)
          refine s_iinc (z := (i + 1)) (ls' := [(0, (2, 141)), (1, (0, j)), (2, (0, (i + 1)))]) dX12_come_69 2 rfl (Nat.le_of_ble_eq_true rfl) (wr_id (by omega) (by omega)) rfl (s_goto 17 dX12_come_72 (by decide) ?_)
          exact ih j (i + 1) v9 (by omega) (by omega) (by rw [hw]; refine fillB (fun k k0 k1 => ?_); rw [sumI_s hi.1, hz, Int.add_zero]) hK (by omega)
        · skip
          have q1 : v9 207 j = sumI (fun q => tS (w 206) (w 204) (fun i j => w 201 (20 * i + j)) q j) i.toNat := by rw [hw, fillV ⟨by omega, by omega⟩]; exact if_neg (by omega)
          have q5 := sumI_bd' (f := fun q => tS (w 206) (w 204) (fun i j => w 201 (20 * i + j)) q j) (B := 199998000000) (N := 20) (fun q a b => tS_bd (hO q j a b hj.1 (by omega)) (hP q a b)) hi.1 (by omega)
          rw [← q1] at q5
          have b4 := hO i j hi.1 (by omega) hj.1 (by omega)
          have b5 := mul_bd b4 (hP i hi.1 (by omega))
          have b6 := tdiv_bd b5.1 (show 0 < w 206 i by rw [← q3]; omega)
          rw [← q2, ← q3, ← q4] at b6
          rw [← q2, ← q4] at b5
          refine s_aload_n dX12_come_34 0 rfl rfl (n_getc (q := 207) 141 94 217 dX12_come_35 cf_X12 ff_X12_211 rfl sh_141 rfl (by decide) rfl (by decide) (s_iload_n dX12_come_38 1 rfl (s_dup2 dX12_come_39 (show (0 : Nat) ≠ 1 by decide) (show (2 : Nat) ≠ 1 by decide) (n_lald 207 dX12_come_40 rfl sh_207 (by decide) ⟨(by omega), (by omega)⟩ (v := (v9 207 j)) rfl (s_aload_n dX12_come_41 0 rfl rfl (n_getc (q := 201) 141 88 211 dX12_come_42 cf_X12 ff_X12_193 rfl sh_141 rfl (by decide) rfl (by decide) (s_bipush dX12_come_45 (by decide) (s_iload_n dX12_come_47 2 rfl (n_mul (z := (20 * i)) dX12_come_48 (wr_id (by omega) (by omega)) ?_)))))))))
          refine s_iload_n dX12_come_49 1 rfl (n_add (z := ((20 * i) + j)) dX12_come_50 (wr_id (by omega) (by omega)) (n_iald 201 dX12_come_51 rfl sh_201 (by decide) ⟨(by omega), (by omega)⟩ (v := (v9 201 ((20 * i) + j))) rfl (s_i2l dX12_come_52 (s_aload_n dX12_come_53 0 rfl rfl (n_getc (q := 204) 141 91 214 dX12_come_54 cf_X12 ff_X12_202 rfl sh_141 rfl (by decide) rfl (by decide) (s_iload_n dX12_come_57 2 rfl (n_lald 204 dX12_come_58 rfl sh_204 (by decide) ⟨(by omega), (by omega)⟩ (v := (v9 204 i)) rfl (n_lmul (z := ((v9 201 ((20 * i) + j)) * (v9 204 i))) dX12_come_59 (wrL_id (by omega) (by omega)) (s_aload_n dX12_come_60 0 rfl rfl ?_)))))))))
          refine n_getc (q := 206) 141 93 216 dX12_come_61 cf_X12 ff_X12_208 rfl sh_141 rfl (by decide) rfl (by decide) (s_iload_n dX12_come_64 2 rfl (n_lald 206 dX12_come_65 rfl sh_206 (by decide) ⟨(by omega), (by omega)⟩ (v := (v9 206 i)) rfl (n_ldiv (z := (Int.tdiv ((v9 201 ((20 * i) + j)) * (v9 204 i)) (v9 206 i))) dX12_come_66 (by omega) (wrL_id (by omega) (by omega)) (n_ladd (z := ((v9 207 j) + (Int.tdiv ((v9 201 ((20 * i) + j)) * (v9 204 i)) (v9 206 i)))) dX12_come_67 (wrL_id (by omega) (by omega)) (s_lastore 207 dX12_come_68 rfl sh_207 (by decide) ⟨(by omega), (by omega)⟩ ?_)))))
          have hx : ((v9 207 j) + (Int.tdiv ((v9 201 ((20 * i) + j)) * (v9 204 i)) (v9 206 i))) = (if j < j then comesS (w 206) (w 204) (fun i j => w 201 (20 * i + j)) j else sumI (fun q => tS (w 206) (w 204) (fun i j => w 201 (20 * i + j)) q j) (i + 1).toNat) := by
            have h5 : 0 < w 206 i := by rw [← q3]; omega
            rw [if_neg (show ¬ j < j by omega), sumI_s hi.1, q1, q2, q3, q4]
            unfold tS
            rw [if_pos h5]
          refine s_iinc (z := (i + 1)) (ls' := [(0, (2, 141)), (1, (0, j)), (2, (0, (i + 1)))]) dX12_come_69 2 rfl (Nat.le_of_ble_eq_true rfl) (wr_id (by omega) (by omega)) rfl (s_goto 17 dX12_come_72 (by decide) ?_)
          exact ih j (i + 1) (wu v9 207 j ((v9 207 j) + (Int.tdiv ((v9 201 ((20 * i) + j)) * (v9 204 i)) (v9 206 i)))) (by omega) (by omega) (fillU hw ⟨hj.1, by omega⟩ hx (fun k _ _ hk => by rw [if_pos (show k < j by omega), if_pos (show k < j by omega)])) hK (by omega)
  have L_2 : ∀ (fu : Nat) (j : Int) (v9 : Wd), 0 ≤ j ∧ j ≤ 20 → v9 = fillW w 207 (comesS (w 206) (w 204) (fun i j => w 201 (20 * i + j))) j → (20 - j).toNat < fu → AtN mX12_come 1 ρ 2 [(0, (2, 141)), (1, (0, j))] [] v9 := by
    intro fu
    induction fu with
    | zero => intro j v9 hj hw hm; exact absurd hm (Nat.not_lt_zero _)
    | succ fu ih =>
      intro j v9 hj hw hm
      refine s_iload_n dX12_come_2 1 rfl (s_bipush dX12_come_3 (by decide) (s_icmp_ge 81 dX12_come_5 (by decide) (fun c_5 => ?_) (fun c_5 => ?_)))
      · skip
        refine n_ret dX12_come_81 hR rfl ?_
        have e : j = 20 := by omega
        rw [e] at hw
        exact ⟨rfl, hw⟩
      · skip
        refine s_aload_n dX12_come_8 0 rfl rfl (n_getc (q := 207) 141 94 217 dX12_come_9 cf_X12 ff_X12_211 rfl sh_141 rfl (by decide) rfl (by decide) (s_iload_n dX12_come_12 1 rfl (s_lconst (z := 0) dX12_come_13 rfl (s_lastore 207 dX12_come_14 rfl sh_207 (by decide) ⟨(by omega), (by omega)⟩ (s_iconst dX12_come_15 (by decide) (s_istore_n (ls' := [(0, (2, 141)), (1, (0, j)), (2, (0, 0))]) dX12_come_16 (Nat.le_of_ble_eq_true rfl) rfl ?_))))))
        exact L_17 _ j 0 (wu v9 207 j 0) (by omega) (by omega) (fillS hw hj.1 (by show _ = if j < j then _ else _; rw [if_neg (show ¬ j < j by omega)]; rfl) (fun k _ h => if_pos h)) (fun v hv => s_iinc (z := (j + 1)) (ls' := [(0, (2, 141)), (1, (0, (j + 1)))]) dX12_come_75 1 rfl (Nat.le_of_ble_eq_true rfl) (wr_id (by omega) (by omega)) rfl (s_goto 2 dX12_come_78 (by decide) (ih (j + 1) v (by omega) hv (by omega)))) (Nat.lt_succ_self _)
  refine s_iconst dX12_come_0 (by decide) (s_istore_n (ls' := [(0, (2, 141)), (1, (0, 0))]) dX12_come_1 (Nat.le_of_ble_eq_true rfl) rfl ?_)
  exact L_2 _ 0 w (by omega) fill0 (Nat.lt_succ_self _)

def mnL (a b : Int) : Int := if a ≤ b then a else b
def mxL (a b : Int) : Int := if b ≤ a then a else b
/-- the purse of party i -/
def puV (told coin : Int → Int) (n i : Int) : Int := if 16 ≤ i then told (i - 16) else if i < n then mxL 0 (coin i) else 0
theorem puV_bd {told coin : Int → Int} {n i : Int} (ht : ∀ j, 0 ≤ j → j < 4 → 0 ≤ told j ∧ told j ≤ 99999) (hc : ∀ j, 0 ≤ j → j < n → coin j ≤ 1000000000000) (h0 : 0 ≤ i) (h1 : i < 20) : 0 ≤ puV told coin n i ∧ puV told coin n i ≤ 1000000000000 := by
  unfold puV mxL
  split
  · have := ht (i - 16) (by omega) (by omega); omega
  · split
    · have := hc i h0 (by omega); split <;> omega
    · omega
/-- what party i has left to pay with after the fall -/
def usV (told coin : Int → Int) (n f i : Int) : Int := (puV told coin n i * (100 - f)).tdiv 100
theorem usV_bd {told coin : Int → Int} {n f i : Int} (ht : ∀ j, 0 ≤ j → j < 4 → 0 ≤ told j ∧ told j ≤ 99999) (hc : ∀ j, 0 ≤ j → j < n → coin j ≤ 1000000000000) (hf : 0 ≤ f ∧ f ≤ 100) (h0 : 0 ≤ i) (h1 : i < 20) : (0 ≤ puV told coin n i * (100 - f) ∧ puV told coin n i * (100 - f) ≤ 100000000000000) ∧ 0 ≤ usV told coin n f i ∧ usV told coin n f i ≤ 100000000000000 := by
  have h2 := mul_bd (puV_bd ht hc h0 h1) (show 0 ≤ 100 - f ∧ 100 - f ≤ 100 by omega)
  have h3 := tdiv_bd h2.1 (show (0 : Int) < 100 by decide)
  unfold usV
  omega
/-- what i pays in the next round -/
def payN (A U C : Int → Int) (i : Int) : Int := mnL (A i) (U i + C i)
/-- whether f and g differ below n -/
def chB (f g : Int → Int) : Nat → Int
  | 0 => 0
  | n + 1 => if chB f g n = 1 ∨ f n ≠ g n then 1 else 0
theorem chB_01 {f g : Int → Int} : ∀ n, chB f g n = 0 ∨ chB f g n = 1
  | 0 => Or.inl rfl
  | n + 1 => by rw [chB]; split <;> omega
theorem chB_s {f g : Int → Int} {i : Int} (h : 0 ≤ i) : chB f g (i + 1).toNat = if chB f g i.toNat = 1 ∨ f i ≠ g i then 1 else 0 := by rw [toN_s h, chB, toN_c h]
theorem fillO {w : Wd} {T : Nat} {f : Int → Int} {n j : Int} (h : n ≤ j) : fillW w T f n T j = w T j := by unfold fillW; rw [if_pos rfl, if_neg (by omega)]
theorem met_ofWF {l : Launch} {y : MethodName} {ws ws' : List Cond} {rm : Room} {Pc : Array Value → State → Prop} {Qc : Array Value → State → Outcome → State → Prop} {mc ms : Nat} {free : Addr → Prop} {cc : ByteArray} {maxL : Nat} {ret : Option FieldType}
    (hy : plainFor y = true) (hw : ws = Cond.code y cc maxL ret :: ws')
    (body : ∀ p e s m args below meth c s₁, BodyLoose p l y (headSpec ws rm) cc maxL ret e s m args below meth c s₁ → c.maxLocals = maxL → Pc args s →
      W p l e (headSpec ws rm).room s m args below meth c s.heap [] 0 0 (MQ below Qc args s mc ms free) (entryFrame m args maxL)) : Met l y ws rm Pc Qc mc ms free := by
  refine MetFree.of_bodySF (code := cc) (maxLocals := maxL) (ret := ret) hy ?_ (fun p e s m args below meth c s₁ B hml hP _ => ?_)
  · intro args s m h hn
    obtain ⟨meth, c, g1, g2, g3, g4, g5, g6, -⟩ := Cond.code_spec hn (atoms_spec (ws := ws) h _ (by rw [hw]; exact List.mem_cons_self))
    exact ⟨meth, c, g1, g2, g3, g4, g5, g6⟩
  · have hh : s₁.heap = s.heap := by rw [B.state]; rfl
    obtain ⟨t, a1, o, b1, b2, b3⟩ := body p e s m args below meth c s₁ B hml hP s₁ hh (Stand.of_body B)
    exact ⟨t, o, a1, b1, b2, b3.1, b3.2⟩
theorem Call.introF {d mc ms : Nat} {μ : Mu} {args : List PV} {sh : List Sh} {w : Wd} {Φ : Option PV → List Sh → Wd → Prop} (hy : plainFor μ.1 = true) (hn : lsz args ≤ μ.2.2.1)
    (h : ∀ ρ : Rh, RetOK mc ms Φ ρ sh → At μ (d, sh.length + mc, SZ sh + ms) ρ sh 0 (la 0 args) [] w) : Call d mc ms μ args sh w Φ := by
  intro l g ad sz d' hd
  refine met_ofWF (cc := μ.2.1) (maxL := μ.2.2.1) (ret := μ.2.2.2) hy rfl ?_
  intro p e s m av below meth c s₁ B hml hv
  obtain ⟨rfl, hsz, hP, hD, hK, hE, hW, hI⟩ := hv
  subst hsz
  have hts := atoms_spec (ws := wsM μ) B.pre
  have hown : s.vm.findClass μ.1.cls = some m.cls := findClass_of_methodNamed B.named
  have hl := lv_entry (args.map (tv g ad)) (n := μ.2.2.1) (by rw [lsz_eq]; exact hn)
  rw [lg_entry_eq]
  rw [← tvl_la] at hl
  have hD2 : va_D (AA ad sh.length s.heap.size) (wl g ad sh w) := by
    refine hD.weaken (fun i q hq _ => Or.inl ⟨i, ?_, ?_⟩)
    · have := (List.getElem?_eq_some_iff.mp hq).1
      rwa [wl_len] at this
    · have hl : i < sh.length := by
        have := (List.getElem?_eq_some_iff.mp hq).1
        rwa [wl_len] at this
      rw [wl_get (List.getElem?_eq_getElem hl)] at hq
      cases hq
      rfl
  have K := h ((p, l, e, (headSpec (wsM μ) (RMd d' mc ms)).room, s), (m, (args.map (tv g ad)).toArray, below, meth, c), (g, ad, sh), _) ⟨rfl, rfl, rfl, rfl⟩ ⟨B.exec, B.bytes, B.returns, hml, B.notSynchronized, hown, (name_of_methodNamed B.named B.method).1, hts, hK, hE, hd, Nat.le_refl _, by show sh.length + mc ≤ mc + sh.length; omega, by show SZ sh + ms ≤ ms + SZ sh; omega⟩ ad s.heap [] _ (fun _ _ => rfl) ⟨Nat.le_refl _, Nat.le_refl _⟩ ⟨by show _ ≤ sh.length + mc; omega, by show _ ≤ SZ sh + ms; omega⟩ ⟨hP, hD2, va_S.rf, hW⟩ hl (la_in args 0 hI) (fun v hv => by cases hv)
  simp only [Nat.sub_self] at K
  exact K
theorem CallN.introF {d : Nat} {μ : Mu} {args : List PV} {w : Wd} {Ψ : Option PV → Wd → Prop} (hy : plainFor μ.1 = true) (hn : lsz args ≤ μ.2.2.1) (h : ∀ ρ : Rh, RetN Ψ ρ → AtN μ d ρ 0 (la 0 args) [] w) : CallN d μ args w Ψ := Call.introF hy hn h
set_option maxRecDepth 100000 in
theorem j_min (a b : Int) (w : Wd) : CallN 1 mJ9_min_f86c9 [(1, a), (1, b)] w (RV (1, mnL a b) w) := by
  refine CallN.introF (by decide +kernel) (Nat.le_of_ble_eq_true rfl) (fun ρ hR => ?_)
  show AtN mJ9_min_f86c9 1 ρ 0 [(0, (1, a)), (2, (1, b))] [] w
  refine s_lload_n dJ9_min_f86c9_0 0 rfl (s_lload_n dJ9_min_f86c9_1 1 rfl (s_lcmp dJ9_min_f86c9_2 (s_if_gt 10 dJ9_min_f86c9_3 (by decide) (fun c_3 => ?_) (fun c_3 => ?_))))
  · skip
    refine s_lload_n dJ9_min_f86c9_10 1 rfl (n_lret dJ9_min_f86c9_11 hR rfl ?_)
    refine ⟨congrArg (fun z => some ((1 : Nat), z)) ?_, rfl⟩
    unfold mnL
    split <;> first | rfl | omega
  · skip
    refine s_lload_n dJ9_min_f86c9_6 0 rfl (s_goto 11 dJ9_min_f86c9_7 (by decide) (n_lret dJ9_min_f86c9_11 hR rfl ?_))
    refine ⟨congrArg (fun z => some ((1 : Nat), z)) ?_, rfl⟩
    unfold mnL
    split <;> first | rfl | omega

set_option maxRecDepth 100000 in
theorem j_max (a b : Int) (w : Wd) : CallN 1 mJ9_max_f86c9 [(1, a), (1, b)] w (RV (1, mxL a b) w) := by
  refine CallN.introF (by decide +kernel) (Nat.le_of_ble_eq_true rfl) (fun ρ hR => ?_)
  show AtN mJ9_max_f86c9 1 ρ 0 [(0, (1, a)), (2, (1, b))] [] w
  refine s_lload_n dJ9_max_f86c9_0 0 rfl (s_lload_n dJ9_max_f86c9_1 1 rfl (s_lcmp dJ9_max_f86c9_2 (s_if_lt 10 dJ9_max_f86c9_3 (by decide) (fun c_3 => ?_) (fun c_3 => ?_))))
  · skip
    refine s_lload_n dJ9_max_f86c9_10 1 rfl (n_lret dJ9_max_f86c9_11 hR rfl ?_)
    refine ⟨congrArg (fun z => some ((1 : Nat), z)) ?_, rfl⟩
    unfold mxL
    split <;> first | rfl | omega
  · skip
    refine s_lload_n dJ9_max_f86c9_6 0 rfl (s_goto 11 dJ9_max_f86c9_7 (by decide) (n_lret dJ9_max_f86c9_11 hR rfl ?_))
    refine ⟨congrArg (fun z => some ((1 : Nat), z)) ?_, rfl⟩
    unfold mxL
    split <;> first | rfl | omega

set_option maxRecDepth 100000 in
theorem c_X_purseOf (i : Int) (w : Wd) (hi : 0 ≤ i ∧ i < 20) (h : 0 ≤ w 15 10 ∧ w 15 10 ≤ 16) : CallN 2 mX1_purseOf [(2, 109), (0, i)] w (RV (1, puV (w 131) (w 20) (w 15 10) i) w) := by
  refine CallN.intro (by decide +kernel) (Nat.le_of_ble_eq_true rfl) (fun ρ hR => ?_)
  show AtN mX1_purseOf 2 ρ 0 [(0, (2, 109)), (1, (0, i))] [] w
  refine s_iload_n dX1_purseOf_0 1 rfl (s_bipush dX1_purseOf_1 (by decide) (s_icmp_lt 17 dX1_purseOf_3 (by decide) (fun c_3 => ?_) (fun c_3 => ?_)))
  · skip
    refine s_aload_n dX1_purseOf_17 0 rfl rfl (n_getc (q := 15) 109 0 25 dX1_purseOf_18 cf_X1 ff_X1_30 rfl sh_109 rfl (by decide) rfl (by decide) (s_iload_n dX1_purseOf_21 1 rfl (n_invV (as := [(0, i)]) dX1_purseOf_22 kv_X3_hasHall ml_X1_62 (c_X_hasHall i w) (by decide) 15 cf_X3 rfl sh_15 rfl rfl rfl (Nat.le_of_ble_eq_true rfl) (n_ifeq_b 44 dX1_purseOf_25 (by decide) (fun c_25 => ?_) (fun c_25 => ?_)))))
    · skip
      refine s_lconst (z := 0) dX1_purseOf_44 rfl (n_lret dX1_purseOf_45 hR rfl ?_)
      refine ⟨congrArg (fun z => some ((1 : Nat), z)) ?_, rfl⟩
      unfold puV
      first
      | (rw [if_pos (show 16 ≤ i by omega)]; done)
      | (rw [if_neg (show ¬ 16 ≤ i by omega), if_pos (show i < w 15 10 by omega)]; done)
      | (rw [if_neg (show ¬ 16 ≤ i by omega), if_neg (show ¬ i < w 15 10 by omega)]; done)
    · skip
      refine s_lconst (z := 0) dX1_purseOf_28 rfl (s_aload_n dX1_purseOf_29 0 rfl rfl (n_getc (q := 15) 109 0 25 dX1_purseOf_30 cf_X1 ff_X1_30 rfl sh_109 rfl (by decide) rfl (by decide) (n_getc (q := 20) 15 4 30 dX1_purseOf_33 cf_X3 ff_X1_67 rfl sh_15 rfl (by decide) rfl (by decide) (s_iload_n dX1_purseOf_36 1 rfl (n_lald 20 dX1_purseOf_37 rfl sh_20 (by decide) ⟨(by omega), (by omega)⟩ (v := (w 20 i)) rfl (n_invS (as := [(1, 0), (1, (w 20 i))]) dX1_purseOf_38 kv_J9_max_f86c9 ml_X1_70 (j_max 0 (w 20 i) w) (by decide) rfl rfl (Nat.le_of_ble_eq_true rfl) (s_goto 45 dX1_purseOf_41 (by decide) (n_lret dX1_purseOf_45 hR rfl ?_))))))))
      refine ⟨congrArg (fun z => some ((1 : Nat), z)) ?_, rfl⟩
      unfold puV
      first
      | (rw [if_pos (show 16 ≤ i by omega)]; done)
      | (rw [if_neg (show ¬ 16 ≤ i by omega), if_pos (show i < w 15 10 by omega)]; done)
      | (rw [if_neg (show ¬ 16 ≤ i by omega), if_neg (show ¬ i < w 15 10 by omega)]; done)
  · skip
    refine s_aload_n dX1_purseOf_6 0 rfl rfl (n_getc (q := 131) 109 2 141 dX1_purseOf_7 cf_X1 ff_X1_16 rfl sh_109 rfl (by decide) rfl (by decide) (s_iload_n dX1_purseOf_10 1 rfl (s_bipush dX1_purseOf_11 (by decide) (n_sub (z := (i - 16)) dX1_purseOf_13 (wr_id (by omega) (by omega)) (n_iald 131 dX1_purseOf_14 rfl sh_131 (by decide) ⟨(by omega), (by omega)⟩ (v := (w 131 (i - 16))) rfl (s_i2l dX1_purseOf_15 (n_lret dX1_purseOf_16 hR rfl ?_)))))))
    refine ⟨congrArg (fun z => some ((1 : Nat), z)) ?_, rfl⟩
    unfold puV
    first
    | (rw [if_pos (show 16 ≤ i by omega)]; done)
    | (rw [if_neg (show ¬ 16 ≤ i by omega), if_pos (show i < w 15 10 by omega)]; done)
    | (rw [if_neg (show ¬ 16 ≤ i by omega), if_neg (show ¬ i < w 15 10 by omega)]; done)

set_option maxRecDepth 100000 in
theorem c_X_payAgain (f : Int) (w : Wd) (hf : 0 ≤ f ∧ f ≤ 100) (h : 0 ≤ w 15 10 ∧ w 15 10 ≤ 16) (ht : ∀ j, 0 ≤ j → j < 4 → 0 ≤ w 131 j ∧ w 131 j ≤ 99999) (hc : ∀ j, 0 ≤ j → j < w 15 10 → w 20 j ≤ 1000000000000) (hA : ∀ j, 0 ≤ j → j < 20 → 0 ≤ w 132 j ∧ w 132 j ≤ 2000000) (hC : ∀ j, 0 ≤ j → j < 20 → 0 ≤ w 134 j ∧ w 134 j ≤ 4000000000000) : CallN 3 mX1_payAgain [(2, 109), (0, f)] w (RQ (fun z w1 => w1 = fillW w 133 (payN (w 132) (usV (w 131) (w 20) (w 15 10) f) (w 134)) 20 ∧ z = chB (w 133) (payN (w 132) (usV (w 131) (w 20) (w 15 10) f) (w 134)) 20)) := by
  refine CallN.intro (by decide +kernel) (Nat.le_of_ble_eq_true rfl) (fun ρ hR => ?_)
  show AtN mX1_payAgain 3 ρ 0 [(0, (2, 109)), (1, (0, f))] [] w
  have L_4 : ∀ (fu : Nat) (c : Int) (i : Int) (v9 : Wd), 0 ≤ i ∧ i ≤ 20 → v9 = fillW w 133 (payN (w 132) (usV (w 131) (w 20) (w 15 10) f) (w 134)) i → c = chB (w 133) (payN (w 132) (usV (w 131) (w 20) (w 15 10) f) (w 134)) i.toNat → (20 - i).toNat < fu → AtN mX1_payAgain 3 ρ 4 [(0, (2, 109)), (1, (0, f)), (2, (0, c)), (3, (0, i))] [] v9 := by
    intro fu
    induction fu with
    | zero => intro c i v9 hi hw hk hm; exact absurd hm (Nat.not_lt_zero _)
    | succ fu ih =>
      intro c i v9 hi hw hk hm
      have q1 : v9 132 = w 132 := by rw [hw]; exact fillN (by decide)
      have q2 : v9 131 = w 131 := by rw [hw]; exact fillN (by decide)
      have q3 : v9 20 = w 20 := by rw [hw]; exact fillN (by decide)
      have q4 : v9 15 = w 15 := by rw [hw]; exact fillN (by decide)
      have q5 : v9 134 = w 134 := by rw [hw]; exact fillN (by decide)
      have q6 : v9 133 i = w 133 i := by rw [hw]; exact fillO (by omega)
      have h02 := chB_01 (f := w 133) (g := (payN (w 132) (usV (w 131) (w 20) (w 15 10) f) (w 134))) i.toNat
      rw [← hk] at h02
      refine s_iload_n dX1_payAgain_4 3 rfl (s_bipush dX1_payAgain_5 (by decide) (s_icmp_ge 83 dX1_payAgain_7 (by decide) (fun c_7 => ?_) (fun c_7 => ?_)))
      · skip
        refine s_iload_n dX1_payAgain_83 2 rfl (n_zret dX1_payAgain_84 hR rfl (by first | exact Or.inl rfl | exact Or.inr rfl | exact bi_01 _ | omega) ?_)
        have e : i = 20 := by omega
        rw [e] at hw hk
        exact ⟨_, rfl, hw, hk⟩
      · skip
        have hi9 : 0 ≤ i ∧ i < 20 := ⟨hi.1, by omega⟩
        have h9 : 0 ≤ v9 15 10 ∧ v9 15 10 ≤ 16 := by rw [q4]; exact h
        have b1 := usV_bd ht hc hf hi9.1 hi9.2
        rw [← q2, ← q3, ← q4] at b1
        unfold usV at b1
        have b2 := hC i hi9.1 hi9.2
        rw [← q5] at b2
        refine s_aload_n dX1_payAgain_10 0 rfl rfl (n_getc (q := 133) 109 4 143 dX1_payAgain_11 cf_X1 ff_X1_24 rfl sh_109 rfl (by decide) rfl (by decide) (s_iload_n dX1_payAgain_14 3 rfl (n_lald 133 dX1_payAgain_15 rfl sh_133 (by decide) ⟨(by omega), (by omega)⟩ (v := (v9 133 i)) rfl (s_lstore (ls' := [(0, (2, 109)), (1, (0, f)), (2, (0, c)), (3, (0, i)), (4, (1, (v9 133 i)))]) dX1_payAgain_16 (Nat.le_of_ble_eq_true rfl) rfl (s_aload_n dX1_payAgain_18 0 rfl rfl (n_getc (q := 133) 109 4 143 dX1_payAgain_19 cf_X1 ff_X1_24 rfl sh_109 rfl (by decide) rfl (by decide) (s_iload_n dX1_payAgain_22 3 rfl (s_aload_n dX1_payAgain_23 0 rfl rfl (n_getc (q := 132) 109 3 142 dX1_payAgain_24 cf_X1 ff_X1_20 rfl sh_109 rfl (by decide) rfl (by decide) ?_)))))))))
        refine s_iload_n dX1_payAgain_27 3 rfl (n_lald 132 dX1_payAgain_28 rfl sh_132 (by decide) ⟨(by omega), (by omega)⟩ (v := (v9 132 i)) rfl (s_aload_n dX1_payAgain_29 0 rfl rfl (s_iload_n dX1_payAgain_30 3 rfl (n_invV (as := [(0, i)]) dX1_payAgain_31 kv_X1_purseOf ml_X1_50 (c_X_purseOf i v9 hi9 h9) (by decide) 109 cf_X1 rfl sh_109 rfl rfl rfl (Nat.le_of_ble_eq_true rfl) (s_bipush dX1_payAgain_34 (by decide) (s_iload_n dX1_payAgain_36 1 rfl (n_sub (z := (100 - f)) dX1_payAgain_37 (wr_id (by omega) (by omega)) (s_i2l dX1_payAgain_38 (n_lmul (z := ((puV (v9 131) (v9 20) (v9 15 10) i) * (100 - f))) dX1_payAgain_39 (wrL_id (by omega) (by omega)) ?_)))))))))
        refine s_ldc2 (z := 100) dX1_payAgain_40 kc_X1_54 rfl (by unfold InL; decide) (n_ldiv (z := (Int.tdiv ((puV (v9 131) (v9 20) (v9 15 10) i) * (100 - f)) 100)) dX1_payAgain_43 (by omega) (wrL_id (by omega) (by omega)) (s_aload_n dX1_payAgain_44 0 rfl rfl (n_getc (q := 134) 109 5 144 dX1_payAgain_45 cf_X1 ff_X1_27 rfl sh_109 rfl (by decide) rfl (by decide) (s_iload_n dX1_payAgain_48 3 rfl (n_lald 134 dX1_payAgain_49 rfl sh_134 (by decide) ⟨(by omega), (by omega)⟩ (v := (v9 134 i)) rfl (n_ladd (z := ((Int.tdiv ((puV (v9 131) (v9 20) (v9 15 10) i) * (100 - f)) 100) + (v9 134 i))) dX1_payAgain_50 (wrL_id (by omega) (by omega)) (n_invS (as := [(1, (v9 132 i)), (1, ((Int.tdiv ((puV (v9 131) (v9 20) (v9 15 10) i) * (100 - f)) 100) + (v9 134 i)))]) dX1_payAgain_51 kv_J9_min_f86c9 ml_X1_56 (j_min (v9 132 i) ((Int.tdiv ((puV (v9 131) (v9 20) (v9 15 10) i) * (100 - f)) 100) + (v9 134 i)) v9) (by decide) rfl rfl (Nat.le_of_ble_eq_true rfl) (s_lastore 133 dX1_payAgain_54 rfl sh_133 (by decide) ⟨(by omega), (by omega)⟩ (s_iload_n dX1_payAgain_55 2 rfl ?_)))))))))
        refine s_if_ne 71 dX1_payAgain_56 (by decide) (fun c_56 => ?_) (fun c_56 => ?_)
        · skip
          refine s_iconst dX1_payAgain_71 (by decide) (s_goto 76 dX1_payAgain_72 (by decide) (s_istore_n (ls' := [(0, (2, 109)), (1, (0, f)), (2, (0, 1)), (3, (0, i)), (4, (1, (v9 133 i)))]) dX1_payAgain_76 (Nat.le_of_ble_eq_true rfl) rfl ?_))
          have hx : (mnL (v9 132 i) ((Int.tdiv ((puV (v9 131) (v9 20) (v9 15 10) i) * (100 - f)) 100) + (v9 134 i))) = (payN (w 132) (usV (w 131) (w 20) (w 15 10) f) (w 134)) i := by rw [q1, q2, q3, q4, q5]; rfl
          have h01 := chB_01 (f := w 133) (g := (payN (w 132) (usV (w 131) (w 20) (w 15 10) f) (w 134))) i.toNat
          rw [← hk] at h01
          have hn : 1 = chB (w 133) (payN (w 132) (usV (w 131) (w 20) (w 15 10) f) (w 134)) (i + 1).toNat := by
            rw [chB_s hi.1, ← hk]
            first
            | exact (if_pos (Or.inl (by omega))).symm
            | exact (if_pos (Or.inr (fun e => by omega))).symm
            | exact (if_neg (fun e => by rcases e with e | e <;> omega)).symm
          refine s_iinc (z := (i + 1)) (ls' := [(0, (2, 109)), (1, (0, f)), (2, (0, 1)), (3, (0, (i + 1))), (4, (1, (v9 133 i)))]) dX1_payAgain_77 3 rfl (Nat.le_of_ble_eq_true rfl) (wr_id (by omega) (by omega)) rfl (s_goto 4 dX1_payAgain_80 (by decide) ?_)
          exact At.keep (ls' := [(0, (2, 109)), (1, (0, f)), (2, (0, 1)), (3, (0, (i + 1)))]) [0, 1, 2, 3] rfl (ih 1 (i + 1) (wu v9 133 i (mnL (v9 132 i) ((Int.tdiv ((puV (v9 131) (v9 20) (v9 15 10) i) * (100 - f)) 100) + (v9 134 i)))) (by omega) (fillS hw hi.1 hx (fun _ _ _ => rfl)) hn (by omega))
        · skip
          refine s_aload_n dX1_payAgain_59 0 rfl rfl (n_getc (q := 133) 109 4 143 dX1_payAgain_60 cf_X1 ff_X1_24 rfl sh_109 rfl (by decide) rfl (by decide) (s_iload_n dX1_payAgain_63 3 rfl (n_lald 133 dX1_payAgain_64 rfl sh_133 (by decide) ⟨(by omega), (by omega)⟩ (v := (mnL (v9 132 i) ((Int.tdiv ((puV (v9 131) (v9 20) (v9 15 10) i) * (100 - f)) 100) + (v9 134 i)))) (by simp [wu]) (s_lload dX1_payAgain_65 4 rfl (s_lcmp dX1_payAgain_67 (s_if_eq 75 dX1_payAgain_68 (by decide) (fun c_68 => ?_) (fun c_68 => ?_)))))))
          · skip
            refine s_iconst dX1_payAgain_75 (by decide) (s_istore_n (ls' := [(0, (2, 109)), (1, (0, f)), (2, (0, 0)), (3, (0, i)), (4, (1, (v9 133 i)))]) dX1_payAgain_76 (Nat.le_of_ble_eq_true rfl) rfl ?_)
            have hx : (mnL (v9 132 i) ((Int.tdiv ((puV (v9 131) (v9 20) (v9 15 10) i) * (100 - f)) 100) + (v9 134 i))) = (payN (w 132) (usV (w 131) (w 20) (w 15 10) f) (w 134)) i := by rw [q1, q2, q3, q4, q5]; rfl
            have h01 := chB_01 (f := w 133) (g := (payN (w 132) (usV (w 131) (w 20) (w 15 10) f) (w 134))) i.toNat
            rw [← hk] at h01
            have hn : 0 = chB (w 133) (payN (w 132) (usV (w 131) (w 20) (w 15 10) f) (w 134)) (i + 1).toNat := by
              rw [chB_s hi.1, ← hk]
              first
              | exact (if_pos (Or.inl (by omega))).symm
              | exact (if_pos (Or.inr (fun e => by omega))).symm
              | exact (if_neg (fun e => by rcases e with e | e <;> omega)).symm
            refine s_iinc (z := (i + 1)) (ls' := [(0, (2, 109)), (1, (0, f)), (2, (0, 0)), (3, (0, (i + 1))), (4, (1, (v9 133 i)))]) dX1_payAgain_77 3 rfl (Nat.le_of_ble_eq_true rfl) (wr_id (by omega) (by omega)) rfl (s_goto 4 dX1_payAgain_80 (by decide) ?_)
            exact At.keep (ls' := [(0, (2, 109)), (1, (0, f)), (2, (0, 0)), (3, (0, (i + 1)))]) [0, 1, 2, 3] rfl (ih 0 (i + 1) (wu v9 133 i (mnL (v9 132 i) ((Int.tdiv ((puV (v9 131) (v9 20) (v9 15 10) i) * (100 - f)) 100) + (v9 134 i)))) (by omega) (fillS hw hi.1 hx (fun _ _ _ => rfl)) hn (by omega))
          · skip
            refine s_iconst dX1_payAgain_71 (by decide) (s_goto 76 dX1_payAgain_72 (by decide) (s_istore_n (ls' := [(0, (2, 109)), (1, (0, f)), (2, (0, 1)), (3, (0, i)), (4, (1, (v9 133 i)))]) dX1_payAgain_76 (Nat.le_of_ble_eq_true rfl) rfl ?_))
            have hx : (mnL (v9 132 i) ((Int.tdiv ((puV (v9 131) (v9 20) (v9 15 10) i) * (100 - f)) 100) + (v9 134 i))) = (payN (w 132) (usV (w 131) (w 20) (w 15 10) f) (w 134)) i := by rw [q1, q2, q3, q4, q5]; rfl
            have h01 := chB_01 (f := w 133) (g := (payN (w 132) (usV (w 131) (w 20) (w 15 10) f) (w 134))) i.toNat
            rw [← hk] at h01
            have hn : 1 = chB (w 133) (payN (w 132) (usV (w 131) (w 20) (w 15 10) f) (w 134)) (i + 1).toNat := by
              rw [chB_s hi.1, ← hk]
              first
              | exact (if_pos (Or.inl (by omega))).symm
              | exact (if_pos (Or.inr (fun e => by omega))).symm
              | exact (if_neg (fun e => by rcases e with e | e <;> omega)).symm
            refine s_iinc (z := (i + 1)) (ls' := [(0, (2, 109)), (1, (0, f)), (2, (0, 1)), (3, (0, (i + 1))), (4, (1, (v9 133 i)))]) dX1_payAgain_77 3 rfl (Nat.le_of_ble_eq_true rfl) (wr_id (by omega) (by omega)) rfl (s_goto 4 dX1_payAgain_80 (by decide) ?_)
            exact At.keep (ls' := [(0, (2, 109)), (1, (0, f)), (2, (0, 1)), (3, (0, (i + 1)))]) [0, 1, 2, 3] rfl (ih 1 (i + 1) (wu v9 133 i (mnL (v9 132 i) ((Int.tdiv ((puV (v9 131) (v9 20) (v9 15 10) i) * (100 - f)) 100) + (v9 134 i)))) (by omega) (fillS hw hi.1 hx (fun _ _ _ => rfl)) hn (by omega))
  refine s_iconst dX1_payAgain_0 (by decide) (s_istore_n (ls' := [(0, (2, 109)), (1, (0, f)), (2, (0, 0))]) dX1_payAgain_1 (Nat.le_of_ble_eq_true rfl) rfl (s_iconst dX1_payAgain_2 (by decide) (s_istore_n (ls' := [(0, (2, 109)), (1, (0, f)), (2, (0, 0)), (3, (0, 0))]) dX1_payAgain_3 (Nat.le_of_ble_eq_true rfl) rfl ?_)))
  exact L_4 _ 0 0 w (by omega) fill0 rfl (Nat.lt_succ_self _)
