/-! SETTLE. -/
theorem comesS_congr {A A' P P' : Int → Int} {O O' : Int → Int → Int} (hA : ∀ i, 0 ≤ i → i < 20 → A i = A' i) (hP : ∀ i, 0 ≤ i → i < 20 → P i = P' i) (hO : ∀ i j, 0 ≤ i → i < 20 → O i j = O' i j) (j : Int) : comesS A P O j = comesS A' P' O' j :=
  sumI_cong 20 (fun i a b => by
    show tS A P O i j = tS A' P' O' i j
    unfold tS
    rw [hA i a (by omega), hP i a (by omega), hO i j a (by omega)])
theorem comesS_bd {A P : Int → Int} {O : Int → Int → Int} {j : Int} (hO : ∀ i, 0 ≤ i → i < 20 → 0 ≤ O i j ∧ O i j ≤ 99999) (hP : ∀ i, 0 ≤ i → i < 20 → 0 ≤ P i ∧ P i ≤ 2000000) : 0 ≤ comesS A P O j ∧ comesS A P O j ≤ 4000000000000 := by
  have h := sumI_bd (f := fun i => tS A P O i j) (B := 199998000000) 20 (fun i a b => tS_bd (hO i a (by omega)) (hP i a (by omega)))
  unfold comesS
  omega
theorem chB_congr {f f' g g' : Int → Int} : ∀ n : Nat, (∀ j : Int, 0 ≤ j → j < n → f j = f' j) → (∀ j : Int, 0 ≤ j → j < n → g j = g' j) → chB f g n = chB f' g' n
  | 0, _, _ => rfl
  | n + 1, h, h' => by rw [chB, chB, chB_congr n (fun j a b => h j a (by omega)) (fun j a b => h' j a (by omega)), h n (by omega) (by omega), h' n (by omega) (by omega)]
/-- the rounds: what each pays at the last, and how many there were -/
def cleR (A U : Int → Int) (O : Int → Int → Int) : Nat → (Int → Int) → Int → (Int → Int) × Int
  | 0, P, r => (P, r)
  | n + 1, P, r => if chB P (payN A U (comesS A P O)) 20 = 0 then (payN A U (comesS A P O), r + 1) else cleR A U O n (payN A U (comesS A P O)) (r + 1)
theorem payN_congr {A A' U U' C C' : Int → Int} {j : Int} (hA : A j = A' j) (hU : U j = U' j) (hC : C j = C' j) : payN A U C j = payN A' U' C' j := by unfold payN; rw [hA, hU, hC]
theorem payN_bd {A U C : Int → Int} {j : Int} (hA : 0 ≤ A j ∧ A j ≤ 2000000) (hU : 0 ≤ U j) (hC : 0 ≤ C j) : 0 ≤ payN A U C j ∧ payN A U C j ≤ 2000000 := by
  unfold payN mnL
  split <;> omega
set_option maxRecDepth 100000 in
theorem c_X_settle (f : Int) (w : Wd) (hO : ∀ i j, 0 ≤ i → i < 20 → 0 ≤ j → j < 20 → 0 ≤ w (111 + Int.toNat i) j ∧ w (111 + Int.toNat i) j ≤ 99999) (hA : ∀ j, 0 ≤ j → j < 20 → 0 ≤ w 132 j ∧ w 132 j ≤ 2000000) (hf : 0 ≤ f ∧ f ≤ 100) (h : 0 ≤ w 15 10 ∧ w 15 10 ≤ 16) (ht : ∀ j, 0 ≤ j → j < 4 → 0 ≤ w 131 j ∧ w 131 j ≤ 99999) (hc : ∀ j, 0 ≤ j → j < w 15 10 → w 20 j ≤ 1000000000000) : CallN 4 mX1_settle [(2, 109), (0, f)] w (RUQ (fun w1 => (∀ k j, k ≠ 133 → k ≠ 134 → ¬ (k = 109 ∧ j = 6) → w1 k j = w k j) ∧ (∀ j, 0 ≤ j → j < 20 → w1 133 j = (cleR (w 132) (usV (w 131) (w 20) (w 15 10) f) (fun i j => w (111 + Int.toNat i) j) 300 (w 132) 0).1 j ∧ w1 134 j = comesS (w 132) (cleR (w 132) (usV (w 131) (w 20) (w 15 10) f) (fun i j => w (111 + Int.toNat i) j) 300 (w 132) 0).1 (fun i j => w (111 + Int.toNat i) j) j) ∧ w1 109 6 = (cleR (w 132) (usV (w 131) (w 20) (w 15 10) f) (fun i j => w (111 + Int.toNat i) j) 300 (w 132) 0).2)) := by
  refine CallN.intro (by decide +kernel) (Nat.le_of_ble_eq_true rfl) (fun ρ hR => ?_)
  show AtN mX1_settle 4 ρ 0 [(0, (2, 109)), (1, (0, f))] [] w
  obtain ⟨G, hG⟩ : ∃ G, G = (cleR (w 132) (usV (w 131) (w 20) (w 15 10) f) (fun i j => w (111 + Int.toNat i) j) 300 (w 132) 0) := ⟨_, rfl⟩
  have L_35 : ∀ (fu : Nat) (c : Int) (i : Int) (P : Int → Int) (v9 : Wd), 0 ≤ i ∧ i ≤ 300 → (c = 0 ∨ c = 1) → (∀ j, 0 ≤ j → j < 20 → v9 133 j = P j) → (∀ j, 0 ≤ j → j < 20 → 0 ≤ P j ∧ P j ≤ 2000000) → (∀ k j, k ≠ 133 → k ≠ 134 → ¬ (k = 109 ∧ j = 6) → v9 k j = w k j) → v9 109 6 = i → G = (if c = 0 then (P, i) else cleR (w 132) (usV (w 131) (w 20) (w 15 10) f) (fun i j => w (111 + Int.toNat i) j) (300 - i).toNat P i) → (300 - i).toNat < fu → AtN mX1_settle 4 ρ 35 [(0, (2, 109)), (1, (0, f)), (2, (0, c)), (3, (0, i))] [] v9 := by
    intro fu
    induction fu with
    | zero => intro c i P v9 hi h01 hP hPb hfr hr hF hm; exact absurd hm (Nat.not_lt_zero _)
    | succ fu ih =>
      intro c i P v9 hi h01 hP hPb hfr hr hF hm
      refine s_iload_n dX1_settle_35 3 rfl (s_sipush dX1_settle_36 (by decide) (s_icmp_ge 72 dX1_settle_39 (by decide) (fun c_39 => ?_) (fun c_39 => ?_)))
      · skip
        have p1 : ∀ k, k ≠ 133 → k ≠ 134 → k ≠ 109 → v9 k = w k := fun k a b d => funext (fun j => hfr k j a b (fun x => d x.1))
        have hO9 : ∀ i j, 0 ≤ i → i < 20 → 0 ≤ j → j < 20 → 0 ≤ v9 (111 + Int.toNat i) j ∧ v9 (111 + Int.toNat i) j ≤ 99999 := fun i j a b a' b' => by rw [p1 (111 + Int.toNat i) (by omega) (by omega) (by omega)]; exact hO i j a b a' b'
        have hA9 : ∀ j, 0 ≤ j → j < 20 → 0 ≤ v9 132 j ∧ v9 132 j ≤ 2000000 := by rw [p1 132 (by decide) (by decide) (by decide)]; exact hA
        have hP9 : ∀ j, 0 ≤ j → j < 20 → 0 ≤ v9 133 j ∧ v9 133 j ≤ 2000000 := fun j a b => by rw [hP j a b]; exact hPb j a b
        refine s_aload_n dX1_settle_72 0 rfl rfl (n_invV' (as := []) dX1_settle_73 kv_X1_share ml_X1_43 (c_X_share  v9 hO9 hA9 hP9) (by decide) 109 cf_X1 rfl sh_109 rfl rfl rfl (Nat.le_of_ble_eq_true rfl) ?_)
        rintro r_73 w_73 ⟨rfl, hz_73⟩
        have hcm : ∀ j, 0 ≤ j → j < 20 → w_73 134 j = comesS (w 132) P (fun i j => w (111 + Int.toNat i) j) j := fun j a b => by rw [hz_73, fillV ⟨a, b⟩]; exact comesS_congr (fun i _ _ => by rw [p1 132 (by decide) (by decide) (by decide)]) hP (fun i j a b => by show v9 (111 + Int.toNat i) j = _; rw [p1 (111 + Int.toNat i) (by omega) (by omega) (by omega)]) j
        refine n_ret dX1_settle_76 hR rfl ?_
        have hF2 : (cleR (w 132) (usV (w 131) (w 20) (w 15 10) f) (fun i j => w (111 + Int.toNat i) j) 300 (w 132) 0) = (P, i) := by
          rw [← hG, hF]
          split
          · rfl
          · rename_i hne
            first
            | (exfalso; omega)
            | (rw [show (300 - i).toNat = 0 by omega]; rfl)
        refine ⟨rfl, ?_, ?_, ?_⟩
        · intro k j a b d
          rw [hz_73, fillN b]; exact hfr k j a b d
        · intro j a b
          rw [hF2]
          refine ⟨?_, hcm j a b⟩
          rw [hz_73, fillN (by decide)]; exact hP j a b
        · rw [hF2, hz_73, fillN (by decide)]; exact hr
      · skip
        refine s_iload_n dX1_settle_42 2 rfl (s_if_eq 72 dX1_settle_43 (by decide) (fun c_43 => ?_) (fun c_43 => ?_))
        · skip
          have p1 : ∀ k, k ≠ 133 → k ≠ 134 → k ≠ 109 → v9 k = w k := fun k a b d => funext (fun j => hfr k j a b (fun x => d x.1))
          have hO9 : ∀ i j, 0 ≤ i → i < 20 → 0 ≤ j → j < 20 → 0 ≤ v9 (111 + Int.toNat i) j ∧ v9 (111 + Int.toNat i) j ≤ 99999 := fun i j a b a' b' => by rw [p1 (111 + Int.toNat i) (by omega) (by omega) (by omega)]; exact hO i j a b a' b'
          have hA9 : ∀ j, 0 ≤ j → j < 20 → 0 ≤ v9 132 j ∧ v9 132 j ≤ 2000000 := by rw [p1 132 (by decide) (by decide) (by decide)]; exact hA
          have hP9 : ∀ j, 0 ≤ j → j < 20 → 0 ≤ v9 133 j ∧ v9 133 j ≤ 2000000 := fun j a b => by rw [hP j a b]; exact hPb j a b
          refine s_aload_n dX1_settle_72 0 rfl rfl (n_invV' (as := []) dX1_settle_73 kv_X1_share ml_X1_43 (c_X_share  v9 hO9 hA9 hP9) (by decide) 109 cf_X1 rfl sh_109 rfl rfl rfl (Nat.le_of_ble_eq_true rfl) ?_)
          rintro r_73 w_73 ⟨rfl, hz_73⟩
          have hcm : ∀ j, 0 ≤ j → j < 20 → w_73 134 j = comesS (w 132) P (fun i j => w (111 + Int.toNat i) j) j := fun j a b => by rw [hz_73, fillV ⟨a, b⟩]; exact comesS_congr (fun i _ _ => by rw [p1 132 (by decide) (by decide) (by decide)]) hP (fun i j a b => by show v9 (111 + Int.toNat i) j = _; rw [p1 (111 + Int.toNat i) (by omega) (by omega) (by omega)]) j
          refine n_ret dX1_settle_76 hR rfl ?_
          have hF2 : (cleR (w 132) (usV (w 131) (w 20) (w 15 10) f) (fun i j => w (111 + Int.toNat i) j) 300 (w 132) 0) = (P, i) := by
            rw [← hG, hF]
            split
            · rfl
            · rename_i hne
              first
              | (exfalso; omega)
              | (rw [show (300 - i).toNat = 0 by omega]; rfl)
          refine ⟨rfl, ?_, ?_, ?_⟩
          · intro k j a b d
            rw [hz_73, fillN b]; exact hfr k j a b d
          · intro j a b
            rw [hF2]
            refine ⟨?_, hcm j a b⟩
            rw [hz_73, fillN (by decide)]; exact hP j a b
          · rw [hF2, hz_73, fillN (by decide)]; exact hr
        · skip
          have p1 : ∀ k, k ≠ 133 → k ≠ 134 → k ≠ 109 → v9 k = w k := fun k a b d => funext (fun j => hfr k j a b (fun x => d x.1))
          have hO9 : ∀ i j, 0 ≤ i → i < 20 → 0 ≤ j → j < 20 → 0 ≤ v9 (111 + Int.toNat i) j ∧ v9 (111 + Int.toNat i) j ≤ 99999 := fun i j a b a' b' => by rw [p1 (111 + Int.toNat i) (by omega) (by omega) (by omega)]; exact hO i j a b a' b'
          have hA9 : ∀ j, 0 ≤ j → j < 20 → 0 ≤ v9 132 j ∧ v9 132 j ≤ 2000000 := by rw [p1 132 (by decide) (by decide) (by decide)]; exact hA
          have hP9 : ∀ j, 0 ≤ j → j < 20 → 0 ≤ v9 133 j ∧ v9 133 j ≤ 2000000 := fun j a b => by rw [hP j a b]; exact hPb j a b
          refine s_aload_n dX1_settle_46 0 rfl rfl (n_invV' (as := []) dX1_settle_47 kv_X1_share ml_X1_43 (c_X_share  v9 hO9 hA9 hP9) (by decide) 109 cf_X1 rfl sh_109 rfl rfl rfl (Nat.le_of_ble_eq_true rfl) ?_)
          rintro r_47 w_47 ⟨rfl, hz_47⟩
          have hcm : ∀ j, 0 ≤ j → j < 20 → w_47 134 j = comesS (w 132) P (fun i j => w (111 + Int.toNat i) j) j := fun j a b => by rw [hz_47, fillV ⟨a, b⟩]; exact comesS_congr (fun i _ _ => by rw [p1 132 (by decide) (by decide) (by decide)]) hP (fun i j a b => by show v9 (111 + Int.toNat i) j = _; rw [p1 (111 + Int.toNat i) (by omega) (by omega) (by omega)]) j
          have p2 : ∀ k, k ≠ 133 → k ≠ 134 → k ≠ 109 → w_47 k = w k := fun k a b d => by rw [hz_47, fillN b]; exact p1 k a b d
          have p3 : w_47 133 = v9 133 := by rw [hz_47, fillN (by decide)]
          have hh9 : 0 ≤ w_47 15 10 ∧ w_47 15 10 ≤ 16 := by rw [p2 15 (by decide) (by decide) (by decide)]; exact h
          have ht9 : ∀ j, 0 ≤ j → j < 4 → 0 ≤ w_47 131 j ∧ w_47 131 j ≤ 99999 := by rw [p2 131 (by decide) (by decide) (by decide)]; exact ht
          have hc9 : ∀ j, 0 ≤ j → j < w_47 15 10 → w_47 20 j ≤ 1000000000000 := by rw [p2 15 (by decide) (by decide) (by decide), p2 20 (by decide) (by decide) (by decide)]; exact hc
          have hB9 : ∀ j, 0 ≤ j → j < 20 → 0 ≤ w_47 132 j ∧ w_47 132 j ≤ 2000000 := by rw [p2 132 (by decide) (by decide) (by decide)]; exact hA
          have hcb : ∀ j, 0 ≤ j → j < 20 → 0 ≤ comesS (w 132) P (fun i j => w (111 + Int.toNat i) j) j ∧ comesS (w 132) P (fun i j => w (111 + Int.toNat i) j) j ≤ 4000000000000 := fun j a b => comesS_bd (fun i a' b' => hO i j a' b' a b) hPb
          have hC9 : ∀ j, 0 ≤ j → j < 20 → 0 ≤ w_47 134 j ∧ w_47 134 j ≤ 4000000000000 := fun j a b => by rw [hcm j a b]; exact hcb j a b
          refine s_aload_n dX1_settle_50 0 rfl rfl (s_iload_n dX1_settle_51 1 rfl (n_invV' (as := [(0, f)]) dX1_settle_52 kv_X1_payAgain ml_X1_46 (c_X_payAgain f w_47 hf hh9 ht9 hc9 hB9 hC9) (by decide) 109 cf_X1 rfl sh_109 rfl rfl rfl (Nat.le_of_ble_eq_true rfl) ?_))
          rintro r_52 w_52 ⟨z_52, rfl, hz_52⟩
          show AtN _ _ ρ _ _ [(0, z_52)] w_52
          obtain ⟨g1, g2⟩ := hz_52
          rw [p2 132 (by decide) (by decide) (by decide), p2 131 (by decide) (by decide) (by decide), p2 20 (by decide) (by decide) (by decide), p2 15 (by decide) (by decide) (by decide)] at g1 g2
          have k1 : ∀ j, 0 ≤ j → j < 20 → w_52 133 j = (payN (w 132) (usV (w 131) (w 20) (w 15 10) f) (comesS (w 132) P (fun i j => w (111 + Int.toNat i) j))) j := fun j a b => by rw [g1, fillV ⟨a, b⟩]; exact payN_congr rfl rfl (hcm j a b)
          have k2 : z_52 = chB P (payN (w 132) (usV (w 131) (w 20) (w 15 10) f) (comesS (w 132) P (fun i j => w (111 + Int.toNat i) j))) 20 := by rw [g2, p3]; exact chB_congr 20 (fun j a b => hP j a (by omega)) (fun j a b => payN_congr rfl rfl (hcm j a (by omega)))
          have k3 : w_52 109 6 = i := by rw [g1, fillN (by decide), hz_47, fillN (by decide)]; exact hr
          have k4 : ∀ j, 0 ≤ j → j < 20 → 0 ≤ (payN (w 132) (usV (w 131) (w 20) (w 15 10) f) (comesS (w 132) P (fun i j => w (111 + Int.toNat i) j))) j ∧ (payN (w 132) (usV (w 131) (w 20) (w 15 10) f) (comesS (w 132) P (fun i j => w (111 + Int.toNat i) j))) j ≤ 2000000 := fun j a b => payN_bd (hA j a b) (usV_bd ht hc hf a b).2.1 (hcb j a b).1
          have k5 : ∀ k j, k ≠ 133 → k ≠ 134 → ¬ (k = 109 ∧ j = 6) → w_52 k j = w k j := fun k j a b d => by rw [g1, fillN a, hz_47, fillN b]; exact hfr k j a b d
          refine s_istore_n (ls' := [(0, (2, 109)), (1, (0, f)), (2, (0, z_52)), (3, (0, i))]) dX1_settle_55 (Nat.le_of_ble_eq_true rfl) rfl (s_aload_n dX1_settle_56 0 rfl rfl (s_dup dX1_settle_57 (show (2 : Nat) ≠ 1 by decide) (n_getf 109 6 0 dX1_settle_58 cf_X1 ff_X1_39 rfl sh_109 rfl (by decide) (v := (w_52 109 6)) rfl (s_iconst dX1_settle_61 (by decide) (n_add (z := ((w_52 109 6) + 1)) dX1_settle_62 (wr_id (by omega) (by omega)) (n_putf 109 6 6 dX1_settle_63 cf_X1 ff_X1_39 rfl rfl sh_109 rfl rfl rfl (s_iinc (z := (i + 1)) (ls' := [(0, (2, 109)), (1, (0, f)), (2, (0, z_52)), (3, (0, (i + 1)))]) dX1_settle_66 3 rfl (Nat.le_of_ble_eq_true rfl) (wr_id (by omega) (by omega)) rfl (s_goto 35 dX1_settle_69 (by decide) ?_))))))))
          exact ih z_52 (i + 1) (payN (w 132) (usV (w 131) (w 20) (w 15 10) f) (comesS (w 132) P (fun i j => w (111 + Int.toNat i) j))) (wu w_52 109 6 ((w_52 109 6) + 1)) (by omega) (by rw [k2]; exact chB_01 _) (fun j a b => by rw [wu_ne (by decide)]; exact k1 j a b) k4 (fun k j a b d => if e : k = 109 then (by subst e; rw [wu_at, if_neg (fun x => d ⟨rfl, x⟩)]; exact k5 _ j a b d) else (by rw [wu_ne e]; exact k5 k j a b d)) (by rw [wu_same, k3]) (by rw [hF, if_neg c_43, show (300 - i).toNat = (300 - (i + 1)).toNat + 1 by omega, cleR, k2]) (by omega)
  have L_4 : ∀ (fu : Nat) (i : Int) (v9 : Wd), 0 ≤ i ∧ i ≤ 20 → v9 = fillW w 133 (w 132) i → (20 - i).toNat < fu → AtN mX1_settle 4 ρ 4 [(0, (2, 109)), (1, (0, f)), (2, (0, 1)), (3, (0, i))] [] v9 := by
    intro fu
    induction fu with
    | zero => intro i v9 hi hw hm; exact absurd hm (Nat.not_lt_zero _)
    | succ fu ih =>
      intro i v9 hi hw hm
      refine s_iload_n dX1_settle_4 3 rfl (s_bipush dX1_settle_5 (by decide) (s_icmp_ge 28 dX1_settle_7 (by decide) (fun c_7 => ?_) (fun c_7 => ?_)))
      · skip
        have e9 : v9 = fillW w 133 (w 132) 20 := by rw [show i = 20 by omega] at hw; exact hw
        refine s_aload_n dX1_settle_28 0 rfl rfl (s_iconst dX1_settle_29 (by decide) (n_putf 109 6 6 dX1_settle_30 cf_X1 ff_X1_39 rfl rfl sh_109 rfl rfl rfl (s_iconst dX1_settle_33 (by decide) (s_istore_n (ls' := [(0, (2, 109)), (1, (0, f)), (2, (0, 1)), (3, (0, 0))]) dX1_settle_34 (Nat.le_of_ble_eq_true rfl) rfl ?_))))
        exact L_35 _ 1 0 (w 132) (wu v9 109 6 0) (by omega) (Or.inr rfl) (fun j a b => by rw [wu_ne (by decide), e9]; exact fillV ⟨a, b⟩) hA (fun k j a b d => if e : k = 109 then (by subst e; rw [wu_at, if_neg (fun x => d ⟨rfl, x⟩), e9, fillN a]) else (by rw [wu_ne e, e9, fillN a])) (wu_same _ _ _ _) (by rw [hG, if_neg (show ¬ (1 : Int) = 0 by decide), show ((300 : Int) - 0).toNat = 300 from rfl]) (Nat.lt_succ_self _)
      · skip
        refine s_aload_n dX1_settle_10 0 rfl rfl (n_getc (q := 133) 109 4 143 dX1_settle_11 cf_X1 ff_X1_24 rfl sh_109 rfl (by decide) rfl (by decide) (s_iload_n dX1_settle_14 3 rfl (s_aload_n dX1_settle_15 0 rfl rfl (n_getc (q := 132) 109 3 142 dX1_settle_16 cf_X1 ff_X1_20 rfl sh_109 rfl (by decide) rfl (by decide) (s_iload_n dX1_settle_19 3 rfl (n_lald 132 dX1_settle_20 rfl sh_132 (by decide) ⟨(by omega), (by omega)⟩ (v := (v9 132 i)) rfl (s_lastore 133 dX1_settle_21 rfl sh_133 (by decide) ⟨(by omega), (by omega)⟩ (s_iinc (z := (i + 1)) (ls' := [(0, (2, 109)), (1, (0, f)), (2, (0, 1)), (3, (0, (i + 1)))]) dX1_settle_22 3 rfl (Nat.le_of_ble_eq_true rfl) (wr_id (by omega) (by omega)) rfl (s_goto 4 dX1_settle_25 (by decide) ?_)))))))))
        exact ih (i + 1) (wu v9 133 i (v9 132 i)) (by omega) (fillS hw hi.1 (by rw [hw]; rw [fillN (by decide)]) (fun _ _ _ => rfl)) (by omega)
  refine s_iconst dX1_settle_0 (by decide) (s_istore_n (ls' := [(0, (2, 109)), (1, (0, f)), (2, (0, 1))]) dX1_settle_1 (Nat.le_of_ble_eq_true rfl) rfl (s_iconst dX1_settle_2 (by decide) (s_istore_n (ls' := [(0, (2, 109)), (1, (0, f)), (2, (0, 1)), (3, (0, 0))]) dX1_settle_3 (Nat.le_of_ble_eq_true rfl) rfl ?_)))
  exact L_4 _ 0 w (by omega) fill0 (Nat.lt_succ_self _)
