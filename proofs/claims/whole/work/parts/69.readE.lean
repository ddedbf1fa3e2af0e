/-! THE CLASS READS AN E. -/
def OpQ (w : Wd) (b : Nat) (N : List Int) (K : Ky) (k : Int) (c S : List Int) (pt : Int) (z : Int) (w1 : Wd) : Prop := (z = 0 ∧ ∃ e : Int × Int, (pt = 1 → ∀ C, paP K C S = .inl e) ∧ (pt = 0 → ∀ C, unP K C S = .inl e) ∧ FrPf b w w1 ∧ w1 35 3 = e.1 ∧ w1 35 4 = e.2) ∨ (z = 1 ∧ (hdK K S = 1 ∨ (pt = 0 ∧ 263 ≤ hdK K S)) ∧ (pt = 1 → nuK K S ≠ 0) ∧ FrPg b w w1 ∧ StP w1 b N K k (c ++ [if hdK K S = 1 then 1000 + nuK K S else hdK K S]) S.tail)
theorem OpQ.no {w w1 : Wd} {b : Nat} {k : Int} {N c S : List Int} {K : Ky} {pt z : Int} (h : OpQ w b N K k c S pt z w1) (hz : z = 0) : ∃ e : Int × Int, (pt = 1 → ∀ C, paP K C S = .inl e) ∧ (pt = 0 → ∀ C, unP K C S = .inl e) ∧ FrPf b w w1 ∧ w1 35 3 = e.1 ∧ w1 35 4 = e.2 := by
  rcases h with h | h
  · exact h.2
  · omega
theorem OpQ.ok {w w1 : Wd} {b : Nat} {k : Int} {N c S : List Int} {K : Ky} {pt z : Int} (h : OpQ w b N K k c S pt z w1) (hz : z ≠ 0) : (hdK K S = 1 ∨ (pt = 0 ∧ 263 ≤ hdK K S)) ∧ (pt = 1 → nuK K S ≠ 0) ∧ FrPg b w w1 ∧ StP w1 b N K k (c ++ [if hdK K S = 1 then 1000 + nuK K S else hdK K S]) S.tail := by
  rcases h with h | h
  · omega
  · exact h.2

theorem wu_ne2 {w : Wd} {x y : Int} : wu (wu w 35 3 x) 35 4 y 35 3 = wu w 35 3 x 35 3 := by rw [wu_at, if_neg (by decide)]
set_option maxRecDepth 100000 in
set_option maxHeartbeats 1000000 in
theorem c_X_operand (pt : Int) {b : Nat} {k : Int} {N c S : List Int} {K : Ky} (w : Wd) (hb : IsSc b) (hS : StP w b N K k c S) (hK : KOK K) (hk : 0 ≤ k) (hp : pt = 0 ∨ pt = 1) : CallN 2 mX4_operand [(2, 35), (0, pt)] w (RQ (fun z w1 => OpQ w b N K k c S pt z w1)) := by
  refine CallN.intro (by decide +kernel) (Nat.le_of_ble_eq_true rfl) (fun ρ hR => ?_)
  show AtN mX4_operand 2 ρ 0 [(0, (2, 35)), (1, (0, pt))] [] w
  have hh := hS.hd
  have hl9 := hS.lt
  have hle := hd_le hK S
  have hnu := hd_nu hK (S := S)
  refine s_aload_n dX4_operand_0 0 rfl rfl (n_invV (as := []) dX4_operand_1 kv_X4_sign ml_X4_40 (c_X_sign w hb hS) (by decide) 35 cf_X4 rfl sh_35 rfl rfl rfl (Nat.le_of_ble_eq_true rfl) (s_istore_n (ls' := [(0, (2, 35)), (1, (0, pt)), (2, (0, (hdK K S)))]) dX4_operand_4 (Nat.le_of_ble_eq_true rfl) rfl (s_iload_n dX4_operand_5 2 rfl (s_iconst dX4_operand_6 (by decide) (s_icmp_ne 52 dX4_operand_7 (by decide) (fun c_7 => ?_) (fun c_7 => ?_))))))
  · skip
    refine s_iload_n dX4_operand_52 1 rfl (s_if_ne 69 dX4_operand_53 (by decide) (fun c_53 => ?_) (fun c_53 => ?_))
    · skip
      refine s_aload_n dX4_operand_69 0 rfl rfl (s_iconst dX4_operand_70 (by decide) (n_invV (as := [(0, 1)]) dX4_operand_71 kv_X4_refuse ml_X4_61 (c_X_refuse 1 w hb hS) (by decide) 35 cf_X4 rfl sh_35 rfl rfl rfl (Nat.le_of_ble_eq_true rfl) (n_zret dX4_operand_74 hR rfl (by first | exact Or.inl rfl | exact Or.inr rfl | exact bi_01 _ | omega) ?_)))
      refine ⟨_, rfl, Or.inl ⟨rfl, (1, plK K S), fun q C => ?_, fun q C => ?_, FrPf.ref hb, by rw [wu_ne2]; exact wu_same .., wu_same ..⟩⟩
      · first | (exfalso; omega) | (unfold paP flK; rw [if_neg (by omega)])
      · first | (exfalso; omega) | (unfold unP flK; rw [if_neg (by omega), if_neg (by omega)])
    · skip
      refine s_iload_n dX4_operand_56 2 rfl (s_sipush dX4_operand_57 (by decide) (s_sipush dX4_operand_60 (by decide) (n_invT (as := [(0, (hdK K S)), (0, 263), (0, 272)]) dX4_operand_63 kv_X11_within ml_X4_65 (c_within (hdK K S) 263 272 w) (by decide) rfl rfl (Nat.le_of_ble_eq_true rfl) (n_ifne_b 75 dX4_operand_66 (by decide) (fun c_66 => ?_) (fun c_66 => ?_)))))
      · skip
        refine s_aload_n dX4_operand_75 0 rfl rfl (n_getf 35 2 2 dX4_operand_76 cf_X4 ff_X4_18 rfl sh_35 rfl (by decide) (v := ((b : Nat) : Int)) hS.2.2.2.1 (s_iload_n dX4_operand_79 2 rfl (n_invV' (as := [(0, (hdK K S))]) dX4_operand_80 kv_X6_add ml_X4_76 (c_X_add (hdK K S) w hb hS (by omega)) (by decide) b cf_X6 rfl (shS hb) rfl rfl rfl (Nat.le_of_ble_eq_true rfl) ?_)))
        rintro r_80 w_a1 ⟨rfl, hf1, hS1⟩
        replace hf1 := (FrPg.rf).tr hf1
        have hl1 := hS1.lt
        refine s_aload_n dX4_operand_83 0 rfl rfl (s_dup dX4_operand_84 (show (2 : Nat) ≠ 1 by decide) (n_getf 35 1 0 dX4_operand_85 cf_X4 ff_X4_37 rfl sh_35 rfl (by decide) (v := (w_a1 35 1)) rfl (s_iconst dX4_operand_88 (by decide) (n_add (z := ((w_a1 35 1) + 1)) dX4_operand_89 (wr_id (by omega) (by omega)) (n_putf 35 1 1 dX4_operand_90 cf_X4 ff_X4_37 rfl rfl sh_35 rfl rfl rfl (s_iconst dX4_operand_93 (by decide) (n_zret dX4_operand_94 hR rfl (by first | exact Or.inl rfl | exact Or.inr rfl | exact bi_01 _ | omega) ?_)))))))
        refine ⟨_, rfl, Or.inr ⟨rfl, Or.inr ⟨by omega, by omega⟩, fun q => by omega, ((hf1).tr (FrPg.adv hb)), ?_⟩⟩
        rw [if_neg (by omega)]
        exact (StP.adv hb hS1 (by omega)).wk (by omega)
      · skip
        refine s_aload_n dX4_operand_69 0 rfl rfl (s_iconst dX4_operand_70 (by decide) (n_invV (as := [(0, 1)]) dX4_operand_71 kv_X4_refuse ml_X4_61 (c_X_refuse 1 w hb hS) (by decide) 35 cf_X4 rfl sh_35 rfl rfl rfl (Nat.le_of_ble_eq_true rfl) (n_zret dX4_operand_74 hR rfl (by first | exact Or.inl rfl | exact Or.inr rfl | exact bi_01 _ | omega) ?_)))
        refine ⟨_, rfl, Or.inl ⟨rfl, (1, plK K S), fun q C => ?_, fun q C => ?_, FrPf.ref hb, by rw [wu_ne2]; exact wu_same .., wu_same ..⟩⟩
        · first | (exfalso; omega) | (unfold paP flK; rw [if_neg (by omega)])
        · first | (exfalso; omega) | (unfold unP flK; rw [if_neg (by omega), if_neg (by omega)])
  · skip
    refine s_aload_n dX4_operand_10 0 rfl rfl (n_getc (q := 30) 35 0 40 dX4_operand_11 cf_X4 ff_X4_9 rfl sh_35 rfl (by decide) rfl (by decide) (n_getc (q := 33) 30 3 43 dX4_operand_14 cf_X8 ff_X4_95 rfl sh_30 rfl (by decide) rfl (by decide) (s_aload_n dX4_operand_17 0 rfl rfl (n_getf 35 1 0 dX4_operand_18 cf_X4 ff_X4_37 rfl sh_35 rfl (by decide) (v := (w 35 1)) rfl (n_iald 33 dX4_operand_21 rfl sh_33 (by decide) ⟨(by omega), (by omega)⟩ (v := (w 33 (w 35 1))) rfl ?_)))))
    rw [show w 33 (w 35 1) = nuK K S by omega]
    refine s_istore_n (ls' := [(0, (2, 35)), (1, (0, pt)), (2, (0, (hdK K S))), (3, (0, (nuK K S)))]) dX4_operand_22 (Nat.le_of_ble_eq_true rfl) rfl (s_iload_n dX4_operand_23 1 rfl (s_if_eq 37 dX4_operand_24 (by decide) (fun c_24 => ?_) (fun c_24 => ?_)))
    · skip
      refine s_aload_n dX4_operand_37 0 rfl rfl (n_getf 35 2 2 dX4_operand_38 cf_X4 ff_X4_18 rfl sh_35 rfl (by decide) (v := ((b : Nat) : Int)) hS.2.2.2.1 (s_sipush dX4_operand_41 (by decide) (s_iload_n dX4_operand_44 3 rfl (n_add (z := (1000 + (nuK K S))) dX4_operand_45 (wr_id (by omega) (by omega)) (n_invV' (as := [(0, (1000 + (nuK K S)))]) dX4_operand_46 kv_X6_add ml_X4_76 (c_X_add (1000 + (nuK K S)) w hb hS (by omega)) (by decide) b cf_X6 rfl (shS hb) rfl rfl rfl (Nat.le_of_ble_eq_true rfl) ?_)))))
      rintro r_46 w_a2 ⟨rfl, hf2, hS2⟩
      replace hf2 := (FrPg.rf).tr hf2
      have hl2 := hS2.lt
      refine s_goto 83 dX4_operand_49 (by decide) (s_aload_n dX4_operand_83 0 rfl rfl (s_dup dX4_operand_84 (show (2 : Nat) ≠ 1 by decide) (n_getf 35 1 0 dX4_operand_85 cf_X4 ff_X4_37 rfl sh_35 rfl (by decide) (v := (w_a2 35 1)) rfl (s_iconst dX4_operand_88 (by decide) (n_add (z := ((w_a2 35 1) + 1)) dX4_operand_89 (wr_id (by omega) (by omega)) (n_putf 35 1 1 dX4_operand_90 cf_X4 ff_X4_37 rfl rfl sh_35 rfl rfl rfl (s_iconst dX4_operand_93 (by decide) (n_zret dX4_operand_94 hR rfl (by first | exact Or.inl rfl | exact Or.inr rfl | exact bi_01 _ | omega) ?_))))))))
      refine ⟨_, rfl, Or.inr ⟨rfl, Or.inl (by omega), fun q => by omega, ((hf2).tr (FrPg.adv hb)), ?_⟩⟩
      rw [if_pos (by omega)]
      exact (StP.adv hb hS2 (by omega)).wk (by omega)
    · skip
      refine s_iload_n dX4_operand_27 3 rfl (s_if_ne 37 dX4_operand_28 (by decide) (fun c_28 => ?_) (fun c_28 => ?_))
      · skip
        refine s_aload_n dX4_operand_37 0 rfl rfl (n_getf 35 2 2 dX4_operand_38 cf_X4 ff_X4_18 rfl sh_35 rfl (by decide) (v := ((b : Nat) : Int)) hS.2.2.2.1 (s_sipush dX4_operand_41 (by decide) (s_iload_n dX4_operand_44 3 rfl (n_add (z := (1000 + (nuK K S))) dX4_operand_45 (wr_id (by omega) (by omega)) (n_invV' (as := [(0, (1000 + (nuK K S)))]) dX4_operand_46 kv_X6_add ml_X4_76 (c_X_add (1000 + (nuK K S)) w hb hS (by omega)) (by decide) b cf_X6 rfl (shS hb) rfl rfl rfl (Nat.le_of_ble_eq_true rfl) ?_)))))
        rintro r_46 w_a3 ⟨rfl, hf3, hS3⟩
        replace hf3 := (FrPg.rf).tr hf3
        have hl3 := hS3.lt
        refine s_goto 83 dX4_operand_49 (by decide) (s_aload_n dX4_operand_83 0 rfl rfl (s_dup dX4_operand_84 (show (2 : Nat) ≠ 1 by decide) (n_getf 35 1 0 dX4_operand_85 cf_X4 ff_X4_37 rfl sh_35 rfl (by decide) (v := (w_a3 35 1)) rfl (s_iconst dX4_operand_88 (by decide) (n_add (z := ((w_a3 35 1) + 1)) dX4_operand_89 (wr_id (by omega) (by omega)) (n_putf 35 1 1 dX4_operand_90 cf_X4 ff_X4_37 rfl rfl sh_35 rfl rfl rfl (s_iconst dX4_operand_93 (by decide) (n_zret dX4_operand_94 hR rfl (by first | exact Or.inl rfl | exact Or.inr rfl | exact bi_01 _ | omega) ?_))))))))
        refine ⟨_, rfl, Or.inr ⟨rfl, Or.inl (by omega), fun q => by omega, ((hf3).tr (FrPg.adv hb)), ?_⟩⟩
        rw [if_pos (by omega)]
        exact (StP.adv hb hS3 (by omega)).wk (by omega)
      · skip
        refine s_aload_n dX4_operand_31 0 rfl rfl (s_iconst dX4_operand_32 (by decide) (n_invV (as := [(0, 2)]) dX4_operand_33 kv_X4_refuse ml_X4_61 (c_X_refuse 2 w hb hS) (by decide) 35 cf_X4 rfl sh_35 rfl rfl rfl (Nat.le_of_ble_eq_true rfl) (n_zret dX4_operand_36 hR rfl (by first | exact Or.inl rfl | exact Or.inr rfl | exact bi_01 _ | omega) ?_)))
        refine ⟨_, rfl, Or.inl ⟨rfl, (2, plK K S), fun _ C => ?_, fun q => absurd q (by omega), FrPf.ref hb, by rw [wu_ne2]; exact wu_same .., wu_same ..⟩⟩
        unfold paP flK
        rw [if_pos (by omega), if_pos (by omega)]

/-- a U's step -/
def unc (K : Ky) (S : List Int) : Stq := if hdK K S = 1 then (0, nuK K S) else (hdK K S - 262, 0)
theorem unP_ok {K : Ky} {C : List Stq} {S : List Int} (h : hdK K S = 1 ∨ 263 ≤ hdK K S) : unP K C S = okR (C ++ [unc K S]) S.tail := by
  unfold unP unc
  by_cases q : hdK K S = 1
  · rw [if_pos q, if_pos q]
  · rw [if_neg q, if_neg q, if_pos (by omega)]
theorem paP_ok {K : Ky} {C : List Stq} {S : List Int} (h : hdK K S = 1) (h0 : nuK K S ≠ 0) : paP K C S = okR (C ++ [(15, nuK K S)]) S.tail := by
  unfold paP
  rw [if_pos h, if_neg h0]
theorem tr_unc {K : Ky} (hK : KOK K) {X : List Int} {C : List Stq} {S : List Int} (h : hdK K S = 1 ∨ 263 ≤ hdK K S) : X ++ trL C ++ [if hdK K S = 1 then 1000 + nuK K S else hdK K S] = X ++ trL (C ++ [unc K S]) := by
  rw [trL_app, List.append_assoc]
  congr 2
  have hl := hd_le hK S
  show _ = tr1 (unc K S) ++ []
  rw [List.append_nil]
  unfold unc
  by_cases q : hdK K S = 1
  · rw [if_pos q, if_pos q]; rfl
  · rw [if_neg q, if_neg q]
    unfold tr1
    rw [if_neg (by dsimp only; omega), if_pos (by dsimp only; omega)]
    congr 1
    omega
theorem tr_pa {X : List Int} {C : List Stq} {v : Int} : X ++ trL C ++ [1000 + v] ++ [47] = X ++ trL (C ++ [(15, v)]) := by
  rw [trL_app, List.append_assoc, List.append_assoc]
  rfl
theorem tr_1 {X : List Int} {C : List Stq} {x : Int} {p : Stq} (h : tr1 p = [x]) : X ++ trL C ++ [x] = X ++ trL (C ++ [p]) := by
  rw [trL_app, List.append_assoc, ← h]
  show _ = X ++ (trL C ++ (tr1 p ++ []))
  rw [List.append_nil]
theorem tr_pm {q : Int} (h : q = 43 ∨ q = 45) : tr1 (if q = 43 then 12 else 13, 0) = [q] := by
  rcases h with rfl | rfl <;> rfl
def opP (K : Ky) (p : Int) (C : List Stq) (S : List Int) : Rs := if p = 0 then unP K C S else if p = 42 then bnd (unP K C S) (fun D R => okR (D ++ [(14, 0)]) R) else paP K C S
def suT (K : Ky) (q : Int) (f2 : Nat) (D : List Stq) (R : List Int) : Rs := if q = 0 then suP K (R.length + 1) D R else suP K f2 (D ++ [(if q = 43 then 12 else 13, 0)]) R
def clH (K : Ky) (p q : Int) (f1 f2 : Nat) (C : List Stq) (S : List Int) : Rs := bnd (opP K p C S) (fun D R => bnd (prP K (if p = 0 then R.length + 1 else f1) D R) (suT K q f2))
theorem exP_cl (K : Ky) (f1 f2 : Nat) (C : List Stq) (S : List Int) : exP K C S = clH K 0 0 f1 f2 C S := by
  unfold exP tmP clH opP
  rw [if_pos rfl, bnd_as]
  rfl
theorem clH_f {K : Ky} {p q : Int} {f1 f2 : Nat} {C : List Stq} {S : List Int} {e : Int × Int} (h : opP K p C S = .inl e) : clH K p q f1 f2 C S = .inl e := by
  unfold clH
  rw [h]
  rfl
theorem clH_g {K : Ky} {p q : Int} {f1 f2 : Nat} {C D : List Stq} {S R : List Int} (h : opP K p C S = okR D R) : clH K p q f1 f2 C S = bnd (prP K (if p = 0 then R.length + 1 else f1) D R) (suT K q f2) := by
  unfold clH
  rw [h]
  rfl
theorem clH_m {K : Ky} {q : Int} {f f2 : Nat} {D : List Stq} {R : List Int} (h : hdK K R = 42 ∨ hdK K R = 47) : bnd (prP K (f + 1) D R) (suT K q f2) = clH K (hdK K R) q f f2 D R.tail := by
  rcases h with h | h
  · rw [h, prP, if_pos h, bnd_as]
    unfold clH opP
    rw [if_neg (by decide), if_pos rfl, bnd_as]
    rfl
  · rw [h, prP, if_neg (by omega), if_pos h, bnd_as]
    unfold clH opP
    rw [if_neg (by decide), if_neg (by decide)]
    rfl
theorem prP_no {K : Ky} {f : Nat} {D : List Stq} {R : List Int} (h : hdK K R ≠ 42 ∧ hdK K R ≠ 47) : prP K f D R = okR D R := by
  cases f with
  | zero => rfl
  | succ f => rw [prP, if_neg h.1, if_neg h.2]
theorem suT_0 {K : Ky} {f2 : Nat} {D : List Stq} {R : List Int} : suT K 0 f2 D R = suP K (R.length + 1) D R := rfl
theorem suT_q {K : Ky} {q : Int} {f2 : Nat} {D : List Stq} {R : List Int} (h : q ≠ 0) : suT K q f2 D R = suP K f2 (D ++ [(if q = 43 then 12 else 13, 0)]) R := if_neg h
theorem suP_pm {K : Ky} {f1 g : Nat} {D : List Stq} {R : List Int} (h : hdK K R = 43 ∨ hdK K R = 45) : suP K (g + 1) D R = clH K 0 (hdK K R) f1 g D R.tail := by
  have e : suT K (hdK K R) g = fun D R2 => suP K g (D ++ [(if hdK K R = 43 then 12 else 13, 0)]) R2 := funext fun D => funext fun R2 => suT_q (by omega)
  unfold clH opP
  rw [suP, if_pos h, if_pos rfl, e]
  unfold tmP
  rw [bnd_as]
  rfl
theorem suP_no {K : Ky} {f : Nat} {D : List Stq} {R : List Int} (h : hdK K R ≠ 43 ∧ hdK K R ≠ 45) : suP K f D R = okR D R := by
  cases f with
  | zero => rfl
  | succ f => rw [suP, if_neg (by omega)]

set_option maxRecDepth 100000 in
set_option maxHeartbeats 2000000 in
theorem c_X_expression {b : Nat} {k : Int} {N X0 : List Int} {K : Ky} {C0 : List Stq} {S0 : List Int} (w : Wd) (hb : IsSc b) (hS0 : StP w b N K k (X0 ++ trL C0) S0) (hK : KOK K) (hk : 0 ≤ k) (hn : S0.length < N.length) : CallN 3 mX4_expression [(2, 35)] w (RQ (fun z w1 => ReX w b N K k X0 (exP K C0 S0) z w1)) := by
  refine CallN.intro (by decide +kernel) (Nat.le_of_ble_eq_true rfl) (fun ρ hR => ?_)
  show AtN mX4_expression 3 ρ 0 [(0, (2, 35))] [] w
  have hl9 := hS0.lt
  have h600 := hS0.1.1
  have hN9 := hS0.1.2.1
  have L_12 : ∀ (fu : Nat) (p : Int) (q : Int) (left : Int) (v9 : Wd) (C : List Stq) (S : List Int) (kk : Int) (f1 : Nat) (f2 : Nat), p = 0 ∨ p = 42 ∨ p = 47 → q = 0 ∨ q = 43 ∨ q = 45 → (S.length : Int) < left → left ≤ 600 → FrPg b w v9 → StP v9 b N K kk (X0 ++ trL C) S → k ≤ kk → (p ≠ 0 → k + 1 ≤ kk) → (q ≠ 0 → k + 1 ≤ kk) → (p ≠ 0 → q ≠ 0 → k + 2 ≤ kk) → (p ≠ 0 → S.length < f1) → (q ≠ 0 → S.length < f2) → exP K C0 S0 = clH K p q f1 f2 C S → left.toNat < fu → AtN mX4_expression 3 ρ 12 [(0, (2, 35)), (1, (0, p)), (2, (0, q)), (3, (0, left))] [] v9 := by
    intro fu
    induction fu with
    | zero => intro p q left v9 C S kk f1 f2 hp hq hlf hl6 hf hS hk1 hk2 hk3 hk4 hf1 hf2 hX hm; exact absurd hm (Nat.not_lt_zero _)
    | succ fu ih =>
      intro p q left v9 C S kk f1 f2 hp hq hlf hl6 hf hS hk1 hk2 hk3 hk4 hf1 hf2 hX hm
      have hl9 := hS.lt
      have hsl := suf_len hS.2.1
      have h600 := hS.1.1
      have hN9 := hS.1.2.1
      rcases hp with hp9 | hp9 | hp9
      · subst hp9
        refine s_iload_n dX4_expression_12 3 rfl (s_if_le 140 dX4_expression_13 (by decide) (fun c_13 => ?_) (fun c_13 => ?_))
        · skip
          exfalso
          omega
        · skip
          refine s_aload_n dX4_expression_16 0 rfl rfl (s_iload_n dX4_expression_17 1 rfl (s_bipush dX4_expression_18 (by decide) (s_icmp_ne 27 dX4_expression_20 (by decide) (kf := fun c => absurd c (by decide)) (kt := fun _ => s_iconst dX4_expression_27 (by decide) (n_invV' (as := [(0, 0)]) dX4_expression_28 kv_X4_operand ml_X4_91 (c_X_operand 0 v9 hb hS hK (by omega) (by decide)) (by decide) 35 cf_X4 rfl sh_35 rfl rfl rfl (Nat.le_of_ble_eq_true rfl) ?_)))))
          rintro r_28 w_28 ⟨z_28, rfl, hz_28⟩
          show AtN _ _ ρ _ _ [(0, z_28)] w_28
          refine s_if_ne 36 dX4_expression_31 (by decide) (fun c_31 => ?_) (fun c_31 => ?_)
          · skip
            obtain ⟨hd9, hn9, hG9, hS9⟩ := hz_28.ok c_31
            have hl8 := hS9.lt
            have ht1 := hd_tail (K := K) (S := S) (by omega)
            rw [tr_unc hK (by omega)] at hS9
            refine s_iload_n dX4_expression_36 1 rfl (s_if_eq 48 dX4_expression_37 (by decide) (kf := fun c => absurd c (by decide)) (kt := fun _ => ?_))
            have hX2 : exP K C0 S0 = bnd (prP K (S.tail.length + 1) (C ++ [unc K S]) S.tail) (suT K q f2) := hX.trans (clH_g (by unfold opP; rw [if_pos rfl]; exact unP_ok (by omega)))
            refine s_aload_n dX4_expression_48 0 rfl rfl (n_invV (as := []) dX4_expression_49 kv_X4_sign ml_X4_40 (c_X_sign w_28 hb hS9) (by decide) 35 cf_X4 rfl sh_35 rfl rfl rfl (Nat.le_of_ble_eq_true rfl) (s_bipush dX4_expression_52 (by decide) (s_icmp_eq 66 dX4_expression_54 (by decide) (fun c_54 => ?_) (fun c_54 => ?_))))
            · skip
              refine s_aload_n dX4_expression_66 0 rfl rfl (n_invV (as := []) dX4_expression_67 kv_X4_sign ml_X4_40 (c_X_sign w_28 hb hS9) (by decide) 35 cf_X4 rfl sh_35 rfl rfl rfl (Nat.le_of_ble_eq_true rfl) (s_goto 74 dX4_expression_70 (by decide) (s_istore_n (ls' := [(0, (2, 35)), (1, (0, (hdK K S.tail))), (2, (0, q)), (3, (0, left))]) dX4_expression_74 (Nat.le_of_ble_eq_true rfl) rfl (s_iload_n dX4_expression_75 1 rfl (s_if_ne 124 dX4_expression_76 (by decide) (fun c_76 => ?_) (fun c_76 => ?_))))))
              · skip
                refine s_aload_n dX4_expression_124 0 rfl rfl (s_dup dX4_expression_125 (show (2 : Nat) ≠ 1 by decide) (n_getf 35 1 0 dX4_expression_126 cf_X4 ff_X4_37 rfl sh_35 rfl (by decide) (v := (w_28 35 1)) rfl (s_iconst dX4_expression_129 (by decide) (n_add (z := ((w_28 35 1) + 1)) dX4_expression_130 (wr_id (by omega) (by omega)) (n_putf 35 1 1 dX4_expression_131 cf_X4 ff_X4_37 rfl rfl sh_35 rfl rfl rfl (s_iinc (z := (left + (-1))) (ls' := [(0, (2, 35)), (1, (0, (hdK K S.tail))), (2, (0, q)), (3, (0, (left + (-1))))]) dX4_expression_134 3 rfl (Nat.le_of_ble_eq_true rfl) (wr_id (by omega) (by omega)) rfl (s_goto 12 dX4_expression_137 (by decide) ?_)))))))
                exact ih (hdK K S.tail) q (left + (-1)) (wu w_28 35 1 ((w_28 35 1) + 1)) (C ++ [unc K S]) S.tail.tail (kk + 1) S.tail.length f2 (by omega) (by omega) (by have ht2 := hd_tail (K := K) (S := S.tail) (by omega); omega) (by omega) (((hf.tr hG9)).tr (FrPg.adv hb)) (StP.adv hb hS9 (by omega)) (by omega) (by omega) (by omega) (by omega) (fun _ => (by have ht2 := hd_tail (K := K) (S := S.tail) (by omega); omega)) (fun _ => (by have ht2 := hd_tail (K := K) (S := S.tail) (by omega); omega)) (hX2.trans (clH_m (by omega))) (by omega)
              · skip
                exfalso
                omega
            · skip
              refine s_aload_n dX4_expression_57 0 rfl rfl (n_invV (as := []) dX4_expression_58 kv_X4_sign ml_X4_40 (c_X_sign w_28 hb hS9) (by decide) 35 cf_X4 rfl sh_35 rfl rfl rfl (Nat.le_of_ble_eq_true rfl) (s_bipush dX4_expression_61 (by decide) (s_icmp_ne 73 dX4_expression_63 (by decide) (fun c_63 => ?_) (fun c_63 => ?_))))
              · skip
                refine s_iconst dX4_expression_73 (by decide) (s_istore_n (ls' := [(0, (2, 35)), (1, (0, 0)), (2, (0, q)), (3, (0, left))]) dX4_expression_74 (Nat.le_of_ble_eq_true rfl) rfl (s_iload_n dX4_expression_75 1 rfl (s_if_ne 124 dX4_expression_76 (by decide) (kt := fun c => absurd c (by decide)) (kf := fun _ => s_iload_n dX4_expression_79 2 rfl (s_if_eq 91 dX4_expression_80 (by decide) (fun c_80 => ?_) (fun c_80 => ?_))))))
                · skip
                  have hq0 : q = 0 := by omega
                  have hX3 : exP K C0 S0 = suP K (S.tail.length + 1) (C ++ [unc K S]) S.tail := by rw [hX2, prP_no ⟨by omega, by omega⟩, hq0]; rfl
                  refine s_aload_n dX4_expression_91 0 rfl rfl (n_invV (as := []) dX4_expression_92 kv_X4_sign ml_X4_40 (c_X_sign w_28 hb hS9) (by decide) 35 cf_X4 rfl sh_35 rfl rfl rfl (Nat.le_of_ble_eq_true rfl) (s_bipush dX4_expression_95 (by decide) (s_icmp_eq 109 dX4_expression_97 (by decide) (fun c_97 => ?_) (fun c_97 => ?_))))
                  · skip
                    refine s_aload_n dX4_expression_109 0 rfl rfl (n_invV (as := []) dX4_expression_110 kv_X4_sign ml_X4_40 (c_X_sign w_28 hb hS9) (by decide) 35 cf_X4 rfl sh_35 rfl rfl rfl (Nat.le_of_ble_eq_true rfl) (s_goto 117 dX4_expression_113 (by decide) (s_istore_n (ls' := [(0, (2, 35)), (1, (0, 0)), (2, (0, (hdK K S.tail))), (3, (0, left))]) dX4_expression_117 (Nat.le_of_ble_eq_true rfl) rfl (s_iload_n dX4_expression_118 2 rfl (s_if_ne 124 dX4_expression_119 (by decide) (fun c_119 => ?_) (fun c_119 => ?_))))))
                    · skip
                      refine s_aload_n dX4_expression_124 0 rfl rfl (s_dup dX4_expression_125 (show (2 : Nat) ≠ 1 by decide) (n_getf 35 1 0 dX4_expression_126 cf_X4 ff_X4_37 rfl sh_35 rfl (by decide) (v := (w_28 35 1)) rfl (s_iconst dX4_expression_129 (by decide) (n_add (z := ((w_28 35 1) + 1)) dX4_expression_130 (wr_id (by omega) (by omega)) (n_putf 35 1 1 dX4_expression_131 cf_X4 ff_X4_37 rfl rfl sh_35 rfl rfl rfl (s_iinc (z := (left + (-1))) (ls' := [(0, (2, 35)), (1, (0, 0)), (2, (0, (hdK K S.tail))), (3, (0, (left + (-1))))]) dX4_expression_134 3 rfl (Nat.le_of_ble_eq_true rfl) (wr_id (by omega) (by omega)) rfl (s_goto 12 dX4_expression_137 (by decide) ?_)))))))
                      exact ih 0 (hdK K S.tail) (left + (-1)) (wu w_28 35 1 ((w_28 35 1) + 1)) (C ++ [unc K S]) S.tail.tail (kk + 1) 0 S.tail.length (by omega) (by omega) (by have ht2 := hd_tail (K := K) (S := S.tail) (by omega); omega) (by omega) (((hf.tr hG9)).tr (FrPg.adv hb)) (StP.adv hb hS9 (by omega)) (by omega) (by omega) (by omega) (by omega) (by omega) (fun _ => (by have ht2 := hd_tail (K := K) (S := S.tail) (by omega); omega)) (hX3.trans (suP_pm (by omega))) (by omega)
                    · skip
                      exfalso
                      omega
                  · skip
                    refine s_aload_n dX4_expression_100 0 rfl rfl (n_invV (as := []) dX4_expression_101 kv_X4_sign ml_X4_40 (c_X_sign w_28 hb hS9) (by decide) 35 cf_X4 rfl sh_35 rfl rfl rfl (Nat.le_of_ble_eq_true rfl) (s_bipush dX4_expression_104 (by decide) (s_icmp_ne 116 dX4_expression_106 (by decide) (fun c_106 => ?_) (fun c_106 => ?_))))
                    · skip
                      refine s_iconst dX4_expression_116 (by decide) (s_istore_n (ls' := [(0, (2, 35)), (1, (0, 0)), (2, (0, 0)), (3, (0, left))]) dX4_expression_117 (Nat.le_of_ble_eq_true rfl) rfl (s_iload_n dX4_expression_118 2 rfl (s_if_ne 124 dX4_expression_119 (by decide) (kt := fun c => absurd c (by decide)) (kf := fun _ => s_iconst dX4_expression_122 (by decide) (n_zret dX4_expression_123 hR rfl (by first | exact Or.inl rfl | exact Or.inr rfl | exact bi_01 _ | omega) ?_)))))
                      exact ⟨_, rfl, Or.inr ⟨rfl, _, _, hX3.trans (suP_no ⟨by omega, by omega⟩), (hf.tr hG9), hS9.wk (by omega)⟩⟩
                    · skip
                      refine s_aload_n dX4_expression_109 0 rfl rfl (n_invV (as := []) dX4_expression_110 kv_X4_sign ml_X4_40 (c_X_sign w_28 hb hS9) (by decide) 35 cf_X4 rfl sh_35 rfl rfl rfl (Nat.le_of_ble_eq_true rfl) (s_goto 117 dX4_expression_113 (by decide) (s_istore_n (ls' := [(0, (2, 35)), (1, (0, 0)), (2, (0, (hdK K S.tail))), (3, (0, left))]) dX4_expression_117 (Nat.le_of_ble_eq_true rfl) rfl (s_iload_n dX4_expression_118 2 rfl (s_if_ne 124 dX4_expression_119 (by decide) (fun c_119 => ?_) (fun c_119 => ?_))))))
                      · skip
                        refine s_aload_n dX4_expression_124 0 rfl rfl (s_dup dX4_expression_125 (show (2 : Nat) ≠ 1 by decide) (n_getf 35 1 0 dX4_expression_126 cf_X4 ff_X4_37 rfl sh_35 rfl (by decide) (v := (w_28 35 1)) rfl (s_iconst dX4_expression_129 (by decide) (n_add (z := ((w_28 35 1) + 1)) dX4_expression_130 (wr_id (by omega) (by omega)) (n_putf 35 1 1 dX4_expression_131 cf_X4 ff_X4_37 rfl rfl sh_35 rfl rfl rfl (s_iinc (z := (left + (-1))) (ls' := [(0, (2, 35)), (1, (0, 0)), (2, (0, (hdK K S.tail))), (3, (0, (left + (-1))))]) dX4_expression_134 3 rfl (Nat.le_of_ble_eq_true rfl) (wr_id (by omega) (by omega)) rfl (s_goto 12 dX4_expression_137 (by decide) ?_)))))))
                        exact ih 0 (hdK K S.tail) (left + (-1)) (wu w_28 35 1 ((w_28 35 1) + 1)) (C ++ [unc K S]) S.tail.tail (kk + 1) 0 S.tail.length (by omega) (by omega) (by have ht2 := hd_tail (K := K) (S := S.tail) (by omega); omega) (by omega) (((hf.tr hG9)).tr (FrPg.adv hb)) (StP.adv hb hS9 (by omega)) (by omega) (by omega) (by omega) (by omega) (by omega) (fun _ => (by have ht2 := hd_tail (K := K) (S := S.tail) (by omega); omega)) (hX3.trans (suP_pm (by omega))) (by omega)
                      · skip
                        exfalso
                        omega
                · skip
                  refine s_aload_n dX4_expression_83 0 rfl rfl (n_getf 35 2 2 dX4_expression_84 cf_X4 ff_X4_18 rfl sh_35 rfl (by decide) (v := ((b : Nat) : Int)) hS9.2.2.2.1 (s_iload_n dX4_expression_87 2 rfl (n_invV' (as := [(0, q)]) dX4_expression_88 kv_X6_add ml_X4_76 (c_X_add q w_28 hb hS9 (by omega)) (by decide) b cf_X6 rfl (shS hb) rfl rfl rfl (Nat.le_of_ble_eq_true rfl) ?_)))
                  rintro r_88 w_a1 ⟨rfl, hf1, hS1⟩
                  replace hf1 := ((hf.tr hG9)).tr hf1
                  have hl1 := hS1.lt
                  rw [tr_1 (tr_pm (by omega))] at hS1
                  obtain ⟨g2, hg2⟩ : ∃ g2, f2 = g2 + 1 := ⟨f2 - 1, by omega⟩
                  have hX3 : exP K C0 S0 = suP K (g2 + 1) ((C ++ [unc K S]) ++ [((if q = 43 then 12 else 13 : Int), (0 : Int))]) S.tail := by rw [hX2, prP_no ⟨by omega, by omega⟩, bnd_ok, suT_q (by omega), hg2]
                  refine s_aload_n dX4_expression_91 0 rfl rfl (n_invV (as := []) dX4_expression_92 kv_X4_sign ml_X4_40 (c_X_sign w_a1 hb hS1) (by decide) 35 cf_X4 rfl sh_35 rfl rfl rfl (Nat.le_of_ble_eq_true rfl) (s_bipush dX4_expression_95 (by decide) (s_icmp_eq 109 dX4_expression_97 (by decide) (fun c_97 => ?_) (fun c_97 => ?_))))
                  · skip
                    refine s_aload_n dX4_expression_109 0 rfl rfl (n_invV (as := []) dX4_expression_110 kv_X4_sign ml_X4_40 (c_X_sign w_a1 hb hS1) (by decide) 35 cf_X4 rfl sh_35 rfl rfl rfl (Nat.le_of_ble_eq_true rfl) (s_goto 117 dX4_expression_113 (by decide) (s_istore_n (ls' := [(0, (2, 35)), (1, (0, 0)), (2, (0, (hdK K S.tail))), (3, (0, left))]) dX4_expression_117 (Nat.le_of_ble_eq_true rfl) rfl (s_iload_n dX4_expression_118 2 rfl (s_if_ne 124 dX4_expression_119 (by decide) (fun c_119 => ?_) (fun c_119 => ?_))))))
                    · skip
                      refine s_aload_n dX4_expression_124 0 rfl rfl (s_dup dX4_expression_125 (show (2 : Nat) ≠ 1 by decide) (n_getf 35 1 0 dX4_expression_126 cf_X4 ff_X4_37 rfl sh_35 rfl (by decide) (v := (w_a1 35 1)) rfl (s_iconst dX4_expression_129 (by decide) (n_add (z := ((w_a1 35 1) + 1)) dX4_expression_130 (wr_id (by omega) (by omega)) (n_putf 35 1 1 dX4_expression_131 cf_X4 ff_X4_37 rfl rfl sh_35 rfl rfl rfl (s_iinc (z := (left + (-1))) (ls' := [(0, (2, 35)), (1, (0, 0)), (2, (0, (hdK K S.tail))), (3, (0, (left + (-1))))]) dX4_expression_134 3 rfl (Nat.le_of_ble_eq_true rfl) (wr_id (by omega) (by omega)) rfl (s_goto 12 dX4_expression_137 (by decide) ?_)))))))
                      exact ih 0 (hdK K S.tail) (left + (-1)) (wu w_a1 35 1 ((w_a1 35 1) + 1)) ((C ++ [unc K S]) ++ [((if q = 43 then 12 else 13 : Int), (0 : Int))]) S.tail.tail ((kk - 1) + 1) 0 g2 (by omega) (by omega) (by have ht2 := hd_tail (K := K) (S := S.tail) (by omega); omega) (by omega) ((hf1).tr (FrPg.adv hb)) (StP.adv hb hS1 (by omega)) (by omega) (by omega) (by omega) (by omega) (by omega) (fun _ => (by have ht2 := hd_tail (K := K) (S := S.tail) (by omega); omega)) (hX3.trans (suP_pm (by omega))) (by omega)
                    · skip
                      exfalso
                      omega
                  · skip
                    refine s_aload_n dX4_expression_100 0 rfl rfl (n_invV (as := []) dX4_expression_101 kv_X4_sign ml_X4_40 (c_X_sign w_a1 hb hS1) (by decide) 35 cf_X4 rfl sh_35 rfl rfl rfl (Nat.le_of_ble_eq_true rfl) (s_bipush dX4_expression_104 (by decide) (s_icmp_ne 116 dX4_expression_106 (by decide) (fun c_106 => ?_) (fun c_106 => ?_))))
                    · skip
                      refine s_iconst dX4_expression_116 (by decide) (s_istore_n (ls' := [(0, (2, 35)), (1, (0, 0)), (2, (0, 0)), (3, (0, left))]) dX4_expression_117 (Nat.le_of_ble_eq_true rfl) rfl (s_iload_n dX4_expression_118 2 rfl (s_if_ne 124 dX4_expression_119 (by decide) (kt := fun c => absurd c (by decide)) (kf := fun _ => s_iconst dX4_expression_122 (by decide) (n_zret dX4_expression_123 hR rfl (by first | exact Or.inl rfl | exact Or.inr rfl | exact bi_01 _ | omega) ?_)))))
                      exact ⟨_, rfl, Or.inr ⟨rfl, _, _, hX3.trans (suP_no ⟨by omega, by omega⟩), hf1, hS1.wk (by omega)⟩⟩
                    · skip
                      refine s_aload_n dX4_expression_109 0 rfl rfl (n_invV (as := []) dX4_expression_110 kv_X4_sign ml_X4_40 (c_X_sign w_a1 hb hS1) (by decide) 35 cf_X4 rfl sh_35 rfl rfl rfl (Nat.le_of_ble_eq_true rfl) (s_goto 117 dX4_expression_113 (by decide) (s_istore_n (ls' := [(0, (2, 35)), (1, (0, 0)), (2, (0, (hdK K S.tail))), (3, (0, left))]) dX4_expression_117 (Nat.le_of_ble_eq_true rfl) rfl (s_iload_n dX4_expression_118 2 rfl (s_if_ne 124 dX4_expression_119 (by decide) (fun c_119 => ?_) (fun c_119 => ?_))))))
                      · skip
                        refine s_aload_n dX4_expression_124 0 rfl rfl (s_dup dX4_expression_125 (show (2 : Nat) ≠ 1 by decide) (n_getf 35 1 0 dX4_expression_126 cf_X4 ff_X4_37 rfl sh_35 rfl (by decide) (v := (w_a1 35 1)) rfl (s_iconst dX4_expression_129 (by decide) (n_add (z := ((w_a1 35 1) + 1)) dX4_expression_130 (wr_id (by omega) (by omega)) (n_putf 35 1 1 dX4_expression_131 cf_X4 ff_X4_37 rfl rfl sh_35 rfl rfl rfl (s_iinc (z := (left + (-1))) (ls' := [(0, (2, 35)), (1, (0, 0)), (2, (0, (hdK K S.tail))), (3, (0, (left + (-1))))]) dX4_expression_134 3 rfl (Nat.le_of_ble_eq_true rfl) (wr_id (by omega) (by omega)) rfl (s_goto 12 dX4_expression_137 (by decide) ?_)))))))
                        exact ih 0 (hdK K S.tail) (left + (-1)) (wu w_a1 35 1 ((w_a1 35 1) + 1)) ((C ++ [unc K S]) ++ [((if q = 43 then 12 else 13 : Int), (0 : Int))]) S.tail.tail ((kk - 1) + 1) 0 g2 (by omega) (by omega) (by have ht2 := hd_tail (K := K) (S := S.tail) (by omega); omega) (by omega) ((hf1).tr (FrPg.adv hb)) (StP.adv hb hS1 (by omega)) (by omega) (by omega) (by omega) (by omega) (by omega) (fun _ => (by have ht2 := hd_tail (K := K) (S := S.tail) (by omega); omega)) (hX3.trans (suP_pm (by omega))) (by omega)
                      · skip
                        exfalso
                        omega
              · skip
                refine s_aload_n dX4_expression_66 0 rfl rfl (n_invV (as := []) dX4_expression_67 kv_X4_sign ml_X4_40 (c_X_sign w_28 hb hS9) (by decide) 35 cf_X4 rfl sh_35 rfl rfl rfl (Nat.le_of_ble_eq_true rfl) (s_goto 74 dX4_expression_70 (by decide) (s_istore_n (ls' := [(0, (2, 35)), (1, (0, (hdK K S.tail))), (2, (0, q)), (3, (0, left))]) dX4_expression_74 (Nat.le_of_ble_eq_true rfl) rfl (s_iload_n dX4_expression_75 1 rfl (s_if_ne 124 dX4_expression_76 (by decide) (fun c_76 => ?_) (fun c_76 => ?_))))))
                · skip
                  refine s_aload_n dX4_expression_124 0 rfl rfl (s_dup dX4_expression_125 (show (2 : Nat) ≠ 1 by decide) (n_getf 35 1 0 dX4_expression_126 cf_X4 ff_X4_37 rfl sh_35 rfl (by decide) (v := (w_28 35 1)) rfl (s_iconst dX4_expression_129 (by decide) (n_add (z := ((w_28 35 1) + 1)) dX4_expression_130 (wr_id (by omega) (by omega)) (n_putf 35 1 1 dX4_expression_131 cf_X4 ff_X4_37 rfl rfl sh_35 rfl rfl rfl (s_iinc (z := (left + (-1))) (ls' := [(0, (2, 35)), (1, (0, (hdK K S.tail))), (2, (0, q)), (3, (0, (left + (-1))))]) dX4_expression_134 3 rfl (Nat.le_of_ble_eq_true rfl) (wr_id (by omega) (by omega)) rfl (s_goto 12 dX4_expression_137 (by decide) ?_)))))))
                  exact ih (hdK K S.tail) q (left + (-1)) (wu w_28 35 1 ((w_28 35 1) + 1)) (C ++ [unc K S]) S.tail.tail (kk + 1) S.tail.length f2 (by omega) (by omega) (by have ht2 := hd_tail (K := K) (S := S.tail) (by omega); omega) (by omega) (((hf.tr hG9)).tr (FrPg.adv hb)) (StP.adv hb hS9 (by omega)) (by omega) (by omega) (by omega) (by omega) (fun _ => (by have ht2 := hd_tail (K := K) (S := S.tail) (by omega); omega)) (fun _ => (by have ht2 := hd_tail (K := K) (S := S.tail) (by omega); omega)) (hX2.trans (clH_m (by omega))) (by omega)
                · skip
                  exfalso
                  omega
          · skip
            obtain ⟨e9, he1, he2, hF9, h39, h49⟩ := hz_28.no (by omega)
            refine s_iconst dX4_expression_34 (by decide) (n_zret dX4_expression_35 hR rfl (by first | exact Or.inl rfl | exact Or.inr rfl | exact bi_01 _ | omega) ?_)
            exact ⟨_, rfl, Or.inl ⟨rfl, e9, hX.trans (clH_f (by unfold opP; rw [if_pos rfl]; exact he2 rfl C)), hf.tF hF9, h39, h49⟩⟩
      · subst hp9
        obtain ⟨g1, rfl⟩ : ∃ g1, f1 = g1 + 1 := ⟨f1 - 1, by omega⟩
        refine s_iload_n dX4_expression_12 3 rfl (s_if_le 140 dX4_expression_13 (by decide) (fun c_13 => ?_) (fun c_13 => ?_))
        · skip
          exfalso
          omega
        · skip
          refine s_aload_n dX4_expression_16 0 rfl rfl (s_iload_n dX4_expression_17 1 rfl (s_bipush dX4_expression_18 (by decide) (s_icmp_ne 27 dX4_expression_20 (by decide) (kf := fun c => absurd c (by decide)) (kt := fun _ => s_iconst dX4_expression_27 (by decide) (n_invV' (as := [(0, 0)]) dX4_expression_28 kv_X4_operand ml_X4_91 (c_X_operand 0 v9 hb hS hK (by omega) (by decide)) (by decide) 35 cf_X4 rfl sh_35 rfl rfl rfl (Nat.le_of_ble_eq_true rfl) ?_)))))
          rintro r_28 w_28 ⟨z_28, rfl, hz_28⟩
          show AtN _ _ ρ _ _ [(0, z_28)] w_28
          refine s_if_ne 36 dX4_expression_31 (by decide) (fun c_31 => ?_) (fun c_31 => ?_)
          · skip
            obtain ⟨hd9, hn9, hG9, hS9⟩ := hz_28.ok c_31
            have hl8 := hS9.lt
            have ht1 := hd_tail (K := K) (S := S) (by omega)
            rw [tr_unc hK (by omega)] at hS9
            refine s_iload_n dX4_expression_36 1 rfl (s_if_eq 48 dX4_expression_37 (by decide) (kt := fun c => absurd c (by decide)) (kf := fun _ => s_aload_n dX4_expression_40 0 rfl rfl (n_getf 35 2 2 dX4_expression_41 cf_X4 ff_X4_18 rfl sh_35 rfl (by decide) (v := ((b : Nat) : Int)) hS9.2.2.2.1 (s_iload_n dX4_expression_44 1 rfl (n_invV' (as := [(0, 42)]) dX4_expression_45 kv_X6_add ml_X4_76 (c_X_add 42 w_28 hb hS9 (by omega)) (by decide) b cf_X6 rfl (shS hb) rfl rfl rfl (Nat.le_of_ble_eq_true rfl) ?_)))))
            rintro r_45 w_a2 ⟨rfl, hf2, hS2⟩
            replace hf2 := ((hf.tr hG9)).tr hf2
            have hl2 := hS2.lt
            rw [tr_1 (p := ((14 : Int), (0 : Int))) rfl] at hS2
            have hX2 : exP K C0 S0 = bnd (prP K (g1 + 1) (C ++ [unc K S] ++ [((14 : Int), (0 : Int))]) S.tail) (suT K q f2) := hX.trans (clH_g (by unfold opP; rw [if_neg (by decide), if_pos rfl, unP_ok (by omega)]; rfl))
            refine s_aload_n dX4_expression_48 0 rfl rfl (n_invV (as := []) dX4_expression_49 kv_X4_sign ml_X4_40 (c_X_sign w_a2 hb hS2) (by decide) 35 cf_X4 rfl sh_35 rfl rfl rfl (Nat.le_of_ble_eq_true rfl) (s_bipush dX4_expression_52 (by decide) (s_icmp_eq 66 dX4_expression_54 (by decide) (fun c_54 => ?_) (fun c_54 => ?_))))
            · skip
              refine s_aload_n dX4_expression_66 0 rfl rfl (n_invV (as := []) dX4_expression_67 kv_X4_sign ml_X4_40 (c_X_sign w_a2 hb hS2) (by decide) 35 cf_X4 rfl sh_35 rfl rfl rfl (Nat.le_of_ble_eq_true rfl) (s_goto 74 dX4_expression_70 (by decide) (s_istore_n (ls' := [(0, (2, 35)), (1, (0, (hdK K S.tail))), (2, (0, q)), (3, (0, left))]) dX4_expression_74 (Nat.le_of_ble_eq_true rfl) rfl (s_iload_n dX4_expression_75 1 rfl (s_if_ne 124 dX4_expression_76 (by decide) (fun c_76 => ?_) (fun c_76 => ?_))))))
              · skip
                refine s_aload_n dX4_expression_124 0 rfl rfl (s_dup dX4_expression_125 (show (2 : Nat) ≠ 1 by decide) (n_getf 35 1 0 dX4_expression_126 cf_X4 ff_X4_37 rfl sh_35 rfl (by decide) (v := (w_a2 35 1)) rfl (s_iconst dX4_expression_129 (by decide) (n_add (z := ((w_a2 35 1) + 1)) dX4_expression_130 (wr_id (by omega) (by omega)) (n_putf 35 1 1 dX4_expression_131 cf_X4 ff_X4_37 rfl rfl sh_35 rfl rfl rfl (s_iinc (z := (left + (-1))) (ls' := [(0, (2, 35)), (1, (0, (hdK K S.tail))), (2, (0, q)), (3, (0, (left + (-1))))]) dX4_expression_134 3 rfl (Nat.le_of_ble_eq_true rfl) (wr_id (by omega) (by omega)) rfl (s_goto 12 dX4_expression_137 (by decide) ?_)))))))
                exact ih (hdK K S.tail) q (left + (-1)) (wu w_a2 35 1 ((w_a2 35 1) + 1)) (C ++ [unc K S] ++ [((14 : Int), (0 : Int))]) S.tail.tail ((kk - 1) + 1) g1 f2 (by omega) (by omega) (by have ht2 := hd_tail (K := K) (S := S.tail) (by omega); omega) (by omega) ((hf2).tr (FrPg.adv hb)) (StP.adv hb hS2 (by omega)) (by omega) (by omega) (by omega) (by omega) (fun _ => (by have ht2 := hd_tail (K := K) (S := S.tail) (by omega); omega)) (fun _ => (by have ht2 := hd_tail (K := K) (S := S.tail) (by omega); omega)) (hX2.trans (clH_m (by omega))) (by omega)
              · skip
                exfalso
                omega
            · skip
              refine s_aload_n dX4_expression_57 0 rfl rfl (n_invV (as := []) dX4_expression_58 kv_X4_sign ml_X4_40 (c_X_sign w_a2 hb hS2) (by decide) 35 cf_X4 rfl sh_35 rfl rfl rfl (Nat.le_of_ble_eq_true rfl) (s_bipush dX4_expression_61 (by decide) (s_icmp_ne 73 dX4_expression_63 (by decide) (fun c_63 => ?_) (fun c_63 => ?_))))
              · skip
                refine s_iconst dX4_expression_73 (by decide) (s_istore_n (ls' := [(0, (2, 35)), (1, (0, 0)), (2, (0, q)), (3, (0, left))]) dX4_expression_74 (Nat.le_of_ble_eq_true rfl) rfl (s_iload_n dX4_expression_75 1 rfl (s_if_ne 124 dX4_expression_76 (by decide) (kt := fun c => absurd c (by decide)) (kf := fun _ => s_iload_n dX4_expression_79 2 rfl (s_if_eq 91 dX4_expression_80 (by decide) (fun c_80 => ?_) (fun c_80 => ?_))))))
                · skip
                  have hq0 : q = 0 := by omega
                  have hX3 : exP K C0 S0 = suP K (S.tail.length + 1) (C ++ [unc K S] ++ [((14 : Int), (0 : Int))]) S.tail := by rw [hX2, prP_no ⟨by omega, by omega⟩, hq0]; rfl
                  refine s_aload_n dX4_expression_91 0 rfl rfl (n_invV (as := []) dX4_expression_92 kv_X4_sign ml_X4_40 (c_X_sign w_a2 hb hS2) (by decide) 35 cf_X4 rfl sh_35 rfl rfl rfl (Nat.le_of_ble_eq_true rfl) (s_bipush dX4_expression_95 (by decide) (s_icmp_eq 109 dX4_expression_97 (by decide) (fun c_97 => ?_) (fun c_97 => ?_))))
                  · skip
                    refine s_aload_n dX4_expression_109 0 rfl rfl (n_invV (as := []) dX4_expression_110 kv_X4_sign ml_X4_40 (c_X_sign w_a2 hb hS2) (by decide) 35 cf_X4 rfl sh_35 rfl rfl rfl (Nat.le_of_ble_eq_true rfl) (s_goto 117 dX4_expression_113 (by decide) (s_istore_n (ls' := [(0, (2, 35)), (1, (0, 0)), (2, (0, (hdK K S.tail))), (3, (0, left))]) dX4_expression_117 (Nat.le_of_ble_eq_true rfl) rfl (s_iload_n dX4_expression_118 2 rfl (s_if_ne 124 dX4_expression_119 (by decide) (fun c_119 => ?_) (fun c_119 => ?_))))))
                    · skip
                      refine s_aload_n dX4_expression_124 0 rfl rfl (s_dup dX4_expression_125 (show (2 : Nat) ≠ 1 by decide) (n_getf 35 1 0 dX4_expression_126 cf_X4 ff_X4_37 rfl sh_35 rfl (by decide) (v := (w_a2 35 1)) rfl (s_iconst dX4_expression_129 (by decide) (n_add (z := ((w_a2 35 1) + 1)) dX4_expression_130 (wr_id (by omega) (by omega)) (n_putf 35 1 1 dX4_expression_131 cf_X4 ff_X4_37 rfl rfl sh_35 rfl rfl rfl (s_iinc (z := (left + (-1))) (ls' := [(0, (2, 35)), (1, (0, 0)), (2, (0, (hdK K S.tail))), (3, (0, (left + (-1))))]) dX4_expression_134 3 rfl (Nat.le_of_ble_eq_true rfl) (wr_id (by omega) (by omega)) rfl (s_goto 12 dX4_expression_137 (by decide) ?_)))))))
                      exact ih 0 (hdK K S.tail) (left + (-1)) (wu w_a2 35 1 ((w_a2 35 1) + 1)) (C ++ [unc K S] ++ [((14 : Int), (0 : Int))]) S.tail.tail ((kk - 1) + 1) 0 S.tail.length (by omega) (by omega) (by have ht2 := hd_tail (K := K) (S := S.tail) (by omega); omega) (by omega) ((hf2).tr (FrPg.adv hb)) (StP.adv hb hS2 (by omega)) (by omega) (by omega) (by omega) (by omega) (by omega) (fun _ => (by have ht2 := hd_tail (K := K) (S := S.tail) (by omega); omega)) (hX3.trans (suP_pm (by omega))) (by omega)
                    · skip
                      exfalso
                      omega
                  · skip
                    refine s_aload_n dX4_expression_100 0 rfl rfl (n_invV (as := []) dX4_expression_101 kv_X4_sign ml_X4_40 (c_X_sign w_a2 hb hS2) (by decide) 35 cf_X4 rfl sh_35 rfl rfl rfl (Nat.le_of_ble_eq_true rfl) (s_bipush dX4_expression_104 (by decide) (s_icmp_ne 116 dX4_expression_106 (by decide) (fun c_106 => ?_) (fun c_106 => ?_))))
                    · skip
                      refine s_iconst dX4_expression_116 (by decide) (s_istore_n (ls' := [(0, (2, 35)), (1, (0, 0)), (2, (0, 0)), (3, (0, left))]) dX4_expression_117 (Nat.le_of_ble_eq_true rfl) rfl (s_iload_n dX4_expression_118 2 rfl (s_if_ne 124 dX4_expression_119 (by decide) (kt := fun c => absurd c (by decide)) (kf := fun _ => s_iconst dX4_expression_122 (by decide) (n_zret dX4_expression_123 hR rfl (by first | exact Or.inl rfl | exact Or.inr rfl | exact bi_01 _ | omega) ?_)))))
                      exact ⟨_, rfl, Or.inr ⟨rfl, _, _, hX3.trans (suP_no ⟨by omega, by omega⟩), hf2, hS2.wk (by omega)⟩⟩
                    · skip
                      refine s_aload_n dX4_expression_109 0 rfl rfl (n_invV (as := []) dX4_expression_110 kv_X4_sign ml_X4_40 (c_X_sign w_a2 hb hS2) (by decide) 35 cf_X4 rfl sh_35 rfl rfl rfl (Nat.le_of_ble_eq_true rfl) (s_goto 117 dX4_expression_113 (by decide) (s_istore_n (ls' := [(0, (2, 35)), (1, (0, 0)), (2, (0, (hdK K S.tail))), (3, (0, left))]) dX4_expression_117 (Nat.le_of_ble_eq_true rfl) rfl (s_iload_n dX4_expression_118 2 rfl (s_if_ne 124 dX4_expression_119 (by decide) (fun c_119 => ?_) (fun c_119 => ?_))))))
                      · skip
                        refine s_aload_n dX4_expression_124 0 rfl rfl (s_dup dX4_expression_125 (show (2 : Nat) ≠ 1 by decide) (n_getf 35 1 0 dX4_expression_126 cf_X4 ff_X4_37 rfl sh_35 rfl (by decide) (v := (w_a2 35 1)) rfl (s_iconst dX4_expression_129 (by decide) (n_add (z := ((w_a2 35 1) + 1)) dX4_expression_130 (wr_id (by omega) (by omega)) (n_putf 35 1 1 dX4_expression_131 cf_X4 ff_X4_37 rfl rfl sh_35 rfl rfl rfl (s_iinc (z := (left + (-1))) (ls' := [(0, (2, 35)), (1, (0, 0)), (2, (0, (hdK K S.tail))), (3, (0, (left + (-1))))]) dX4_expression_134 3 rfl (Nat.le_of_ble_eq_true rfl) (wr_id (by omega) (by omega)) rfl (s_goto 12 dX4_expression_137 (by decide) ?_)))))))
                        exact ih 0 (hdK K S.tail) (left + (-1)) (wu w_a2 35 1 ((w_a2 35 1) + 1)) (C ++ [unc K S] ++ [((14 : Int), (0 : Int))]) S.tail.tail ((kk - 1) + 1) 0 S.tail.length (by omega) (by omega) (by have ht2 := hd_tail (K := K) (S := S.tail) (by omega); omega) (by omega) ((hf2).tr (FrPg.adv hb)) (StP.adv hb hS2 (by omega)) (by omega) (by omega) (by omega) (by omega) (by omega) (fun _ => (by have ht2 := hd_tail (K := K) (S := S.tail) (by omega); omega)) (hX3.trans (suP_pm (by omega))) (by omega)
                      · skip
                        exfalso
                        omega
                · skip
                  refine s_aload_n dX4_expression_83 0 rfl rfl (n_getf 35 2 2 dX4_expression_84 cf_X4 ff_X4_18 rfl sh_35 rfl (by decide) (v := ((b : Nat) : Int)) hS2.2.2.2.1 (s_iload_n dX4_expression_87 2 rfl (n_invV' (as := [(0, q)]) dX4_expression_88 kv_X6_add ml_X4_76 (c_X_add q w_a2 hb hS2 (by omega)) (by decide) b cf_X6 rfl (shS hb) rfl rfl rfl (Nat.le_of_ble_eq_true rfl) ?_)))
                  rintro r_88 w_a3 ⟨rfl, hf3, hS3⟩
                  replace hf3 := (hf2).tr hf3
                  have hl3 := hS3.lt
                  rw [tr_1 (tr_pm (by omega))] at hS3
                  obtain ⟨g2, hg2⟩ : ∃ g2, f2 = g2 + 1 := ⟨f2 - 1, by omega⟩
                  have hX3 : exP K C0 S0 = suP K (g2 + 1) ((C ++ [unc K S] ++ [((14 : Int), (0 : Int))]) ++ [((if q = 43 then 12 else 13 : Int), (0 : Int))]) S.tail := by rw [hX2, prP_no ⟨by omega, by omega⟩, bnd_ok, suT_q (by omega), hg2]
                  refine s_aload_n dX4_expression_91 0 rfl rfl (n_invV (as := []) dX4_expression_92 kv_X4_sign ml_X4_40 (c_X_sign w_a3 hb hS3) (by decide) 35 cf_X4 rfl sh_35 rfl rfl rfl (Nat.le_of_ble_eq_true rfl) (s_bipush dX4_expression_95 (by decide) (s_icmp_eq 109 dX4_expression_97 (by decide) (fun c_97 => ?_) (fun c_97 => ?_))))
                  · skip
                    refine s_aload_n dX4_expression_109 0 rfl rfl (n_invV (as := []) dX4_expression_110 kv_X4_sign ml_X4_40 (c_X_sign w_a3 hb hS3) (by decide) 35 cf_X4 rfl sh_35 rfl rfl rfl (Nat.le_of_ble_eq_true rfl) (s_goto 117 dX4_expression_113 (by decide) (s_istore_n (ls' := [(0, (2, 35)), (1, (0, 0)), (2, (0, (hdK K S.tail))), (3, (0, left))]) dX4_expression_117 (Nat.le_of_ble_eq_true rfl) rfl (s_iload_n dX4_expression_118 2 rfl (s_if_ne 124 dX4_expression_119 (by decide) (fun c_119 => ?_) (fun c_119 => ?_))))))
                    · skip
                      refine s_aload_n dX4_expression_124 0 rfl rfl (s_dup dX4_expression_125 (show (2 : Nat) ≠ 1 by decide) (n_getf 35 1 0 dX4_expression_126 cf_X4 ff_X4_37 rfl sh_35 rfl (by decide) (v := (w_a3 35 1)) rfl (s_iconst dX4_expression_129 (by decide) (n_add (z := ((w_a3 35 1) + 1)) dX4_expression_130 (wr_id (by omega) (by omega)) (n_putf 35 1 1 dX4_expression_131 cf_X4 ff_X4_37 rfl rfl sh_35 rfl rfl rfl (s_iinc (z := (left + (-1))) (ls' := [(0, (2, 35)), (1, (0, 0)), (2, (0, (hdK K S.tail))), (3, (0, (left + (-1))))]) dX4_expression_134 3 rfl (Nat.le_of_ble_eq_true rfl) (wr_id (by omega) (by omega)) rfl (s_goto 12 dX4_expression_137 (by decide) ?_)))))))
                      exact ih 0 (hdK K S.tail) (left + (-1)) (wu w_a3 35 1 ((w_a3 35 1) + 1)) ((C ++ [unc K S] ++ [((14 : Int), (0 : Int))]) ++ [((if q = 43 then 12 else 13 : Int), (0 : Int))]) S.tail.tail (((kk - 1) - 1) + 1) 0 g2 (by omega) (by omega) (by have ht2 := hd_tail (K := K) (S := S.tail) (by omega); omega) (by omega) ((hf3).tr (FrPg.adv hb)) (StP.adv hb hS3 (by omega)) (by omega) (by omega) (by omega) (by omega) (by omega) (fun _ => (by have ht2 := hd_tail (K := K) (S := S.tail) (by omega); omega)) (hX3.trans (suP_pm (by omega))) (by omega)
                    · skip
                      exfalso
                      omega
                  · skip
                    refine s_aload_n dX4_expression_100 0 rfl rfl (n_invV (as := []) dX4_expression_101 kv_X4_sign ml_X4_40 (c_X_sign w_a3 hb hS3) (by decide) 35 cf_X4 rfl sh_35 rfl rfl rfl (Nat.le_of_ble_eq_true rfl) (s_bipush dX4_expression_104 (by decide) (s_icmp_ne 116 dX4_expression_106 (by decide) (fun c_106 => ?_) (fun c_106 => ?_))))
                    · skip
                      refine s_iconst dX4_expression_116 (by decide) (s_istore_n (ls' := [(0, (2, 35)), (1, (0, 0)), (2, (0, 0)), (3, (0, left))]) dX4_expression_117 (Nat.le_of_ble_eq_true rfl) rfl (s_iload_n dX4_expression_118 2 rfl (s_if_ne 124 dX4_expression_119 (by decide) (kt := fun c => absurd c (by decide)) (kf := fun _ => s_iconst dX4_expression_122 (by decide) (n_zret dX4_expression_123 hR rfl (by first | exact Or.inl rfl | exact Or.inr rfl | exact bi_01 _ | omega) ?_)))))
                      exact ⟨_, rfl, Or.inr ⟨rfl, _, _, hX3.trans (suP_no ⟨by omega, by omega⟩), hf3, hS3.wk (by omega)⟩⟩
                    · skip
                      refine s_aload_n dX4_expression_109 0 rfl rfl (n_invV (as := []) dX4_expression_110 kv_X4_sign ml_X4_40 (c_X_sign w_a3 hb hS3) (by decide) 35 cf_X4 rfl sh_35 rfl rfl rfl (Nat.le_of_ble_eq_true rfl) (s_goto 117 dX4_expression_113 (by decide) (s_istore_n (ls' := [(0, (2, 35)), (1, (0, 0)), (2, (0, (hdK K S.tail))), (3, (0, left))]) dX4_expression_117 (Nat.le_of_ble_eq_true rfl) rfl (s_iload_n dX4_expression_118 2 rfl (s_if_ne 124 dX4_expression_119 (by decide) (fun c_119 => ?_) (fun c_119 => ?_))))))
                      · skip
                        refine s_aload_n dX4_expression_124 0 rfl rfl (s_dup dX4_expression_125 (show (2 : Nat) ≠ 1 by decide) (n_getf 35 1 0 dX4_expression_126 cf_X4 ff_X4_37 rfl sh_35 rfl (by decide) (v := (w_a3 35 1)) rfl (s_iconst dX4_expression_129 (by decide) (n_add (z := ((w_a3 35 1) + 1)) dX4_expression_130 (wr_id (by omega) (by omega)) (n_putf 35 1 1 dX4_expression_131 cf_X4 ff_X4_37 rfl rfl sh_35 rfl rfl rfl (s_iinc (z := (left + (-1))) (ls' := [(0, (2, 35)), (1, (0, 0)), (2, (0, (hdK K S.tail))), (3, (0, (left + (-1))))]) dX4_expression_134 3 rfl (Nat.le_of_ble_eq_true rfl) (wr_id (by omega) (by omega)) rfl (s_goto 12 dX4_expression_137 (by decide) ?_)))))))
                        exact ih 0 (hdK K S.tail) (left + (-1)) (wu w_a3 35 1 ((w_a3 35 1) + 1)) ((C ++ [unc K S] ++ [((14 : Int), (0 : Int))]) ++ [((if q = 43 then 12 else 13 : Int), (0 : Int))]) S.tail.tail (((kk - 1) - 1) + 1) 0 g2 (by omega) (by omega) (by have ht2 := hd_tail (K := K) (S := S.tail) (by omega); omega) (by omega) ((hf3).tr (FrPg.adv hb)) (StP.adv hb hS3 (by omega)) (by omega) (by omega) (by omega) (by omega) (by omega) (fun _ => (by have ht2 := hd_tail (K := K) (S := S.tail) (by omega); omega)) (hX3.trans (suP_pm (by omega))) (by omega)
                      · skip
                        exfalso
                        omega
              · skip
                refine s_aload_n dX4_expression_66 0 rfl rfl (n_invV (as := []) dX4_expression_67 kv_X4_sign ml_X4_40 (c_X_sign w_a2 hb hS2) (by decide) 35 cf_X4 rfl sh_35 rfl rfl rfl (Nat.le_of_ble_eq_true rfl) (s_goto 74 dX4_expression_70 (by decide) (s_istore_n (ls' := [(0, (2, 35)), (1, (0, (hdK K S.tail))), (2, (0, q)), (3, (0, left))]) dX4_expression_74 (Nat.le_of_ble_eq_true rfl) rfl (s_iload_n dX4_expression_75 1 rfl (s_if_ne 124 dX4_expression_76 (by decide) (fun c_76 => ?_) (fun c_76 => ?_))))))
                · skip
                  refine s_aload_n dX4_expression_124 0 rfl rfl (s_dup dX4_expression_125 (show (2 : Nat) ≠ 1 by decide) (n_getf 35 1 0 dX4_expression_126 cf_X4 ff_X4_37 rfl sh_35 rfl (by decide) (v := (w_a2 35 1)) rfl (s_iconst dX4_expression_129 (by decide) (n_add (z := ((w_a2 35 1) + 1)) dX4_expression_130 (wr_id (by omega) (by omega)) (n_putf 35 1 1 dX4_expression_131 cf_X4 ff_X4_37 rfl rfl sh_35 rfl rfl rfl (s_iinc (z := (left + (-1))) (ls' := [(0, (2, 35)), (1, (0, (hdK K S.tail))), (2, (0, q)), (3, (0, (left + (-1))))]) dX4_expression_134 3 rfl (Nat.le_of_ble_eq_true rfl) (wr_id (by omega) (by omega)) rfl (s_goto 12 dX4_expression_137 (by decide) ?_)))))))
                  exact ih (hdK K S.tail) q (left + (-1)) (wu w_a2 35 1 ((w_a2 35 1) + 1)) (C ++ [unc K S] ++ [((14 : Int), (0 : Int))]) S.tail.tail ((kk - 1) + 1) g1 f2 (by omega) (by omega) (by have ht2 := hd_tail (K := K) (S := S.tail) (by omega); omega) (by omega) ((hf2).tr (FrPg.adv hb)) (StP.adv hb hS2 (by omega)) (by omega) (by omega) (by omega) (by omega) (fun _ => (by have ht2 := hd_tail (K := K) (S := S.tail) (by omega); omega)) (fun _ => (by have ht2 := hd_tail (K := K) (S := S.tail) (by omega); omega)) (hX2.trans (clH_m (by omega))) (by omega)
                · skip
                  exfalso
                  omega
          · skip
            obtain ⟨e9, he1, he2, hF9, h39, h49⟩ := hz_28.no (by omega)
            refine s_iconst dX4_expression_34 (by decide) (n_zret dX4_expression_35 hR rfl (by first | exact Or.inl rfl | exact Or.inr rfl | exact bi_01 _ | omega) ?_)
            exact ⟨_, rfl, Or.inl ⟨rfl, e9, hX.trans (clH_f (by unfold opP; rw [if_neg (by decide), if_pos rfl, he2 rfl C]; rfl)), hf.tF hF9, h39, h49⟩⟩
      · subst hp9
        obtain ⟨g1, rfl⟩ : ∃ g1, f1 = g1 + 1 := ⟨f1 - 1, by omega⟩
        refine s_iload_n dX4_expression_12 3 rfl (s_if_le 140 dX4_expression_13 (by decide) (fun c_13 => ?_) (fun c_13 => ?_))
        · skip
          exfalso
          omega
        · skip
          refine s_aload_n dX4_expression_16 0 rfl rfl (s_iload_n dX4_expression_17 1 rfl (s_bipush dX4_expression_18 (by decide) (s_icmp_ne 27 dX4_expression_20 (by decide) (kt := fun c => absurd c (by decide)) (kf := fun _ => s_iconst dX4_expression_23 (by decide) (s_goto 28 dX4_expression_24 (by decide) (n_invV' (as := [(0, 1)]) dX4_expression_28 kv_X4_operand ml_X4_91 (c_X_operand 1 v9 hb hS hK (by omega) (by decide)) (by decide) 35 cf_X4 rfl sh_35 rfl rfl rfl (Nat.le_of_ble_eq_true rfl) ?_))))))
          rintro r_28 w_28 ⟨z_28, rfl, hz_28⟩
          show AtN _ _ ρ _ _ [(0, z_28)] w_28
          refine s_if_ne 36 dX4_expression_31 (by decide) (fun c_31 => ?_) (fun c_31 => ?_)
          · skip
            obtain ⟨hd9, hn9, hG9, hS9⟩ := hz_28.ok c_31
            have hl8 := hS9.lt
            have ht1 := hd_tail (K := K) (S := S) (by omega)
            rw [if_pos (by omega)] at hS9
            refine s_iload_n dX4_expression_36 1 rfl (s_if_eq 48 dX4_expression_37 (by decide) (kt := fun c => absurd c (by decide)) (kf := fun _ => s_aload_n dX4_expression_40 0 rfl rfl (n_getf 35 2 2 dX4_expression_41 cf_X4 ff_X4_18 rfl sh_35 rfl (by decide) (v := ((b : Nat) : Int)) hS9.2.2.2.1 (s_iload_n dX4_expression_44 1 rfl (n_invV' (as := [(0, 47)]) dX4_expression_45 kv_X6_add ml_X4_76 (c_X_add 47 w_28 hb hS9 (by omega)) (by decide) b cf_X6 rfl (shS hb) rfl rfl rfl (Nat.le_of_ble_eq_true rfl) ?_)))))
            rintro r_45 w_a4 ⟨rfl, hf4, hS4⟩
            replace hf4 := ((hf.tr hG9)).tr hf4
            have hl4 := hS4.lt
            rw [tr_pa] at hS4
            have hX2 : exP K C0 S0 = bnd (prP K (g1 + 1) (C ++ [((15 : Int), nuK K S)]) S.tail) (suT K q f2) := hX.trans (clH_g (by unfold opP; rw [if_neg (by decide), if_neg (by decide)]; exact paP_ok (by omega) (hn9 rfl)))
            refine s_aload_n dX4_expression_48 0 rfl rfl (n_invV (as := []) dX4_expression_49 kv_X4_sign ml_X4_40 (c_X_sign w_a4 hb hS4) (by decide) 35 cf_X4 rfl sh_35 rfl rfl rfl (Nat.le_of_ble_eq_true rfl) (s_bipush dX4_expression_52 (by decide) (s_icmp_eq 66 dX4_expression_54 (by decide) (fun c_54 => ?_) (fun c_54 => ?_))))
            · skip
              refine s_aload_n dX4_expression_66 0 rfl rfl (n_invV (as := []) dX4_expression_67 kv_X4_sign ml_X4_40 (c_X_sign w_a4 hb hS4) (by decide) 35 cf_X4 rfl sh_35 rfl rfl rfl (Nat.le_of_ble_eq_true rfl) (s_goto 74 dX4_expression_70 (by decide) (s_istore_n (ls' := [(0, (2, 35)), (1, (0, (hdK K S.tail))), (2, (0, q)), (3, (0, left))]) dX4_expression_74 (Nat.le_of_ble_eq_true rfl) rfl (s_iload_n dX4_expression_75 1 rfl (s_if_ne 124 dX4_expression_76 (by decide) (fun c_76 => ?_) (fun c_76 => ?_))))))
              · skip
                refine s_aload_n dX4_expression_124 0 rfl rfl (s_dup dX4_expression_125 (show (2 : Nat) ≠ 1 by decide) (n_getf 35 1 0 dX4_expression_126 cf_X4 ff_X4_37 rfl sh_35 rfl (by decide) (v := (w_a4 35 1)) rfl (s_iconst dX4_expression_129 (by decide) (n_add (z := ((w_a4 35 1) + 1)) dX4_expression_130 (wr_id (by omega) (by omega)) (n_putf 35 1 1 dX4_expression_131 cf_X4 ff_X4_37 rfl rfl sh_35 rfl rfl rfl (s_iinc (z := (left + (-1))) (ls' := [(0, (2, 35)), (1, (0, (hdK K S.tail))), (2, (0, q)), (3, (0, (left + (-1))))]) dX4_expression_134 3 rfl (Nat.le_of_ble_eq_true rfl) (wr_id (by omega) (by omega)) rfl (s_goto 12 dX4_expression_137 (by decide) ?_)))))))
                exact ih (hdK K S.tail) q (left + (-1)) (wu w_a4 35 1 ((w_a4 35 1) + 1)) (C ++ [((15 : Int), nuK K S)]) S.tail.tail ((kk - 1) + 1) g1 f2 (by omega) (by omega) (by have ht2 := hd_tail (K := K) (S := S.tail) (by omega); omega) (by omega) ((hf4).tr (FrPg.adv hb)) (StP.adv hb hS4 (by omega)) (by omega) (by omega) (by omega) (by omega) (fun _ => (by have ht2 := hd_tail (K := K) (S := S.tail) (by omega); omega)) (fun _ => (by have ht2 := hd_tail (K := K) (S := S.tail) (by omega); omega)) (hX2.trans (clH_m (by omega))) (by omega)
              · skip
                exfalso
                omega
            · skip
              refine s_aload_n dX4_expression_57 0 rfl rfl (n_invV (as := []) dX4_expression_58 kv_X4_sign ml_X4_40 (c_X_sign w_a4 hb hS4) (by decide) 35 cf_X4 rfl sh_35 rfl rfl rfl (Nat.le_of_ble_eq_true rfl) (s_bipush dX4_expression_61 (by decide) (s_icmp_ne 73 dX4_expression_63 (by decide) (fun c_63 => ?_) (fun c_63 => ?_))))
              · skip
                refine s_iconst dX4_expression_73 (by decide) (s_istore_n (ls' := [(0, (2, 35)), (1, (0, 0)), (2, (0, q)), (3, (0, left))]) dX4_expression_74 (Nat.le_of_ble_eq_true rfl) rfl (s_iload_n dX4_expression_75 1 rfl (s_if_ne 124 dX4_expression_76 (by decide) (kt := fun c => absurd c (by decide)) (kf := fun _ => s_iload_n dX4_expression_79 2 rfl (s_if_eq 91 dX4_expression_80 (by decide) (fun c_80 => ?_) (fun c_80 => ?_))))))
                · skip
                  have hq0 : q = 0 := by omega
                  have hX3 : exP K C0 S0 = suP K (S.tail.length + 1) (C ++ [((15 : Int), nuK K S)]) S.tail := by rw [hX2, prP_no ⟨by omega, by omega⟩, hq0]; rfl
                  refine s_aload_n dX4_expression_91 0 rfl rfl (n_invV (as := []) dX4_expression_92 kv_X4_sign ml_X4_40 (c_X_sign w_a4 hb hS4) (by decide) 35 cf_X4 rfl sh_35 rfl rfl rfl (Nat.le_of_ble_eq_true rfl) (s_bipush dX4_expression_95 (by decide) (s_icmp_eq 109 dX4_expression_97 (by decide) (fun c_97 => ?_) (fun c_97 => ?_))))
                  · skip
                    refine s_aload_n dX4_expression_109 0 rfl rfl (n_invV (as := []) dX4_expression_110 kv_X4_sign ml_X4_40 (c_X_sign w_a4 hb hS4) (by decide) 35 cf_X4 rfl sh_35 rfl rfl rfl (Nat.le_of_ble_eq_true rfl) (s_goto 117 dX4_expression_113 (by decide) (s_istore_n (ls' := [(0, (2, 35)), (1, (0, 0)), (2, (0, (hdK K S.tail))), (3, (0, left))]) dX4_expression_117 (Nat.le_of_ble_eq_true rfl) rfl (s_iload_n dX4_expression_118 2 rfl (s_if_ne 124 dX4_expression_119 (by decide) (fun c_119 => ?_) (fun c_119 => ?_))))))
                    · skip
                      refine s_aload_n dX4_expression_124 0 rfl rfl (s_dup dX4_expression_125 (show (2 : Nat) ≠ 1 by decide) (n_getf 35 1 0 dX4_expression_126 cf_X4 ff_X4_37 rfl sh_35 rfl (by decide) (v := (w_a4 35 1)) rfl (s_iconst dX4_expression_129 (by decide) (n_add (z := ((w_a4 35 1) + 1)) dX4_expression_130 (wr_id (by omega) (by omega)) (n_putf 35 1 1 dX4_expression_131 cf_X4 ff_X4_37 rfl rfl sh_35 rfl rfl rfl (s_iinc (z := (left + (-1))) (ls' := [(0, (2, 35)), (1, (0, 0)), (2, (0, (hdK K S.tail))), (3, (0, (left + (-1))))]) dX4_expression_134 3 rfl (Nat.le_of_ble_eq_true rfl) (wr_id (by omega) (by omega)) rfl (s_goto 12 dX4_expression_137 (by decide) ?_)))))))
                      exact ih 0 (hdK K S.tail) (left + (-1)) (wu w_a4 35 1 ((w_a4 35 1) + 1)) (C ++ [((15 : Int), nuK K S)]) S.tail.tail ((kk - 1) + 1) 0 S.tail.length (by omega) (by omega) (by have ht2 := hd_tail (K := K) (S := S.tail) (by omega); omega) (by omega) ((hf4).tr (FrPg.adv hb)) (StP.adv hb hS4 (by omega)) (by omega) (by omega) (by omega) (by omega) (by omega) (fun _ => (by have ht2 := hd_tail (K := K) (S := S.tail) (by omega); omega)) (hX3.trans (suP_pm (by omega))) (by omega)
                    · skip
                      exfalso
                      omega
                  · skip
                    refine s_aload_n dX4_expression_100 0 rfl rfl (n_invV (as := []) dX4_expression_101 kv_X4_sign ml_X4_40 (c_X_sign w_a4 hb hS4) (by decide) 35 cf_X4 rfl sh_35 rfl rfl rfl (Nat.le_of_ble_eq_true rfl) (s_bipush dX4_expression_104 (by decide) (s_icmp_ne 116 dX4_expression_106 (by decide) (fun c_106 => ?_) (fun c_106 => ?_))))
                    · skip
                      refine s_iconst dX4_expression_116 (by decide) (s_istore_n (ls' := [(0, (2, 35)), (1, (0, 0)), (2, (0, 0)), (3, (0, left))]) dX4_expression_117 (Nat.le_of_ble_eq_true rfl) rfl (s_iload_n dX4_expression_118 2 rfl (s_if_ne 124 dX4_expression_119 (by decide) (kt := fun c => absurd c (by decide)) (kf := fun _ => s_iconst dX4_expression_122 (by decide) (n_zret dX4_expression_123 hR rfl (by first | exact Or.inl rfl | exact Or.inr rfl | exact bi_01 _ | omega) ?_)))))
                      exact ⟨_, rfl, Or.inr ⟨rfl, _, _, hX3.trans (suP_no ⟨by omega, by omega⟩), hf4, hS4.wk (by omega)⟩⟩
                    · skip
                      refine s_aload_n dX4_expression_109 0 rfl rfl (n_invV (as := []) dX4_expression_110 kv_X4_sign ml_X4_40 (c_X_sign w_a4 hb hS4) (by decide) 35 cf_X4 rfl sh_35 rfl rfl rfl (Nat.le_of_ble_eq_true rfl) (s_goto 117 dX4_expression_113 (by decide) (s_istore_n (ls' := [(0, (2, 35)), (1, (0, 0)), (2, (0, (hdK K S.tail))), (3, (0, left))]) dX4_expression_117 (Nat.le_of_ble_eq_true rfl) rfl (s_iload_n dX4_expression_118 2 rfl (s_if_ne 124 dX4_expression_119 (by decide) (fun c_119 => ?_) (fun c_119 => ?_))))))
                      · skip
                        refine s_aload_n dX4_expression_124 0 rfl rfl (s_dup dX4_expression_125 (show (2 : Nat) ≠ 1 by decide) (n_getf 35 1 0 dX4_expression_126 cf_X4 ff_X4_37 rfl sh_35 rfl (by decide) (v := (w_a4 35 1)) rfl (s_iconst dX4_expression_129 (by decide) (n_add (z := ((w_a4 35 1) + 1)) dX4_expression_130 (wr_id (by omega) (by omega)) (n_putf 35 1 1 dX4_expression_131 cf_X4 ff_X4_37 rfl rfl sh_35 rfl rfl rfl (s_iinc (z := (left + (-1))) (ls' := [(0, (2, 35)), (1, (0, 0)), (2, (0, (hdK K S.tail))), (3, (0, (left + (-1))))]) dX4_expression_134 3 rfl (Nat.le_of_ble_eq_true rfl) (wr_id (by omega) (by omega)) rfl (s_goto 12 dX4_expression_137 (by decide) ?_)))))))
                        exact ih 0 (hdK K S.tail) (left + (-1)) (wu w_a4 35 1 ((w_a4 35 1) + 1)) (C ++ [((15 : Int), nuK K S)]) S.tail.tail ((kk - 1) + 1) 0 S.tail.length (by omega) (by omega) (by have ht2 := hd_tail (K := K) (S := S.tail) (by omega); omega) (by omega) ((hf4).tr (FrPg.adv hb)) (StP.adv hb hS4 (by omega)) (by omega) (by omega) (by omega) (by omega) (by omega) (fun _ => (by have ht2 := hd_tail (K := K) (S := S.tail) (by omega); omega)) (hX3.trans (suP_pm (by omega))) (by omega)
                      · skip
                        exfalso
                        omega
                · skip
                  refine s_aload_n dX4_expression_83 0 rfl rfl (n_getf 35 2 2 dX4_expression_84 cf_X4 ff_X4_18 rfl sh_35 rfl (by decide) (v := ((b : Nat) : Int)) hS4.2.2.2.1 (s_iload_n dX4_expression_87 2 rfl (n_invV' (as := [(0, q)]) dX4_expression_88 kv_X6_add ml_X4_76 (c_X_add q w_a4 hb hS4 (by omega)) (by decide) b cf_X6 rfl (shS hb) rfl rfl rfl (Nat.le_of_ble_eq_true rfl) ?_)))
                  rintro r_88 w_a5 ⟨rfl, hf5, hS5⟩
                  replace hf5 := (hf4).tr hf5
                  have hl5 := hS5.lt
                  rw [tr_1 (tr_pm (by omega))] at hS5
                  obtain ⟨g2, hg2⟩ : ∃ g2, f2 = g2 + 1 := ⟨f2 - 1, by omega⟩
                  have hX3 : exP K C0 S0 = suP K (g2 + 1) ((C ++ [((15 : Int), nuK K S)]) ++ [((if q = 43 then 12 else 13 : Int), (0 : Int))]) S.tail := by rw [hX2, prP_no ⟨by omega, by omega⟩, bnd_ok, suT_q (by omega), hg2]
                  refine s_aload_n dX4_expression_91 0 rfl rfl (n_invV (as := []) dX4_expression_92 kv_X4_sign ml_X4_40 (c_X_sign w_a5 hb hS5) (by decide) 35 cf_X4 rfl sh_35 rfl rfl rfl (Nat.le_of_ble_eq_true rfl) (s_bipush dX4_expression_95 (by decide) (s_icmp_eq 109 dX4_expression_97 (by decide) (fun c_97 => ?_) (fun c_97 => ?_))))
                  · skip
                    refine s_aload_n dX4_expression_109 0 rfl rfl (n_invV (as := []) dX4_expression_110 kv_X4_sign ml_X4_40 (c_X_sign w_a5 hb hS5) (by decide) 35 cf_X4 rfl sh_35 rfl rfl rfl (Nat.le_of_ble_eq_true rfl) (s_goto 117 dX4_expression_113 (by decide) (s_istore_n (ls' := [(0, (2, 35)), (1, (0, 0)), (2, (0, (hdK K S.tail))), (3, (0, left))]) dX4_expression_117 (Nat.le_of_ble_eq_true rfl) rfl (s_iload_n dX4_expression_118 2 rfl (s_if_ne 124 dX4_expression_119 (by decide) (fun c_119 => ?_) (fun c_119 => ?_))))))
                    · skip
                      refine s_aload_n dX4_expression_124 0 rfl rfl (s_dup dX4_expression_125 (show (2 : Nat) ≠ 1 by decide) (n_getf 35 1 0 dX4_expression_126 cf_X4 ff_X4_37 rfl sh_35 rfl (by decide) (v := (w_a5 35 1)) rfl (s_iconst dX4_expression_129 (by decide) (n_add (z := ((w_a5 35 1) + 1)) dX4_expression_130 (wr_id (by omega) (by omega)) (n_putf 35 1 1 dX4_expression_131 cf_X4 ff_X4_37 rfl rfl sh_35 rfl rfl rfl (s_iinc (z := (left + (-1))) (ls' := [(0, (2, 35)), (1, (0, 0)), (2, (0, (hdK K S.tail))), (3, (0, (left + (-1))))]) dX4_expression_134 3 rfl (Nat.le_of_ble_eq_true rfl) (wr_id (by omega) (by omega)) rfl (s_goto 12 dX4_expression_137 (by decide) ?_)))))))
                      exact ih 0 (hdK K S.tail) (left + (-1)) (wu w_a5 35 1 ((w_a5 35 1) + 1)) ((C ++ [((15 : Int), nuK K S)]) ++ [((if q = 43 then 12 else 13 : Int), (0 : Int))]) S.tail.tail (((kk - 1) - 1) + 1) 0 g2 (by omega) (by omega) (by have ht2 := hd_tail (K := K) (S := S.tail) (by omega); omega) (by omega) ((hf5).tr (FrPg.adv hb)) (StP.adv hb hS5 (by omega)) (by omega) (by omega) (by omega) (by omega) (by omega) (fun _ => (by have ht2 := hd_tail (K := K) (S := S.tail) (by omega); omega)) (hX3.trans (suP_pm (by omega))) (by omega)
                    · skip
                      exfalso
                      omega
                  · skip
                    refine s_aload_n dX4_expression_100 0 rfl rfl (n_invV (as := []) dX4_expression_101 kv_X4_sign ml_X4_40 (c_X_sign w_a5 hb hS5) (by decide) 35 cf_X4 rfl sh_35 rfl rfl rfl (Nat.le_of_ble_eq_true rfl) (s_bipush dX4_expression_104 (by decide) (s_icmp_ne 116 dX4_expression_106 (by decide) (fun c_106 => ?_) (fun c_106 => ?_))))
                    · skip
                      refine s_iconst dX4_expression_116 (by decide) (s_istore_n (ls' := [(0, (2, 35)), (1, (0, 0)), (2, (0, 0)), (3, (0, left))]) dX4_expression_117 (Nat.le_of_ble_eq_true rfl) rfl (s_iload_n dX4_expression_118 2 rfl (s_if_ne 124 dX4_expression_119 (by decide) (kt := fun c => absurd c (by decide)) (kf := fun _ => s_iconst dX4_expression_122 (by decide) (n_zret dX4_expression_123 hR rfl (by first | exact Or.inl rfl | exact Or.inr rfl | exact bi_01 _ | omega) ?_)))))
                      exact ⟨_, rfl, Or.inr ⟨rfl, _, _, hX3.trans (suP_no ⟨by omega, by omega⟩), hf5, hS5.wk (by omega)⟩⟩
                    · skip
                      refine s_aload_n dX4_expression_109 0 rfl rfl (n_invV (as := []) dX4_expression_110 kv_X4_sign ml_X4_40 (c_X_sign w_a5 hb hS5) (by decide) 35 cf_X4 rfl sh_35 rfl rfl rfl (Nat.le_of_ble_eq_true rfl) (s_goto 117 dX4_expression_113 (by decide) (s_istore_n (ls' := [(0, (2, 35)), (1, (0, 0)), (2, (0, (hdK K S.tail))), (3, (0, left))]) dX4_expression_117 (Nat.le_of_ble_eq_true rfl) rfl (s_iload_n dX4_expression_118 2 rfl (s_if_ne 124 dX4_expression_119 (by decide) (fun c_119 => ?_) (fun c_119 => ?_))))))
                      · skip
                        refine s_aload_n dX4_expression_124 0 rfl rfl (s_dup dX4_expression_125 (show (2 : Nat) ≠ 1 by decide) (n_getf 35 1 0 dX4_expression_126 cf_X4 ff_X4_37 rfl sh_35 rfl (by decide) (v := (w_a5 35 1)) rfl (s_iconst dX4_expression_129 (by decide) (n_add (z := ((w_a5 35 1) + 1)) dX4_expression_130 (wr_id (by omega) (by omega)) (n_putf 35 1 1 dX4_expression_131 cf_X4 ff_X4_37 rfl rfl sh_35 rfl rfl rfl (s_iinc (z := (left + (-1))) (ls' := [(0, (2, 35)), (1, (0, 0)), (2, (0, (hdK K S.tail))), (3, (0, (left + (-1))))]) dX4_expression_134 3 rfl (Nat.le_of_ble_eq_true rfl) (wr_id (by omega) (by omega)) rfl (s_goto 12 dX4_expression_137 (by decide) ?_)))))))
                        exact ih 0 (hdK K S.tail) (left + (-1)) (wu w_a5 35 1 ((w_a5 35 1) + 1)) ((C ++ [((15 : Int), nuK K S)]) ++ [((if q = 43 then 12 else 13 : Int), (0 : Int))]) S.tail.tail (((kk - 1) - 1) + 1) 0 g2 (by omega) (by omega) (by have ht2 := hd_tail (K := K) (S := S.tail) (by omega); omega) (by omega) ((hf5).tr (FrPg.adv hb)) (StP.adv hb hS5 (by omega)) (by omega) (by omega) (by omega) (by omega) (by omega) (fun _ => (by have ht2 := hd_tail (K := K) (S := S.tail) (by omega); omega)) (hX3.trans (suP_pm (by omega))) (by omega)
                      · skip
                        exfalso
                        omega
              · skip
                refine s_aload_n dX4_expression_66 0 rfl rfl (n_invV (as := []) dX4_expression_67 kv_X4_sign ml_X4_40 (c_X_sign w_a4 hb hS4) (by decide) 35 cf_X4 rfl sh_35 rfl rfl rfl (Nat.le_of_ble_eq_true rfl) (s_goto 74 dX4_expression_70 (by decide) (s_istore_n (ls' := [(0, (2, 35)), (1, (0, (hdK K S.tail))), (2, (0, q)), (3, (0, left))]) dX4_expression_74 (Nat.le_of_ble_eq_true rfl) rfl (s_iload_n dX4_expression_75 1 rfl (s_if_ne 124 dX4_expression_76 (by decide) (fun c_76 => ?_) (fun c_76 => ?_))))))
                · skip
                  refine s_aload_n dX4_expression_124 0 rfl rfl (s_dup dX4_expression_125 (show (2 : Nat) ≠ 1 by decide) (n_getf 35 1 0 dX4_expression_126 cf_X4 ff_X4_37 rfl sh_35 rfl (by decide) (v := (w_a4 35 1)) rfl (s_iconst dX4_expression_129 (by decide) (n_add (z := ((w_a4 35 1) + 1)) dX4_expression_130 (wr_id (by omega) (by omega)) (n_putf 35 1 1 dX4_expression_131 cf_X4 ff_X4_37 rfl rfl sh_35 rfl rfl rfl (s_iinc (z := (left + (-1))) (ls' := [(0, (2, 35)), (1, (0, (hdK K S.tail))), (2, (0, q)), (3, (0, (left + (-1))))]) dX4_expression_134 3 rfl (Nat.le_of_ble_eq_true rfl) (wr_id (by omega) (by omega)) rfl (s_goto 12 dX4_expression_137 (by decide) ?_)))))))
                  exact ih (hdK K S.tail) q (left + (-1)) (wu w_a4 35 1 ((w_a4 35 1) + 1)) (C ++ [((15 : Int), nuK K S)]) S.tail.tail ((kk - 1) + 1) g1 f2 (by omega) (by omega) (by have ht2 := hd_tail (K := K) (S := S.tail) (by omega); omega) (by omega) ((hf4).tr (FrPg.adv hb)) (StP.adv hb hS4 (by omega)) (by omega) (by omega) (by omega) (by omega) (fun _ => (by have ht2 := hd_tail (K := K) (S := S.tail) (by omega); omega)) (fun _ => (by have ht2 := hd_tail (K := K) (S := S.tail) (by omega); omega)) (hX2.trans (clH_m (by omega))) (by omega)
                · skip
                  exfalso
                  omega
          · skip
            obtain ⟨e9, he1, he2, hF9, h39, h49⟩ := hz_28.no (by omega)
            refine s_iconst dX4_expression_34 (by decide) (n_zret dX4_expression_35 hR rfl (by first | exact Or.inl rfl | exact Or.inr rfl | exact bi_01 _ | omega) ?_)
            exact ⟨_, rfl, Or.inl ⟨rfl, e9, hX.trans (clH_f (by unfold opP; rw [if_neg (by decide), if_neg (by decide)]; exact he1 rfl C)), hf.tF hF9, h39, h49⟩⟩
      
  refine s_iconst dX4_expression_0 (by decide) (s_istore_n (ls' := [(0, (2, 35)), (1, (0, 0))]) dX4_expression_1 (Nat.le_of_ble_eq_true rfl) rfl (s_iconst dX4_expression_2 (by decide) (s_istore_n (ls' := [(0, (2, 35)), (1, (0, 0)), (2, (0, 0))]) dX4_expression_3 (Nat.le_of_ble_eq_true rfl) rfl (s_aload_n dX4_expression_4 0 rfl rfl (n_getc (q := 30) 35 0 40 dX4_expression_5 cf_X4 ff_X4_9 rfl sh_35 rfl (by decide) rfl (by decide) (n_getf 30 5 0 dX4_expression_8 cf_X8 ff_X4_48 rfl sh_30 rfl (by decide) (v := (w 30 5)) rfl (s_istore_n (ls' := [(0, (2, 35)), (1, (0, 0)), (2, (0, 0)), (3, (0, (w 30 5)))]) dX4_expression_11 (Nat.le_of_ble_eq_true rfl) rfl ?_)))))))
  exact L_12 _ 0 0 (w 30 5) w C0 S0 k 0 0 (by omega) (by omega) (by omega) (by omega) FrPg.rf hS0 (by omega) (by omega) (by omega) (by omega) (by omega) (by omega) (exP_cl K 0 0 C0 S0) (Nat.lt_succ_self _)

