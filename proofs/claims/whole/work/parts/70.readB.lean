/-! THE CLASS READS A B. -/
def anT (K : Ky) (one : List Stq → List Int → Rs) (o : Int) (f2 : Nat) (D : List Stq) (R : List Int) : Rs := if o = 0 then anW K one (R.length + 1) D R else anW K one f2 (D ++ [(21, 0)]) R
def clB (K : Ky) (one : List Stq → List Int → Rs) (a o : Int) (f1 f2 : Nat) (C : List Stq) (S : List Int) : Rs := bnd (one C S) (fun D R => bnd (evW K one (if a = 0 then R.length + 1 else f1) (if a = 0 then D else D ++ [(20, 0)]) R) (anT K one o f2))
theorem anF_cl (K : Ky) (one : List Stq → List Int → Rs) (f1 f2 : Nat) (C : List Stq) (S : List Int) : anF K one C S = clB K one 0 0 f1 f2 C S := by
  unfold anF evF clB
  rw [bnd_as]
  rfl
theorem clB_f {K : Ky} {one : List Stq → List Int → Rs} {a o : Int} {f1 f2 : Nat} {C : List Stq} {S : List Int} {e : Int × Int} (h : one C S = .inl e) : clB K one a o f1 f2 C S = .inl e := by
  unfold clB
  rw [h]
  rfl
theorem clB_g {K : Ky} {one : List Stq → List Int → Rs} {a o : Int} {f1 f2 : Nat} {C D : List Stq} {S R : List Int} (h : one C S = okR D R) : clB K one a o f1 f2 C S = bnd (evW K one (if a = 0 then R.length + 1 else f1) (if a = 0 then D else D ++ [(20, 0)]) R) (anT K one o f2) := by
  unfold clB
  rw [h]
  rfl
theorem evW_m {K : Ky} {one : List Stq → List Int → Rs} {o : Int} {f f2 : Nat} {D : List Stq} {R : List Int} (h : hdK K R = 261) : bnd (evW K one (f + 1) D R) (anT K one o f2) = clB K one 1 o f f2 D R.tail := by
  rw [evW, if_pos h, bnd_as]
  rfl
theorem evW_no {K : Ky} {one : List Stq → List Int → Rs} {f : Nat} {D : List Stq} {R : List Int} (h : hdK K R ≠ 261) : evW K one f D R = okR D R := by
  cases f with
  | zero => rfl
  | succ f => rw [evW, if_neg h]
theorem anT_0 {K : Ky} {one : List Stq → List Int → Rs} {f2 : Nat} {D : List Stq} {R : List Int} : anT K one 0 f2 D R = anW K one (R.length + 1) D R := rfl
theorem anT_q {K : Ky} {one : List Stq → List Int → Rs} {o : Int} {f2 : Nat} {D : List Stq} {R : List Int} (h : o ≠ 0) : anT K one o f2 D R = anW K one f2 (D ++ [(21, 0)]) R := if_neg h
theorem anW_m {K : Ky} {one : List Stq → List Int → Rs} {f1 g : Nat} {D : List Stq} {R : List Int} (h : hdK K R = 260) : anW K one (g + 1) D R = clB K one 0 1 f1 g D R.tail := by
  rw [anW, if_pos h]
  unfold evF clB
  rw [bnd_as]
  rfl
theorem anW_no {K : Ky} {one : List Stq → List Int → Rs} {f : Nat} {D : List Stq} {R : List Int} (h : hdK K R ≠ 260) : anW K one f D R = okR D R := by
  cases f with
  | zero => rfl
  | succ f => rw [anW, if_neg h]
/-- the class's single, r more may be open -/
def CoS (b : Nat) (N : List Int) (K : Ky) (X0 : List Int) (r : Nat) : Prop := ∀ (C : List Stq) (S : List Int) (k : Int) (w : Wd), StP w b N K k (X0 ++ trL C) S → 0 ≤ k → S.length < N.length → CallN (2 * r + 4) mX4_single [(2, 35), (0, 8 - (r : Int))] w (RQ (fun z w1 => ReX w b N K k X0 (onP K r C S) z w1))
/-- the class's condition -/
def CoC (b : Nat) (N : List Int) (K : Ky) (X0 : List Int) (r : Nat) : Prop := ∀ (C : List Stq) (S : List Int) (k : Int) (w : Wd), StP w b N K k (X0 ++ trL C) S → 0 ≤ k → S.length < N.length → CallN (2 * r + 5) mX4_condition [(2, 35), (0, 8 - (r : Int))] w (RQ (fun z w1 => ReX w b N K k X0 (anF K (onP K r) C S) z w1))

set_option maxRecDepth 100000 in
set_option maxHeartbeats 2000000 in
theorem c_X_condition {b : Nat} {N X0 : List Int} {K : Ky} {r : Nat} (hK : KOK K) (hone : CoS b N K X0 r) (C0 : List Stq) (S0 : List Int) (k : Int) (w : Wd) (hb : IsSc b) (hS0 : StP w b N K k (X0 ++ trL C0) S0) (hk : 0 ≤ k) (hn : S0.length < N.length) : CallN (2 * r + 5) mX4_condition [(2, 35), (0, (8 - (r : Int)))] w (RQ (fun z w1 => ReX w b N K k X0 (anF K (onP K r) C0 S0) z w1)) := by
  refine CallN.intro (by decide +kernel) (Nat.le_of_ble_eq_true rfl) (fun ρ hR => ?_)
  show AtN mX4_condition (2 * r + 5) ρ 0 [(0, (2, 35)), (1, (0, (8 - (r : Int))))] [] w
  have hl9 := hS0.lt
  have h600 := hS0.1.1
  have hN9 := hS0.1.2.1
  have L_13 : ∀ (fu : Nat) (a : Int) (o : Int) (left : Int) (v9 : Wd) (C : List Stq) (S : List Int) (kk : Int) (f1 : Nat) (f2 : Nat), a = 0 ∨ a = 1 → o = 0 ∨ o = 1 → (S.length : Int) < left → left ≤ 600 → FrPg b w v9 → StP v9 b N K kk (X0 ++ trL C) S → k ≤ kk → (a ≠ 0 → k + 1 ≤ kk) → (o ≠ 0 → k + 1 ≤ kk) → (a ≠ 0 → o ≠ 0 → k + 2 ≤ kk) → (a ≠ 0 → S.length < f1) → (o ≠ 0 → S.length < f2) → S.length < N.length → anF K (onP K r) C0 S0 = clB K (onP K r) a o f1 f2 C S → left.toNat < fu → AtN mX4_condition (2 * r + 5) ρ 13 [(0, (2, 35)), (1, (0, (8 - (r : Int)))), (2, (0, a)), (3, (0, o)), (4, (0, left))] [] v9 := by
    intro fu
    induction fu with
    | zero => intro a o left v9 C S kk f1 f2 ha ho hlf hl6 hf hS hk1 hk2 hk3 hk4 hf1 hf2 hsn hX hm; exact absurd hm (Nat.not_lt_zero _)
    | succ fu ih =>
      intro a o left v9 C S kk f1 f2 ha ho hlf hl6 hf hS hk1 hk2 hk3 hk4 hf1 hf2 hsn hX hm
      have hl9 := hS.lt
      have h600 := hS.1.1
      rcases ha with hp9 | hp9
      · subst hp9
        refine s_iload dX4_condition_13 4 rfl (s_if_le 114 dX4_condition_15 (by decide) (fun c_15 => ?_) (fun c_15 => ?_))
        · skip
          exfalso
          omega
        · skip
          refine s_aload_n dX4_condition_18 0 rfl rfl (s_iload_n dX4_condition_19 1 rfl (n_invV' (as := [(0, (8 - (r : Int)))]) dX4_condition_20 kv_X4_single ml_X4_88 (hone C S kk v9 hS (by omega) (by omega)) (by omega) 35 cf_X4 rfl sh_35 rfl rfl rfl (Nat.le_of_ble_eq_true rfl) ?_))
          rintro r_20 w_20 ⟨z_20, rfl, hz_20⟩
          show AtN _ _ ρ _ _ [(0, z_20)] w_20
          refine s_if_ne 28 dX4_condition_23 (by decide) (fun c_23 => ?_) (fun c_23 => ?_)
          · skip
            obtain ⟨D, R, hD, hG9, hS9⟩ := hz_20.ok c_23
            have hlt := (on_gr hK r C S).lt (fun D h => okC_1 h) hD
            have hl8 := hS9.lt
            refine s_iload_n dX4_condition_28 2 rfl (s_if_eq 42 dX4_condition_29 (by decide) (kf := fun c => absurd c (by decide)) (kt := fun _ => ?_))
            have hX2 : anF K (onP K r) C0 S0 = bnd (evW K (onP K r) (R.length + 1) D R) (anT K (onP K r) o f2) := hX.trans (clB_g hD)
            refine s_aload_n dX4_condition_42 0 rfl rfl (n_invV (as := []) dX4_condition_43 kv_X4_sign ml_X4_40 (c_X_sign w_20 hb hS9) (by omega) 35 cf_X4 rfl sh_35 rfl rfl rfl (Nat.le_of_ble_eq_true rfl) (s_sipush dX4_condition_46 (by decide) (s_icmp_ne 56 dX4_condition_49 (by decide) (fun c_49 => ?_) (fun c_49 => ?_))))
            · skip
              refine s_iconst dX4_condition_56 (by decide) (s_istore_n (ls' := [(0, (2, 35)), (1, (0, (8 - (r : Int)))), (2, (0, 0)), (3, (0, o)), (4, (0, left))]) dX4_condition_57 (Nat.le_of_ble_eq_true rfl) rfl (s_iload_n dX4_condition_58 2 rfl (s_if_ne 98 dX4_condition_59 (by decide) (kt := fun c => absurd c (by decide)) (kf := fun _ => s_iload_n dX4_condition_62 3 rfl (s_if_eq 76 dX4_condition_63 (by decide) (fun c_63 => ?_) (fun c_63 => ?_))))))
              · skip
                have hq0 : o = 0 := by omega
                have hX3 : anF K (onP K r) C0 S0 = anW K (onP K r) (R.length + 1) D R := by rw [hX2, evW_no (by omega), hq0]; rfl
                refine s_aload_n dX4_condition_76 0 rfl rfl (n_invV (as := []) dX4_condition_77 kv_X4_sign ml_X4_40 (c_X_sign w_20 hb hS9) (by omega) 35 cf_X4 rfl sh_35 rfl rfl rfl (Nat.le_of_ble_eq_true rfl) (s_sipush dX4_condition_80 (by decide) (s_icmp_ne 90 dX4_condition_83 (by decide) (fun c_83 => ?_) (fun c_83 => ?_))))
                · skip
                  refine s_iconst dX4_condition_90 (by decide) (s_istore_n (ls' := [(0, (2, 35)), (1, (0, (8 - (r : Int)))), (2, (0, 0)), (3, (0, 0)), (4, (0, left))]) dX4_condition_91 (Nat.le_of_ble_eq_true rfl) rfl (s_iload_n dX4_condition_92 3 rfl (s_if_ne 98 dX4_condition_93 (by decide) (kt := fun c => absurd c (by decide)) (kf := fun _ => s_iconst dX4_condition_96 (by decide) (n_zret dX4_condition_97 hR rfl (by first | exact Or.inl rfl | exact Or.inr rfl | exact bi_01 _ | omega) ?_)))))
                  exact ⟨_, rfl, Or.inr ⟨rfl, _, _, hX3.trans (anW_no (by omega)), (hf.tr hG9), hS9.wk (by omega)⟩⟩
                · skip
                  refine s_iconst dX4_condition_86 (by decide) (s_goto 91 dX4_condition_87 (by decide) (s_istore_n (ls' := [(0, (2, 35)), (1, (0, (8 - (r : Int)))), (2, (0, 0)), (3, (0, 1)), (4, (0, left))]) dX4_condition_91 (Nat.le_of_ble_eq_true rfl) rfl (s_iload_n dX4_condition_92 3 rfl (s_if_ne 98 dX4_condition_93 (by decide) (kf := fun c => absurd c (by decide)) (kt := fun _ => s_aload_n dX4_condition_98 0 rfl rfl (s_dup dX4_condition_99 (show (2 : Nat) ≠ 1 by decide) (n_getf 35 1 0 dX4_condition_100 cf_X4 ff_X4_37 rfl sh_35 rfl (by decide) (v := (w_20 35 1)) rfl (s_iconst dX4_condition_103 (by decide) (n_add (z := ((w_20 35 1) + 1)) dX4_condition_104 (wr_id (by omega) (by omega)) ?_)))))))))
                  refine n_putf 35 1 1 dX4_condition_105 cf_X4 ff_X4_37 rfl rfl sh_35 rfl rfl rfl (s_iinc (z := (left + (-1))) (ls' := [(0, (2, 35)), (1, (0, (8 - (r : Int)))), (2, (0, 0)), (3, (0, 1)), (4, (0, (left + (-1))))]) dX4_condition_108 4 rfl (Nat.le_of_ble_eq_true rfl) (wr_id (by omega) (by omega)) rfl (s_goto 13 dX4_condition_111 (by decide) ?_))
                  exact ih 0 1 (left + (-1)) (wu w_20 35 1 ((w_20 35 1) + 1)) D R.tail (kk + 1) 0 R.length (by omega) (by omega) (by have ht2 := hd_tail (K := K) (S := R) (by omega); omega) (by omega) (((hf.tr hG9)).tr (FrPg.adv hb)) (StP.adv hb hS9 (by omega)) (by omega) (by omega) (by omega) (by omega) (by omega) (fun _ => (by have ht2 := hd_tail (K := K) (S := R) (by omega); omega)) (by have ht2 := hd_tail (K := K) (S := R) (by omega); omega) (hX3.trans (anW_m (by omega))) (by omega)
              · skip
                refine s_aload_n dX4_condition_66 0 rfl rfl (n_getf 35 2 2 dX4_condition_67 cf_X4 ff_X4_18 rfl sh_35 rfl (by decide) (v := ((b : Nat) : Int)) hS9.2.2.2.1 (s_sipush dX4_condition_70 (by decide) (n_invV' (as := [(0, 260)]) dX4_condition_73 kv_X6_add ml_X4_76 (c_X_add 260 w_20 hb hS9 (by omega)) (by omega) b cf_X6 rfl (shS hb) rfl rfl rfl (Nat.le_of_ble_eq_true rfl) ?_)))
                rintro r_73 w_a1 ⟨rfl, hf1, hS1⟩
                replace hf1 := ((hf.tr hG9)).tr hf1
                have hl1 := hS1.lt
                rw [tr_1 (p := ((21 : Int), (0 : Int))) rfl] at hS1
                obtain ⟨g2, hg2⟩ : ∃ g2, f2 = g2 + 1 := ⟨f2 - 1, by omega⟩
                have hX3 : anF K (onP K r) C0 S0 = anW K (onP K r) (g2 + 1) (D ++ [((21 : Int), (0 : Int))]) R := by rw [hX2, evW_no (by omega), bnd_ok, anT_q (by omega), hg2]
                refine s_aload_n dX4_condition_76 0 rfl rfl (n_invV (as := []) dX4_condition_77 kv_X4_sign ml_X4_40 (c_X_sign w_a1 hb hS1) (by omega) 35 cf_X4 rfl sh_35 rfl rfl rfl (Nat.le_of_ble_eq_true rfl) (s_sipush dX4_condition_80 (by decide) (s_icmp_ne 90 dX4_condition_83 (by decide) (fun c_83 => ?_) (fun c_83 => ?_))))
                · skip
                  refine s_iconst dX4_condition_90 (by decide) (s_istore_n (ls' := [(0, (2, 35)), (1, (0, (8 - (r : Int)))), (2, (0, 0)), (3, (0, 0)), (4, (0, left))]) dX4_condition_91 (Nat.le_of_ble_eq_true rfl) rfl (s_iload_n dX4_condition_92 3 rfl (s_if_ne 98 dX4_condition_93 (by decide) (kt := fun c => absurd c (by decide)) (kf := fun _ => s_iconst dX4_condition_96 (by decide) (n_zret dX4_condition_97 hR rfl (by first | exact Or.inl rfl | exact Or.inr rfl | exact bi_01 _ | omega) ?_)))))
                  exact ⟨_, rfl, Or.inr ⟨rfl, _, _, hX3.trans (anW_no (by omega)), hf1, hS1.wk (by omega)⟩⟩
                · skip
                  refine s_iconst dX4_condition_86 (by decide) (s_goto 91 dX4_condition_87 (by decide) (s_istore_n (ls' := [(0, (2, 35)), (1, (0, (8 - (r : Int)))), (2, (0, 0)), (3, (0, 1)), (4, (0, left))]) dX4_condition_91 (Nat.le_of_ble_eq_true rfl) rfl (s_iload_n dX4_condition_92 3 rfl (s_if_ne 98 dX4_condition_93 (by decide) (kf := fun c => absurd c (by decide)) (kt := fun _ => s_aload_n dX4_condition_98 0 rfl rfl (s_dup dX4_condition_99 (show (2 : Nat) ≠ 1 by decide) (n_getf 35 1 0 dX4_condition_100 cf_X4 ff_X4_37 rfl sh_35 rfl (by decide) (v := (w_a1 35 1)) rfl (s_iconst dX4_condition_103 (by decide) (n_add (z := ((w_a1 35 1) + 1)) dX4_condition_104 (wr_id (by omega) (by omega)) ?_)))))))))
                  refine n_putf 35 1 1 dX4_condition_105 cf_X4 ff_X4_37 rfl rfl sh_35 rfl rfl rfl (s_iinc (z := (left + (-1))) (ls' := [(0, (2, 35)), (1, (0, (8 - (r : Int)))), (2, (0, 0)), (3, (0, 1)), (4, (0, (left + (-1))))]) dX4_condition_108 4 rfl (Nat.le_of_ble_eq_true rfl) (wr_id (by omega) (by omega)) rfl (s_goto 13 dX4_condition_111 (by decide) ?_))
                  exact ih 0 1 (left + (-1)) (wu w_a1 35 1 ((w_a1 35 1) + 1)) (D ++ [((21 : Int), (0 : Int))]) R.tail ((kk - 1) + 1) 0 g2 (by omega) (by omega) (by have ht2 := hd_tail (K := K) (S := R) (by omega); omega) (by omega) ((hf1).tr (FrPg.adv hb)) (StP.adv hb hS1 (by omega)) (by omega) (by omega) (by omega) (by omega) (by omega) (fun _ => (by have ht2 := hd_tail (K := K) (S := R) (by omega); omega)) (by have ht2 := hd_tail (K := K) (S := R) (by omega); omega) (hX3.trans (anW_m (by omega))) (by omega)
            · skip
              refine s_iconst dX4_condition_52 (by decide) (s_goto 57 dX4_condition_53 (by decide) (s_istore_n (ls' := [(0, (2, 35)), (1, (0, (8 - (r : Int)))), (2, (0, 1)), (3, (0, o)), (4, (0, left))]) dX4_condition_57 (Nat.le_of_ble_eq_true rfl) rfl (s_iload_n dX4_condition_58 2 rfl (s_if_ne 98 dX4_condition_59 (by decide) (kf := fun c => absurd c (by decide)) (kt := fun _ => s_aload_n dX4_condition_98 0 rfl rfl (s_dup dX4_condition_99 (show (2 : Nat) ≠ 1 by decide) (n_getf 35 1 0 dX4_condition_100 cf_X4 ff_X4_37 rfl sh_35 rfl (by decide) (v := (w_20 35 1)) rfl (s_iconst dX4_condition_103 (by decide) (n_add (z := ((w_20 35 1) + 1)) dX4_condition_104 (wr_id (by omega) (by omega)) ?_)))))))))
              refine n_putf 35 1 1 dX4_condition_105 cf_X4 ff_X4_37 rfl rfl sh_35 rfl rfl rfl (s_iinc (z := (left + (-1))) (ls' := [(0, (2, 35)), (1, (0, (8 - (r : Int)))), (2, (0, 1)), (3, (0, o)), (4, (0, (left + (-1))))]) dX4_condition_108 4 rfl (Nat.le_of_ble_eq_true rfl) (wr_id (by omega) (by omega)) rfl (s_goto 13 dX4_condition_111 (by decide) ?_))
              exact ih 1 o (left + (-1)) (wu w_20 35 1 ((w_20 35 1) + 1)) D R.tail (kk + 1) R.length f2 (by omega) (by omega) (by have ht2 := hd_tail (K := K) (S := R) (by omega); omega) (by omega) (((hf.tr hG9)).tr (FrPg.adv hb)) (StP.adv hb hS9 (by omega)) (by omega) (by omega) (by omega) (by omega) (fun _ => (by have ht2 := hd_tail (K := K) (S := R) (by omega); omega)) (fun _ => (by have ht2 := hd_tail (K := K) (S := R) (by omega); omega)) (by have ht2 := hd_tail (K := K) (S := R) (by omega); omega) (hX2.trans (evW_m (by omega))) (by omega)
          · skip
            obtain ⟨e9, he, hF9, h39, h49⟩ := hz_20.no (by omega)
            refine s_iconst dX4_condition_26 (by decide) (n_zret dX4_condition_27 hR rfl (by first | exact Or.inl rfl | exact Or.inr rfl | exact bi_01 _ | omega) ?_)
            exact ⟨_, rfl, Or.inl ⟨rfl, e9, hX.trans (clB_f he), hf.tF hF9, h39, h49⟩⟩
      · subst hp9
        obtain ⟨g1, rfl⟩ : ∃ g1, f1 = g1 + 1 := ⟨f1 - 1, by omega⟩
        refine s_iload dX4_condition_13 4 rfl (s_if_le 114 dX4_condition_15 (by decide) (fun c_15 => ?_) (fun c_15 => ?_))
        · skip
          exfalso
          omega
        · skip
          refine s_aload_n dX4_condition_18 0 rfl rfl (s_iload_n dX4_condition_19 1 rfl (n_invV' (as := [(0, (8 - (r : Int)))]) dX4_condition_20 kv_X4_single ml_X4_88 (hone C S kk v9 hS (by omega) (by omega)) (by omega) 35 cf_X4 rfl sh_35 rfl rfl rfl (Nat.le_of_ble_eq_true rfl) ?_))
          rintro r_20 w_20 ⟨z_20, rfl, hz_20⟩
          show AtN _ _ ρ _ _ [(0, z_20)] w_20
          refine s_if_ne 28 dX4_condition_23 (by decide) (fun c_23 => ?_) (fun c_23 => ?_)
          · skip
            obtain ⟨D, R, hD, hG9, hS9⟩ := hz_20.ok c_23
            have hlt := (on_gr hK r C S).lt (fun D h => okC_1 h) hD
            have hl8 := hS9.lt
            refine s_iload_n dX4_condition_28 2 rfl (s_if_eq 42 dX4_condition_29 (by decide) (kt := fun c => absurd c (by decide)) (kf := fun _ => s_aload_n dX4_condition_32 0 rfl rfl (n_getf 35 2 2 dX4_condition_33 cf_X4 ff_X4_18 rfl sh_35 rfl (by decide) (v := ((b : Nat) : Int)) hS9.2.2.2.1 (s_sipush dX4_condition_36 (by decide) (n_invV' (as := [(0, 261)]) dX4_condition_39 kv_X6_add ml_X4_76 (c_X_add 261 w_20 hb hS9 (by omega)) (by omega) b cf_X6 rfl (shS hb) rfl rfl rfl (Nat.le_of_ble_eq_true rfl) ?_)))))
            rintro r_39 w_a2 ⟨rfl, hf2, hS2⟩
            replace hf2 := ((hf.tr hG9)).tr hf2
            have hl2 := hS2.lt
            rw [tr_1 (p := ((20 : Int), (0 : Int))) rfl] at hS2
            have hX2 : anF K (onP K r) C0 S0 = bnd (evW K (onP K r) (g1 + 1) (D ++ [((20 : Int), (0 : Int))]) R) (anT K (onP K r) o f2) := hX.trans (clB_g hD)
            refine s_aload_n dX4_condition_42 0 rfl rfl (n_invV (as := []) dX4_condition_43 kv_X4_sign ml_X4_40 (c_X_sign w_a2 hb hS2) (by omega) 35 cf_X4 rfl sh_35 rfl rfl rfl (Nat.le_of_ble_eq_true rfl) (s_sipush dX4_condition_46 (by decide) (s_icmp_ne 56 dX4_condition_49 (by decide) (fun c_49 => ?_) (fun c_49 => ?_))))
            · skip
              refine s_iconst dX4_condition_56 (by decide) (s_istore_n (ls' := [(0, (2, 35)), (1, (0, (8 - (r : Int)))), (2, (0, 0)), (3, (0, o)), (4, (0, left))]) dX4_condition_57 (Nat.le_of_ble_eq_true rfl) rfl (s_iload_n dX4_condition_58 2 rfl (s_if_ne 98 dX4_condition_59 (by decide) (kt := fun c => absurd c (by decide)) (kf := fun _ => s_iload_n dX4_condition_62 3 rfl (s_if_eq 76 dX4_condition_63 (by decide) (fun c_63 => ?_) (fun c_63 => ?_))))))
              · skip
                have hq0 : o = 0 := by omega
                have hX3 : anF K (onP K r) C0 S0 = anW K (onP K r) (R.length + 1) (D ++ [((20 : Int), (0 : Int))]) R := by rw [hX2, evW_no (by omega), hq0]; rfl
                refine s_aload_n dX4_condition_76 0 rfl rfl (n_invV (as := []) dX4_condition_77 kv_X4_sign ml_X4_40 (c_X_sign w_a2 hb hS2) (by omega) 35 cf_X4 rfl sh_35 rfl rfl rfl (Nat.le_of_ble_eq_true rfl) (s_sipush dX4_condition_80 (by decide) (s_icmp_ne 90 dX4_condition_83 (by decide) (fun c_83 => ?_) (fun c_83 => ?_))))
                · skip
                  refine s_iconst dX4_condition_90 (by decide) (s_istore_n (ls' := [(0, (2, 35)), (1, (0, (8 - (r : Int)))), (2, (0, 0)), (3, (0, 0)), (4, (0, left))]) dX4_condition_91 (Nat.le_of_ble_eq_true rfl) rfl (s_iload_n dX4_condition_92 3 rfl (s_if_ne 98 dX4_condition_93 (by decide) (kt := fun c => absurd c (by decide)) (kf := fun _ => s_iconst dX4_condition_96 (by decide) (n_zret dX4_condition_97 hR rfl (by first | exact Or.inl rfl | exact Or.inr rfl | exact bi_01 _ | omega) ?_)))))
                  exact ⟨_, rfl, Or.inr ⟨rfl, _, _, hX3.trans (anW_no (by omega)), hf2, hS2.wk (by omega)⟩⟩
                · skip
                  refine s_iconst dX4_condition_86 (by decide) (s_goto 91 dX4_condition_87 (by decide) (s_istore_n (ls' := [(0, (2, 35)), (1, (0, (8 - (r : Int)))), (2, (0, 0)), (3, (0, 1)), (4, (0, left))]) dX4_condition_91 (Nat.le_of_ble_eq_true rfl) rfl (s_iload_n dX4_condition_92 3 rfl (s_if_ne 98 dX4_condition_93 (by decide) (kf := fun c => absurd c (by decide)) (kt := fun _ => s_aload_n dX4_condition_98 0 rfl rfl (s_dup dX4_condition_99 (show (2 : Nat) ≠ 1 by decide) (n_getf 35 1 0 dX4_condition_100 cf_X4 ff_X4_37 rfl sh_35 rfl (by decide) (v := (w_a2 35 1)) rfl (s_iconst dX4_condition_103 (by decide) (n_add (z := ((w_a2 35 1) + 1)) dX4_condition_104 (wr_id (by omega) (by omega)) ?_)))))))))
                  refine n_putf 35 1 1 dX4_condition_105 cf_X4 ff_X4_37 rfl rfl sh_35 rfl rfl rfl (s_iinc (z := (left + (-1))) (ls' := [(0, (2, 35)), (1, (0, (8 - (r : Int)))), (2, (0, 0)), (3, (0, 1)), (4, (0, (left + (-1))))]) dX4_condition_108 4 rfl (Nat.le_of_ble_eq_true rfl) (wr_id (by omega) (by omega)) rfl (s_goto 13 dX4_condition_111 (by decide) ?_))
                  exact ih 0 1 (left + (-1)) (wu w_a2 35 1 ((w_a2 35 1) + 1)) (D ++ [((20 : Int), (0 : Int))]) R.tail ((kk - 1) + 1) 0 R.length (by omega) (by omega) (by have ht2 := hd_tail (K := K) (S := R) (by omega); omega) (by omega) ((hf2).tr (FrPg.adv hb)) (StP.adv hb hS2 (by omega)) (by omega) (by omega) (by omega) (by omega) (by omega) (fun _ => (by have ht2 := hd_tail (K := K) (S := R) (by omega); omega)) (by have ht2 := hd_tail (K := K) (S := R) (by omega); omega) (hX3.trans (anW_m (by omega))) (by omega)
              · skip
                refine s_aload_n dX4_condition_66 0 rfl rfl (n_getf 35 2 2 dX4_condition_67 cf_X4 ff_X4_18 rfl sh_35 rfl (by decide) (v := ((b : Nat) : Int)) hS2.2.2.2.1 (s_sipush dX4_condition_70 (by decide) (n_invV' (as := [(0, 260)]) dX4_condition_73 kv_X6_add ml_X4_76 (c_X_add 260 w_a2 hb hS2 (by omega)) (by omega) b cf_X6 rfl (shS hb) rfl rfl rfl (Nat.le_of_ble_eq_true rfl) ?_)))
                rintro r_73 w_a3 ⟨rfl, hf3, hS3⟩
                replace hf3 := (hf2).tr hf3
                have hl3 := hS3.lt
                rw [tr_1 (p := ((21 : Int), (0 : Int))) rfl] at hS3
                obtain ⟨g2, hg2⟩ : ∃ g2, f2 = g2 + 1 := ⟨f2 - 1, by omega⟩
                have hX3 : anF K (onP K r) C0 S0 = anW K (onP K r) (g2 + 1) ((D ++ [((20 : Int), (0 : Int))]) ++ [((21 : Int), (0 : Int))]) R := by rw [hX2, evW_no (by omega), bnd_ok, anT_q (by omega), hg2]
                refine s_aload_n dX4_condition_76 0 rfl rfl (n_invV (as := []) dX4_condition_77 kv_X4_sign ml_X4_40 (c_X_sign w_a3 hb hS3) (by omega) 35 cf_X4 rfl sh_35 rfl rfl rfl (Nat.le_of_ble_eq_true rfl) (s_sipush dX4_condition_80 (by decide) (s_icmp_ne 90 dX4_condition_83 (by decide) (fun c_83 => ?_) (fun c_83 => ?_))))
                · skip
                  refine s_iconst dX4_condition_90 (by decide) (s_istore_n (ls' := [(0, (2, 35)), (1, (0, (8 - (r : Int)))), (2, (0, 0)), (3, (0, 0)), (4, (0, left))]) dX4_condition_91 (Nat.le_of_ble_eq_true rfl) rfl (s_iload_n dX4_condition_92 3 rfl (s_if_ne 98 dX4_condition_93 (by decide) (kt := fun c => absurd c (by decide)) (kf := fun _ => s_iconst dX4_condition_96 (by decide) (n_zret dX4_condition_97 hR rfl (by first | exact Or.inl rfl | exact Or.inr rfl | exact bi_01 _ | omega) ?_)))))
                  exact ⟨_, rfl, Or.inr ⟨rfl, _, _, hX3.trans (anW_no (by omega)), hf3, hS3.wk (by omega)⟩⟩
                · skip
                  refine s_iconst dX4_condition_86 (by decide) (s_goto 91 dX4_condition_87 (by decide) (s_istore_n (ls' := [(0, (2, 35)), (1, (0, (8 - (r : Int)))), (2, (0, 0)), (3, (0, 1)), (4, (0, left))]) dX4_condition_91 (Nat.le_of_ble_eq_true rfl) rfl (s_iload_n dX4_condition_92 3 rfl (s_if_ne 98 dX4_condition_93 (by decide) (kf := fun c => absurd c (by decide)) (kt := fun _ => s_aload_n dX4_condition_98 0 rfl rfl (s_dup dX4_condition_99 (show (2 : Nat) ≠ 1 by decide) (n_getf 35 1 0 dX4_condition_100 cf_X4 ff_X4_37 rfl sh_35 rfl (by decide) (v := (w_a3 35 1)) rfl (s_iconst dX4_condition_103 (by decide) (n_add (z := ((w_a3 35 1) + 1)) dX4_condition_104 (wr_id (by omega) (by omega)) ?_)))))))))
                  refine n_putf 35 1 1 dX4_condition_105 cf_X4 ff_X4_37 rfl rfl sh_35 rfl rfl rfl (s_iinc (z := (left + (-1))) (ls' := [(0, (2, 35)), (1, (0, (8 - (r : Int)))), (2, (0, 0)), (3, (0, 1)), (4, (0, (left + (-1))))]) dX4_condition_108 4 rfl (Nat.le_of_ble_eq_true rfl) (wr_id (by omega) (by omega)) rfl (s_goto 13 dX4_condition_111 (by decide) ?_))
                  exact ih 0 1 (left + (-1)) (wu w_a3 35 1 ((w_a3 35 1) + 1)) ((D ++ [((20 : Int), (0 : Int))]) ++ [((21 : Int), (0 : Int))]) R.tail (((kk - 1) - 1) + 1) 0 g2 (by omega) (by omega) (by have ht2 := hd_tail (K := K) (S := R) (by omega); omega) (by omega) ((hf3).tr (FrPg.adv hb)) (StP.adv hb hS3 (by omega)) (by omega) (by omega) (by omega) (by omega) (by omega) (fun _ => (by have ht2 := hd_tail (K := K) (S := R) (by omega); omega)) (by have ht2 := hd_tail (K := K) (S := R) (by omega); omega) (hX3.trans (anW_m (by omega))) (by omega)
            · skip
              refine s_iconst dX4_condition_52 (by decide) (s_goto 57 dX4_condition_53 (by decide) (s_istore_n (ls' := [(0, (2, 35)), (1, (0, (8 - (r : Int)))), (2, (0, 1)), (3, (0, o)), (4, (0, left))]) dX4_condition_57 (Nat.le_of_ble_eq_true rfl) rfl (s_iload_n dX4_condition_58 2 rfl (s_if_ne 98 dX4_condition_59 (by decide) (kf := fun c => absurd c (by decide)) (kt := fun _ => s_aload_n dX4_condition_98 0 rfl rfl (s_dup dX4_condition_99 (show (2 : Nat) ≠ 1 by decide) (n_getf 35 1 0 dX4_condition_100 cf_X4 ff_X4_37 rfl sh_35 rfl (by decide) (v := (w_a2 35 1)) rfl (s_iconst dX4_condition_103 (by decide) (n_add (z := ((w_a2 35 1) + 1)) dX4_condition_104 (wr_id (by omega) (by omega)) ?_)))))))))
              refine n_putf 35 1 1 dX4_condition_105 cf_X4 ff_X4_37 rfl rfl sh_35 rfl rfl rfl (s_iinc (z := (left + (-1))) (ls' := [(0, (2, 35)), (1, (0, (8 - (r : Int)))), (2, (0, 1)), (3, (0, o)), (4, (0, (left + (-1))))]) dX4_condition_108 4 rfl (Nat.le_of_ble_eq_true rfl) (wr_id (by omega) (by omega)) rfl (s_goto 13 dX4_condition_111 (by decide) ?_))
              exact ih 1 o (left + (-1)) (wu w_a2 35 1 ((w_a2 35 1) + 1)) (D ++ [((20 : Int), (0 : Int))]) R.tail ((kk - 1) + 1) g1 f2 (by omega) (by omega) (by have ht2 := hd_tail (K := K) (S := R) (by omega); omega) (by omega) ((hf2).tr (FrPg.adv hb)) (StP.adv hb hS2 (by omega)) (by omega) (by omega) (by omega) (by omega) (fun _ => (by have ht2 := hd_tail (K := K) (S := R) (by omega); omega)) (fun _ => (by have ht2 := hd_tail (K := K) (S := R) (by omega); omega)) (by have ht2 := hd_tail (K := K) (S := R) (by omega); omega) (hX2.trans (evW_m (by omega))) (by omega)
          · skip
            obtain ⟨e9, he, hF9, h39, h49⟩ := hz_20.no (by omega)
            refine s_iconst dX4_condition_26 (by decide) (n_zret dX4_condition_27 hR rfl (by first | exact Or.inl rfl | exact Or.inr rfl | exact bi_01 _ | omega) ?_)
            exact ⟨_, rfl, Or.inl ⟨rfl, e9, hX.trans (clB_f he), hf.tF hF9, h39, h49⟩⟩
      
  refine s_iconst dX4_condition_0 (by decide) (s_istore_n (ls' := [(0, (2, 35)), (1, (0, (8 - (r : Int)))), (2, (0, 0))]) dX4_condition_1 (Nat.le_of_ble_eq_true rfl) rfl (s_iconst dX4_condition_2 (by decide) (s_istore_n (ls' := [(0, (2, 35)), (1, (0, (8 - (r : Int)))), (2, (0, 0)), (3, (0, 0))]) dX4_condition_3 (Nat.le_of_ble_eq_true rfl) rfl (s_aload_n dX4_condition_4 0 rfl rfl (n_getc (q := 30) 35 0 40 dX4_condition_5 cf_X4 ff_X4_9 rfl sh_35 rfl (by decide) rfl (by decide) (n_getf 30 5 0 dX4_condition_8 cf_X8 ff_X4_48 rfl sh_30 rfl (by decide) (v := (w 30 5)) rfl (s_istore (ls' := [(0, (2, 35)), (1, (0, (8 - (r : Int)))), (2, (0, 0)), (3, (0, 0)), (4, (0, (w 30 5)))]) dX4_condition_11 (Nat.le_of_ble_eq_true rfl) rfl ?_)))))))
  exact L_13 _ 0 0 (w 30 5) w C0 S0 k 0 0 (by omega) (by omega) (by omega) (by omega) FrPg.rf hS0 (by omega) (by omega) (by omega) (by omega) (by omega) (by omega) hn (anF_cl K (onP K r) 0 0 C0 S0) (Nat.lt_succ_self _)

/-- so many not -/
def ntL (j : Nat) : List Stq := List.replicate j (19, 0)
theorem nt_s (D : List Stq) (j : Nat) : D ++ [((19 : Int), (0 : Int))] ++ ntL j = D ++ ntL (j + 1) := by
  unfold ntL
  rw [List.replicate_succ, List.append_assoc]
  rfl
theorem nt_e (D : List Stq) (j : Nat) : D ++ ntL j ++ [((19 : Int), (0 : Int))] = D ++ ntL (j + 1) := by
  unfold ntL
  rw [List.replicate_succ', List.append_assoc]
theorem bnd_0 (r : Rs) : r = bnd r (fun D R => okR (D ++ ntL 0) R) := by
  cases r with
  | inl e => rfl
  | inr q => show Sum.inr q = Sum.inr (q.1 ++ [], q.2); rw [List.append_nil]
theorem on_not {K : Ky} {r j : Nat} {C : List Stq} {S : List Int} (hr : 0 < r) (h : hdK K S = 262) : bnd (onP K r C S) (fun D R => okR (D ++ ntL j) R) = bnd (onP K (r - 1) C S.tail) (fun D R => okR (D ++ ntL (j + 1)) R) := by
  obtain ⟨q, rfl⟩ : ∃ q, r = q + 1 := ⟨r - 1, by omega⟩
  rw [onP, if_pos h, bnd_as, Nat.add_sub_cancel]
  congr 1
  funext D R
  rw [bnd_ok, nt_s]
theorem on_3 {K : Ky} {r : Nat} {C : List Stq} {S : List Int} (hr : r = 0) (h : hdK K S = 262 ∨ hdK K S = 40) : onP K r C S = flK K 3 S := by
  subst hr
  rw [onP, if_pos h]
theorem on_br {K : Ky} {r : Nat} {C : List Stq} {S : List Int} (hr : 0 < r) (h : hdK K S = 40) : onP K r C S = bnd (anF K (onP K (r - 1)) C S.tail) (fun D R => ndP K 41 D R) := by
  obtain ⟨q, rfl⟩ : ∃ q, r = q + 1 := ⟨r - 1, by omega⟩
  rw [onP, if_neg (by omega), if_pos h, Nat.add_sub_cancel]
theorem on_cm {K : Ky} {r : Nat} {C : List Stq} {S : List Int} (h : hdK K S ≠ 40 ∧ hdK K S ≠ 262) : onP K r C S = cmP K C S := by
  cases r with
  | zero => rw [onP, if_neg (by omega)]
  | succ q => rw [onP, if_neg h.2, if_neg h.1]
theorem ndP_ok {K : Ky} {k : Int} {D : List Stq} {R : List Int} (h : hdK K R = k) : ndP K k D R = okR D R.tail := if_pos h
theorem ndP_no {K : Ky} {k : Int} {D : List Stq} {R : List Int} (h : hdK K R ≠ k) : ndP K k D R = flK K 1 R := if_neg h
theorem bnd_in {r : Rs} {f : List Stq → List Int → Rs} {e : Int × Int} (h : r = .inl e) : bnd r f = .inl e := by rw [h]; rfl
theorem bnd_on {r : Rs} {f : List Stq → List Int → Rs} {D : List Stq} {R : List Int} (h : r = okR D R) : bnd r f = f D R := by rw [h]; rfl
theorem tk_ok {w w1 : Wd} {K : Ky} {S : List Int} {q z : Int} (h : (hdK K S = q ∧ z = 1 ∧ w1 = wu w 35 1 (w 35 1 + 1)) ∨ (hdK K S ≠ q ∧ z = 0 ∧ w1 = wu (wu w 35 3 1) 35 4 (plK K S))) (hz : z ≠ 0) : hdK K S = q ∧ w1 = wu w 35 1 (w 35 1 + 1) := by
  rcases h with h | h
  · exact ⟨h.1, h.2.2⟩
  · omega
theorem tk_no {w w1 : Wd} {K : Ky} {S : List Int} {q z : Int} (h : (hdK K S = q ∧ z = 1 ∧ w1 = wu w 35 1 (w 35 1 + 1)) ∨ (hdK K S ≠ q ∧ z = 0 ∧ w1 = wu (wu w 35 3 1) 35 4 (plK K S))) (hz : z = 0) : hdK K S ≠ q ∧ w1 = wu (wu w 35 3 1) 35 4 (plK K S) := by
  rcases h with h | h
  · omega
  · exact ⟨h.1, h.2.2⟩

theorem tr_cm {q : Int} (h : 60 ≤ q ∧ q ≤ 62) : tr1 (q - 44, 0) = [q] := by
  rcases (show q = 60 ∨ q = 61 ∨ q = 62 by omega) with rfl | rfl | rfl <;> rfl
set_option maxRecDepth 100000 in
set_option maxHeartbeats 4000000 in
theorem c_X_single {b : Nat} {N X0 : List Int} {K : Ky} {r : Nat} (hK : KOK K) (hr8 : r ≤ 8) (hc : ∀ r2, r2 < r → CoC b N K X0 r2) (C0 : List Stq) (S0 : List Int) (k : Int) (w : Wd) (hb : IsSc b) (hS0 : StP w b N K k (X0 ++ trL C0) S0) (hk : 0 ≤ k) (hn : S0.length < N.length) : CallN (2 * r + 4) mX4_single [(2, 35), (0, (8 - (r : Int)))] w (RQ (fun z w1 => ReX w b N K k X0 (onP K r C0 S0) z w1)) := by
  refine CallN.intro (by decide +kernel) (Nat.le_of_ble_eq_true rfl) (fun ρ hR => ?_)
  show AtN mX4_single (2 * r + 4) ρ 0 [(0, (2, 35)), (1, (0, (8 - (r : Int))))] [] w
  have hl9 := hS0.lt
  have h600 := hS0.1.1
  have L_178 : ∀ (fu : Nat) (ns : Int) (i : Int) (v9 : Wd) (D : List Stq) (R : List Int) (j : Nat) (kk : Int), ns = 8 - (r : Int) + (j : Int) → (j : Int) ≤ 8 → 8 - (r : Int) ≤ i ∧ i ≤ ns → k + (ns - i) ≤ kk → FrPg b w v9 → StP v9 b N K kk (X0 ++ trL (D ++ ntL (i - (8 - (r : Int))).toNat)) R → onP K r C0 S0 = okR (D ++ ntL j) R → (ns - i).toNat < fu → AtN mX4_single (2 * r + 4) ρ 178 [(0, (2, 35)), (1, (0, (8 - (r : Int)))), (2, (0, ns)), (3, (0, i))] [] v9 := by
    intro fu
    induction fu with
    | zero => intro ns i v9 D R j kk hj hj8 hi hkk hf hS hres hm; exact absurd hm (Nat.not_lt_zero _)
    | succ fu ih =>
      intro ns i v9 D R j kk hj hj8 hi hkk hf hS hres hm
      have hl9 := hS.lt
      have h600 := hS.1.1
      refine s_iload_n dX4_single_178 3 rfl (s_iload_n dX4_single_179 2 rfl (s_icmp_ge 199 dX4_single_180 (by decide) (fun c_180 => ?_) (fun c_180 => ?_)))
      · skip
        refine s_iconst dX4_single_199 (by decide) (n_zret dX4_single_200 hR rfl (by first | exact Or.inl rfl | exact Or.inr rfl | exact bi_01 _ | omega) ?_)
        have ei : i = ns := by omega
        rw [show (i - (8 - (r : Int))).toNat = j by omega] at hS
        exact ⟨_, rfl, Or.inr ⟨rfl, _, _, hres, hf, hS.wk (by omega)⟩⟩
      · skip
        refine s_aload_n dX4_single_183 0 rfl rfl (n_getf 35 2 2 dX4_single_184 cf_X4 ff_X4_18 rfl sh_35 rfl (by decide) (v := ((b : Nat) : Int)) hS.2.2.2.1 (s_sipush dX4_single_187 (by decide) (n_invV' (as := [(0, 262)]) dX4_single_190 kv_X6_add ml_X4_76 (c_X_add 262 v9 hb hS (by omega)) (by omega) b cf_X6 rfl (shS hb) rfl rfl rfl (Nat.le_of_ble_eq_true rfl) ?_)))
        rintro r_190 w_a1 ⟨rfl, hf1, hS1⟩
        replace hf1 := (hf).tr hf1
        have hl1 := hS1.lt
        refine s_iinc (z := (i + 1)) (ls' := [(0, (2, 35)), (1, (0, (8 - (r : Int)))), (2, (0, ns)), (3, (0, (i + 1)))]) dX4_single_193 3 rfl (Nat.le_of_ble_eq_true rfl) (wr_id (by omega) (by omega)) rfl (s_goto 178 dX4_single_196 (by decide) ?_)
        exact ih ns (i + 1) w_a1 D R j (kk - 1) hj hj8 (by omega) (by omega) hf1 (by rw [show (i + 1 - (8 - (r : Int))).toNat = (i - (8 - (r : Int))).toNat + 1 by omega, ← nt_e, ← tr_1 (p := ((19 : Int), (0 : Int))) rfl]; exact hS1) hres (by omega)
  have L_7 : ∀ (fu : Nat) (ns : Int) (lf : Int) (v9 : Wd) (S : List Int) (kk : Int) (r2 : Nat) (j : Nat), r2 + j = r → ns = 8 - (r2 : Int) → lf = (r2 : Int) → kk = k + (j : Int) → S.length < N.length → FrPg b w v9 → StP v9 b N K kk (X0 ++ trL C0) S → onP K r C0 S0 = bnd (onP K r2 C0 S) (fun D R => okR (D ++ ntL j) R) → lf.toNat < fu → AtN mX4_single (2 * r + 4) ρ 7 [(0, (2, 35)), (1, (0, (8 - (r : Int)))), (2, (0, ns)), (3, (0, lf))] [] v9 := by
    intro fu
    induction fu with
    | zero => intro ns lf v9 S kk r2 j hr2 hns hlf hkk hsn hf hS hX hm; exact absurd hm (Nat.not_lt_zero _)
    | succ fu ih =>
      intro ns lf v9 S kk r2 j hr2 hns hlf hkk hsn hf hS hX hm
      have hl9 := hS.lt
      have h600 := hS.1.1
      have hle := hd_le hK S
      refine s_iload_n dX4_single_7 3 rfl (s_if_le 40 dX4_single_8 (by decide) (fun c_8 => ?_) (fun c_8 => ?_))
      · skip
        refine s_aload_n dX4_single_40 0 rfl rfl (n_invV (as := []) dX4_single_41 kv_X4_sign ml_X4_40 (c_X_sign v9 hb hS) (by omega) 35 cf_X4 rfl sh_35 rfl rfl rfl (Nat.le_of_ble_eq_true rfl) (s_sipush dX4_single_44 (by decide) (s_icmp_eq 65 dX4_single_47 (by decide) (fun c_47 => ?_) (fun c_47 => ?_))))
        · skip
          skip
          refine s_aload_n dX4_single_65 0 rfl rfl (s_iconst dX4_single_66 (by decide) (n_invV (as := [(0, 3)]) dX4_single_67 kv_X4_refuse ml_X4_61 (c_X_refuse 3 v9 hb hS) (by omega) 35 cf_X4 rfl sh_35 rfl rfl rfl (Nat.le_of_ble_eq_true rfl) (n_zret dX4_single_70 hR rfl (by first | exact Or.inl rfl | exact Or.inr rfl | exact bi_01 _ | omega) ?_)))
          exact ⟨_, rfl, Or.inl ⟨rfl, (3, plK K S), hX.trans (bnd_in (on_3 (by omega) (by omega))), (hf).tF (FrPf.ref hb), by rw [wu_ne2]; exact wu_same .., wu_same ..⟩⟩
        · skip
          refine s_aload_n dX4_single_50 0 rfl rfl (n_invV (as := []) dX4_single_51 kv_X4_sign ml_X4_40 (c_X_sign v9 hb hS) (by omega) 35 cf_X4 rfl sh_35 rfl rfl rfl (Nat.le_of_ble_eq_true rfl) (s_bipush dX4_single_54 (by decide) (s_icmp_ne 71 dX4_single_56 (by decide) (fun c_56 => ?_) (fun c_56 => ?_))))
          · skip
            refine s_aload_n dX4_single_71 0 rfl rfl (n_invV (as := []) dX4_single_72 kv_X4_sign ml_X4_40 (c_X_sign v9 hb hS) (by omega) 35 cf_X4 rfl sh_35 rfl rfl rfl (Nat.le_of_ble_eq_true rfl) (s_bipush dX4_single_75 (by decide) (s_icmp_ne 111 dX4_single_77 (by decide) (fun c_77 => ?_) (fun c_77 => ?_))))
            · skip
              refine s_aload_n dX4_single_111 0 rfl rfl (n_invV' (as := []) dX4_single_112 kv_X4_expression ml_X4_85 (c_X_expression (C0 := C0) (S0 := S) v9 hb (hS) hK (by omega) (by first | omega | (simp only [List.length_tail]; omega))) (by omega) 35 cf_X4 rfl sh_35 rfl rfl rfl (Nat.le_of_ble_eq_true rfl) ?_)
              rintro r_112 w_112 ⟨z_112, rfl, hz_112⟩
              show AtN _ _ ρ _ _ [(0, z_112)] w_112
              refine s_if_ne 120 dX4_single_115 (by decide) (fun c_115 => ?_) (fun c_115 => ?_)
              · skip
                obtain ⟨D1, R1, hD1, hGe1, hSe1⟩ := hz_112.ok (by omega)
                have hlt1 := (ex_gr hK).lt (fun D h => ok_ne h) hD1
                have hl19 := hSe1.lt
                refine s_aload_n dX4_single_120 0 rfl rfl (n_invV (as := []) dX4_single_121 kv_X4_sign ml_X4_40 (c_X_sign w_112 hb hSe1) (by omega) 35 cf_X4 rfl sh_35 rfl rfl rfl (Nat.le_of_ble_eq_true rfl) (s_istore_n (ls' := [(0, (2, 35)), (1, (0, (8 - (r : Int)))), (2, (0, ns)), (3, (0, (hdK K R1)))]) dX4_single_124 (Nat.le_of_ble_eq_true rfl) rfl (s_iload_n dX4_single_125 3 rfl (s_bipush dX4_single_126 (by decide) (s_icmp_eq 149 dX4_single_128 (by decide) (fun c_128 => ?_) (fun c_128 => ?_))))))
                · skip
                  refine s_aload_n dX4_single_149 0 rfl rfl (s_dup dX4_single_150 (show (2 : Nat) ≠ 1 by decide) (n_getf 35 1 0 dX4_single_151 cf_X4 ff_X4_37 rfl sh_35 rfl (by decide) (v := (w_112 35 1)) rfl (s_iconst dX4_single_154 (by decide) (n_add (z := ((w_112 35 1) + 1)) dX4_single_155 (wr_id (by omega) (by omega)) (n_putf 35 1 1 dX4_single_156 cf_X4 ff_X4_37 rfl rfl sh_35 rfl rfl rfl (s_aload_n dX4_single_159 0 rfl rfl (n_invV' (as := []) dX4_single_160 kv_X4_expression ml_X4_85 (c_X_expression (C0 := D1) (S0 := R1.tail) (wu w_112 35 1 ((w_112 35 1) + 1)) hb ((StP.adv hb hSe1 (by omega))) hK (by omega) (by first | omega | (simp only [List.length_tail]; omega))) (by omega) 35 cf_X4 rfl sh_35 rfl rfl rfl (Nat.le_of_ble_eq_true rfl) ?_)))))))
                  rintro r_160 w_160 ⟨z_160, rfl, hz_160⟩
                  show AtN _ _ ρ _ _ [(0, z_160)] w_160
                  refine s_if_ne 168 dX4_single_163 (by decide) (fun c_163 => ?_) (fun c_163 => ?_)
                  · skip
                    obtain ⟨D2, R2, hD2, hGe2, hSe2⟩ := hz_160.ok (by omega)
                    have hlt2 := (ex_gr hK).lt (fun D h => ok_ne h) hD2
                    have hl29 := hSe2.lt
                    refine s_aload_n dX4_single_168 0 rfl rfl (n_getf 35 2 2 dX4_single_169 cf_X4 ff_X4_18 rfl sh_35 rfl (by decide) (v := ((b : Nat) : Int)) hSe2.2.2.2.1 (s_iload_n dX4_single_172 3 rfl (n_invV' (as := [(0, (hdK K R1))]) dX4_single_173 kv_X6_add ml_X4_76 (c_X_add (hdK K R1) w_160 hb hSe2 (by omega)) (by omega) b cf_X6 rfl (shS hb) rfl rfl rfl (Nat.le_of_ble_eq_true rfl) ?_)))
                    rintro r_173 w_a2 ⟨rfl, hf2, hS2⟩
                    replace hf2 := (((((((hf).tr hGe1)).tr (FrPg.adv hb))).tr hGe2)).tr hf2
                    have hl2 := hS2.lt
                    rw [tr_1 (p := ((hdK K R1 - 44 : Int), (0 : Int))) (tr_cm (by omega))] at hS2
                    refine s_iload_n dX4_single_176 1 rfl (s_istore_n (ls' := [(0, (2, 35)), (1, (0, (8 - (r : Int)))), (2, (0, ns)), (3, (0, (8 - (r : Int))))]) dX4_single_177 (Nat.le_of_ble_eq_true rfl) rfl ?_)
                    exact L_178 _ ns (8 - (r : Int)) w_a2 (D2 ++ [((hdK K R1 - 44 : Int), (0 : Int))]) R2 j ((kk + 1) - 1) (by omega) (by omega) (by omega) (by omega) hf2 (by rw [show (8 - (r : Int) - (8 - (r : Int))).toNat = 0 by omega]; unfold ntL; rw [List.replicate_zero, List.append_nil]; exact hS2) (hX.trans (bnd_on ((on_cm ⟨by omega, by omega⟩).trans ((bnd_on hD1).trans ((if_pos (by omega)).trans (bnd_on hD2)))))) (Nat.lt_succ_self _)
                  · skip
                    obtain ⟨e9, he, hF9, h39, h49⟩ := hz_160.no (by omega)
                    refine s_iconst dX4_single_166 (by decide) (n_zret dX4_single_167 hR rfl (by first | exact Or.inl rfl | exact Or.inr rfl | exact bi_01 _ | omega) ?_)
                    exact ⟨_, rfl, Or.inl ⟨rfl, e9, hX.trans (bnd_in ((on_cm ⟨by omega, by omega⟩).trans ((bnd_on hD1).trans ((if_pos (by omega)).trans (bnd_in he))))), (((((hf).tr hGe1)).tr (FrPg.adv hb))).tF hF9, h39, h49⟩⟩
                · skip
                  refine s_iload_n dX4_single_131 3 rfl (s_bipush dX4_single_132 (by decide) (s_icmp_eq 149 dX4_single_134 (by decide) (fun c_134 => ?_) (fun c_134 => ?_)))
                  · skip
                    refine s_aload_n dX4_single_149 0 rfl rfl (s_dup dX4_single_150 (show (2 : Nat) ≠ 1 by decide) (n_getf 35 1 0 dX4_single_151 cf_X4 ff_X4_37 rfl sh_35 rfl (by decide) (v := (w_112 35 1)) rfl (s_iconst dX4_single_154 (by decide) (n_add (z := ((w_112 35 1) + 1)) dX4_single_155 (wr_id (by omega) (by omega)) (n_putf 35 1 1 dX4_single_156 cf_X4 ff_X4_37 rfl rfl sh_35 rfl rfl rfl (s_aload_n dX4_single_159 0 rfl rfl (n_invV' (as := []) dX4_single_160 kv_X4_expression ml_X4_85 (c_X_expression (C0 := D1) (S0 := R1.tail) (wu w_112 35 1 ((w_112 35 1) + 1)) hb ((StP.adv hb hSe1 (by omega))) hK (by omega) (by first | omega | (simp only [List.length_tail]; omega))) (by omega) 35 cf_X4 rfl sh_35 rfl rfl rfl (Nat.le_of_ble_eq_true rfl) ?_)))))))
                    rintro r_160 w_160 ⟨z_160, rfl, hz_160⟩
                    show AtN _ _ ρ _ _ [(0, z_160)] w_160
                    refine s_if_ne 168 dX4_single_163 (by decide) (fun c_163 => ?_) (fun c_163 => ?_)
                    · skip
                      obtain ⟨D2, R2, hD2, hGe2, hSe2⟩ := hz_160.ok (by omega)
                      have hlt2 := (ex_gr hK).lt (fun D h => ok_ne h) hD2
                      have hl29 := hSe2.lt
                      refine s_aload_n dX4_single_168 0 rfl rfl (n_getf 35 2 2 dX4_single_169 cf_X4 ff_X4_18 rfl sh_35 rfl (by decide) (v := ((b : Nat) : Int)) hSe2.2.2.2.1 (s_iload_n dX4_single_172 3 rfl (n_invV' (as := [(0, (hdK K R1))]) dX4_single_173 kv_X6_add ml_X4_76 (c_X_add (hdK K R1) w_160 hb hSe2 (by omega)) (by omega) b cf_X6 rfl (shS hb) rfl rfl rfl (Nat.le_of_ble_eq_true rfl) ?_)))
                      rintro r_173 w_a3 ⟨rfl, hf3, hS3⟩
                      replace hf3 := (((((((hf).tr hGe1)).tr (FrPg.adv hb))).tr hGe2)).tr hf3
                      have hl3 := hS3.lt
                      rw [tr_1 (p := ((hdK K R1 - 44 : Int), (0 : Int))) (tr_cm (by omega))] at hS3
                      refine s_iload_n dX4_single_176 1 rfl (s_istore_n (ls' := [(0, (2, 35)), (1, (0, (8 - (r : Int)))), (2, (0, ns)), (3, (0, (8 - (r : Int))))]) dX4_single_177 (Nat.le_of_ble_eq_true rfl) rfl ?_)
                      exact L_178 _ ns (8 - (r : Int)) w_a3 (D2 ++ [((hdK K R1 - 44 : Int), (0 : Int))]) R2 j ((kk + 1) - 1) (by omega) (by omega) (by omega) (by omega) hf3 (by rw [show (8 - (r : Int) - (8 - (r : Int))).toNat = 0 by omega]; unfold ntL; rw [List.replicate_zero, List.append_nil]; exact hS3) (hX.trans (bnd_on ((on_cm ⟨by omega, by omega⟩).trans ((bnd_on hD1).trans ((if_pos (by omega)).trans (bnd_on hD2)))))) (Nat.lt_succ_self _)
                    · skip
                      obtain ⟨e9, he, hF9, h39, h49⟩ := hz_160.no (by omega)
                      refine s_iconst dX4_single_166 (by decide) (n_zret dX4_single_167 hR rfl (by first | exact Or.inl rfl | exact Or.inr rfl | exact bi_01 _ | omega) ?_)
                      exact ⟨_, rfl, Or.inl ⟨rfl, e9, hX.trans (bnd_in ((on_cm ⟨by omega, by omega⟩).trans ((bnd_on hD1).trans ((if_pos (by omega)).trans (bnd_in he))))), (((((hf).tr hGe1)).tr (FrPg.adv hb))).tF hF9, h39, h49⟩⟩
                  · skip
                    refine s_iload_n dX4_single_137 3 rfl (s_bipush dX4_single_138 (by decide) (s_icmp_eq 149 dX4_single_140 (by decide) (fun c_140 => ?_) (fun c_140 => ?_)))
                    · skip
                      refine s_aload_n dX4_single_149 0 rfl rfl (s_dup dX4_single_150 (show (2 : Nat) ≠ 1 by decide) (n_getf 35 1 0 dX4_single_151 cf_X4 ff_X4_37 rfl sh_35 rfl (by decide) (v := (w_112 35 1)) rfl (s_iconst dX4_single_154 (by decide) (n_add (z := ((w_112 35 1) + 1)) dX4_single_155 (wr_id (by omega) (by omega)) (n_putf 35 1 1 dX4_single_156 cf_X4 ff_X4_37 rfl rfl sh_35 rfl rfl rfl (s_aload_n dX4_single_159 0 rfl rfl (n_invV' (as := []) dX4_single_160 kv_X4_expression ml_X4_85 (c_X_expression (C0 := D1) (S0 := R1.tail) (wu w_112 35 1 ((w_112 35 1) + 1)) hb ((StP.adv hb hSe1 (by omega))) hK (by omega) (by first | omega | (simp only [List.length_tail]; omega))) (by omega) 35 cf_X4 rfl sh_35 rfl rfl rfl (Nat.le_of_ble_eq_true rfl) ?_)))))))
                      rintro r_160 w_160 ⟨z_160, rfl, hz_160⟩
                      show AtN _ _ ρ _ _ [(0, z_160)] w_160
                      refine s_if_ne 168 dX4_single_163 (by decide) (fun c_163 => ?_) (fun c_163 => ?_)
                      · skip
                        obtain ⟨D2, R2, hD2, hGe2, hSe2⟩ := hz_160.ok (by omega)
                        have hlt2 := (ex_gr hK).lt (fun D h => ok_ne h) hD2
                        have hl29 := hSe2.lt
                        refine s_aload_n dX4_single_168 0 rfl rfl (n_getf 35 2 2 dX4_single_169 cf_X4 ff_X4_18 rfl sh_35 rfl (by decide) (v := ((b : Nat) : Int)) hSe2.2.2.2.1 (s_iload_n dX4_single_172 3 rfl (n_invV' (as := [(0, (hdK K R1))]) dX4_single_173 kv_X6_add ml_X4_76 (c_X_add (hdK K R1) w_160 hb hSe2 (by omega)) (by omega) b cf_X6 rfl (shS hb) rfl rfl rfl (Nat.le_of_ble_eq_true rfl) ?_)))
                        rintro r_173 w_a4 ⟨rfl, hf4, hS4⟩
                        replace hf4 := (((((((hf).tr hGe1)).tr (FrPg.adv hb))).tr hGe2)).tr hf4
                        have hl4 := hS4.lt
                        rw [tr_1 (p := ((hdK K R1 - 44 : Int), (0 : Int))) (tr_cm (by omega))] at hS4
                        refine s_iload_n dX4_single_176 1 rfl (s_istore_n (ls' := [(0, (2, 35)), (1, (0, (8 - (r : Int)))), (2, (0, ns)), (3, (0, (8 - (r : Int))))]) dX4_single_177 (Nat.le_of_ble_eq_true rfl) rfl ?_)
                        exact L_178 _ ns (8 - (r : Int)) w_a4 (D2 ++ [((hdK K R1 - 44 : Int), (0 : Int))]) R2 j ((kk + 1) - 1) (by omega) (by omega) (by omega) (by omega) hf4 (by rw [show (8 - (r : Int) - (8 - (r : Int))).toNat = 0 by omega]; unfold ntL; rw [List.replicate_zero, List.append_nil]; exact hS4) (hX.trans (bnd_on ((on_cm ⟨by omega, by omega⟩).trans ((bnd_on hD1).trans ((if_pos (by omega)).trans (bnd_on hD2)))))) (Nat.lt_succ_self _)
                      · skip
                        obtain ⟨e9, he, hF9, h39, h49⟩ := hz_160.no (by omega)
                        refine s_iconst dX4_single_166 (by decide) (n_zret dX4_single_167 hR rfl (by first | exact Or.inl rfl | exact Or.inr rfl | exact bi_01 _ | omega) ?_)
                        exact ⟨_, rfl, Or.inl ⟨rfl, e9, hX.trans (bnd_in ((on_cm ⟨by omega, by omega⟩).trans ((bnd_on hD1).trans ((if_pos (by omega)).trans (bnd_in he))))), (((((hf).tr hGe1)).tr (FrPg.adv hb))).tF hF9, h39, h49⟩⟩
                    · skip
                      refine s_aload_n dX4_single_143 0 rfl rfl (s_iconst dX4_single_144 (by decide) (n_invV (as := [(0, 1)]) dX4_single_145 kv_X4_refuse ml_X4_61 (c_X_refuse 1 w_112 hb hSe1) (by omega) 35 cf_X4 rfl sh_35 rfl rfl rfl (Nat.le_of_ble_eq_true rfl) (n_zret dX4_single_148 hR rfl (by first | exact Or.inl rfl | exact Or.inr rfl | exact bi_01 _ | omega) ?_)))
                      exact ⟨_, rfl, Or.inl ⟨rfl, (1, plK K R1), hX.trans (bnd_in ((on_cm ⟨by omega, by omega⟩).trans ((bnd_on hD1).trans (if_neg (by omega))))), (((hf).tr hGe1)).tF (FrPf.ref hb), by rw [wu_ne2]; exact wu_same .., wu_same ..⟩⟩
              · skip
                obtain ⟨e9, he, hF9, h39, h49⟩ := hz_112.no (by omega)
                refine s_iconst dX4_single_118 (by decide) (n_zret dX4_single_119 hR rfl (by first | exact Or.inl rfl | exact Or.inr rfl | exact bi_01 _ | omega) ?_)
                exact ⟨_, rfl, Or.inl ⟨rfl, e9, hX.trans (bnd_in ((on_cm ⟨by omega, by omega⟩).trans (bnd_in he))), (hf).tF hF9, h39, h49⟩⟩
            · skip
              refine s_aload_n dX4_single_80 0 rfl rfl (s_dup dX4_single_81 (show (2 : Nat) ≠ 1 by decide) (n_getf 35 1 0 dX4_single_82 cf_X4 ff_X4_37 rfl sh_35 rfl (by decide) (v := (v9 35 1)) rfl (s_iconst dX4_single_85 (by decide) (n_add (z := ((v9 35 1) + 1)) dX4_single_86 (wr_id (by omega) (by omega)) (n_putf 35 1 1 dX4_single_87 cf_X4 ff_X4_37 rfl rfl sh_35 rfl rfl rfl (s_aload_n dX4_single_90 0 rfl rfl (s_iload_n dX4_single_91 2 rfl (s_iconst dX4_single_92 (by decide) (n_add (z := (ns + 1)) dX4_single_93 (wr_id (by omega) (by omega)) ?_)))))))))
              refine n_invV' (as := [(0, (ns + 1))]) dX4_single_94 kv_X4_condition ml_X4_79 (show CallN (2 * (r2 - 1) + 5) mX4_condition [(2, 35), (0, (ns + 1))] (wu v9 35 1 ((v9 35 1) + 1)) _ from (by rw [show (ns + 1) = 8 - ((r2 - 1 : Nat) : Int) by omega]; exact hc (r2 - 1) (by omega) C0 S.tail (kk + 1) _ ((StP.adv hb hS (by omega))) (by omega) (by first | omega | (simp only [List.length_tail]; omega)))) (by omega) 35 cf_X4 rfl sh_35 rfl rfl rfl (Nat.le_of_ble_eq_true rfl) ?_
              rintro r_94 w_94 ⟨z_94, rfl, hz_94⟩
              show AtN _ _ ρ _ _ [(0, z_94)] w_94
              refine s_if_eq 109 dX4_single_97 (by decide) (fun c_97 => ?_) (fun c_97 => ?_)
              · skip
                obtain ⟨e9, he, hF9, h39, h49⟩ := hz_94.no (by omega)
                refine s_iconst dX4_single_109 (by decide) (n_zret dX4_single_110 hR rfl (by first | exact Or.inl rfl | exact Or.inr rfl | exact bi_01 _ | omega) ?_)
                exact ⟨_, rfl, Or.inl ⟨rfl, e9, (hX.trans (bnd_in ((on_br (by omega) (by omega)).trans (bnd_in he)))), (((hf).tr (FrPg.adv hb))).tF hF9, h39, h49⟩⟩
              · skip
                obtain ⟨Dc, Rc, hDc, hGc, hSc⟩ := hz_94.ok (by omega)
                have hlc := (an_gr (on_gr hK (r2 - 1)) C0 S.tail).lt (fun D h => okC_1 h) hDc
                have hl99 := hSc.lt
                refine s_aload_n dX4_single_100 0 rfl rfl (s_bipush dX4_single_101 (by decide) (n_invV' (as := [(0, 41)]) dX4_single_103 kv_X4_take ml_X4_82 (c_X_take 41 w_94 hb hSc) (by omega) 35 cf_X4 rfl sh_35 rfl rfl rfl (Nat.le_of_ble_eq_true rfl) ?_))
                rintro r_103 w_103 ⟨z_103, rfl, hz_103⟩
                show AtN _ _ ρ _ _ [(0, z_103)] w_103
                refine s_if_ne 176 dX4_single_106 (by decide) (fun c_106 => ?_) (fun c_106 => ?_)
                · skip
                  obtain ⟨ht9, hw9⟩ := tk_ok hz_103 (by omega)
                  subst hw9
                  skip
                  refine s_iload_n dX4_single_176 1 rfl (s_istore_n (ls' := [(0, (2, 35)), (1, (0, (8 - (r : Int)))), (2, (0, ns)), (3, (0, (8 - (r : Int))))]) dX4_single_177 (Nat.le_of_ble_eq_true rfl) rfl ?_)
                  exact L_178 _ ns (8 - (r : Int)) (wu w_94 35 1 (w_94 35 1 + 1)) Dc Rc.tail j ((kk + 1) + 1) (by omega) (by omega) (by omega) (by omega) ((((((hf).tr (FrPg.adv hb))).tr hGc)).tr (FrPg.adv hb)) (by rw [show (8 - (r : Int) - (8 - (r : Int))).toNat = 0 by omega]; unfold ntL; rw [List.replicate_zero, List.append_nil]; exact (StP.adv hb hSc (by omega))) (hX.trans (bnd_on ((on_br (by omega) (by omega)).trans ((bnd_on hDc).trans (ndP_ok ht9))))) (Nat.lt_succ_self _)
                · skip
                  obtain ⟨ht9, hw9⟩ := tk_no hz_103 (by omega)
                  subst hw9
                  refine s_iconst dX4_single_109 (by decide) (n_zret dX4_single_110 hR rfl (by first | exact Or.inl rfl | exact Or.inr rfl | exact bi_01 _ | omega) ?_)
                  exact ⟨_, rfl, Or.inl ⟨rfl, (1, plK K Rc), hX.trans (bnd_in ((on_br (by omega) (by omega)).trans ((bnd_on hDc).trans (ndP_no ht9)))), (((((hf).tr (FrPg.adv hb))).tr hGc)).tF (FrPf.ref hb), by rw [wu_ne2]; exact wu_same .., wu_same ..⟩⟩
          · skip
            refine s_iload_n dX4_single_59 2 rfl (s_bipush dX4_single_60 (by decide) (s_icmp_lt 71 dX4_single_62 (by decide) (fun c_62 => ?_) (fun c_62 => ?_)))
            · skip
              refine s_aload_n dX4_single_71 0 rfl rfl (n_invV (as := []) dX4_single_72 kv_X4_sign ml_X4_40 (c_X_sign v9 hb hS) (by omega) 35 cf_X4 rfl sh_35 rfl rfl rfl (Nat.le_of_ble_eq_true rfl) (s_bipush dX4_single_75 (by decide) (s_icmp_ne 111 dX4_single_77 (by decide) (fun c_77 => ?_) (fun c_77 => ?_))))
              · skip
                refine s_aload_n dX4_single_111 0 rfl rfl (n_invV' (as := []) dX4_single_112 kv_X4_expression ml_X4_85 (c_X_expression (C0 := C0) (S0 := S) v9 hb (hS) hK (by omega) (by first | omega | (simp only [List.length_tail]; omega))) (by omega) 35 cf_X4 rfl sh_35 rfl rfl rfl (Nat.le_of_ble_eq_true rfl) ?_)
                rintro r_112 w_112 ⟨z_112, rfl, hz_112⟩
                show AtN _ _ ρ _ _ [(0, z_112)] w_112
                refine s_if_ne 120 dX4_single_115 (by decide) (fun c_115 => ?_) (fun c_115 => ?_)
                · skip
                  obtain ⟨D1, R1, hD1, hGe1, hSe1⟩ := hz_112.ok (by omega)
                  have hlt1 := (ex_gr hK).lt (fun D h => ok_ne h) hD1
                  have hl19 := hSe1.lt
                  refine s_aload_n dX4_single_120 0 rfl rfl (n_invV (as := []) dX4_single_121 kv_X4_sign ml_X4_40 (c_X_sign w_112 hb hSe1) (by omega) 35 cf_X4 rfl sh_35 rfl rfl rfl (Nat.le_of_ble_eq_true rfl) (s_istore_n (ls' := [(0, (2, 35)), (1, (0, (8 - (r : Int)))), (2, (0, ns)), (3, (0, (hdK K R1)))]) dX4_single_124 (Nat.le_of_ble_eq_true rfl) rfl (s_iload_n dX4_single_125 3 rfl (s_bipush dX4_single_126 (by decide) (s_icmp_eq 149 dX4_single_128 (by decide) (fun c_128 => ?_) (fun c_128 => ?_))))))
                  · skip
                    refine s_aload_n dX4_single_149 0 rfl rfl (s_dup dX4_single_150 (show (2 : Nat) ≠ 1 by decide) (n_getf 35 1 0 dX4_single_151 cf_X4 ff_X4_37 rfl sh_35 rfl (by decide) (v := (w_112 35 1)) rfl (s_iconst dX4_single_154 (by decide) (n_add (z := ((w_112 35 1) + 1)) dX4_single_155 (wr_id (by omega) (by omega)) (n_putf 35 1 1 dX4_single_156 cf_X4 ff_X4_37 rfl rfl sh_35 rfl rfl rfl (s_aload_n dX4_single_159 0 rfl rfl (n_invV' (as := []) dX4_single_160 kv_X4_expression ml_X4_85 (c_X_expression (C0 := D1) (S0 := R1.tail) (wu w_112 35 1 ((w_112 35 1) + 1)) hb ((StP.adv hb hSe1 (by omega))) hK (by omega) (by first | omega | (simp only [List.length_tail]; omega))) (by omega) 35 cf_X4 rfl sh_35 rfl rfl rfl (Nat.le_of_ble_eq_true rfl) ?_)))))))
                    rintro r_160 w_160 ⟨z_160, rfl, hz_160⟩
                    show AtN _ _ ρ _ _ [(0, z_160)] w_160
                    refine s_if_ne 168 dX4_single_163 (by decide) (fun c_163 => ?_) (fun c_163 => ?_)
                    · skip
                      obtain ⟨D2, R2, hD2, hGe2, hSe2⟩ := hz_160.ok (by omega)
                      have hlt2 := (ex_gr hK).lt (fun D h => ok_ne h) hD2
                      have hl29 := hSe2.lt
                      refine s_aload_n dX4_single_168 0 rfl rfl (n_getf 35 2 2 dX4_single_169 cf_X4 ff_X4_18 rfl sh_35 rfl (by decide) (v := ((b : Nat) : Int)) hSe2.2.2.2.1 (s_iload_n dX4_single_172 3 rfl (n_invV' (as := [(0, (hdK K R1))]) dX4_single_173 kv_X6_add ml_X4_76 (c_X_add (hdK K R1) w_160 hb hSe2 (by omega)) (by omega) b cf_X6 rfl (shS hb) rfl rfl rfl (Nat.le_of_ble_eq_true rfl) ?_)))
                      rintro r_173 w_a5 ⟨rfl, hf5, hS5⟩
                      replace hf5 := (((((((hf).tr hGe1)).tr (FrPg.adv hb))).tr hGe2)).tr hf5
                      have hl5 := hS5.lt
                      rw [tr_1 (p := ((hdK K R1 - 44 : Int), (0 : Int))) (tr_cm (by omega))] at hS5
                      refine s_iload_n dX4_single_176 1 rfl (s_istore_n (ls' := [(0, (2, 35)), (1, (0, (8 - (r : Int)))), (2, (0, ns)), (3, (0, (8 - (r : Int))))]) dX4_single_177 (Nat.le_of_ble_eq_true rfl) rfl ?_)
                      exact L_178 _ ns (8 - (r : Int)) w_a5 (D2 ++ [((hdK K R1 - 44 : Int), (0 : Int))]) R2 j ((kk + 1) - 1) (by omega) (by omega) (by omega) (by omega) hf5 (by rw [show (8 - (r : Int) - (8 - (r : Int))).toNat = 0 by omega]; unfold ntL; rw [List.replicate_zero, List.append_nil]; exact hS5) (hX.trans (bnd_on ((on_cm ⟨by omega, by omega⟩).trans ((bnd_on hD1).trans ((if_pos (by omega)).trans (bnd_on hD2)))))) (Nat.lt_succ_self _)
                    · skip
                      obtain ⟨e9, he, hF9, h39, h49⟩ := hz_160.no (by omega)
                      refine s_iconst dX4_single_166 (by decide) (n_zret dX4_single_167 hR rfl (by first | exact Or.inl rfl | exact Or.inr rfl | exact bi_01 _ | omega) ?_)
                      exact ⟨_, rfl, Or.inl ⟨rfl, e9, hX.trans (bnd_in ((on_cm ⟨by omega, by omega⟩).trans ((bnd_on hD1).trans ((if_pos (by omega)).trans (bnd_in he))))), (((((hf).tr hGe1)).tr (FrPg.adv hb))).tF hF9, h39, h49⟩⟩
                  · skip
                    refine s_iload_n dX4_single_131 3 rfl (s_bipush dX4_single_132 (by decide) (s_icmp_eq 149 dX4_single_134 (by decide) (fun c_134 => ?_) (fun c_134 => ?_)))
                    · skip
                      refine s_aload_n dX4_single_149 0 rfl rfl (s_dup dX4_single_150 (show (2 : Nat) ≠ 1 by decide) (n_getf 35 1 0 dX4_single_151 cf_X4 ff_X4_37 rfl sh_35 rfl (by decide) (v := (w_112 35 1)) rfl (s_iconst dX4_single_154 (by decide) (n_add (z := ((w_112 35 1) + 1)) dX4_single_155 (wr_id (by omega) (by omega)) (n_putf 35 1 1 dX4_single_156 cf_X4 ff_X4_37 rfl rfl sh_35 rfl rfl rfl (s_aload_n dX4_single_159 0 rfl rfl (n_invV' (as := []) dX4_single_160 kv_X4_expression ml_X4_85 (c_X_expression (C0 := D1) (S0 := R1.tail) (wu w_112 35 1 ((w_112 35 1) + 1)) hb ((StP.adv hb hSe1 (by omega))) hK (by omega) (by first | omega | (simp only [List.length_tail]; omega))) (by omega) 35 cf_X4 rfl sh_35 rfl rfl rfl (Nat.le_of_ble_eq_true rfl) ?_)))))))
                      rintro r_160 w_160 ⟨z_160, rfl, hz_160⟩
                      show AtN _ _ ρ _ _ [(0, z_160)] w_160
                      refine s_if_ne 168 dX4_single_163 (by decide) (fun c_163 => ?_) (fun c_163 => ?_)
                      · skip
                        obtain ⟨D2, R2, hD2, hGe2, hSe2⟩ := hz_160.ok (by omega)
                        have hlt2 := (ex_gr hK).lt (fun D h => ok_ne h) hD2
                        have hl29 := hSe2.lt
                        refine s_aload_n dX4_single_168 0 rfl rfl (n_getf 35 2 2 dX4_single_169 cf_X4 ff_X4_18 rfl sh_35 rfl (by decide) (v := ((b : Nat) : Int)) hSe2.2.2.2.1 (s_iload_n dX4_single_172 3 rfl (n_invV' (as := [(0, (hdK K R1))]) dX4_single_173 kv_X6_add ml_X4_76 (c_X_add (hdK K R1) w_160 hb hSe2 (by omega)) (by omega) b cf_X6 rfl (shS hb) rfl rfl rfl (Nat.le_of_ble_eq_true rfl) ?_)))
                        rintro r_173 w_a6 ⟨rfl, hf6, hS6⟩
                        replace hf6 := (((((((hf).tr hGe1)).tr (FrPg.adv hb))).tr hGe2)).tr hf6
                        have hl6 := hS6.lt
                        rw [tr_1 (p := ((hdK K R1 - 44 : Int), (0 : Int))) (tr_cm (by omega))] at hS6
                        refine s_iload_n dX4_single_176 1 rfl (s_istore_n (ls' := [(0, (2, 35)), (1, (0, (8 - (r : Int)))), (2, (0, ns)), (3, (0, (8 - (r : Int))))]) dX4_single_177 (Nat.le_of_ble_eq_true rfl) rfl ?_)
                        exact L_178 _ ns (8 - (r : Int)) w_a6 (D2 ++ [((hdK K R1 - 44 : Int), (0 : Int))]) R2 j ((kk + 1) - 1) (by omega) (by omega) (by omega) (by omega) hf6 (by rw [show (8 - (r : Int) - (8 - (r : Int))).toNat = 0 by omega]; unfold ntL; rw [List.replicate_zero, List.append_nil]; exact hS6) (hX.trans (bnd_on ((on_cm ⟨by omega, by omega⟩).trans ((bnd_on hD1).trans ((if_pos (by omega)).trans (bnd_on hD2)))))) (Nat.lt_succ_self _)
                      · skip
                        obtain ⟨e9, he, hF9, h39, h49⟩ := hz_160.no (by omega)
                        refine s_iconst dX4_single_166 (by decide) (n_zret dX4_single_167 hR rfl (by first | exact Or.inl rfl | exact Or.inr rfl | exact bi_01 _ | omega) ?_)
                        exact ⟨_, rfl, Or.inl ⟨rfl, e9, hX.trans (bnd_in ((on_cm ⟨by omega, by omega⟩).trans ((bnd_on hD1).trans ((if_pos (by omega)).trans (bnd_in he))))), (((((hf).tr hGe1)).tr (FrPg.adv hb))).tF hF9, h39, h49⟩⟩
                    · skip
                      refine s_iload_n dX4_single_137 3 rfl (s_bipush dX4_single_138 (by decide) (s_icmp_eq 149 dX4_single_140 (by decide) (fun c_140 => ?_) (fun c_140 => ?_)))
                      · skip
                        refine s_aload_n dX4_single_149 0 rfl rfl (s_dup dX4_single_150 (show (2 : Nat) ≠ 1 by decide) (n_getf 35 1 0 dX4_single_151 cf_X4 ff_X4_37 rfl sh_35 rfl (by decide) (v := (w_112 35 1)) rfl (s_iconst dX4_single_154 (by decide) (n_add (z := ((w_112 35 1) + 1)) dX4_single_155 (wr_id (by omega) (by omega)) (n_putf 35 1 1 dX4_single_156 cf_X4 ff_X4_37 rfl rfl sh_35 rfl rfl rfl (s_aload_n dX4_single_159 0 rfl rfl (n_invV' (as := []) dX4_single_160 kv_X4_expression ml_X4_85 (c_X_expression (C0 := D1) (S0 := R1.tail) (wu w_112 35 1 ((w_112 35 1) + 1)) hb ((StP.adv hb hSe1 (by omega))) hK (by omega) (by first | omega | (simp only [List.length_tail]; omega))) (by omega) 35 cf_X4 rfl sh_35 rfl rfl rfl (Nat.le_of_ble_eq_true rfl) ?_)))))))
                        rintro r_160 w_160 ⟨z_160, rfl, hz_160⟩
                        show AtN _ _ ρ _ _ [(0, z_160)] w_160
                        refine s_if_ne 168 dX4_single_163 (by decide) (fun c_163 => ?_) (fun c_163 => ?_)
                        · skip
                          obtain ⟨D2, R2, hD2, hGe2, hSe2⟩ := hz_160.ok (by omega)
                          have hlt2 := (ex_gr hK).lt (fun D h => ok_ne h) hD2
                          have hl29 := hSe2.lt
                          refine s_aload_n dX4_single_168 0 rfl rfl (n_getf 35 2 2 dX4_single_169 cf_X4 ff_X4_18 rfl sh_35 rfl (by decide) (v := ((b : Nat) : Int)) hSe2.2.2.2.1 (s_iload_n dX4_single_172 3 rfl (n_invV' (as := [(0, (hdK K R1))]) dX4_single_173 kv_X6_add ml_X4_76 (c_X_add (hdK K R1) w_160 hb hSe2 (by omega)) (by omega) b cf_X6 rfl (shS hb) rfl rfl rfl (Nat.le_of_ble_eq_true rfl) ?_)))
                          rintro r_173 w_a7 ⟨rfl, hf7, hS7⟩
                          replace hf7 := (((((((hf).tr hGe1)).tr (FrPg.adv hb))).tr hGe2)).tr hf7
                          have hl7 := hS7.lt
                          rw [tr_1 (p := ((hdK K R1 - 44 : Int), (0 : Int))) (tr_cm (by omega))] at hS7
                          refine s_iload_n dX4_single_176 1 rfl (s_istore_n (ls' := [(0, (2, 35)), (1, (0, (8 - (r : Int)))), (2, (0, ns)), (3, (0, (8 - (r : Int))))]) dX4_single_177 (Nat.le_of_ble_eq_true rfl) rfl ?_)
                          exact L_178 _ ns (8 - (r : Int)) w_a7 (D2 ++ [((hdK K R1 - 44 : Int), (0 : Int))]) R2 j ((kk + 1) - 1) (by omega) (by omega) (by omega) (by omega) hf7 (by rw [show (8 - (r : Int) - (8 - (r : Int))).toNat = 0 by omega]; unfold ntL; rw [List.replicate_zero, List.append_nil]; exact hS7) (hX.trans (bnd_on ((on_cm ⟨by omega, by omega⟩).trans ((bnd_on hD1).trans ((if_pos (by omega)).trans (bnd_on hD2)))))) (Nat.lt_succ_self _)
                        · skip
                          obtain ⟨e9, he, hF9, h39, h49⟩ := hz_160.no (by omega)
                          refine s_iconst dX4_single_166 (by decide) (n_zret dX4_single_167 hR rfl (by first | exact Or.inl rfl | exact Or.inr rfl | exact bi_01 _ | omega) ?_)
                          exact ⟨_, rfl, Or.inl ⟨rfl, e9, hX.trans (bnd_in ((on_cm ⟨by omega, by omega⟩).trans ((bnd_on hD1).trans ((if_pos (by omega)).trans (bnd_in he))))), (((((hf).tr hGe1)).tr (FrPg.adv hb))).tF hF9, h39, h49⟩⟩
                      · skip
                        refine s_aload_n dX4_single_143 0 rfl rfl (s_iconst dX4_single_144 (by decide) (n_invV (as := [(0, 1)]) dX4_single_145 kv_X4_refuse ml_X4_61 (c_X_refuse 1 w_112 hb hSe1) (by omega) 35 cf_X4 rfl sh_35 rfl rfl rfl (Nat.le_of_ble_eq_true rfl) (n_zret dX4_single_148 hR rfl (by first | exact Or.inl rfl | exact Or.inr rfl | exact bi_01 _ | omega) ?_)))
                        exact ⟨_, rfl, Or.inl ⟨rfl, (1, plK K R1), hX.trans (bnd_in ((on_cm ⟨by omega, by omega⟩).trans ((bnd_on hD1).trans (if_neg (by omega))))), (((hf).tr hGe1)).tF (FrPf.ref hb), by rw [wu_ne2]; exact wu_same .., wu_same ..⟩⟩
                · skip
                  obtain ⟨e9, he, hF9, h39, h49⟩ := hz_112.no (by omega)
                  refine s_iconst dX4_single_118 (by decide) (n_zret dX4_single_119 hR rfl (by first | exact Or.inl rfl | exact Or.inr rfl | exact bi_01 _ | omega) ?_)
                  exact ⟨_, rfl, Or.inl ⟨rfl, e9, hX.trans (bnd_in ((on_cm ⟨by omega, by omega⟩).trans (bnd_in he))), (hf).tF hF9, h39, h49⟩⟩
              · skip
                refine s_aload_n dX4_single_80 0 rfl rfl (s_dup dX4_single_81 (show (2 : Nat) ≠ 1 by decide) (n_getf 35 1 0 dX4_single_82 cf_X4 ff_X4_37 rfl sh_35 rfl (by decide) (v := (v9 35 1)) rfl (s_iconst dX4_single_85 (by decide) (n_add (z := ((v9 35 1) + 1)) dX4_single_86 (wr_id (by omega) (by omega)) (n_putf 35 1 1 dX4_single_87 cf_X4 ff_X4_37 rfl rfl sh_35 rfl rfl rfl (s_aload_n dX4_single_90 0 rfl rfl (s_iload_n dX4_single_91 2 rfl (s_iconst dX4_single_92 (by decide) (n_add (z := (ns + 1)) dX4_single_93 (wr_id (by omega) (by omega)) ?_)))))))))
                refine n_invV' (as := [(0, (ns + 1))]) dX4_single_94 kv_X4_condition ml_X4_79 (show CallN (2 * (r2 - 1) + 5) mX4_condition [(2, 35), (0, (ns + 1))] (wu v9 35 1 ((v9 35 1) + 1)) _ from (by rw [show (ns + 1) = 8 - ((r2 - 1 : Nat) : Int) by omega]; exact hc (r2 - 1) (by omega) C0 S.tail (kk + 1) _ ((StP.adv hb hS (by omega))) (by omega) (by first | omega | (simp only [List.length_tail]; omega)))) (by omega) 35 cf_X4 rfl sh_35 rfl rfl rfl (Nat.le_of_ble_eq_true rfl) ?_
                rintro r_94 w_94 ⟨z_94, rfl, hz_94⟩
                show AtN _ _ ρ _ _ [(0, z_94)] w_94
                refine s_if_eq 109 dX4_single_97 (by decide) (fun c_97 => ?_) (fun c_97 => ?_)
                · skip
                  obtain ⟨e9, he, hF9, h39, h49⟩ := hz_94.no (by omega)
                  refine s_iconst dX4_single_109 (by decide) (n_zret dX4_single_110 hR rfl (by first | exact Or.inl rfl | exact Or.inr rfl | exact bi_01 _ | omega) ?_)
                  exact ⟨_, rfl, Or.inl ⟨rfl, e9, (hX.trans (bnd_in ((on_br (by omega) (by omega)).trans (bnd_in he)))), (((hf).tr (FrPg.adv hb))).tF hF9, h39, h49⟩⟩
                · skip
                  obtain ⟨Dc, Rc, hDc, hGc, hSc⟩ := hz_94.ok (by omega)
                  have hlc := (an_gr (on_gr hK (r2 - 1)) C0 S.tail).lt (fun D h => okC_1 h) hDc
                  have hl99 := hSc.lt
                  refine s_aload_n dX4_single_100 0 rfl rfl (s_bipush dX4_single_101 (by decide) (n_invV' (as := [(0, 41)]) dX4_single_103 kv_X4_take ml_X4_82 (c_X_take 41 w_94 hb hSc) (by omega) 35 cf_X4 rfl sh_35 rfl rfl rfl (Nat.le_of_ble_eq_true rfl) ?_))
                  rintro r_103 w_103 ⟨z_103, rfl, hz_103⟩
                  show AtN _ _ ρ _ _ [(0, z_103)] w_103
                  refine s_if_ne 176 dX4_single_106 (by decide) (fun c_106 => ?_) (fun c_106 => ?_)
                  · skip
                    obtain ⟨ht9, hw9⟩ := tk_ok hz_103 (by omega)
                    subst hw9
                    skip
                    refine s_iload_n dX4_single_176 1 rfl (s_istore_n (ls' := [(0, (2, 35)), (1, (0, (8 - (r : Int)))), (2, (0, ns)), (3, (0, (8 - (r : Int))))]) dX4_single_177 (Nat.le_of_ble_eq_true rfl) rfl ?_)
                    exact L_178 _ ns (8 - (r : Int)) (wu w_94 35 1 (w_94 35 1 + 1)) Dc Rc.tail j ((kk + 1) + 1) (by omega) (by omega) (by omega) (by omega) ((((((hf).tr (FrPg.adv hb))).tr hGc)).tr (FrPg.adv hb)) (by rw [show (8 - (r : Int) - (8 - (r : Int))).toNat = 0 by omega]; unfold ntL; rw [List.replicate_zero, List.append_nil]; exact (StP.adv hb hSc (by omega))) (hX.trans (bnd_on ((on_br (by omega) (by omega)).trans ((bnd_on hDc).trans (ndP_ok ht9))))) (Nat.lt_succ_self _)
                  · skip
                    obtain ⟨ht9, hw9⟩ := tk_no hz_103 (by omega)
                    subst hw9
                    refine s_iconst dX4_single_109 (by decide) (n_zret dX4_single_110 hR rfl (by first | exact Or.inl rfl | exact Or.inr rfl | exact bi_01 _ | omega) ?_)
                    exact ⟨_, rfl, Or.inl ⟨rfl, (1, plK K Rc), hX.trans (bnd_in ((on_br (by omega) (by omega)).trans ((bnd_on hDc).trans (ndP_no ht9)))), (((((hf).tr (FrPg.adv hb))).tr hGc)).tF (FrPf.ref hb), by rw [wu_ne2]; exact wu_same .., wu_same ..⟩⟩
            · skip
              refine s_aload_n dX4_single_65 0 rfl rfl (s_iconst dX4_single_66 (by decide) (n_invV (as := [(0, 3)]) dX4_single_67 kv_X4_refuse ml_X4_61 (c_X_refuse 3 v9 hb hS) (by omega) 35 cf_X4 rfl sh_35 rfl rfl rfl (Nat.le_of_ble_eq_true rfl) (n_zret dX4_single_70 hR rfl (by first | exact Or.inl rfl | exact Or.inr rfl | exact bi_01 _ | omega) ?_)))
              exact ⟨_, rfl, Or.inl ⟨rfl, (3, plK K S), hX.trans (bnd_in (on_3 (by omega) (by omega))), (hf).tF (FrPf.ref hb), by rw [wu_ne2]; exact wu_same .., wu_same ..⟩⟩
      · skip
        refine s_aload_n dX4_single_11 0 rfl rfl (n_invV (as := []) dX4_single_12 kv_X4_sign ml_X4_40 (c_X_sign v9 hb hS) (by omega) 35 cf_X4 rfl sh_35 rfl rfl rfl (Nat.le_of_ble_eq_true rfl) (s_sipush dX4_single_15 (by decide) (s_icmp_ne 40 dX4_single_18 (by decide) (fun c_18 => ?_) (fun c_18 => ?_))))
        · skip
          refine s_aload_n dX4_single_40 0 rfl rfl (n_invV (as := []) dX4_single_41 kv_X4_sign ml_X4_40 (c_X_sign v9 hb hS) (by omega) 35 cf_X4 rfl sh_35 rfl rfl rfl (Nat.le_of_ble_eq_true rfl) (s_sipush dX4_single_44 (by decide) (s_icmp_eq 65 dX4_single_47 (by decide) (fun c_47 => ?_) (fun c_47 => ?_))))
          · skip
            exfalso
            omega
          · skip
            refine s_aload_n dX4_single_50 0 rfl rfl (n_invV (as := []) dX4_single_51 kv_X4_sign ml_X4_40 (c_X_sign v9 hb hS) (by omega) 35 cf_X4 rfl sh_35 rfl rfl rfl (Nat.le_of_ble_eq_true rfl) (s_bipush dX4_single_54 (by decide) (s_icmp_ne 71 dX4_single_56 (by decide) (fun c_56 => ?_) (fun c_56 => ?_))))
            · skip
              refine s_aload_n dX4_single_71 0 rfl rfl (n_invV (as := []) dX4_single_72 kv_X4_sign ml_X4_40 (c_X_sign v9 hb hS) (by omega) 35 cf_X4 rfl sh_35 rfl rfl rfl (Nat.le_of_ble_eq_true rfl) (s_bipush dX4_single_75 (by decide) (s_icmp_ne 111 dX4_single_77 (by decide) (fun c_77 => ?_) (fun c_77 => ?_))))
              · skip
                refine s_aload_n dX4_single_111 0 rfl rfl (n_invV' (as := []) dX4_single_112 kv_X4_expression ml_X4_85 (c_X_expression (C0 := C0) (S0 := S) v9 hb (hS) hK (by omega) (by first | omega | (simp only [List.length_tail]; omega))) (by omega) 35 cf_X4 rfl sh_35 rfl rfl rfl (Nat.le_of_ble_eq_true rfl) ?_)
                rintro r_112 w_112 ⟨z_112, rfl, hz_112⟩
                show AtN _ _ ρ _ _ [(0, z_112)] w_112
                refine s_if_ne 120 dX4_single_115 (by decide) (fun c_115 => ?_) (fun c_115 => ?_)
                · skip
                  obtain ⟨D1, R1, hD1, hGe1, hSe1⟩ := hz_112.ok (by omega)
                  have hlt1 := (ex_gr hK).lt (fun D h => ok_ne h) hD1
                  have hl19 := hSe1.lt
                  refine s_aload_n dX4_single_120 0 rfl rfl (n_invV (as := []) dX4_single_121 kv_X4_sign ml_X4_40 (c_X_sign w_112 hb hSe1) (by omega) 35 cf_X4 rfl sh_35 rfl rfl rfl (Nat.le_of_ble_eq_true rfl) (s_istore_n (ls' := [(0, (2, 35)), (1, (0, (8 - (r : Int)))), (2, (0, ns)), (3, (0, (hdK K R1)))]) dX4_single_124 (Nat.le_of_ble_eq_true rfl) rfl (s_iload_n dX4_single_125 3 rfl (s_bipush dX4_single_126 (by decide) (s_icmp_eq 149 dX4_single_128 (by decide) (fun c_128 => ?_) (fun c_128 => ?_))))))
                  · skip
                    refine s_aload_n dX4_single_149 0 rfl rfl (s_dup dX4_single_150 (show (2 : Nat) ≠ 1 by decide) (n_getf 35 1 0 dX4_single_151 cf_X4 ff_X4_37 rfl sh_35 rfl (by decide) (v := (w_112 35 1)) rfl (s_iconst dX4_single_154 (by decide) (n_add (z := ((w_112 35 1) + 1)) dX4_single_155 (wr_id (by omega) (by omega)) (n_putf 35 1 1 dX4_single_156 cf_X4 ff_X4_37 rfl rfl sh_35 rfl rfl rfl (s_aload_n dX4_single_159 0 rfl rfl (n_invV' (as := []) dX4_single_160 kv_X4_expression ml_X4_85 (c_X_expression (C0 := D1) (S0 := R1.tail) (wu w_112 35 1 ((w_112 35 1) + 1)) hb ((StP.adv hb hSe1 (by omega))) hK (by omega) (by first | omega | (simp only [List.length_tail]; omega))) (by omega) 35 cf_X4 rfl sh_35 rfl rfl rfl (Nat.le_of_ble_eq_true rfl) ?_)))))))
                    rintro r_160 w_160 ⟨z_160, rfl, hz_160⟩
                    show AtN _ _ ρ _ _ [(0, z_160)] w_160
                    refine s_if_ne 168 dX4_single_163 (by decide) (fun c_163 => ?_) (fun c_163 => ?_)
                    · skip
                      obtain ⟨D2, R2, hD2, hGe2, hSe2⟩ := hz_160.ok (by omega)
                      have hlt2 := (ex_gr hK).lt (fun D h => ok_ne h) hD2
                      have hl29 := hSe2.lt
                      refine s_aload_n dX4_single_168 0 rfl rfl (n_getf 35 2 2 dX4_single_169 cf_X4 ff_X4_18 rfl sh_35 rfl (by decide) (v := ((b : Nat) : Int)) hSe2.2.2.2.1 (s_iload_n dX4_single_172 3 rfl (n_invV' (as := [(0, (hdK K R1))]) dX4_single_173 kv_X6_add ml_X4_76 (c_X_add (hdK K R1) w_160 hb hSe2 (by omega)) (by omega) b cf_X6 rfl (shS hb) rfl rfl rfl (Nat.le_of_ble_eq_true rfl) ?_)))
                      rintro r_173 w_a8 ⟨rfl, hf8, hS8⟩
                      replace hf8 := (((((((hf).tr hGe1)).tr (FrPg.adv hb))).tr hGe2)).tr hf8
                      have hl8 := hS8.lt
                      rw [tr_1 (p := ((hdK K R1 - 44 : Int), (0 : Int))) (tr_cm (by omega))] at hS8
                      refine s_iload_n dX4_single_176 1 rfl (s_istore_n (ls' := [(0, (2, 35)), (1, (0, (8 - (r : Int)))), (2, (0, ns)), (3, (0, (8 - (r : Int))))]) dX4_single_177 (Nat.le_of_ble_eq_true rfl) rfl ?_)
                      exact L_178 _ ns (8 - (r : Int)) w_a8 (D2 ++ [((hdK K R1 - 44 : Int), (0 : Int))]) R2 j ((kk + 1) - 1) (by omega) (by omega) (by omega) (by omega) hf8 (by rw [show (8 - (r : Int) - (8 - (r : Int))).toNat = 0 by omega]; unfold ntL; rw [List.replicate_zero, List.append_nil]; exact hS8) (hX.trans (bnd_on ((on_cm ⟨by omega, by omega⟩).trans ((bnd_on hD1).trans ((if_pos (by omega)).trans (bnd_on hD2)))))) (Nat.lt_succ_self _)
                    · skip
                      obtain ⟨e9, he, hF9, h39, h49⟩ := hz_160.no (by omega)
                      refine s_iconst dX4_single_166 (by decide) (n_zret dX4_single_167 hR rfl (by first | exact Or.inl rfl | exact Or.inr rfl | exact bi_01 _ | omega) ?_)
                      exact ⟨_, rfl, Or.inl ⟨rfl, e9, hX.trans (bnd_in ((on_cm ⟨by omega, by omega⟩).trans ((bnd_on hD1).trans ((if_pos (by omega)).trans (bnd_in he))))), (((((hf).tr hGe1)).tr (FrPg.adv hb))).tF hF9, h39, h49⟩⟩
                  · skip
                    refine s_iload_n dX4_single_131 3 rfl (s_bipush dX4_single_132 (by decide) (s_icmp_eq 149 dX4_single_134 (by decide) (fun c_134 => ?_) (fun c_134 => ?_)))
                    · skip
                      refine s_aload_n dX4_single_149 0 rfl rfl (s_dup dX4_single_150 (show (2 : Nat) ≠ 1 by decide) (n_getf 35 1 0 dX4_single_151 cf_X4 ff_X4_37 rfl sh_35 rfl (by decide) (v := (w_112 35 1)) rfl (s_iconst dX4_single_154 (by decide) (n_add (z := ((w_112 35 1) + 1)) dX4_single_155 (wr_id (by omega) (by omega)) (n_putf 35 1 1 dX4_single_156 cf_X4 ff_X4_37 rfl rfl sh_35 rfl rfl rfl (s_aload_n dX4_single_159 0 rfl rfl (n_invV' (as := []) dX4_single_160 kv_X4_expression ml_X4_85 (c_X_expression (C0 := D1) (S0 := R1.tail) (wu w_112 35 1 ((w_112 35 1) + 1)) hb ((StP.adv hb hSe1 (by omega))) hK (by omega) (by first | omega | (simp only [List.length_tail]; omega))) (by omega) 35 cf_X4 rfl sh_35 rfl rfl rfl (Nat.le_of_ble_eq_true rfl) ?_)))))))
                      rintro r_160 w_160 ⟨z_160, rfl, hz_160⟩
                      show AtN _ _ ρ _ _ [(0, z_160)] w_160
                      refine s_if_ne 168 dX4_single_163 (by decide) (fun c_163 => ?_) (fun c_163 => ?_)
                      · skip
                        obtain ⟨D2, R2, hD2, hGe2, hSe2⟩ := hz_160.ok (by omega)
                        have hlt2 := (ex_gr hK).lt (fun D h => ok_ne h) hD2
                        have hl29 := hSe2.lt
                        refine s_aload_n dX4_single_168 0 rfl rfl (n_getf 35 2 2 dX4_single_169 cf_X4 ff_X4_18 rfl sh_35 rfl (by decide) (v := ((b : Nat) : Int)) hSe2.2.2.2.1 (s_iload_n dX4_single_172 3 rfl (n_invV' (as := [(0, (hdK K R1))]) dX4_single_173 kv_X6_add ml_X4_76 (c_X_add (hdK K R1) w_160 hb hSe2 (by omega)) (by omega) b cf_X6 rfl (shS hb) rfl rfl rfl (Nat.le_of_ble_eq_true rfl) ?_)))
                        rintro r_173 w_a9 ⟨rfl, hf9, hS9⟩
                        replace hf9 := (((((((hf).tr hGe1)).tr (FrPg.adv hb))).tr hGe2)).tr hf9
                        have hl9 := hS9.lt
                        rw [tr_1 (p := ((hdK K R1 - 44 : Int), (0 : Int))) (tr_cm (by omega))] at hS9
                        refine s_iload_n dX4_single_176 1 rfl (s_istore_n (ls' := [(0, (2, 35)), (1, (0, (8 - (r : Int)))), (2, (0, ns)), (3, (0, (8 - (r : Int))))]) dX4_single_177 (Nat.le_of_ble_eq_true rfl) rfl ?_)
                        exact L_178 _ ns (8 - (r : Int)) w_a9 (D2 ++ [((hdK K R1 - 44 : Int), (0 : Int))]) R2 j ((kk + 1) - 1) (by omega) (by omega) (by omega) (by omega) hf9 (by rw [show (8 - (r : Int) - (8 - (r : Int))).toNat = 0 by omega]; unfold ntL; rw [List.replicate_zero, List.append_nil]; exact hS9) (hX.trans (bnd_on ((on_cm ⟨by omega, by omega⟩).trans ((bnd_on hD1).trans ((if_pos (by omega)).trans (bnd_on hD2)))))) (Nat.lt_succ_self _)
                      · skip
                        obtain ⟨e9, he, hF9, h39, h49⟩ := hz_160.no (by omega)
                        refine s_iconst dX4_single_166 (by decide) (n_zret dX4_single_167 hR rfl (by first | exact Or.inl rfl | exact Or.inr rfl | exact bi_01 _ | omega) ?_)
                        exact ⟨_, rfl, Or.inl ⟨rfl, e9, hX.trans (bnd_in ((on_cm ⟨by omega, by omega⟩).trans ((bnd_on hD1).trans ((if_pos (by omega)).trans (bnd_in he))))), (((((hf).tr hGe1)).tr (FrPg.adv hb))).tF hF9, h39, h49⟩⟩
                    · skip
                      refine s_iload_n dX4_single_137 3 rfl (s_bipush dX4_single_138 (by decide) (s_icmp_eq 149 dX4_single_140 (by decide) (fun c_140 => ?_) (fun c_140 => ?_)))
                      · skip
                        refine s_aload_n dX4_single_149 0 rfl rfl (s_dup dX4_single_150 (show (2 : Nat) ≠ 1 by decide) (n_getf 35 1 0 dX4_single_151 cf_X4 ff_X4_37 rfl sh_35 rfl (by decide) (v := (w_112 35 1)) rfl (s_iconst dX4_single_154 (by decide) (n_add (z := ((w_112 35 1) + 1)) dX4_single_155 (wr_id (by omega) (by omega)) (n_putf 35 1 1 dX4_single_156 cf_X4 ff_X4_37 rfl rfl sh_35 rfl rfl rfl (s_aload_n dX4_single_159 0 rfl rfl (n_invV' (as := []) dX4_single_160 kv_X4_expression ml_X4_85 (c_X_expression (C0 := D1) (S0 := R1.tail) (wu w_112 35 1 ((w_112 35 1) + 1)) hb ((StP.adv hb hSe1 (by omega))) hK (by omega) (by first | omega | (simp only [List.length_tail]; omega))) (by omega) 35 cf_X4 rfl sh_35 rfl rfl rfl (Nat.le_of_ble_eq_true rfl) ?_)))))))
                        rintro r_160 w_160 ⟨z_160, rfl, hz_160⟩
                        show AtN _ _ ρ _ _ [(0, z_160)] w_160
                        refine s_if_ne 168 dX4_single_163 (by decide) (fun c_163 => ?_) (fun c_163 => ?_)
                        · skip
                          obtain ⟨D2, R2, hD2, hGe2, hSe2⟩ := hz_160.ok (by omega)
                          have hlt2 := (ex_gr hK).lt (fun D h => ok_ne h) hD2
                          have hl29 := hSe2.lt
                          refine s_aload_n dX4_single_168 0 rfl rfl (n_getf 35 2 2 dX4_single_169 cf_X4 ff_X4_18 rfl sh_35 rfl (by decide) (v := ((b : Nat) : Int)) hSe2.2.2.2.1 (s_iload_n dX4_single_172 3 rfl (n_invV' (as := [(0, (hdK K R1))]) dX4_single_173 kv_X6_add ml_X4_76 (c_X_add (hdK K R1) w_160 hb hSe2 (by omega)) (by omega) b cf_X6 rfl (shS hb) rfl rfl rfl (Nat.le_of_ble_eq_true rfl) ?_)))
                          rintro r_173 w_a10 ⟨rfl, hf10, hS10⟩
                          replace hf10 := (((((((hf).tr hGe1)).tr (FrPg.adv hb))).tr hGe2)).tr hf10
                          have hl10 := hS10.lt
                          rw [tr_1 (p := ((hdK K R1 - 44 : Int), (0 : Int))) (tr_cm (by omega))] at hS10
                          refine s_iload_n dX4_single_176 1 rfl (s_istore_n (ls' := [(0, (2, 35)), (1, (0, (8 - (r : Int)))), (2, (0, ns)), (3, (0, (8 - (r : Int))))]) dX4_single_177 (Nat.le_of_ble_eq_true rfl) rfl ?_)
                          exact L_178 _ ns (8 - (r : Int)) w_a10 (D2 ++ [((hdK K R1 - 44 : Int), (0 : Int))]) R2 j ((kk + 1) - 1) (by omega) (by omega) (by omega) (by omega) hf10 (by rw [show (8 - (r : Int) - (8 - (r : Int))).toNat = 0 by omega]; unfold ntL; rw [List.replicate_zero, List.append_nil]; exact hS10) (hX.trans (bnd_on ((on_cm ⟨by omega, by omega⟩).trans ((bnd_on hD1).trans ((if_pos (by omega)).trans (bnd_on hD2)))))) (Nat.lt_succ_self _)
                        · skip
                          obtain ⟨e9, he, hF9, h39, h49⟩ := hz_160.no (by omega)
                          refine s_iconst dX4_single_166 (by decide) (n_zret dX4_single_167 hR rfl (by first | exact Or.inl rfl | exact Or.inr rfl | exact bi_01 _ | omega) ?_)
                          exact ⟨_, rfl, Or.inl ⟨rfl, e9, hX.trans (bnd_in ((on_cm ⟨by omega, by omega⟩).trans ((bnd_on hD1).trans ((if_pos (by omega)).trans (bnd_in he))))), (((((hf).tr hGe1)).tr (FrPg.adv hb))).tF hF9, h39, h49⟩⟩
                      · skip
                        refine s_aload_n dX4_single_143 0 rfl rfl (s_iconst dX4_single_144 (by decide) (n_invV (as := [(0, 1)]) dX4_single_145 kv_X4_refuse ml_X4_61 (c_X_refuse 1 w_112 hb hSe1) (by omega) 35 cf_X4 rfl sh_35 rfl rfl rfl (Nat.le_of_ble_eq_true rfl) (n_zret dX4_single_148 hR rfl (by first | exact Or.inl rfl | exact Or.inr rfl | exact bi_01 _ | omega) ?_)))
                        exact ⟨_, rfl, Or.inl ⟨rfl, (1, plK K R1), hX.trans (bnd_in ((on_cm ⟨by omega, by omega⟩).trans ((bnd_on hD1).trans (if_neg (by omega))))), (((hf).tr hGe1)).tF (FrPf.ref hb), by rw [wu_ne2]; exact wu_same .., wu_same ..⟩⟩
                · skip
                  obtain ⟨e9, he, hF9, h39, h49⟩ := hz_112.no (by omega)
                  refine s_iconst dX4_single_118 (by decide) (n_zret dX4_single_119 hR rfl (by first | exact Or.inl rfl | exact Or.inr rfl | exact bi_01 _ | omega) ?_)
                  exact ⟨_, rfl, Or.inl ⟨rfl, e9, hX.trans (bnd_in ((on_cm ⟨by omega, by omega⟩).trans (bnd_in he))), (hf).tF hF9, h39, h49⟩⟩
              · skip
                refine s_aload_n dX4_single_80 0 rfl rfl (s_dup dX4_single_81 (show (2 : Nat) ≠ 1 by decide) (n_getf 35 1 0 dX4_single_82 cf_X4 ff_X4_37 rfl sh_35 rfl (by decide) (v := (v9 35 1)) rfl (s_iconst dX4_single_85 (by decide) (n_add (z := ((v9 35 1) + 1)) dX4_single_86 (wr_id (by omega) (by omega)) (n_putf 35 1 1 dX4_single_87 cf_X4 ff_X4_37 rfl rfl sh_35 rfl rfl rfl (s_aload_n dX4_single_90 0 rfl rfl (s_iload_n dX4_single_91 2 rfl (s_iconst dX4_single_92 (by decide) (n_add (z := (ns + 1)) dX4_single_93 (wr_id (by omega) (by omega)) ?_)))))))))
                refine n_invV' (as := [(0, (ns + 1))]) dX4_single_94 kv_X4_condition ml_X4_79 (show CallN (2 * (r2 - 1) + 5) mX4_condition [(2, 35), (0, (ns + 1))] (wu v9 35 1 ((v9 35 1) + 1)) _ from (by rw [show (ns + 1) = 8 - ((r2 - 1 : Nat) : Int) by omega]; exact hc (r2 - 1) (by omega) C0 S.tail (kk + 1) _ ((StP.adv hb hS (by omega))) (by omega) (by first | omega | (simp only [List.length_tail]; omega)))) (by omega) 35 cf_X4 rfl sh_35 rfl rfl rfl (Nat.le_of_ble_eq_true rfl) ?_
                rintro r_94 w_94 ⟨z_94, rfl, hz_94⟩
                show AtN _ _ ρ _ _ [(0, z_94)] w_94
                refine s_if_eq 109 dX4_single_97 (by decide) (fun c_97 => ?_) (fun c_97 => ?_)
                · skip
                  obtain ⟨e9, he, hF9, h39, h49⟩ := hz_94.no (by omega)
                  refine s_iconst dX4_single_109 (by decide) (n_zret dX4_single_110 hR rfl (by first | exact Or.inl rfl | exact Or.inr rfl | exact bi_01 _ | omega) ?_)
                  exact ⟨_, rfl, Or.inl ⟨rfl, e9, (hX.trans (bnd_in ((on_br (by omega) (by omega)).trans (bnd_in he)))), (((hf).tr (FrPg.adv hb))).tF hF9, h39, h49⟩⟩
                · skip
                  obtain ⟨Dc, Rc, hDc, hGc, hSc⟩ := hz_94.ok (by omega)
                  have hlc := (an_gr (on_gr hK (r2 - 1)) C0 S.tail).lt (fun D h => okC_1 h) hDc
                  have hl99 := hSc.lt
                  refine s_aload_n dX4_single_100 0 rfl rfl (s_bipush dX4_single_101 (by decide) (n_invV' (as := [(0, 41)]) dX4_single_103 kv_X4_take ml_X4_82 (c_X_take 41 w_94 hb hSc) (by omega) 35 cf_X4 rfl sh_35 rfl rfl rfl (Nat.le_of_ble_eq_true rfl) ?_))
                  rintro r_103 w_103 ⟨z_103, rfl, hz_103⟩
                  show AtN _ _ ρ _ _ [(0, z_103)] w_103
                  refine s_if_ne 176 dX4_single_106 (by decide) (fun c_106 => ?_) (fun c_106 => ?_)
                  · skip
                    obtain ⟨ht9, hw9⟩ := tk_ok hz_103 (by omega)
                    subst hw9
                    skip
                    refine s_iload_n dX4_single_176 1 rfl (s_istore_n (ls' := [(0, (2, 35)), (1, (0, (8 - (r : Int)))), (2, (0, ns)), (3, (0, (8 - (r : Int))))]) dX4_single_177 (Nat.le_of_ble_eq_true rfl) rfl ?_)
                    exact L_178 _ ns (8 - (r : Int)) (wu w_94 35 1 (w_94 35 1 + 1)) Dc Rc.tail j ((kk + 1) + 1) (by omega) (by omega) (by omega) (by omega) ((((((hf).tr (FrPg.adv hb))).tr hGc)).tr (FrPg.adv hb)) (by rw [show (8 - (r : Int) - (8 - (r : Int))).toNat = 0 by omega]; unfold ntL; rw [List.replicate_zero, List.append_nil]; exact (StP.adv hb hSc (by omega))) (hX.trans (bnd_on ((on_br (by omega) (by omega)).trans ((bnd_on hDc).trans (ndP_ok ht9))))) (Nat.lt_succ_self _)
                  · skip
                    obtain ⟨ht9, hw9⟩ := tk_no hz_103 (by omega)
                    subst hw9
                    refine s_iconst dX4_single_109 (by decide) (n_zret dX4_single_110 hR rfl (by first | exact Or.inl rfl | exact Or.inr rfl | exact bi_01 _ | omega) ?_)
                    exact ⟨_, rfl, Or.inl ⟨rfl, (1, plK K Rc), hX.trans (bnd_in ((on_br (by omega) (by omega)).trans ((bnd_on hDc).trans (ndP_no ht9)))), (((((hf).tr (FrPg.adv hb))).tr hGc)).tF (FrPf.ref hb), by rw [wu_ne2]; exact wu_same .., wu_same ..⟩⟩
            · skip
              refine s_iload_n dX4_single_59 2 rfl (s_bipush dX4_single_60 (by decide) (s_icmp_lt 71 dX4_single_62 (by decide) (fun c_62 => ?_) (fun c_62 => ?_)))
              · skip
                refine s_aload_n dX4_single_71 0 rfl rfl (n_invV (as := []) dX4_single_72 kv_X4_sign ml_X4_40 (c_X_sign v9 hb hS) (by omega) 35 cf_X4 rfl sh_35 rfl rfl rfl (Nat.le_of_ble_eq_true rfl) (s_bipush dX4_single_75 (by decide) (s_icmp_ne 111 dX4_single_77 (by decide) (fun c_77 => ?_) (fun c_77 => ?_))))
                · skip
                  refine s_aload_n dX4_single_111 0 rfl rfl (n_invV' (as := []) dX4_single_112 kv_X4_expression ml_X4_85 (c_X_expression (C0 := C0) (S0 := S) v9 hb (hS) hK (by omega) (by first | omega | (simp only [List.length_tail]; omega))) (by omega) 35 cf_X4 rfl sh_35 rfl rfl rfl (Nat.le_of_ble_eq_true rfl) ?_)
                  rintro r_112 w_112 ⟨z_112, rfl, hz_112⟩
                  show AtN _ _ ρ _ _ [(0, z_112)] w_112
                  refine s_if_ne 120 dX4_single_115 (by decide) (fun c_115 => ?_) (fun c_115 => ?_)
                  · skip
                    obtain ⟨D1, R1, hD1, hGe1, hSe1⟩ := hz_112.ok (by omega)
                    have hlt1 := (ex_gr hK).lt (fun D h => ok_ne h) hD1
                    have hl19 := hSe1.lt
                    refine s_aload_n dX4_single_120 0 rfl rfl (n_invV (as := []) dX4_single_121 kv_X4_sign ml_X4_40 (c_X_sign w_112 hb hSe1) (by omega) 35 cf_X4 rfl sh_35 rfl rfl rfl (Nat.le_of_ble_eq_true rfl) (s_istore_n (ls' := [(0, (2, 35)), (1, (0, (8 - (r : Int)))), (2, (0, ns)), (3, (0, (hdK K R1)))]) dX4_single_124 (Nat.le_of_ble_eq_true rfl) rfl (s_iload_n dX4_single_125 3 rfl (s_bipush dX4_single_126 (by decide) (s_icmp_eq 149 dX4_single_128 (by decide) (fun c_128 => ?_) (fun c_128 => ?_))))))
                    · skip
                      refine s_aload_n dX4_single_149 0 rfl rfl (s_dup dX4_single_150 (show (2 : Nat) ≠ 1 by decide) (n_getf 35 1 0 dX4_single_151 cf_X4 ff_X4_37 rfl sh_35 rfl (by decide) (v := (w_112 35 1)) rfl (s_iconst dX4_single_154 (by decide) (n_add (z := ((w_112 35 1) + 1)) dX4_single_155 (wr_id (by omega) (by omega)) (n_putf 35 1 1 dX4_single_156 cf_X4 ff_X4_37 rfl rfl sh_35 rfl rfl rfl (s_aload_n dX4_single_159 0 rfl rfl (n_invV' (as := []) dX4_single_160 kv_X4_expression ml_X4_85 (c_X_expression (C0 := D1) (S0 := R1.tail) (wu w_112 35 1 ((w_112 35 1) + 1)) hb ((StP.adv hb hSe1 (by omega))) hK (by omega) (by first | omega | (simp only [List.length_tail]; omega))) (by omega) 35 cf_X4 rfl sh_35 rfl rfl rfl (Nat.le_of_ble_eq_true rfl) ?_)))))))
                      rintro r_160 w_160 ⟨z_160, rfl, hz_160⟩
                      show AtN _ _ ρ _ _ [(0, z_160)] w_160
                      refine s_if_ne 168 dX4_single_163 (by decide) (fun c_163 => ?_) (fun c_163 => ?_)
                      · skip
                        obtain ⟨D2, R2, hD2, hGe2, hSe2⟩ := hz_160.ok (by omega)
                        have hlt2 := (ex_gr hK).lt (fun D h => ok_ne h) hD2
                        have hl29 := hSe2.lt
                        refine s_aload_n dX4_single_168 0 rfl rfl (n_getf 35 2 2 dX4_single_169 cf_X4 ff_X4_18 rfl sh_35 rfl (by decide) (v := ((b : Nat) : Int)) hSe2.2.2.2.1 (s_iload_n dX4_single_172 3 rfl (n_invV' (as := [(0, (hdK K R1))]) dX4_single_173 kv_X6_add ml_X4_76 (c_X_add (hdK K R1) w_160 hb hSe2 (by omega)) (by omega) b cf_X6 rfl (shS hb) rfl rfl rfl (Nat.le_of_ble_eq_true rfl) ?_)))
                        rintro r_173 w_a11 ⟨rfl, hf11, hS11⟩
                        replace hf11 := (((((((hf).tr hGe1)).tr (FrPg.adv hb))).tr hGe2)).tr hf11
                        have hl11 := hS11.lt
                        rw [tr_1 (p := ((hdK K R1 - 44 : Int), (0 : Int))) (tr_cm (by omega))] at hS11
                        refine s_iload_n dX4_single_176 1 rfl (s_istore_n (ls' := [(0, (2, 35)), (1, (0, (8 - (r : Int)))), (2, (0, ns)), (3, (0, (8 - (r : Int))))]) dX4_single_177 (Nat.le_of_ble_eq_true rfl) rfl ?_)
                        exact L_178 _ ns (8 - (r : Int)) w_a11 (D2 ++ [((hdK K R1 - 44 : Int), (0 : Int))]) R2 j ((kk + 1) - 1) (by omega) (by omega) (by omega) (by omega) hf11 (by rw [show (8 - (r : Int) - (8 - (r : Int))).toNat = 0 by omega]; unfold ntL; rw [List.replicate_zero, List.append_nil]; exact hS11) (hX.trans (bnd_on ((on_cm ⟨by omega, by omega⟩).trans ((bnd_on hD1).trans ((if_pos (by omega)).trans (bnd_on hD2)))))) (Nat.lt_succ_self _)
                      · skip
                        obtain ⟨e9, he, hF9, h39, h49⟩ := hz_160.no (by omega)
                        refine s_iconst dX4_single_166 (by decide) (n_zret dX4_single_167 hR rfl (by first | exact Or.inl rfl | exact Or.inr rfl | exact bi_01 _ | omega) ?_)
                        exact ⟨_, rfl, Or.inl ⟨rfl, e9, hX.trans (bnd_in ((on_cm ⟨by omega, by omega⟩).trans ((bnd_on hD1).trans ((if_pos (by omega)).trans (bnd_in he))))), (((((hf).tr hGe1)).tr (FrPg.adv hb))).tF hF9, h39, h49⟩⟩
                    · skip
                      refine s_iload_n dX4_single_131 3 rfl (s_bipush dX4_single_132 (by decide) (s_icmp_eq 149 dX4_single_134 (by decide) (fun c_134 => ?_) (fun c_134 => ?_)))
                      · skip
                        refine s_aload_n dX4_single_149 0 rfl rfl (s_dup dX4_single_150 (show (2 : Nat) ≠ 1 by decide) (n_getf 35 1 0 dX4_single_151 cf_X4 ff_X4_37 rfl sh_35 rfl (by decide) (v := (w_112 35 1)) rfl (s_iconst dX4_single_154 (by decide) (n_add (z := ((w_112 35 1) + 1)) dX4_single_155 (wr_id (by omega) (by omega)) (n_putf 35 1 1 dX4_single_156 cf_X4 ff_X4_37 rfl rfl sh_35 rfl rfl rfl (s_aload_n dX4_single_159 0 rfl rfl (n_invV' (as := []) dX4_single_160 kv_X4_expression ml_X4_85 (c_X_expression (C0 := D1) (S0 := R1.tail) (wu w_112 35 1 ((w_112 35 1) + 1)) hb ((StP.adv hb hSe1 (by omega))) hK (by omega) (by first | omega | (simp only [List.length_tail]; omega))) (by omega) 35 cf_X4 rfl sh_35 rfl rfl rfl (Nat.le_of_ble_eq_true rfl) ?_)))))))
                        rintro r_160 w_160 ⟨z_160, rfl, hz_160⟩
                        show AtN _ _ ρ _ _ [(0, z_160)] w_160
                        refine s_if_ne 168 dX4_single_163 (by decide) (fun c_163 => ?_) (fun c_163 => ?_)
                        · skip
                          obtain ⟨D2, R2, hD2, hGe2, hSe2⟩ := hz_160.ok (by omega)
                          have hlt2 := (ex_gr hK).lt (fun D h => ok_ne h) hD2
                          have hl29 := hSe2.lt
                          refine s_aload_n dX4_single_168 0 rfl rfl (n_getf 35 2 2 dX4_single_169 cf_X4 ff_X4_18 rfl sh_35 rfl (by decide) (v := ((b : Nat) : Int)) hSe2.2.2.2.1 (s_iload_n dX4_single_172 3 rfl (n_invV' (as := [(0, (hdK K R1))]) dX4_single_173 kv_X6_add ml_X4_76 (c_X_add (hdK K R1) w_160 hb hSe2 (by omega)) (by omega) b cf_X6 rfl (shS hb) rfl rfl rfl (Nat.le_of_ble_eq_true rfl) ?_)))
                          rintro r_173 w_a12 ⟨rfl, hf12, hS12⟩
                          replace hf12 := (((((((hf).tr hGe1)).tr (FrPg.adv hb))).tr hGe2)).tr hf12
                          have hl12 := hS12.lt
                          rw [tr_1 (p := ((hdK K R1 - 44 : Int), (0 : Int))) (tr_cm (by omega))] at hS12
                          refine s_iload_n dX4_single_176 1 rfl (s_istore_n (ls' := [(0, (2, 35)), (1, (0, (8 - (r : Int)))), (2, (0, ns)), (3, (0, (8 - (r : Int))))]) dX4_single_177 (Nat.le_of_ble_eq_true rfl) rfl ?_)
                          exact L_178 _ ns (8 - (r : Int)) w_a12 (D2 ++ [((hdK K R1 - 44 : Int), (0 : Int))]) R2 j ((kk + 1) - 1) (by omega) (by omega) (by omega) (by omega) hf12 (by rw [show (8 - (r : Int) - (8 - (r : Int))).toNat = 0 by omega]; unfold ntL; rw [List.replicate_zero, List.append_nil]; exact hS12) (hX.trans (bnd_on ((on_cm ⟨by omega, by omega⟩).trans ((bnd_on hD1).trans ((if_pos (by omega)).trans (bnd_on hD2)))))) (Nat.lt_succ_self _)
                        · skip
                          obtain ⟨e9, he, hF9, h39, h49⟩ := hz_160.no (by omega)
                          refine s_iconst dX4_single_166 (by decide) (n_zret dX4_single_167 hR rfl (by first | exact Or.inl rfl | exact Or.inr rfl | exact bi_01 _ | omega) ?_)
                          exact ⟨_, rfl, Or.inl ⟨rfl, e9, hX.trans (bnd_in ((on_cm ⟨by omega, by omega⟩).trans ((bnd_on hD1).trans ((if_pos (by omega)).trans (bnd_in he))))), (((((hf).tr hGe1)).tr (FrPg.adv hb))).tF hF9, h39, h49⟩⟩
                      · skip
                        refine s_iload_n dX4_single_137 3 rfl (s_bipush dX4_single_138 (by decide) (s_icmp_eq 149 dX4_single_140 (by decide) (fun c_140 => ?_) (fun c_140 => ?_)))
                        · skip
                          refine s_aload_n dX4_single_149 0 rfl rfl (s_dup dX4_single_150 (show (2 : Nat) ≠ 1 by decide) (n_getf 35 1 0 dX4_single_151 cf_X4 ff_X4_37 rfl sh_35 rfl (by decide) (v := (w_112 35 1)) rfl (s_iconst dX4_single_154 (by decide) (n_add (z := ((w_112 35 1) + 1)) dX4_single_155 (wr_id (by omega) (by omega)) (n_putf 35 1 1 dX4_single_156 cf_X4 ff_X4_37 rfl rfl sh_35 rfl rfl rfl (s_aload_n dX4_single_159 0 rfl rfl (n_invV' (as := []) dX4_single_160 kv_X4_expression ml_X4_85 (c_X_expression (C0 := D1) (S0 := R1.tail) (wu w_112 35 1 ((w_112 35 1) + 1)) hb ((StP.adv hb hSe1 (by omega))) hK (by omega) (by first | omega | (simp only [List.length_tail]; omega))) (by omega) 35 cf_X4 rfl sh_35 rfl rfl rfl (Nat.le_of_ble_eq_true rfl) ?_)))))))
                          rintro r_160 w_160 ⟨z_160, rfl, hz_160⟩
                          show AtN _ _ ρ _ _ [(0, z_160)] w_160
                          refine s_if_ne 168 dX4_single_163 (by decide) (fun c_163 => ?_) (fun c_163 => ?_)
                          · skip
                            obtain ⟨D2, R2, hD2, hGe2, hSe2⟩ := hz_160.ok (by omega)
                            have hlt2 := (ex_gr hK).lt (fun D h => ok_ne h) hD2
                            have hl29 := hSe2.lt
                            refine s_aload_n dX4_single_168 0 rfl rfl (n_getf 35 2 2 dX4_single_169 cf_X4 ff_X4_18 rfl sh_35 rfl (by decide) (v := ((b : Nat) : Int)) hSe2.2.2.2.1 (s_iload_n dX4_single_172 3 rfl (n_invV' (as := [(0, (hdK K R1))]) dX4_single_173 kv_X6_add ml_X4_76 (c_X_add (hdK K R1) w_160 hb hSe2 (by omega)) (by omega) b cf_X6 rfl (shS hb) rfl rfl rfl (Nat.le_of_ble_eq_true rfl) ?_)))
                            rintro r_173 w_a13 ⟨rfl, hf13, hS13⟩
                            replace hf13 := (((((((hf).tr hGe1)).tr (FrPg.adv hb))).tr hGe2)).tr hf13
                            have hl13 := hS13.lt
                            rw [tr_1 (p := ((hdK K R1 - 44 : Int), (0 : Int))) (tr_cm (by omega))] at hS13
                            refine s_iload_n dX4_single_176 1 rfl (s_istore_n (ls' := [(0, (2, 35)), (1, (0, (8 - (r : Int)))), (2, (0, ns)), (3, (0, (8 - (r : Int))))]) dX4_single_177 (Nat.le_of_ble_eq_true rfl) rfl ?_)
                            exact L_178 _ ns (8 - (r : Int)) w_a13 (D2 ++ [((hdK K R1 - 44 : Int), (0 : Int))]) R2 j ((kk + 1) - 1) (by omega) (by omega) (by omega) (by omega) hf13 (by rw [show (8 - (r : Int) - (8 - (r : Int))).toNat = 0 by omega]; unfold ntL; rw [List.replicate_zero, List.append_nil]; exact hS13) (hX.trans (bnd_on ((on_cm ⟨by omega, by omega⟩).trans ((bnd_on hD1).trans ((if_pos (by omega)).trans (bnd_on hD2)))))) (Nat.lt_succ_self _)
                          · skip
                            obtain ⟨e9, he, hF9, h39, h49⟩ := hz_160.no (by omega)
                            refine s_iconst dX4_single_166 (by decide) (n_zret dX4_single_167 hR rfl (by first | exact Or.inl rfl | exact Or.inr rfl | exact bi_01 _ | omega) ?_)
                            exact ⟨_, rfl, Or.inl ⟨rfl, e9, hX.trans (bnd_in ((on_cm ⟨by omega, by omega⟩).trans ((bnd_on hD1).trans ((if_pos (by omega)).trans (bnd_in he))))), (((((hf).tr hGe1)).tr (FrPg.adv hb))).tF hF9, h39, h49⟩⟩
                        · skip
                          refine s_aload_n dX4_single_143 0 rfl rfl (s_iconst dX4_single_144 (by decide) (n_invV (as := [(0, 1)]) dX4_single_145 kv_X4_refuse ml_X4_61 (c_X_refuse 1 w_112 hb hSe1) (by omega) 35 cf_X4 rfl sh_35 rfl rfl rfl (Nat.le_of_ble_eq_true rfl) (n_zret dX4_single_148 hR rfl (by first | exact Or.inl rfl | exact Or.inr rfl | exact bi_01 _ | omega) ?_)))
                          exact ⟨_, rfl, Or.inl ⟨rfl, (1, plK K R1), hX.trans (bnd_in ((on_cm ⟨by omega, by omega⟩).trans ((bnd_on hD1).trans (if_neg (by omega))))), (((hf).tr hGe1)).tF (FrPf.ref hb), by rw [wu_ne2]; exact wu_same .., wu_same ..⟩⟩
                  · skip
                    obtain ⟨e9, he, hF9, h39, h49⟩ := hz_112.no (by omega)
                    refine s_iconst dX4_single_118 (by decide) (n_zret dX4_single_119 hR rfl (by first | exact Or.inl rfl | exact Or.inr rfl | exact bi_01 _ | omega) ?_)
                    exact ⟨_, rfl, Or.inl ⟨rfl, e9, hX.trans (bnd_in ((on_cm ⟨by omega, by omega⟩).trans (bnd_in he))), (hf).tF hF9, h39, h49⟩⟩
                · skip
                  refine s_aload_n dX4_single_80 0 rfl rfl (s_dup dX4_single_81 (show (2 : Nat) ≠ 1 by decide) (n_getf 35 1 0 dX4_single_82 cf_X4 ff_X4_37 rfl sh_35 rfl (by decide) (v := (v9 35 1)) rfl (s_iconst dX4_single_85 (by decide) (n_add (z := ((v9 35 1) + 1)) dX4_single_86 (wr_id (by omega) (by omega)) (n_putf 35 1 1 dX4_single_87 cf_X4 ff_X4_37 rfl rfl sh_35 rfl rfl rfl (s_aload_n dX4_single_90 0 rfl rfl (s_iload_n dX4_single_91 2 rfl (s_iconst dX4_single_92 (by decide) (n_add (z := (ns + 1)) dX4_single_93 (wr_id (by omega) (by omega)) ?_)))))))))
                  refine n_invV' (as := [(0, (ns + 1))]) dX4_single_94 kv_X4_condition ml_X4_79 (show CallN (2 * (r2 - 1) + 5) mX4_condition [(2, 35), (0, (ns + 1))] (wu v9 35 1 ((v9 35 1) + 1)) _ from (by rw [show (ns + 1) = 8 - ((r2 - 1 : Nat) : Int) by omega]; exact hc (r2 - 1) (by omega) C0 S.tail (kk + 1) _ ((StP.adv hb hS (by omega))) (by omega) (by first | omega | (simp only [List.length_tail]; omega)))) (by omega) 35 cf_X4 rfl sh_35 rfl rfl rfl (Nat.le_of_ble_eq_true rfl) ?_
                  rintro r_94 w_94 ⟨z_94, rfl, hz_94⟩
                  show AtN _ _ ρ _ _ [(0, z_94)] w_94
                  refine s_if_eq 109 dX4_single_97 (by decide) (fun c_97 => ?_) (fun c_97 => ?_)
                  · skip
                    obtain ⟨e9, he, hF9, h39, h49⟩ := hz_94.no (by omega)
                    refine s_iconst dX4_single_109 (by decide) (n_zret dX4_single_110 hR rfl (by first | exact Or.inl rfl | exact Or.inr rfl | exact bi_01 _ | omega) ?_)
                    exact ⟨_, rfl, Or.inl ⟨rfl, e9, (hX.trans (bnd_in ((on_br (by omega) (by omega)).trans (bnd_in he)))), (((hf).tr (FrPg.adv hb))).tF hF9, h39, h49⟩⟩
                  · skip
                    obtain ⟨Dc, Rc, hDc, hGc, hSc⟩ := hz_94.ok (by omega)
                    have hlc := (an_gr (on_gr hK (r2 - 1)) C0 S.tail).lt (fun D h => okC_1 h) hDc
                    have hl99 := hSc.lt
                    refine s_aload_n dX4_single_100 0 rfl rfl (s_bipush dX4_single_101 (by decide) (n_invV' (as := [(0, 41)]) dX4_single_103 kv_X4_take ml_X4_82 (c_X_take 41 w_94 hb hSc) (by omega) 35 cf_X4 rfl sh_35 rfl rfl rfl (Nat.le_of_ble_eq_true rfl) ?_))
                    rintro r_103 w_103 ⟨z_103, rfl, hz_103⟩
                    show AtN _ _ ρ _ _ [(0, z_103)] w_103
                    refine s_if_ne 176 dX4_single_106 (by decide) (fun c_106 => ?_) (fun c_106 => ?_)
                    · skip
                      obtain ⟨ht9, hw9⟩ := tk_ok hz_103 (by omega)
                      subst hw9
                      skip
                      refine s_iload_n dX4_single_176 1 rfl (s_istore_n (ls' := [(0, (2, 35)), (1, (0, (8 - (r : Int)))), (2, (0, ns)), (3, (0, (8 - (r : Int))))]) dX4_single_177 (Nat.le_of_ble_eq_true rfl) rfl ?_)
                      exact L_178 _ ns (8 - (r : Int)) (wu w_94 35 1 (w_94 35 1 + 1)) Dc Rc.tail j ((kk + 1) + 1) (by omega) (by omega) (by omega) (by omega) ((((((hf).tr (FrPg.adv hb))).tr hGc)).tr (FrPg.adv hb)) (by rw [show (8 - (r : Int) - (8 - (r : Int))).toNat = 0 by omega]; unfold ntL; rw [List.replicate_zero, List.append_nil]; exact (StP.adv hb hSc (by omega))) (hX.trans (bnd_on ((on_br (by omega) (by omega)).trans ((bnd_on hDc).trans (ndP_ok ht9))))) (Nat.lt_succ_self _)
                    · skip
                      obtain ⟨ht9, hw9⟩ := tk_no hz_103 (by omega)
                      subst hw9
                      refine s_iconst dX4_single_109 (by decide) (n_zret dX4_single_110 hR rfl (by first | exact Or.inl rfl | exact Or.inr rfl | exact bi_01 _ | omega) ?_)
                      exact ⟨_, rfl, Or.inl ⟨rfl, (1, plK K Rc), hX.trans (bnd_in ((on_br (by omega) (by omega)).trans ((bnd_on hDc).trans (ndP_no ht9)))), (((((hf).tr (FrPg.adv hb))).tr hGc)).tF (FrPf.ref hb), by rw [wu_ne2]; exact wu_same .., wu_same ..⟩⟩
              · skip
                refine s_aload_n dX4_single_65 0 rfl rfl (s_iconst dX4_single_66 (by decide) (n_invV (as := [(0, 3)]) dX4_single_67 kv_X4_refuse ml_X4_61 (c_X_refuse 3 v9 hb hS) (by omega) 35 cf_X4 rfl sh_35 rfl rfl rfl (Nat.le_of_ble_eq_true rfl) (n_zret dX4_single_70 hR rfl (by first | exact Or.inl rfl | exact Or.inr rfl | exact bi_01 _ | omega) ?_)))
                exact ⟨_, rfl, Or.inl ⟨rfl, (3, plK K S), hX.trans (bnd_in (on_3 (by omega) (by omega))), (hf).tF (FrPf.ref hb), by rw [wu_ne2]; exact wu_same .., wu_same ..⟩⟩
        · skip
          refine s_iinc (z := (ns + 1)) (ls' := [(0, (2, 35)), (1, (0, (8 - (r : Int)))), (2, (0, (ns + 1))), (3, (0, lf))]) dX4_single_21 2 rfl (Nat.le_of_ble_eq_true rfl) (wr_id (by omega) (by omega)) rfl (s_aload_n dX4_single_24 0 rfl rfl (s_dup dX4_single_25 (show (2 : Nat) ≠ 1 by decide) (n_getf 35 1 0 dX4_single_26 cf_X4 ff_X4_37 rfl sh_35 rfl (by decide) (v := (v9 35 1)) rfl (s_iconst dX4_single_29 (by decide) (n_add (z := ((v9 35 1) + 1)) dX4_single_30 (wr_id (by omega) (by omega)) (n_putf 35 1 1 dX4_single_31 cf_X4 ff_X4_37 rfl rfl sh_35 rfl rfl rfl (s_iinc (z := (lf + (-1))) (ls' := [(0, (2, 35)), (1, (0, (8 - (r : Int)))), (2, (0, (ns + 1))), (3, (0, (lf + (-1))))]) dX4_single_34 3 rfl (Nat.le_of_ble_eq_true rfl) (wr_id (by omega) (by omega)) rfl (s_goto 7 dX4_single_37 (by decide) ?_))))))))
          exact ih (ns + 1) (lf + (-1)) (wu v9 35 1 ((v9 35 1) + 1)) S.tail (kk + 1) (r2 - 1) (j + 1) (by omega) (by omega) (by omega) (by omega) (by first | omega | (simp only [List.length_tail]; omega)) ((hf).tr (FrPg.adv hb)) (StP.adv hb hS (by omega)) (hX.trans (on_not (by omega) (by omega))) (by omega)
  refine s_iload_n dX4_single_0 1 rfl (s_istore_n (ls' := [(0, (2, 35)), (1, (0, (8 - (r : Int)))), (2, (0, (8 - (r : Int))))]) dX4_single_1 (Nat.le_of_ble_eq_true rfl) rfl (s_bipush dX4_single_2 (by decide) (s_iload_n dX4_single_4 1 rfl (n_sub (z := (8 - (8 - (r : Int)))) dX4_single_5 (wr_id (by omega) (by omega)) (s_istore_n (ls' := [(0, (2, 35)), (1, (0, (8 - (r : Int)))), (2, (0, (8 - (r : Int)))), (3, (0, (8 - (8 - (r : Int)))))]) dX4_single_6 (Nat.le_of_ble_eq_true rfl) rfl ?_)))))
  exact L_7 _ (8 - (r : Int)) (8 - (8 - (r : Int))) w S0 k r 0 (by omega) (by omega) (by omega) (by omega) hn FrPg.rf hS0 (bnd_0 _) (Nat.lt_succ_self _)

theorem c_X_both {b : Nat} {N X0 : List Int} {K : Ky} (hK : KOK K) (hb : IsSc b) : ∀ r : Nat, r ≤ 8 → CoS b N K X0 r ∧ CoC b N K X0 r := by
  have key : ∀ n r : Nat, r < n → r ≤ 8 → CoS b N K X0 r ∧ CoC b N K X0 r := by
    intro n
    induction n with
    | zero => intro r h; exact absurd h (Nat.not_lt_zero r)
    | succ n ih =>
      intro r h h8
      have h1 : CoS b N K X0 r := fun C S k w hS hk hn => c_X_single hK h8 (fun r2 h2 => (ih r2 (by omega) (by omega)).2) C S k w hb hS hk hn
      exact ⟨h1, fun C S k w hS hk hn => c_X_condition hK h1 C S k w hb hS hk hn⟩
  intro r h
  exact key (r + 1) r (by omega) h
