/-! WEEKS, the class. -/
/-- what a week of the class needs -/
def NeedX (w : Wd) (s : Int → Nat) (LN : Int → List Lin) : Prop := InX w s LN ∧ (0 ≤ w 15 10 ∧ w 15 10 ≤ 16) ∧ (0 ≤ w 59 9 ∧ w 59 9 ≤ 16) ∧ (∀ o, 0 ≤ o → o < w 59 9 → ∀ j, 0 ≤ j → j < 12 → -3 ≤ w (66 + Int.toNat o) j ∧ w (66 + Int.toNat o) j ≤ 3) ∧ (∀ h, 0 ≤ h → h < w 15 10 → (0 ≤ w 17 h ∧ w 17 h ≤ 999) ∧ (1 ≤ w 18 h ∧ w 18 h ≤ 99) ∧ (0 ≤ w 19 h ∧ w 19 h ≤ 40) ∧ (0 ≤ w 23 h ∧ w 23 h ≤ 1400000) ∧ (-1000000000000 ≤ w 20 h ∧ w 20 h ≤ 1000000000000)) ∧ (∀ c, 0 ≤ c → c < w 59 9 → 0 ≤ w 63 c ∧ w 63 c ≤ 9999) ∧ (∀ j, 0 ≤ j → j < w 15 15 → 0 ≤ w 28 j ∧ w 28 j ≤ 99) ∧ ∀ j, 0 ≤ j → j < w 1 9 → 0 ≤ w 8 j ∧ w 8 j ≤ 100
/-- n weeks, one behind the other -/
def WksX (LN : Int → List Lin) (w : Wd) : Nat → Wd → Prop
  | 0, v => v = w
  | n + 1, v => ∃ u u', WksX LN w n u ∧ WeekX u u' LN (u 0 10) ∧ v = wu u' 0 10 (u' 0 10 + 1)

set_option maxRecDepth 100000 in
theorem x_weeks (n : Int) (w : Wd) (s : Int → Nat) (LN : Int → List Lin) (Inv : Wd → Prop) (h0 : Inv w) (hneed : ∀ u, Inv u → NeedX u s LN) (hnow : ∀ u u1, Inv u → WeekX u u1 LN (u 0 10) → u1 0 10 = u 0 10) (hstep : ∀ u u1, Inv u → WeekX u u1 LN (u 0 10) → Inv (wu u1 0 10 (u1 0 10 + 1))) (ht0 : 0 ≤ w 0 10 ∧ w 0 10 ≤ 199) : CallN 8 mX11_weeks [(2, 0), (0, n)] w (RQ (fun z w1 => (((1 ≤ n ∧ n ≤ 20) ∧ w 0 10 + n ≤ 199) ∧ z = w 0 10 + n ∧ Inv w1 ∧ WksX LN w n.toNat w1) ∨ (¬ ((1 ≤ n ∧ n ≤ 20) ∧ w 0 10 + n ≤ 199) ∧ z = -1 ∧ w1 = w))) := by
  refine CallN.intro (by decide +kernel) (Nat.le_of_ble_eq_true rfl) (fun ρ hR => ?_)
  show AtN mX11_weeks 8 ρ 0 [(0, (2, 0)), (1, (0, n))] [] w
  have L_26 : ∀ (fu : Nat) (i : Int) (v9 : Wd), (1 ≤ n ∧ n ≤ 20) ∧ w 0 10 + n ≤ 199 → 0 ≤ i ∧ i ≤ n → Inv v9 → v9 0 10 = w 0 10 + i → WksX LN w i.toNat v9 → (n - i).toNat < fu → AtN mX11_weeks 8 ρ 26 [(0, (2, 0)), (1, (0, n)), (2, (0, i))] [] v9 := by
    intro fu
    induction fu with
    | zero => intro i v9 hok hi hv ht hw hm; exact absurd hm (Nat.not_lt_zero _)
    | succ fu ih =>
      intro i v9 hok hi hv ht hw hm
      have hq := hneed v9 hv
      refine s_iload_n dX11_weeks_26 2 rfl (s_iload_n dX11_weeks_27 1 rfl (s_icmp_ge 58 dX11_weeks_28 (by decide) (fun c_28 => ?_) (fun c_28 => ?_)))
      · skip
        refine s_aload_n dX11_weeks_58 0 rfl rfl (n_getf 0 10 0 dX11_weeks_59 cf_X11 ff_X11_87 rfl sh_0 rfl (by decide) (v := (v9 0 10)) rfl (n_iret dX11_weeks_62 hR rfl ?_))
        have e9 : i = n := by omega
        rw [e9] at hw ht
        exact ⟨_, rfl, Or.inl ⟨hok, ht, hv, hw⟩⟩
      · skip
        refine s_aload_n dX11_weeks_31 0 rfl rfl (n_getc (q := 59) 0 5 69 dX11_weeks_32 cf_X11 ff_X11_53 rfl sh_0 rfl (by decide) rfl (by decide) (s_aload_n dX11_weeks_35 0 rfl rfl (n_getf 0 10 0 dX11_weeks_36 cf_X11 ff_X11_87 rfl sh_0 rfl (by decide) (v := (v9 0 10)) rfl (n_invV' (as := [(0, (v9 0 10))]) dX11_weeks_39 kv_X0_pass ml_X11_227 (c_X_pass (v9 0 10) v9 s LN hq.1 hq.2.1 hq.2.2.1 hq.2.2.2.1 hq.2.2.2.2.1 hq.2.2.2.2.2.1 hq.2.2.2.2.2.2.1 hq.2.2.2.2.2.2.2) (by decide) 59 cf_X0 rfl sh_59 rfl rfl rfl (Nat.le_of_ble_eq_true rfl) ?_))))
        rintro r_39 w_39 ⟨rfl, hW39⟩
        have hnw := hnow v9 w_39 hv hW39
        refine s_aload_n dX11_weeks_42 0 rfl rfl (s_dup dX11_weeks_43 (show (2 : Nat) ≠ 1 by decide) (n_getf 0 10 0 dX11_weeks_44 cf_X11 ff_X11_87 rfl sh_0 rfl (by decide) (v := (w_39 0 10)) rfl (s_iconst dX11_weeks_47 (by decide) (n_add (z := ((w_39 0 10) + 1)) dX11_weeks_48 (wr_id (by omega) (by omega)) (n_putf 0 10 10 dX11_weeks_49 cf_X11 ff_X11_87 rfl rfl sh_0 rfl rfl rfl (s_iinc (z := (i + 1)) (ls' := [(0, (2, 0)), (1, (0, n)), (2, (0, (i + 1)))]) dX11_weeks_52 2 rfl (Nat.le_of_ble_eq_true rfl) (wr_id (by omega) (by omega)) rfl (s_goto 26 dX11_weeks_55 (by decide) ?_)))))))
        exact ih (i + 1) (wu w_39 0 10 ((w_39 0 10) + 1)) (by omega) (by omega) (hstep v9 w_39 hv hW39) (by rw [wu_same]; omega) (by rw [toN_s hi.1]; exact ⟨v9, w_39, hw, hW39, rfl⟩) (by omega)
  refine s_iload_n dX11_weeks_0 1 rfl (s_iconst dX11_weeks_1 (by decide) (s_bipush dX11_weeks_2 (by decide) (n_invS (as := [(0, n), (0, 1), (0, 20)]) dX11_weeks_4 kv_X11_within ml_X11_102 (c_within n 1 20 w) (by decide) rfl rfl (Nat.le_of_ble_eq_true rfl) (n_ifeq_b 22 dX11_weeks_7 (by decide) (fun c_7 => ?_) (fun c_7 => ?_)))))
  · skip
    refine s_iconst dX11_weeks_22 (by decide) (n_iret dX11_weeks_23 hR rfl ?_)
    exact ⟨_, rfl, Or.inr ⟨by omega, rfl, rfl⟩⟩
  · skip
    refine s_aload_n dX11_weeks_10 0 rfl rfl (n_getf 0 10 0 dX11_weeks_11 cf_X11 ff_X11_87 rfl sh_0 rfl (by decide) (v := (w 0 10)) rfl (s_iload_n dX11_weeks_14 1 rfl (n_add (z := ((w 0 10) + n)) dX11_weeks_15 (wr_id (by omega) (by omega)) (s_sipush dX11_weeks_16 (by decide) (s_icmp_le 24 dX11_weeks_19 (by decide) (fun c_19 => ?_) (fun c_19 => ?_))))))
    · skip
      refine s_iconst dX11_weeks_24 (by decide) (s_istore_n (ls' := [(0, (2, 0)), (1, (0, n)), (2, (0, 0))]) dX11_weeks_25 (Nat.le_of_ble_eq_true rfl) rfl ?_)
      exact L_26 _ 0 w (by omega) (by omega) h0 (by omega) rfl (Nat.lt_succ_self _)
    · skip
      refine s_iconst dX11_weeks_22 (by decide) (n_iret dX11_weeks_23 hR rfl ?_)
      exact ⟨_, rfl, Or.inr ⟨by omega, rfl, rfl⟩⟩
