/-! WEEKS, the reference. -/
/-- what a week of the reference needs -/
def NeedM (w : Wd) (LN : Int → List Lin) : Prop := InM w LN ∧ (0 ≤ w 141 4 ∧ w 141 4 ≤ 16) ∧ (0 ≤ w 141 6 ∧ w 141 6 ≤ 16) ∧ (∀ h, 0 ≤ h → h < w 141 4 → (0 ≤ w 156 h ∧ w 156 h ≤ 999) ∧ (1 ≤ w 157 h ∧ w 157 h ≤ 99) ∧ (0 ≤ w 158 h ∧ w 158 h ≤ 40) ∧ (0 ≤ w 164 h ∧ w 164 h ≤ 1400000) ∧ (-1000000000000 ≤ w 163 h ∧ w 163 h ≤ 1000000000000)) ∧ (∀ c, 0 ≤ c → c < w 141 6 → 0 ≤ w 184 c ∧ w 184 c ≤ 9999) ∧ (∀ j, 0 ≤ j → j < w 141 5 → 0 ≤ w 167 j ∧ w 167 j ≤ 99) ∧ (∀ j, 0 ≤ j → j < w 141 2 → 0 ≤ w 148 j ∧ w 148 j ≤ 100) ∧ 0 ≤ w 141 0 ∧ w 141 0 ≤ 1000
theorem WeekM.now {w w1 : Wd} {LN : Int → List Lin} (h : WeekM w w1 LN) : w1 141 0 = w 141 0 + 1 := by
  obtain ⟨u1, u2, u3, u4, -, -, -, -, -, -, h, -⟩ := h
  exact h

set_option maxRecDepth 100000 in
theorem m_weeks (n : Int) (w : Wd) (LN : Int → List Lin) (Inv : Nat → Wd → Prop) (h0 : Inv 0 w) (hneed : ∀ k u, Inv k u → NeedM u LN) (hstep : ∀ k u u1, k < n.toNat → Inv k u → WeekM u u1 LN → Inv (k + 1) u1) (ht0 : 0 ≤ w 141 0 ∧ w 141 0 ≤ 199) : CallN 9 mX12_weeks [(2, 141), (0, n)] w (RQ (fun z w1 => (((1 ≤ n ∧ n ≤ 20) ∧ w 141 0 + n ≤ 199) ∧ z = w 141 0 + n ∧ Inv n.toNat w1) ∨ (¬ ((1 ≤ n ∧ n ≤ 20) ∧ w 141 0 + n ≤ 199) ∧ z = -1 ∧ w1 = w))) := by
  refine CallN.intro (by decide +kernel) (Nat.le_of_ble_eq_true rfl) (fun ρ hR => ?_)
  show AtN mX12_weeks 9 ρ 0 [(0, (2, 141)), (1, (0, n))] [] w
  have L_26 : ∀ (fu : Nat) (i : Int) (v9 : Wd), ((1 ≤ n ∧ n ≤ 20) ∧ w 141 0 + n ≤ 199) → 0 ≤ i ∧ i ≤ n → Inv i.toNat v9 → v9 141 0 = w 141 0 + i → (n - i).toNat < fu → AtN mX12_weeks 9 ρ 26 [(0, (2, 141)), (1, (0, n)), (2, (0, i))] [] v9 := by
    intro fu
    induction fu with
    | zero => intro i v9 hok hi hv ht hm; exact absurd hm (Nat.not_lt_zero _)
    | succ fu ih =>
      intro i v9 hok hi hv ht hm
      have hq := hneed _ v9 hv
      refine s_iload_n dX12_weeks_26 2 rfl (s_iload_n dX12_weeks_27 1 rfl (s_icmp_ge 41 dX12_weeks_28 (by decide) (fun c_28 => ?_) (fun c_28 => ?_)))
      · skip
        refine s_aload_n dX12_weeks_41 0 rfl rfl (n_getf 141 0 0 dX12_weeks_42 cf_X12 ff_X12_253 rfl sh_141 rfl (by decide) (v := (v9 141 0)) rfl (n_iret dX12_weeks_45 hR rfl ?_))
        have e9 : i = n := by omega
        rw [e9] at hv ht
        exact ⟨_, rfl, Or.inl ⟨hok, ht, hv⟩⟩
      · skip
        refine s_aload_n dX12_weeks_31 0 rfl rfl (n_invV' (as := []) dX12_weeks_32 kv_X12_week ml_X12_447 (c_M_week v9 LN hq.1 hq.2.1 hq.2.2.1 hq.2.2.2.1 hq.2.2.2.2.1 hq.2.2.2.2.2.1 hq.2.2.2.2.2.2.1 hq.2.2.2.2.2.2.2) (by decide) 141 cf_X12 rfl sh_141 rfl rfl rfl (Nat.le_of_ble_eq_true rfl) ?_)
        rintro r_32 w_32 ⟨rfl, hW32⟩
        have hnw := hW32.now
        refine s_iinc (z := (i + 1)) (ls' := [(0, (2, 141)), (1, (0, n)), (2, (0, (i + 1)))]) dX12_weeks_35 2 rfl (Nat.le_of_ble_eq_true rfl) (wr_id (by omega) (by omega)) rfl (s_goto 26 dX12_weeks_38 (by decide) ?_)
        exact ih (i + 1) w_32 (by omega) (by omega) (by rw [toN_s hi.1]; exact hstep i.toNat v9 w_32 (by omega) hv hW32) (by omega) (by omega)
  refine s_iload_n dX12_weeks_0 1 rfl (s_iconst dX12_weeks_1 (by decide) (s_bipush dX12_weeks_2 (by decide) (n_invS (as := [(0, n), (0, 1), (0, 20)]) dX12_weeks_4 kv_X12_isIn ml_X12_223 (c_isIn n 1 20 w) (by decide) rfl rfl (Nat.le_of_ble_eq_true rfl) (n_ifeq_b 22 dX12_weeks_7 (by decide) (fun c_7 => ?_) (fun c_7 => ?_)))))
  · skip
    refine s_iconst dX12_weeks_22 (by decide) (n_iret dX12_weeks_23 hR rfl ?_)
    exact ⟨_, rfl, Or.inr ⟨by omega, rfl, rfl⟩⟩
  · skip
    refine s_aload_n dX12_weeks_10 0 rfl rfl (n_getf 141 0 0 dX12_weeks_11 cf_X12 ff_X12_253 rfl sh_141 rfl (by decide) (v := (w 141 0)) rfl (s_sipush dX12_weeks_14 (by decide) (s_iload_n dX12_weeks_17 1 rfl (n_sub (z := (199 - n)) dX12_weeks_18 (wr_id (by omega) (by omega)) (s_icmp_le 24 dX12_weeks_19 (by decide) (fun c_19 => ?_) (fun c_19 => ?_))))))
    · skip
      refine s_iconst dX12_weeks_24 (by decide) (s_istore_n (ls' := [(0, (2, 141)), (1, (0, n)), (2, (0, 0))]) dX12_weeks_25 (Nat.le_of_ble_eq_true rfl) rfl ?_)
      exact L_26 _ 0 w (by omega) (by omega) h0 (by omega) (Nat.lt_succ_self _)
    · skip
      refine s_iconst dX12_weeks_22 (by decide) (n_iret dX12_weeks_23 hR rfl ?_)
      exact ⟨_, rfl, Or.inr ⟨by omega, rfl, rfl⟩⟩
