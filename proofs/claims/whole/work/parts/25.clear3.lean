/-! m's CLEAR. -/
set_option maxRecDepth 100000 in
theorem m_clear (f p q : Int) (w : Wd) (h : 0 ≤ w 141 4 ∧ w 141 4 ≤ 16) (ht : ∀ j, 16 ≤ j → j < 20 → 0 ≤ w 202 j ∧ w 202 j ≤ 99999) (hc : ∀ j, 0 ≤ j → j < w 141 4 → w 163 j ≤ 1000000000000) (hO : ∀ i j, 0 ≤ i → i < 20 → 0 ≤ j → j < 20 → 0 ≤ w 201 (20 * i + j) ∧ w 201 (20 * i + j) ≤ 99999) : CallN 3 mX12_clear [(2, 141), (0, f), (0, p), (0, q)] w (RQL (fun z w1 => (((0 ≤ f ∧ f ≤ 100) ∧ (0 ≤ p ∧ p ≤ 19) ∧ (0 ≤ q ∧ q ≤ 3)) ∧ z = clearV (cleR (owM (w 201)) (usM (w 202) (w 163) (w 141 4) f) (fun i j => w 201 (20 * i + j)) 300 (owM (w 201)) 0).1 (comesS (owM (w 201)) (cleR (owM (w 201)) (usM (w 202) (w 163) (w 141 4) f) (fun i j => w 201 (20 * i + j)) 300 (owM (w 201)) 0).1 (fun i j => w 201 (20 * i + j))) (owM (w 201)) (cleR (owM (w 201)) (usM (w 202) (w 163) (w 141 4) f) (fun i j => w 201 (20 * i + j)) 300 (owM (w 201)) 0).2 p q ∧ (∀ k j, k ≠ 203 → k ≠ 204 → k ≠ 205 → k ≠ 206 → k ≠ 207 → ¬ (k = 141 ∧ j = 95) → w1 k j = w k j)) ∨ (¬ ((0 ≤ f ∧ f ≤ 100) ∧ (0 ≤ p ∧ p ≤ 19) ∧ (0 ≤ q ∧ q ≤ 3)) ∧ z = -1 ∧ w1 = w))) := by
  refine CallN.intro (by decide +kernel) (Nat.le_of_ble_eq_true rfl) (fun ρ hR => ?_)
  show AtN mX12_clear 3 ρ 0 [(0, (2, 141)), (1, (0, f)), (2, (0, p)), (3, (0, q))] [] w
  refine s_iload_n dX12_clear_0 1 rfl (s_iconst dX12_clear_1 (by decide) (s_bipush dX12_clear_2 (by decide) (n_invS (as := [(0, f), (0, 0), (0, 100)]) dX12_clear_4 kv_X12_isIn ml_X12_223 (c_isIn f 0 100 w) (by decide) rfl rfl (Nat.le_of_ble_eq_true rfl) (n_ifeq_b 26 dX12_clear_7 (by decide) (fun c_7 => ?_) (fun c_7 => ?_)))))
  · skip
    refine s_ldc2 (z := (-1)) dX12_clear_26 kc_X12_449 rfl (by unfold InL; decide) (n_lret dX12_clear_29 hR rfl ?_)
    first
    | exact ⟨_, rfl, Or.inr ⟨by omega, rfl, rfl⟩⟩
    | exact ⟨_, rfl, Or.inl ⟨by omega, by unfold clearV; rw [if_pos (show q = 0 by omega)]; exact s4.1, s1⟩⟩
    | exact ⟨_, rfl, Or.inl ⟨by omega, by unfold clearV; rw [if_neg (show ¬ q = 0 by omega), if_pos (show q = 1 by omega)]; exact s4.2.1, s1⟩⟩
    | exact ⟨_, rfl, Or.inl ⟨by omega, by unfold clearV; rw [if_neg (show ¬ q = 0 by omega), if_neg (show ¬ q = 1 by omega), if_pos (show q = 2 by omega), ← s4.1, ← s4.2.2]; split <;> omega, s1⟩⟩
    | exact ⟨_, rfl, Or.inl ⟨by omega, by unfold clearV; rw [if_neg (show ¬ q = 0 by omega), if_neg (show ¬ q = 1 by omega), if_neg (show ¬ q = 2 by omega)]; exact s3, s1⟩⟩
  · skip
    refine s_iload_n dX12_clear_10 2 rfl (n_invS (as := [(0, p)]) dX12_clear_11 kv_X12_isParty ml_X12_479 (c_M_isParty p w) (by decide) rfl rfl (Nat.le_of_ble_eq_true rfl) (n_ifeq_b 26 dX12_clear_14 (by decide) (fun c_14 => ?_) (fun c_14 => ?_)))
    · skip
      refine s_ldc2 (z := (-1)) dX12_clear_26 kc_X12_449 rfl (by unfold InL; decide) (n_lret dX12_clear_29 hR rfl ?_)
      first
      | exact ⟨_, rfl, Or.inr ⟨by omega, rfl, rfl⟩⟩
      | exact ⟨_, rfl, Or.inl ⟨by omega, by unfold clearV; rw [if_pos (show q = 0 by omega)]; exact s4.1, s1⟩⟩
      | exact ⟨_, rfl, Or.inl ⟨by omega, by unfold clearV; rw [if_neg (show ¬ q = 0 by omega), if_pos (show q = 1 by omega)]; exact s4.2.1, s1⟩⟩
      | exact ⟨_, rfl, Or.inl ⟨by omega, by unfold clearV; rw [if_neg (show ¬ q = 0 by omega), if_neg (show ¬ q = 1 by omega), if_pos (show q = 2 by omega), ← s4.1, ← s4.2.2]; split <;> omega, s1⟩⟩
      | exact ⟨_, rfl, Or.inl ⟨by omega, by unfold clearV; rw [if_neg (show ¬ q = 0 by omega), if_neg (show ¬ q = 1 by omega), if_neg (show ¬ q = 2 by omega)]; exact s3, s1⟩⟩
    · skip
      refine s_iload_n dX12_clear_17 3 rfl (s_iconst dX12_clear_18 (by decide) (s_iconst dX12_clear_19 (by decide) (n_invS (as := [(0, q), (0, 0), (0, 3)]) dX12_clear_20 kv_X12_isIn ml_X12_223 (c_isIn q 0 3 w) (by decide) rfl rfl (Nat.le_of_ble_eq_true rfl) (n_ifne_b 30 dX12_clear_23 (by decide) (fun c_23 => ?_) (fun c_23 => ?_)))))
      · skip
        have hf : 0 ≤ f ∧ f ≤ 100 := by omega
        refine s_aload_n dX12_clear_30 0 rfl rfl (s_iload_n dX12_clear_31 1 rfl (n_invV' (as := [(0, f)]) dX12_clear_32 kv_X12_clears ml_X12_490 (c_M_clears f w hf h ht hc hO) (by decide) 141 cf_X12 rfl sh_141 rfl rfl rfl (Nat.le_of_ble_eq_true rfl) ?_))
        rintro r_32 w_32 ⟨rfl, hz_32⟩
        obtain ⟨s1, s2, s3⟩ := hz_32
        have s4 := s2 p (by omega) (by omega)
        refine s_iload_n dX12_clear_35 3 rfl (s_if_ne 48 dX12_clear_36 (by decide) (fun c_36 => ?_) (fun c_36 => ?_))
        · skip
          refine s_iload_n dX12_clear_48 3 rfl (s_iconst dX12_clear_49 (by decide) (s_icmp_ne 62 dX12_clear_50 (by decide) (fun c_50 => ?_) (fun c_50 => ?_)))
          · skip
            refine s_iload_n dX12_clear_62 3 rfl (s_iconst dX12_clear_63 (by decide) (s_icmp_ne 91 dX12_clear_64 (by decide) (fun c_64 => ?_) (fun c_64 => ?_)))
            · skip
              refine s_aload_n dX12_clear_91 0 rfl rfl (n_getf 141 95 0 dX12_clear_92 cf_X12 ff_X12_484 rfl sh_141 rfl (by decide) (v := (w_32 141 95)) rfl (s_i2l dX12_clear_95 (n_lret dX12_clear_96 hR rfl ?_)))
              first
              | exact ⟨_, rfl, Or.inr ⟨by omega, rfl, rfl⟩⟩
              | exact ⟨_, rfl, Or.inl ⟨by omega, by unfold clearV; rw [if_pos (show q = 0 by omega)]; exact s4.1, s1⟩⟩
              | exact ⟨_, rfl, Or.inl ⟨by omega, by unfold clearV; rw [if_neg (show ¬ q = 0 by omega), if_pos (show q = 1 by omega)]; exact s4.2.1, s1⟩⟩
              | exact ⟨_, rfl, Or.inl ⟨by omega, by unfold clearV; rw [if_neg (show ¬ q = 0 by omega), if_neg (show ¬ q = 1 by omega), if_pos (show q = 2 by omega), ← s4.1, ← s4.2.2]; split <;> omega, s1⟩⟩
              | exact ⟨_, rfl, Or.inl ⟨by omega, by unfold clearV; rw [if_neg (show ¬ q = 0 by omega), if_neg (show ¬ q = 1 by omega), if_neg (show ¬ q = 2 by omega)]; exact s3, s1⟩⟩
            · skip
              refine s_aload_n dX12_clear_67 0 rfl rfl (n_getc (q := 204) 141 91 214 dX12_clear_68 cf_X12 ff_X12_202 rfl sh_141 rfl (by decide) rfl (by decide) (s_iload_n dX12_clear_71 2 rfl (n_lald 204 dX12_clear_72 rfl sh_204 (by decide) ⟨(by omega), (by omega)⟩ (v := (w_32 204 p)) rfl (s_aload_n dX12_clear_73 0 rfl rfl (n_getc (q := 206) 141 93 216 dX12_clear_74 cf_X12 ff_X12_208 rfl sh_141 rfl (by decide) rfl (by decide) (s_iload_n dX12_clear_77 2 rfl (n_lald 206 dX12_clear_78 rfl sh_206 (by decide) ⟨(by omega), (by omega)⟩ (v := (w_32 206 p)) rfl (s_lcmp dX12_clear_79 (s_if_ge 87 dX12_clear_80 (by decide) (fun c_80 => ?_) (fun c_80 => ?_))))))))))
              · skip
                refine s_lconst (z := 0) dX12_clear_87 rfl (s_goto 96 dX12_clear_88 (by decide) (n_lret dX12_clear_96 hR rfl ?_))
                first
                | exact ⟨_, rfl, Or.inr ⟨by omega, rfl, rfl⟩⟩
                | exact ⟨_, rfl, Or.inl ⟨by omega, by unfold clearV; rw [if_pos (show q = 0 by omega)]; exact s4.1, s1⟩⟩
                | exact ⟨_, rfl, Or.inl ⟨by omega, by unfold clearV; rw [if_neg (show ¬ q = 0 by omega), if_pos (show q = 1 by omega)]; exact s4.2.1, s1⟩⟩
                | exact ⟨_, rfl, Or.inl ⟨by omega, by unfold clearV; rw [if_neg (show ¬ q = 0 by omega), if_neg (show ¬ q = 1 by omega), if_pos (show q = 2 by omega), ← s4.1, ← s4.2.2]; split <;> omega, s1⟩⟩
                | exact ⟨_, rfl, Or.inl ⟨by omega, by unfold clearV; rw [if_neg (show ¬ q = 0 by omega), if_neg (show ¬ q = 1 by omega), if_neg (show ¬ q = 2 by omega)]; exact s3, s1⟩⟩
              · skip
                refine s_lconst (z := 1) dX12_clear_83 rfl (s_goto 96 dX12_clear_84 (by decide) (n_lret dX12_clear_96 hR rfl ?_))
                first
                | exact ⟨_, rfl, Or.inr ⟨by omega, rfl, rfl⟩⟩
                | exact ⟨_, rfl, Or.inl ⟨by omega, by unfold clearV; rw [if_pos (show q = 0 by omega)]; exact s4.1, s1⟩⟩
                | exact ⟨_, rfl, Or.inl ⟨by omega, by unfold clearV; rw [if_neg (show ¬ q = 0 by omega), if_pos (show q = 1 by omega)]; exact s4.2.1, s1⟩⟩
                | exact ⟨_, rfl, Or.inl ⟨by omega, by unfold clearV; rw [if_neg (show ¬ q = 0 by omega), if_neg (show ¬ q = 1 by omega), if_pos (show q = 2 by omega), ← s4.1, ← s4.2.2]; split <;> omega, s1⟩⟩
                | exact ⟨_, rfl, Or.inl ⟨by omega, by unfold clearV; rw [if_neg (show ¬ q = 0 by omega), if_neg (show ¬ q = 1 by omega), if_neg (show ¬ q = 2 by omega)]; exact s3, s1⟩⟩
          · skip
            refine s_aload_n dX12_clear_53 0 rfl rfl (n_getc (q := 207) 141 94 217 dX12_clear_54 cf_X12 ff_X12_211 rfl sh_141 rfl (by decide) rfl (by decide) (s_iload_n dX12_clear_57 2 rfl (n_lald 207 dX12_clear_58 rfl sh_207 (by decide) ⟨(by omega), (by omega)⟩ (v := (w_32 207 p)) rfl (s_goto 96 dX12_clear_59 (by decide) (n_lret dX12_clear_96 hR rfl ?_)))))
            first
            | exact ⟨_, rfl, Or.inr ⟨by omega, rfl, rfl⟩⟩
            | exact ⟨_, rfl, Or.inl ⟨by omega, by unfold clearV; rw [if_pos (show q = 0 by omega)]; exact s4.1, s1⟩⟩
            | exact ⟨_, rfl, Or.inl ⟨by omega, by unfold clearV; rw [if_neg (show ¬ q = 0 by omega), if_pos (show q = 1 by omega)]; exact s4.2.1, s1⟩⟩
            | exact ⟨_, rfl, Or.inl ⟨by omega, by unfold clearV; rw [if_neg (show ¬ q = 0 by omega), if_neg (show ¬ q = 1 by omega), if_pos (show q = 2 by omega), ← s4.1, ← s4.2.2]; split <;> omega, s1⟩⟩
            | exact ⟨_, rfl, Or.inl ⟨by omega, by unfold clearV; rw [if_neg (show ¬ q = 0 by omega), if_neg (show ¬ q = 1 by omega), if_neg (show ¬ q = 2 by omega)]; exact s3, s1⟩⟩
        · skip
          refine s_aload_n dX12_clear_39 0 rfl rfl (n_getc (q := 204) 141 91 214 dX12_clear_40 cf_X12 ff_X12_202 rfl sh_141 rfl (by decide) rfl (by decide) (s_iload_n dX12_clear_43 2 rfl (n_lald 204 dX12_clear_44 rfl sh_204 (by decide) ⟨(by omega), (by omega)⟩ (v := (w_32 204 p)) rfl (s_goto 96 dX12_clear_45 (by decide) (n_lret dX12_clear_96 hR rfl ?_)))))
          first
          | exact ⟨_, rfl, Or.inr ⟨by omega, rfl, rfl⟩⟩
          | exact ⟨_, rfl, Or.inl ⟨by omega, by unfold clearV; rw [if_pos (show q = 0 by omega)]; exact s4.1, s1⟩⟩
          | exact ⟨_, rfl, Or.inl ⟨by omega, by unfold clearV; rw [if_neg (show ¬ q = 0 by omega), if_pos (show q = 1 by omega)]; exact s4.2.1, s1⟩⟩
          | exact ⟨_, rfl, Or.inl ⟨by omega, by unfold clearV; rw [if_neg (show ¬ q = 0 by omega), if_neg (show ¬ q = 1 by omega), if_pos (show q = 2 by omega), ← s4.1, ← s4.2.2]; split <;> omega, s1⟩⟩
          | exact ⟨_, rfl, Or.inl ⟨by omega, by unfold clearV; rw [if_neg (show ¬ q = 0 by omega), if_neg (show ¬ q = 1 by omega), if_neg (show ¬ q = 2 by omega)]; exact s3, s1⟩⟩
      · skip
        refine s_ldc2 (z := (-1)) dX12_clear_26 kc_X12_449 rfl (by unfold InL; decide) (n_lret dX12_clear_29 hR rfl ?_)
        first
        | exact ⟨_, rfl, Or.inr ⟨by omega, rfl, rfl⟩⟩
        | exact ⟨_, rfl, Or.inl ⟨by omega, by unfold clearV; rw [if_pos (show q = 0 by omega)]; exact s4.1, s1⟩⟩
        | exact ⟨_, rfl, Or.inl ⟨by omega, by unfold clearV; rw [if_neg (show ¬ q = 0 by omega), if_pos (show q = 1 by omega)]; exact s4.2.1, s1⟩⟩
        | exact ⟨_, rfl, Or.inl ⟨by omega, by unfold clearV; rw [if_neg (show ¬ q = 0 by omega), if_neg (show ¬ q = 1 by omega), if_pos (show q = 2 by omega), ← s4.1, ← s4.2.2]; split <;> omega, s1⟩⟩
        | exact ⟨_, rfl, Or.inl ⟨by omega, by unfold clearV; rw [if_neg (show ¬ q = 0 by omega), if_neg (show ¬ q = 1 by omega), if_neg (show ¬ q = 2 by omega)]; exact s3, s1⟩⟩
