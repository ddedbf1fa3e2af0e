/-! CLEAR's answer. -/
/-- what clear answers: P what each pays, C what comes to each, A what each owes, r the rounds -/
def clearV (P C A : Int → Int) (r p q : Int) : Int := if q = 0 then P p else if q = 1 then C p else if q = 2 then (if P p < A p then 1 else 0) else r
set_option maxRecDepth 100000 in
theorem x_clear (f p q : Int) (w : Wd) (hO : ∀ i j, 0 ≤ i → i < 20 → 0 ≤ j → j < 20 → 0 ≤ w (111 + Int.toNat i) j ∧ w (111 + Int.toNat i) j ≤ 99999) (hA : ∀ j, 0 ≤ j → j < 20 → 0 ≤ w 132 j ∧ w 132 j ≤ 2000000) (h : 0 ≤ w 15 10 ∧ w 15 10 ≤ 16) (ht : ∀ j, 0 ≤ j → j < 4 → 0 ≤ w 131 j ∧ w 131 j ≤ 99999) (hc : ∀ j, 0 ≤ j → j < w 15 10 → w 20 j ≤ 1000000000000) : CallN 5 mX11_clear [(2, 0), (0, f), (0, p), (0, q)] w (RQL (fun z w1 => (((0 ≤ f ∧ f ≤ 100) ∧ (0 ≤ p ∧ p ≤ 19) ∧ (0 ≤ q ∧ q ≤ 3)) ∧ z = clearV (cleR (w 132) (usV (w 131) (w 20) (w 15 10) f) (fun i j => w (111 + Int.toNat i) j) 300 (w 132) 0).1 (comesS (w 132) (cleR (w 132) (usV (w 131) (w 20) (w 15 10) f) (fun i j => w (111 + Int.toNat i) j) 300 (w 132) 0).1 (fun i j => w (111 + Int.toNat i) j)) (w 132) (cleR (w 132) (usV (w 131) (w 20) (w 15 10) f) (fun i j => w (111 + Int.toNat i) j) 300 (w 132) 0).2 p q ∧ (∀ k j, k ≠ 133 → k ≠ 134 → ¬ (k = 109 ∧ j = 6) → w1 k j = w k j)) ∨ (¬ ((0 ≤ f ∧ f ≤ 100) ∧ (0 ≤ p ∧ p ≤ 19) ∧ (0 ≤ q ∧ q ≤ 3)) ∧ z = -1 ∧ w1 = w))) := by
  refine CallN.intro (by decide +kernel) (Nat.le_of_ble_eq_true rfl) (fun ρ hR => ?_)
  show AtN mX11_clear 5 ρ 0 [(0, (2, 0)), (1, (0, f)), (2, (0, p)), (3, (0, q))] [] w
  refine s_iload_n dX11_clear_0 1 rfl (s_iconst dX11_clear_1 (by decide) (s_bipush dX11_clear_2 (by decide) (n_invS (as := [(0, f), (0, 0), (0, 100)]) dX11_clear_4 kv_X11_within ml_X11_102 (c_within f 0 100 w) (by decide) rfl rfl (Nat.le_of_ble_eq_true rfl) (n_ifeq_b 29 dX11_clear_7 (by decide) (fun c_7 => ?_) (fun c_7 => ?_)))))
  · skip
    refine s_ldc2 (z := (-1)) dX11_clear_29 kc_X11_269 rfl (by unfold InL; decide) (n_lret dX11_clear_32 hR rfl ?_)
    first
    | exact ⟨_, rfl, Or.inr ⟨by omega, rfl, rfl⟩⟩
    | exact ⟨_, rfl, Or.inl ⟨by omega, by unfold clearV; rw [if_pos (show q = 0 by omega)]; exact s4.1, s1⟩⟩
    | exact ⟨_, rfl, Or.inl ⟨by omega, by unfold clearV; rw [if_neg (show ¬ q = 0 by omega), if_pos (show q = 1 by omega)]; exact s4.2, s1⟩⟩
    | exact ⟨_, rfl, Or.inl ⟨by omega, by unfold clearV; rw [if_neg (show ¬ q = 0 by omega), if_neg (show ¬ q = 1 by omega), if_pos (show q = 2 by omega), ← s4.1, ← s5]; split <;> omega, s1⟩⟩
    | exact ⟨_, rfl, Or.inl ⟨by omega, by unfold clearV; rw [if_neg (show ¬ q = 0 by omega), if_neg (show ¬ q = 1 by omega), if_neg (show ¬ q = 2 by omega)]; exact s3, s1⟩⟩
  · skip
    refine s_iload_n dX11_clear_10 2 rfl (s_iconst dX11_clear_11 (by decide) (s_bipush dX11_clear_12 (by decide) (n_invS (as := [(0, p), (0, 0), (0, 19)]) dX11_clear_14 kv_X11_within ml_X11_102 (c_within p 0 19 w) (by decide) rfl rfl (Nat.le_of_ble_eq_true rfl) (n_ifeq_b 29 dX11_clear_17 (by decide) (fun c_17 => ?_) (fun c_17 => ?_)))))
    · skip
      refine s_ldc2 (z := (-1)) dX11_clear_29 kc_X11_269 rfl (by unfold InL; decide) (n_lret dX11_clear_32 hR rfl ?_)
      first
      | exact ⟨_, rfl, Or.inr ⟨by omega, rfl, rfl⟩⟩
      | exact ⟨_, rfl, Or.inl ⟨by omega, by unfold clearV; rw [if_pos (show q = 0 by omega)]; exact s4.1, s1⟩⟩
      | exact ⟨_, rfl, Or.inl ⟨by omega, by unfold clearV; rw [if_neg (show ¬ q = 0 by omega), if_pos (show q = 1 by omega)]; exact s4.2, s1⟩⟩
      | exact ⟨_, rfl, Or.inl ⟨by omega, by unfold clearV; rw [if_neg (show ¬ q = 0 by omega), if_neg (show ¬ q = 1 by omega), if_pos (show q = 2 by omega), ← s4.1, ← s5]; split <;> omega, s1⟩⟩
      | exact ⟨_, rfl, Or.inl ⟨by omega, by unfold clearV; rw [if_neg (show ¬ q = 0 by omega), if_neg (show ¬ q = 1 by omega), if_neg (show ¬ q = 2 by omega)]; exact s3, s1⟩⟩
    · skip
      refine s_iload_n dX11_clear_20 3 rfl (s_iconst dX11_clear_21 (by decide) (s_iconst dX11_clear_22 (by decide) (n_invS (as := [(0, q), (0, 0), (0, 3)]) dX11_clear_23 kv_X11_within ml_X11_102 (c_within q 0 3 w) (by decide) rfl rfl (Nat.le_of_ble_eq_true rfl) (n_ifne_b 33 dX11_clear_26 (by decide) (fun c_26 => ?_) (fun c_26 => ?_)))))
      · skip
        have hf : 0 ≤ f ∧ f ≤ 100 := by omega
        refine s_aload_n dX11_clear_33 0 rfl rfl (n_getc (q := 109) 0 8 119 dX11_clear_34 cf_X11 ff_X11_76 rfl sh_0 rfl (by decide) rfl (by decide) (s_iload_n dX11_clear_37 1 rfl (n_invV' (as := [(0, f)]) dX11_clear_38 kv_X1_settle ml_X11_271 (c_X_settle f w hO hA hf h ht hc) (by decide) 109 cf_X1 rfl sh_109 rfl rfl rfl (Nat.le_of_ble_eq_true rfl) ?_)))
        rintro r_38 w_38 ⟨rfl, hz_38⟩
        obtain ⟨s1, s2, s3⟩ := hz_38
        have s4 := s2 p (by omega) (by omega)
        have s5 : w_38 132 p = w 132 p := s1 132 p (by decide) (by decide) (fun x => absurd x.1 (by decide))
        refine s_iload_n dX11_clear_41 3 rfl ?_
        rcases (show (q < 0 ∨ 2 < q) ∨ q = 0 ∨ q = 1 ∨ q = 2 from by omega) with c_42 | c_42 | c_42 | c_42
        · refine s_tableOut 116 dX11_clear_42 c_42 (by decide) ?_
          refine s_aload_n dX11_clear_116 0 rfl rfl (n_getc (q := 109) 0 8 119 dX11_clear_117 cf_X11 ff_X11_76 rfl sh_0 rfl (by decide) rfl (by decide) (n_getf 109 6 0 dX11_clear_120 cf_X1 ff_X11_284 rfl sh_109 rfl (by decide) (v := (w_38 109 6)) rfl (s_i2l dX11_clear_123 (n_lret dX11_clear_124 hR rfl ?_))))
          first
          | exact ⟨_, rfl, Or.inr ⟨by omega, rfl, rfl⟩⟩
          | exact ⟨_, rfl, Or.inl ⟨by omega, by unfold clearV; rw [if_pos (show q = 0 by omega)]; exact s4.1, s1⟩⟩
          | exact ⟨_, rfl, Or.inl ⟨by omega, by unfold clearV; rw [if_neg (show ¬ q = 0 by omega), if_pos (show q = 1 by omega)]; exact s4.2, s1⟩⟩
          | exact ⟨_, rfl, Or.inl ⟨by omega, by unfold clearV; rw [if_neg (show ¬ q = 0 by omega), if_neg (show ¬ q = 1 by omega), if_pos (show q = 2 by omega), ← s4.1, ← s5]; split <;> omega, s1⟩⟩
          | exact ⟨_, rfl, Or.inl ⟨by omega, by unfold clearV; rw [if_neg (show ¬ q = 0 by omega), if_neg (show ¬ q = 1 by omega), if_neg (show ¬ q = 2 by omega)]; exact s3, s1⟩⟩
        · refine s_tableIn 68 0 dX11_clear_42 (by rw [c_42]; rfl) (by decide) rfl (by decide) ?_
          refine s_aload_n dX11_clear_68 0 rfl rfl (n_getc (q := 109) 0 8 119 dX11_clear_69 cf_X11 ff_X11_76 rfl sh_0 rfl (by decide) rfl (by decide) (n_getc (q := 133) 109 4 143 dX11_clear_72 cf_X1 ff_X11_274 rfl sh_109 rfl (by decide) rfl (by decide) (s_iload_n dX11_clear_75 2 rfl (n_lald 133 dX11_clear_76 rfl sh_133 (by decide) ⟨(by omega), (by omega)⟩ (v := (w_38 133 p)) rfl (n_lret dX11_clear_77 hR rfl ?_)))))
          first
          | exact ⟨_, rfl, Or.inr ⟨by omega, rfl, rfl⟩⟩
          | exact ⟨_, rfl, Or.inl ⟨by omega, by unfold clearV; rw [if_pos (show q = 0 by omega)]; exact s4.1, s1⟩⟩
          | exact ⟨_, rfl, Or.inl ⟨by omega, by unfold clearV; rw [if_neg (show ¬ q = 0 by omega), if_pos (show q = 1 by omega)]; exact s4.2, s1⟩⟩
          | exact ⟨_, rfl, Or.inl ⟨by omega, by unfold clearV; rw [if_neg (show ¬ q = 0 by omega), if_neg (show ¬ q = 1 by omega), if_pos (show q = 2 by omega), ← s4.1, ← s5]; split <;> omega, s1⟩⟩
          | exact ⟨_, rfl, Or.inl ⟨by omega, by unfold clearV; rw [if_neg (show ¬ q = 0 by omega), if_neg (show ¬ q = 1 by omega), if_neg (show ¬ q = 2 by omega)]; exact s3, s1⟩⟩
        · refine s_tableIn 78 1 dX11_clear_42 (by rw [c_42]; rfl) (by decide) rfl (by decide) ?_
          refine s_aload_n dX11_clear_78 0 rfl rfl (n_getc (q := 109) 0 8 119 dX11_clear_79 cf_X11 ff_X11_76 rfl sh_0 rfl (by decide) rfl (by decide) (n_getc (q := 134) 109 5 144 dX11_clear_82 cf_X1 ff_X11_278 rfl sh_109 rfl (by decide) rfl (by decide) (s_iload_n dX11_clear_85 2 rfl (n_lald 134 dX11_clear_86 rfl sh_134 (by decide) ⟨(by omega), (by omega)⟩ (v := (w_38 134 p)) rfl (n_lret dX11_clear_87 hR rfl ?_)))))
          first
          | exact ⟨_, rfl, Or.inr ⟨by omega, rfl, rfl⟩⟩
          | exact ⟨_, rfl, Or.inl ⟨by omega, by unfold clearV; rw [if_pos (show q = 0 by omega)]; exact s4.1, s1⟩⟩
          | exact ⟨_, rfl, Or.inl ⟨by omega, by unfold clearV; rw [if_neg (show ¬ q = 0 by omega), if_pos (show q = 1 by omega)]; exact s4.2, s1⟩⟩
          | exact ⟨_, rfl, Or.inl ⟨by omega, by unfold clearV; rw [if_neg (show ¬ q = 0 by omega), if_neg (show ¬ q = 1 by omega), if_pos (show q = 2 by omega), ← s4.1, ← s5]; split <;> omega, s1⟩⟩
          | exact ⟨_, rfl, Or.inl ⟨by omega, by unfold clearV; rw [if_neg (show ¬ q = 0 by omega), if_neg (show ¬ q = 1 by omega), if_neg (show ¬ q = 2 by omega)]; exact s3, s1⟩⟩
        · refine s_tableIn 88 2 dX11_clear_42 (by rw [c_42]; rfl) (by decide) rfl (by decide) ?_
          refine s_aload_n dX11_clear_88 0 rfl rfl (n_getc (q := 109) 0 8 119 dX11_clear_89 cf_X11 ff_X11_76 rfl sh_0 rfl (by decide) rfl (by decide) (n_getc (q := 133) 109 4 143 dX11_clear_92 cf_X1 ff_X11_274 rfl sh_109 rfl (by decide) rfl (by decide) (s_iload_n dX11_clear_95 2 rfl (n_lald 133 dX11_clear_96 rfl sh_133 (by decide) ⟨(by omega), (by omega)⟩ (v := (w_38 133 p)) rfl (s_aload_n dX11_clear_97 0 rfl rfl (n_getc (q := 109) 0 8 119 dX11_clear_98 cf_X11 ff_X11_76 rfl sh_0 rfl (by decide) rfl (by decide) (n_getc (q := 132) 109 3 142 dX11_clear_101 cf_X1 ff_X11_281 rfl sh_109 rfl (by decide) rfl (by decide) (s_iload_n dX11_clear_104 2 rfl (n_lald 132 dX11_clear_105 rfl sh_132 (by decide) ⟨(by omega), (by omega)⟩ (v := (w_38 132 p)) rfl ?_)))))))))
          refine s_lcmp dX11_clear_106 (s_if_ge 114 dX11_clear_107 (by decide) (fun c_107 => ?_) (fun c_107 => ?_))
          · skip
            refine s_lconst (z := 0) dX11_clear_114 rfl (n_lret dX11_clear_115 hR rfl ?_)
            first
            | exact ⟨_, rfl, Or.inr ⟨by omega, rfl, rfl⟩⟩
            | exact ⟨_, rfl, Or.inl ⟨by omega, by unfold clearV; rw [if_pos (show q = 0 by omega)]; exact s4.1, s1⟩⟩
            | exact ⟨_, rfl, Or.inl ⟨by omega, by unfold clearV; rw [if_neg (show ¬ q = 0 by omega), if_pos (show q = 1 by omega)]; exact s4.2, s1⟩⟩
            | exact ⟨_, rfl, Or.inl ⟨by omega, by unfold clearV; rw [if_neg (show ¬ q = 0 by omega), if_neg (show ¬ q = 1 by omega), if_pos (show q = 2 by omega), ← s4.1, ← s5]; split <;> omega, s1⟩⟩
            | exact ⟨_, rfl, Or.inl ⟨by omega, by unfold clearV; rw [if_neg (show ¬ q = 0 by omega), if_neg (show ¬ q = 1 by omega), if_neg (show ¬ q = 2 by omega)]; exact s3, s1⟩⟩
          · skip
            refine s_lconst (z := 1) dX11_clear_110 rfl (s_goto 115 dX11_clear_111 (by decide) (n_lret dX11_clear_115 hR rfl ?_))
            first
            | exact ⟨_, rfl, Or.inr ⟨by omega, rfl, rfl⟩⟩
            | exact ⟨_, rfl, Or.inl ⟨by omega, by unfold clearV; rw [if_pos (show q = 0 by omega)]; exact s4.1, s1⟩⟩
            | exact ⟨_, rfl, Or.inl ⟨by omega, by unfold clearV; rw [if_neg (show ¬ q = 0 by omega), if_pos (show q = 1 by omega)]; exact s4.2, s1⟩⟩
            | exact ⟨_, rfl, Or.inl ⟨by omega, by unfold clearV; rw [if_neg (show ¬ q = 0 by omega), if_neg (show ¬ q = 1 by omega), if_pos (show q = 2 by omega), ← s4.1, ← s5]; split <;> omega, s1⟩⟩
            | exact ⟨_, rfl, Or.inl ⟨by omega, by unfold clearV; rw [if_neg (show ¬ q = 0 by omega), if_neg (show ¬ q = 1 by omega), if_neg (show ¬ q = 2 by omega)]; exact s3, s1⟩⟩
      · skip
        refine s_ldc2 (z := (-1)) dX11_clear_29 kc_X11_269 rfl (by unfold InL; decide) (n_lret dX11_clear_32 hR rfl ?_)
        first
        | exact ⟨_, rfl, Or.inr ⟨by omega, rfl, rfl⟩⟩
        | exact ⟨_, rfl, Or.inl ⟨by omega, by unfold clearV; rw [if_pos (show q = 0 by omega)]; exact s4.1, s1⟩⟩
        | exact ⟨_, rfl, Or.inl ⟨by omega, by unfold clearV; rw [if_neg (show ¬ q = 0 by omega), if_pos (show q = 1 by omega)]; exact s4.2, s1⟩⟩
        | exact ⟨_, rfl, Or.inl ⟨by omega, by unfold clearV; rw [if_neg (show ¬ q = 0 by omega), if_neg (show ¬ q = 1 by omega), if_pos (show q = 2 by omega), ← s4.1, ← s5]; split <;> omega, s1⟩⟩
        | exact ⟨_, rfl, Or.inl ⟨by omega, by unfold clearV; rw [if_neg (show ¬ q = 0 by omega), if_neg (show ¬ q = 1 by omega), if_neg (show ¬ q = 2 by omega)]; exact s3, s1⟩⟩
