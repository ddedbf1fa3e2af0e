/-! CROWDS, VERSIONS, PERSONS, WIRING, DEBTS, TERMS: the plain calls. -/
theorem rowsh_66 : ∀ i, i < 16 → SH[66 + i]? = some (1, 12, []) := by decide +kernel
theorem rowsh_91 : ∀ i, i < 9 → SH[91 + i]? = some (1, 9, []) := by decide +kernel
theorem rowsh_111 : ∀ i, i < 20 → SH[111 + i]? = some (1, 20, []) := by decide +kernel
theorem rowsh_137 : ∀ i, i < 3 → SH[137 + i]? = some (1, 9, []) := by decide +kernel
set_option maxRecDepth 100000 in
theorem c_X_crowd (t g a m p : Int) (w : Wd) (h : 0 ≤ w 59 9 ∧ w 59 9 ≤ 16) : CallN 2 mX0_addCrowd [(2, 59), (0, t), (0, g), (0, a), (0, m), (0, p)] w (RQ (Two (((0 ≤ t ∧ t ≤ 3) ∧ (0 ≤ g ∧ g ≤ 4) ∧ (0 ≤ a ∧ a ≤ 3) ∧ (0 ≤ m ∧ m ≤ 9999) ∧ (0 ≤ p ∧ p ≤ 99)) ∧ w 59 9 < 16) w (-1) (w 59 9) (wu (wu (wu (wu (wu (wu w 60 (w 59 9) t) 61 (w 59 9) g) 62 (w 59 9) a) 63 (w 59 9) m) 64 (w 59 9) p) 59 9 ((w 59 9) + 1)))) := by
  refine CallN.intro (by decide +kernel) (Nat.le_of_ble_eq_true rfl) (fun ρ hR => ?_)
  show AtN mX0_addCrowd 2 ρ 0 [(0, (2, 59)), (1, (0, t)), (2, (0, g)), (3, (0, a)), (4, (0, m)), (5, (0, p))] [] w
  refine s_iload_n dX0_addCrowd_0 1 rfl (s_iconst dX0_addCrowd_1 (by decide) (s_iconst dX0_addCrowd_2 (by decide) (n_invT (as := [(0, t), (0, 0), (0, 3)]) dX0_addCrowd_3 kv_X11_within ml_X0_63 (c_within t 0 3 w) (by decide) rfl rfl (Nat.le_of_ble_eq_true rfl) (n_ifeq_b 54 dX0_addCrowd_6 (by decide) (fun c_6 => ?_) (fun c_6 => ?_)))))
  · skip
    refine s_iconst dX0_addCrowd_54 (by decide) (s_istore (ls' := [(0, (2, 59)), (1, (0, t)), (2, (0, g)), (3, (0, a)), (4, (0, m)), (5, (0, p)), (6, (0, 0))]) dX0_addCrowd_55 (Nat.le_of_ble_eq_true rfl) rfl (s_iload dX0_addCrowd_57 6 rfl (s_if_eq 71 dX0_addCrowd_59 (by decide) (kf := fun c => absurd c (by decide)) (kt := fun _ => s_iconst dX0_addCrowd_71 (by decide) (n_iret dX0_addCrowd_72 hR rfl ?_)))))
    first | exact ⟨_, rfl, Or.inl ⟨by omega, by omega, rfl⟩⟩ | exact ⟨_, rfl, Or.inr ⟨by omega, by omega, rfl⟩⟩ | (exfalso; omega)
  · skip
    refine s_iload_n dX0_addCrowd_9 2 rfl (s_iconst dX0_addCrowd_10 (by decide) (s_iconst dX0_addCrowd_11 (by decide) (n_invT (as := [(0, g), (0, 0), (0, 4)]) dX0_addCrowd_12 kv_X11_within ml_X0_63 (c_within g 0 4 w) (by decide) rfl rfl (Nat.le_of_ble_eq_true rfl) (n_ifeq_b 54 dX0_addCrowd_15 (by decide) (fun c_15 => ?_) (fun c_15 => ?_)))))
    · skip
      refine s_iconst dX0_addCrowd_54 (by decide) (s_istore (ls' := [(0, (2, 59)), (1, (0, t)), (2, (0, g)), (3, (0, a)), (4, (0, m)), (5, (0, p)), (6, (0, 0))]) dX0_addCrowd_55 (Nat.le_of_ble_eq_true rfl) rfl (s_iload dX0_addCrowd_57 6 rfl (s_if_eq 71 dX0_addCrowd_59 (by decide) (kf := fun c => absurd c (by decide)) (kt := fun _ => s_iconst dX0_addCrowd_71 (by decide) (n_iret dX0_addCrowd_72 hR rfl ?_)))))
      first | exact ⟨_, rfl, Or.inl ⟨by omega, by omega, rfl⟩⟩ | exact ⟨_, rfl, Or.inr ⟨by omega, by omega, rfl⟩⟩ | (exfalso; omega)
    · skip
      refine s_iload_n dX0_addCrowd_18 3 rfl (s_iconst dX0_addCrowd_19 (by decide) (s_iconst dX0_addCrowd_20 (by decide) (n_invT (as := [(0, a), (0, 0), (0, 3)]) dX0_addCrowd_21 kv_X11_within ml_X0_63 (c_within a 0 3 w) (by decide) rfl rfl (Nat.le_of_ble_eq_true rfl) (n_ifeq_b 54 dX0_addCrowd_24 (by decide) (fun c_24 => ?_) (fun c_24 => ?_)))))
      · skip
        refine s_iconst dX0_addCrowd_54 (by decide) (s_istore (ls' := [(0, (2, 59)), (1, (0, t)), (2, (0, g)), (3, (0, a)), (4, (0, m)), (5, (0, p)), (6, (0, 0))]) dX0_addCrowd_55 (Nat.le_of_ble_eq_true rfl) rfl (s_iload dX0_addCrowd_57 6 rfl (s_if_eq 71 dX0_addCrowd_59 (by decide) (kf := fun c => absurd c (by decide)) (kt := fun _ => s_iconst dX0_addCrowd_71 (by decide) (n_iret dX0_addCrowd_72 hR rfl ?_)))))
        first | exact ⟨_, rfl, Or.inl ⟨by omega, by omega, rfl⟩⟩ | exact ⟨_, rfl, Or.inr ⟨by omega, by omega, rfl⟩⟩ | (exfalso; omega)
      · skip
        refine s_iload dX0_addCrowd_27 4 rfl (s_iconst dX0_addCrowd_29 (by decide) (s_sipush dX0_addCrowd_30 (by decide) (n_invT (as := [(0, m), (0, 0), (0, 9999)]) dX0_addCrowd_33 kv_X11_within ml_X0_63 (c_within m 0 9999 w) (by decide) rfl rfl (Nat.le_of_ble_eq_true rfl) (n_ifeq_b 54 dX0_addCrowd_36 (by decide) (fun c_36 => ?_) (fun c_36 => ?_)))))
        · skip
          refine s_iconst dX0_addCrowd_54 (by decide) (s_istore (ls' := [(0, (2, 59)), (1, (0, t)), (2, (0, g)), (3, (0, a)), (4, (0, m)), (5, (0, p)), (6, (0, 0))]) dX0_addCrowd_55 (Nat.le_of_ble_eq_true rfl) rfl (s_iload dX0_addCrowd_57 6 rfl (s_if_eq 71 dX0_addCrowd_59 (by decide) (kf := fun c => absurd c (by decide)) (kt := fun _ => s_iconst dX0_addCrowd_71 (by decide) (n_iret dX0_addCrowd_72 hR rfl ?_)))))
          first | exact ⟨_, rfl, Or.inl ⟨by omega, by omega, rfl⟩⟩ | exact ⟨_, rfl, Or.inr ⟨by omega, by omega, rfl⟩⟩ | (exfalso; omega)
        · skip
          refine s_iload dX0_addCrowd_39 5 rfl (s_iconst dX0_addCrowd_41 (by decide) (s_bipush dX0_addCrowd_42 (by decide) (n_invT (as := [(0, p), (0, 0), (0, 99)]) dX0_addCrowd_44 kv_X11_within ml_X0_63 (c_within p 0 99 w) (by decide) rfl rfl (Nat.le_of_ble_eq_true rfl) (n_ifeq_b 54 dX0_addCrowd_47 (by decide) (fun c_47 => ?_) (fun c_47 => ?_)))))
          · skip
            refine s_iconst dX0_addCrowd_54 (by decide) (s_istore (ls' := [(0, (2, 59)), (1, (0, t)), (2, (0, g)), (3, (0, a)), (4, (0, m)), (5, (0, p)), (6, (0, 0))]) dX0_addCrowd_55 (Nat.le_of_ble_eq_true rfl) rfl (s_iload dX0_addCrowd_57 6 rfl (s_if_eq 71 dX0_addCrowd_59 (by decide) (kf := fun c => absurd c (by decide)) (kt := fun _ => s_iconst dX0_addCrowd_71 (by decide) (n_iret dX0_addCrowd_72 hR rfl ?_)))))
            first | exact ⟨_, rfl, Or.inl ⟨by omega, by omega, rfl⟩⟩ | exact ⟨_, rfl, Or.inr ⟨by omega, by omega, rfl⟩⟩ | (exfalso; omega)
          · skip
            refine s_iconst dX0_addCrowd_50 (by decide) (s_goto 55 dX0_addCrowd_51 (by decide) (s_istore (ls' := [(0, (2, 59)), (1, (0, t)), (2, (0, g)), (3, (0, a)), (4, (0, m)), (5, (0, p)), (6, (0, 1))]) dX0_addCrowd_55 (Nat.le_of_ble_eq_true rfl) rfl (s_iload dX0_addCrowd_57 6 rfl (s_if_eq 71 dX0_addCrowd_59 (by decide) (kt := fun c => absurd c (by decide)) (kf := fun _ => s_aload_n dX0_addCrowd_62 0 rfl rfl (n_getf 59 9 0 dX0_addCrowd_63 cf_X0 ff_X0_67 rfl sh_59 rfl (by decide) (v := (w 59 9)) rfl (s_bipush dX0_addCrowd_66 (by decide) (s_icmp_lt 73 dX0_addCrowd_68 (by decide) (fun c_68 => ?_) (fun c_68 => ?_)))))))))
            · skip
              refine s_aload_n dX0_addCrowd_73 0 rfl rfl (n_getc (q := 60) 59 3 70 dX0_addCrowd_74 cf_X0 ff_X0_9 rfl sh_59 rfl (by decide) rfl (by decide) (s_aload_n dX0_addCrowd_77 0 rfl rfl (n_getf 59 9 0 dX0_addCrowd_78 cf_X0 ff_X0_67 rfl sh_59 rfl (by decide) (v := (w 59 9)) rfl (s_iload_n dX0_addCrowd_81 1 rfl (s_iastore 60 dX0_addCrowd_82 rfl sh_60 (by decide) ⟨(by omega), (by omega)⟩ (s_aload_n dX0_addCrowd_83 0 rfl rfl (n_getc (q := 61) 59 4 71 dX0_addCrowd_84 cf_X0 ff_X0_15 rfl sh_59 rfl (by decide) rfl (by decide) (s_aload_n dX0_addCrowd_87 0 rfl rfl (n_getf 59 9 0 dX0_addCrowd_88 cf_X0 ff_X0_67 rfl sh_59 rfl (by decide) (v := (w 59 9)) rfl ?_)))))))))
              refine s_iload_n dX0_addCrowd_91 2 rfl (s_iastore 61 dX0_addCrowd_92 rfl sh_61 (by decide) ⟨(by omega), (by omega)⟩ (s_aload_n dX0_addCrowd_93 0 rfl rfl (n_getc (q := 62) 59 5 72 dX0_addCrowd_94 cf_X0 ff_X0_18 rfl sh_59 rfl (by decide) rfl (by decide) (s_aload_n dX0_addCrowd_97 0 rfl rfl (n_getf 59 9 0 dX0_addCrowd_98 cf_X0 ff_X0_67 rfl sh_59 rfl (by decide) (v := (w 59 9)) rfl (s_iload_n dX0_addCrowd_101 3 rfl (s_iastore 62 dX0_addCrowd_102 rfl sh_62 (by decide) ⟨(by omega), (by omega)⟩ (s_aload_n dX0_addCrowd_103 0 rfl rfl (n_getc (q := 63) 59 6 73 dX0_addCrowd_104 cf_X0 ff_X0_21 rfl sh_59 rfl (by decide) rfl (by decide) ?_)))))))))
              refine s_aload_n dX0_addCrowd_107 0 rfl rfl (n_getf 59 9 0 dX0_addCrowd_108 cf_X0 ff_X0_67 rfl sh_59 rfl (by decide) (v := (w 59 9)) rfl (s_iload dX0_addCrowd_111 4 rfl (s_iastore 63 dX0_addCrowd_113 rfl sh_63 (by decide) ⟨(by omega), (by omega)⟩ (s_aload_n dX0_addCrowd_114 0 rfl rfl (n_getc (q := 64) 59 7 74 dX0_addCrowd_115 cf_X0 ff_X0_24 rfl sh_59 rfl (by decide) rfl (by decide) (s_aload_n dX0_addCrowd_118 0 rfl rfl (n_getf 59 9 0 dX0_addCrowd_119 cf_X0 ff_X0_67 rfl sh_59 rfl (by decide) (v := (w 59 9)) rfl (s_iload dX0_addCrowd_122 5 rfl (s_iastore 64 dX0_addCrowd_124 rfl sh_64 (by decide) ⟨(by omega), (by omega)⟩ ?_)))))))))
              refine s_aload_n dX0_addCrowd_125 0 rfl rfl (s_dup dX0_addCrowd_126 (show (2 : Nat) ≠ 1 by decide) (n_getf 59 9 0 dX0_addCrowd_127 cf_X0 ff_X0_67 rfl sh_59 rfl (by decide) (v := (w 59 9)) rfl (s_iconst dX0_addCrowd_130 (by decide) (n_add (z := ((w 59 9) + 1)) dX0_addCrowd_131 (wr_id (by omega) (by omega)) (n_putf 59 9 9 dX0_addCrowd_132 cf_X0 ff_X0_67 rfl rfl sh_59 rfl rfl rfl (s_aload_n dX0_addCrowd_135 0 rfl rfl (n_getf 59 9 0 dX0_addCrowd_136 cf_X0 ff_X0_67 rfl sh_59 rfl (by decide) (v := ((w 59 9) + 1)) rfl (s_iconst dX0_addCrowd_139 (by decide) (n_sub (z := (((w 59 9) + 1) - 1)) dX0_addCrowd_140 (wr_id (by omega) (by omega)) ?_)))))))))
              refine n_iret dX0_addCrowd_141 hR rfl ?_
              first | exact ⟨_, rfl, Or.inl ⟨by omega, by omega, rfl⟩⟩ | exact ⟨_, rfl, Or.inr ⟨by omega, by omega, rfl⟩⟩ | (exfalso; omega)
            · skip
              refine s_iconst dX0_addCrowd_71 (by decide) (n_iret dX0_addCrowd_72 hR rfl ?_)
              first | exact ⟨_, rfl, Or.inl ⟨by omega, by omega, rfl⟩⟩ | exact ⟨_, rfl, Or.inr ⟨by omega, by omega, rfl⟩⟩ | (exfalso; omega)

set_option maxRecDepth 100000 in
theorem x_crowd (t g a m p : Int) (w : Wd) (h : 0 ≤ w 59 9 ∧ w 59 9 ≤ 16) : CallN 3 mX11_crowd [(2, 0), (0, t), (0, g), (0, a), (0, m), (0, p)] w (RQ (Two (((0 ≤ t ∧ t ≤ 3) ∧ (0 ≤ g ∧ g ≤ 4) ∧ (0 ≤ a ∧ a ≤ 3) ∧ (0 ≤ m ∧ m ≤ 9999) ∧ (0 ≤ p ∧ p ≤ 99)) ∧ w 59 9 < 16) w (-1) (w 59 9) (wu (wu (wu (wu (wu (wu w 60 (w 59 9) t) 61 (w 59 9) g) 62 (w 59 9) a) 63 (w 59 9) m) 64 (w 59 9) p) 59 9 ((w 59 9) + 1)))) := by
  refine CallN.intro (by decide +kernel) (Nat.le_of_ble_eq_true rfl) (fun ρ hR => ?_)
  show AtN mX11_crowd 3 ρ 0 [(0, (2, 0)), (1, (0, t)), (2, (0, g)), (3, (0, a)), (4, (0, m)), (5, (0, p))] [] w
  refine s_aload_n dX11_crowd_0 0 rfl rfl (n_getc (q := 59) 0 5 69 dX11_crowd_1 cf_X11 ff_X11_53 rfl sh_0 rfl (by decide) rfl (by decide) (s_iload_n dX11_crowd_4 1 rfl (s_iload_n dX11_crowd_5 2 rfl (s_iload_n dX11_crowd_6 3 rfl (s_iload dX11_crowd_7 4 rfl (s_iload dX11_crowd_9 5 rfl (n_invV' (as := [(0, t), (0, g), (0, a), (0, m), (0, p)]) dX11_crowd_11 kv_X0_addCrowd ml_X11_207 (c_X_crowd t g a m p w h) (by decide) 59 cf_X0 rfl sh_59 rfl rfl rfl (Nat.le_of_ble_eq_true rfl) ?_)))))))
  rintro r_11 w_11 ⟨z_11, rfl, hz_11⟩
  show AtN _ _ ρ _ _ [(0, z_11)] w_11
  refine n_iret dX11_crowd_14 hR rfl ?_
  exact ⟨_, rfl, hz_11⟩

set_option maxRecDepth 100000 in
theorem m_crowd (t g a m p : Int) (w : Wd) (h : 0 ≤ w 141 6 ∧ w 141 6 ≤ 16) : CallN 3 mX12_crowd [(2, 141), (0, t), (0, g), (0, a), (0, m), (0, p)] w (RQ (Two (((0 ≤ t ∧ t ≤ 3) ∧ (0 ≤ g ∧ g ≤ 4) ∧ (0 ≤ a ∧ a ≤ 3) ∧ (0 ≤ m ∧ m ≤ 9999) ∧ (0 ≤ p ∧ p ≤ 99)) ∧ w 141 6 < 16) w (-1) (w 141 6) (wu (wu (wu (wu (wu (wu w 181 (w 141 6) t) 182 (w 141 6) g) 183 (w 141 6) a) 184 (w 141 6) m) 185 (w 141 6) p) 141 6 ((w 141 6) + 1)))) := by
  refine CallN.intro (by decide +kernel) (Nat.le_of_ble_eq_true rfl) (fun ρ hR => ?_)
  show AtN mX12_crowd 3 ρ 0 [(0, (2, 141)), (1, (0, t)), (2, (0, g)), (3, (0, a)), (4, (0, m)), (5, (0, p))] [] w
  refine s_iload_n dX12_crowd_0 1 rfl (s_iconst dX12_crowd_1 (by decide) (s_iconst dX12_crowd_2 (by decide) (n_invS (as := [(0, t), (0, 0), (0, 3)]) dX12_crowd_3 kv_X12_isIn ml_X12_223 (c_isIn t 0 3 w) (by decide) rfl rfl (Nat.le_of_ble_eq_true rfl) (n_ifeq_b 59 dX12_crowd_6 (by decide) (fun c_6 => ?_) (fun c_6 => ?_)))))
  · skip
    refine s_iconst dX12_crowd_59 (by decide) (n_iret dX12_crowd_60 hR rfl ?_)
    first | exact ⟨_, rfl, Or.inl ⟨by omega, by omega, rfl⟩⟩ | exact ⟨_, rfl, Or.inr ⟨by omega, by omega, rfl⟩⟩ | (exfalso; omega)
  · skip
    refine s_iload_n dX12_crowd_9 2 rfl (s_iconst dX12_crowd_10 (by decide) (s_iconst dX12_crowd_11 (by decide) (n_invS (as := [(0, g), (0, 0), (0, 4)]) dX12_crowd_12 kv_X12_isIn ml_X12_223 (c_isIn g 0 4 w) (by decide) rfl rfl (Nat.le_of_ble_eq_true rfl) (n_ifeq_b 59 dX12_crowd_15 (by decide) (fun c_15 => ?_) (fun c_15 => ?_)))))
    · skip
      refine s_iconst dX12_crowd_59 (by decide) (n_iret dX12_crowd_60 hR rfl ?_)
      first | exact ⟨_, rfl, Or.inl ⟨by omega, by omega, rfl⟩⟩ | exact ⟨_, rfl, Or.inr ⟨by omega, by omega, rfl⟩⟩ | (exfalso; omega)
    · skip
      refine s_iload_n dX12_crowd_18 3 rfl (s_iconst dX12_crowd_19 (by decide) (s_iconst dX12_crowd_20 (by decide) (n_invS (as := [(0, a), (0, 0), (0, 3)]) dX12_crowd_21 kv_X12_isIn ml_X12_223 (c_isIn a 0 3 w) (by decide) rfl rfl (Nat.le_of_ble_eq_true rfl) (n_ifeq_b 59 dX12_crowd_24 (by decide) (fun c_24 => ?_) (fun c_24 => ?_)))))
      · skip
        refine s_iconst dX12_crowd_59 (by decide) (n_iret dX12_crowd_60 hR rfl ?_)
        first | exact ⟨_, rfl, Or.inl ⟨by omega, by omega, rfl⟩⟩ | exact ⟨_, rfl, Or.inr ⟨by omega, by omega, rfl⟩⟩ | (exfalso; omega)
      · skip
        refine s_iload dX12_crowd_27 4 rfl (s_iconst dX12_crowd_29 (by decide) (s_sipush dX12_crowd_30 (by decide) (n_invS (as := [(0, m), (0, 0), (0, 9999)]) dX12_crowd_33 kv_X12_isIn ml_X12_223 (c_isIn m 0 9999 w) (by decide) rfl rfl (Nat.le_of_ble_eq_true rfl) (n_ifeq_b 59 dX12_crowd_36 (by decide) (fun c_36 => ?_) (fun c_36 => ?_)))))
        · skip
          refine s_iconst dX12_crowd_59 (by decide) (n_iret dX12_crowd_60 hR rfl ?_)
          first | exact ⟨_, rfl, Or.inl ⟨by omega, by omega, rfl⟩⟩ | exact ⟨_, rfl, Or.inr ⟨by omega, by omega, rfl⟩⟩ | (exfalso; omega)
        · skip
          refine s_iload dX12_crowd_39 5 rfl (s_iconst dX12_crowd_41 (by decide) (s_bipush dX12_crowd_42 (by decide) (n_invS (as := [(0, p), (0, 0), (0, 99)]) dX12_crowd_44 kv_X12_isIn ml_X12_223 (c_isIn p 0 99 w) (by decide) rfl rfl (Nat.le_of_ble_eq_true rfl) (n_ifeq_b 59 dX12_crowd_47 (by decide) (fun c_47 => ?_) (fun c_47 => ?_)))))
          · skip
            refine s_iconst dX12_crowd_59 (by decide) (n_iret dX12_crowd_60 hR rfl ?_)
            first | exact ⟨_, rfl, Or.inl ⟨by omega, by omega, rfl⟩⟩ | exact ⟨_, rfl, Or.inr ⟨by omega, by omega, rfl⟩⟩ | (exfalso; omega)
          · skip
            refine s_aload_n dX12_crowd_50 0 rfl rfl (n_getf 141 6 0 dX12_crowd_51 cf_X12 ff_X12_236 rfl sh_141 rfl (by decide) (v := (w 141 6)) rfl (s_bipush dX12_crowd_54 (by decide) (s_icmp_ne 61 dX12_crowd_56 (by decide) (fun c_56 => ?_) (fun c_56 => ?_))))
            · skip
              refine s_aload_n dX12_crowd_61 0 rfl rfl (n_getc (q := 181) 141 65 191 dX12_crowd_62 cf_X12 ff_X12_132 rfl sh_141 rfl (by decide) rfl (by decide) (s_aload_n dX12_crowd_65 0 rfl rfl (n_getf 141 6 0 dX12_crowd_66 cf_X12 ff_X12_236 rfl sh_141 rfl (by decide) (v := (w 141 6)) rfl (s_iload_n dX12_crowd_69 1 rfl (s_iastore 181 dX12_crowd_70 rfl sh_181 (by decide) ⟨(by omega), (by omega)⟩ (s_aload_n dX12_crowd_71 0 rfl rfl (n_getc (q := 182) 141 66 192 dX12_crowd_72 cf_X12 ff_X12_135 rfl sh_141 rfl (by decide) rfl (by decide) (s_aload_n dX12_crowd_75 0 rfl rfl (n_getf 141 6 0 dX12_crowd_76 cf_X12 ff_X12_236 rfl sh_141 rfl (by decide) (v := (w 141 6)) rfl ?_)))))))))
              refine s_iload_n dX12_crowd_79 2 rfl (s_iastore 182 dX12_crowd_80 rfl sh_182 (by decide) ⟨(by omega), (by omega)⟩ (s_aload_n dX12_crowd_81 0 rfl rfl (n_getc (q := 183) 141 67 193 dX12_crowd_82 cf_X12 ff_X12_138 rfl sh_141 rfl (by decide) rfl (by decide) (s_aload_n dX12_crowd_85 0 rfl rfl (n_getf 141 6 0 dX12_crowd_86 cf_X12 ff_X12_236 rfl sh_141 rfl (by decide) (v := (w 141 6)) rfl (s_iload_n dX12_crowd_89 3 rfl (s_iastore 183 dX12_crowd_90 rfl sh_183 (by decide) ⟨(by omega), (by omega)⟩ (s_aload_n dX12_crowd_91 0 rfl rfl (n_getc (q := 184) 141 68 194 dX12_crowd_92 cf_X12 ff_X12_141 rfl sh_141 rfl (by decide) rfl (by decide) ?_)))))))))
              refine s_aload_n dX12_crowd_95 0 rfl rfl (n_getf 141 6 0 dX12_crowd_96 cf_X12 ff_X12_236 rfl sh_141 rfl (by decide) (v := (w 141 6)) rfl (s_iload dX12_crowd_99 4 rfl (s_iastore 184 dX12_crowd_101 rfl sh_184 (by decide) ⟨(by omega), (by omega)⟩ (s_aload_n dX12_crowd_102 0 rfl rfl (n_getc (q := 185) 141 69 195 dX12_crowd_103 cf_X12 ff_X12_144 rfl sh_141 rfl (by decide) rfl (by decide) (s_aload_n dX12_crowd_106 0 rfl rfl (n_getf 141 6 0 dX12_crowd_107 cf_X12 ff_X12_236 rfl sh_141 rfl (by decide) (v := (w 141 6)) rfl (s_iload dX12_crowd_110 5 rfl (s_iastore 185 dX12_crowd_112 rfl sh_185 (by decide) ⟨(by omega), (by omega)⟩ ?_)))))))))
              refine s_aload_n dX12_crowd_113 0 rfl rfl (s_dup dX12_crowd_114 (show (2 : Nat) ≠ 1 by decide) (n_getf 141 6 0 dX12_crowd_115 cf_X12 ff_X12_236 rfl sh_141 rfl (by decide) (v := (w 141 6)) rfl (s_iconst dX12_crowd_118 (by decide) (n_add (z := ((w 141 6) + 1)) dX12_crowd_119 (wr_id (by omega) (by omega)) (n_putf 141 6 6 dX12_crowd_120 cf_X12 ff_X12_236 rfl rfl sh_141 rfl rfl rfl (s_aload_n dX12_crowd_123 0 rfl rfl (n_getf 141 6 0 dX12_crowd_124 cf_X12 ff_X12_236 rfl sh_141 rfl (by decide) (v := ((w 141 6) + 1)) rfl (s_iconst dX12_crowd_127 (by decide) (n_sub (z := (((w 141 6) + 1) - 1)) dX12_crowd_128 (wr_id (by omega) (by omega)) ?_)))))))))
              refine n_iret dX12_crowd_129 hR rfl ?_
              first | exact ⟨_, rfl, Or.inl ⟨by omega, by omega, rfl⟩⟩ | exact ⟨_, rfl, Or.inr ⟨by omega, by omega, rfl⟩⟩ | (exfalso; omega)
            · skip
              refine s_iconst dX12_crowd_59 (by decide) (n_iret dX12_crowd_60 hR rfl ?_)
              first | exact ⟨_, rfl, Or.inl ⟨by omega, by omega, rfl⟩⟩ | exact ⟨_, rfl, Or.inr ⟨by omega, by omega, rfl⟩⟩ | (exfalso; omega)

set_option maxRecDepth 100000 in
theorem c_X_hasCrowd (q : Int) (w : Wd) : CallN 1 mX0_hasCrowd [(2, 59), (0, q)] w (RV (0, bi (0 ≤ q ∧ q < w 59 9)) w) := by
  refine CallN.intro (by decide +kernel) (Nat.le_of_ble_eq_true rfl) (fun ρ hR => ?_)
  show AtN mX0_hasCrowd 1 ρ 0 [(0, (2, 59)), (1, (0, q))] [] w
  refine s_iload_n dX0_hasCrowd_0 1 rfl (s_if_lt 16 dX0_hasCrowd_1 (by decide) (fun c_1 => ?_) (fun c_1 => ?_))
  · skip
    refine s_iconst dX0_hasCrowd_16 (by decide) (n_zret dX0_hasCrowd_17 hR rfl (by first | exact Or.inl rfl | exact Or.inr rfl | exact bi_01 _ | omega) ?_)
    refine ⟨congrArg (fun z => some ((0 : Nat), z)) ?_, rfl⟩
    first | exact (bi_t (by omega)).symm | exact (bi_f (by omega)).symm | exact bi_congr (by omega)
  · skip
    refine s_iload_n dX0_hasCrowd_4 1 rfl (s_aload_n dX0_hasCrowd_5 0 rfl rfl (n_getf 59 9 0 dX0_hasCrowd_6 cf_X0 ff_X0_67 rfl sh_59 rfl (by decide) (v := (w 59 9)) rfl (s_icmp_ge 16 dX0_hasCrowd_9 (by decide) (fun c_9 => ?_) (fun c_9 => ?_))))
    · skip
      refine s_iconst dX0_hasCrowd_16 (by decide) (n_zret dX0_hasCrowd_17 hR rfl (by first | exact Or.inl rfl | exact Or.inr rfl | exact bi_01 _ | omega) ?_)
      refine ⟨congrArg (fun z => some ((0 : Nat), z)) ?_, rfl⟩
      first | exact (bi_t (by omega)).symm | exact (bi_f (by omega)).symm | exact bi_congr (by omega)
    · skip
      refine s_iconst dX0_hasCrowd_12 (by decide) (s_goto 17 dX0_hasCrowd_13 (by decide) (n_zret dX0_hasCrowd_17 hR rfl (by first | exact Or.inl rfl | exact Or.inr rfl | exact bi_01 _ | omega) ?_))
      refine ⟨congrArg (fun z => some ((0 : Nat), z)) ?_, rfl⟩
      first | exact (bi_t (by omega)).symm | exact (bi_f (by omega)).symm | exact bi_congr (by omega)

set_option maxRecDepth 100000 in
theorem x_heard (c p : Int) (w : Wd) (h : 0 ≤ w 59 9 ∧ w 59 9 ≤ 16) (h2 : 0 ≤ w 1 5 ∧ w 1 5 ≤ 12) : CallN 3 mX11_heard [(2, 0), (0, c), (0, p)] w (RQ (fun z w1 => w1 = w ∧ (((0 ≤ c ∧ c < w 59 9) ∧ (0 ≤ p ∧ p < w 1 5)) ∧ z = w (66 + c.toNat) p ∨ ¬ ((0 ≤ c ∧ c < w 59 9) ∧ (0 ≤ p ∧ p < w 1 5)) ∧ z = -99))) := by
  refine CallN.intro (by decide +kernel) (Nat.le_of_ble_eq_true rfl) (fun ρ hR => ?_)
  show AtN mX11_heard 3 ρ 0 [(0, (2, 0)), (1, (0, c)), (2, (0, p))] [] w
  refine s_aload_n dX11_heard_0 0 rfl rfl (n_getc (q := 59) 0 5 69 dX11_heard_1 cf_X11 ff_X11_53 rfl sh_0 rfl (by decide) rfl (by decide) (s_iload_n dX11_heard_4 1 rfl (n_invV (as := [(0, c)]) dX11_heard_5 kv_X0_hasCrowd ml_X11_210 (c_X_hasCrowd c w) (by decide) 59 cf_X0 rfl sh_59 rfl rfl rfl (Nat.le_of_ble_eq_true rfl) (n_ifeq_b 22 dX11_heard_8 (by decide) (fun c_8 => ?_) (fun c_8 => ?_)))))
  · skip
    refine s_bipush dX11_heard_22 (by decide) (n_iret dX11_heard_24 hR rfl ?_)
    first | exact ⟨_, rfl, rfl, Or.inl ⟨by omega, rfl⟩⟩ | exact ⟨_, rfl, rfl, Or.inr ⟨by omega, rfl⟩⟩
  · skip
    refine s_aload_n dX11_heard_11 0 rfl rfl (n_getc (q := 1) 0 0 11 dX11_heard_12 cf_X11 ff_X11_10 rfl sh_0 rfl (by decide) rfl (by decide) (s_iload_n dX11_heard_15 2 rfl (n_invV (as := [(0, p)]) dX11_heard_16 kv_X5_hasPicture ml_X11_220 (c_X_hasPicture p w) (by decide) 1 cf_X5 rfl sh_1 rfl rfl rfl (Nat.le_of_ble_eq_true rfl) (n_ifne_b 25 dX11_heard_19 (by decide) (fun c_19 => ?_) (fun c_19 => ?_)))))
    · skip
      refine s_aload_n dX11_heard_25 0 rfl rfl (n_getc (q := 59) 0 5 69 dX11_heard_26 cf_X11 ff_X11_53 rfl sh_0 rfl (by decide) rfl (by decide) (n_getc (q := 65) 59 8 75 dX11_heard_29 cf_X0 ff_X11_223 rfl sh_59 rfl (by decide) rfl (by decide) (s_iload_n dX11_heard_32 1 rfl (s_aaload6 65 dX11_heard_33 rfl sh_65 (by decide) ⟨(by omega), (by omega)⟩ (s_iload_n dX11_heard_34 2 rfl (n_iald (66 + Int.toNat c) dX11_heard_35 rfl (rowsh_66 _ (by omega)) (by decide) ⟨(by omega), (by omega)⟩ (v := (w (66 + Int.toNat c) p)) rfl (n_iret dX11_heard_36 hR rfl ?_)))))))
      first | exact ⟨_, rfl, rfl, Or.inl ⟨by omega, rfl⟩⟩ | exact ⟨_, rfl, rfl, Or.inr ⟨by omega, rfl⟩⟩
    · skip
      refine s_bipush dX11_heard_22 (by decide) (n_iret dX11_heard_24 hR rfl ?_)
      first | exact ⟨_, rfl, rfl, Or.inl ⟨by omega, rfl⟩⟩ | exact ⟨_, rfl, rfl, Or.inr ⟨by omega, rfl⟩⟩

set_option maxRecDepth 100000 in
theorem m_heard (c p : Int) (w : Wd) (h : 0 ≤ w 141 6 ∧ w 141 6 ≤ 16) (h2 : 0 ≤ w 141 1 ∧ w 141 1 ≤ 12) : CallN 3 mX12_heard [(2, 141), (0, c), (0, p)] w (RQ (fun z w1 => w1 = w ∧ (((0 ≤ c ∧ c < w 141 6) ∧ (0 ≤ p ∧ p < w 141 1)) ∧ z = w 186 (12 * c + p) ∨ ¬ ((0 ≤ c ∧ c < w 141 6) ∧ (0 ≤ p ∧ p < w 141 1)) ∧ z = -99))) := by
  refine CallN.intro (by decide +kernel) (Nat.le_of_ble_eq_true rfl) (fun ρ hR => ?_)
  show AtN mX12_heard 3 ρ 0 [(0, (2, 141)), (1, (0, c)), (2, (0, p))] [] w
  refine s_aload_n dX12_heard_0 0 rfl rfl (s_iload_n dX12_heard_1 1 rfl (n_invV (as := [(0, c)]) dX12_heard_2 kv_X12_isCrowd ml_X12_429 (c_M_isCrowd c w (by omega)) (by decide) 141 cf_X12 rfl sh_141 rfl rfl rfl (Nat.le_of_ble_eq_true rfl) (n_ifeq_b 30 dX12_heard_5 (by decide) (fun c_5 => ?_) (fun c_5 => ?_))))
  · skip
    refine s_bipush dX12_heard_30 (by decide) (n_iret dX12_heard_32 hR rfl ?_)
    first | exact ⟨_, rfl, rfl, Or.inl ⟨by omega, rfl⟩⟩ | exact ⟨_, rfl, rfl, Or.inr ⟨by omega, rfl⟩⟩
  · skip
    refine s_aload_n dX12_heard_8 0 rfl rfl (s_iload_n dX12_heard_9 2 rfl (n_invV (as := [(0, p)]) dX12_heard_10 kv_X12_isPicture ml_X12_239 (c_M_isPicture p w (by omega)) (by decide) 141 cf_X12 rfl sh_141 rfl rfl rfl (Nat.le_of_ble_eq_true rfl) (n_ifeq_b 30 dX12_heard_13 (by decide) (fun c_13 => ?_) (fun c_13 => ?_))))
    · skip
      refine s_bipush dX12_heard_30 (by decide) (n_iret dX12_heard_32 hR rfl ?_)
      first | exact ⟨_, rfl, rfl, Or.inl ⟨by omega, rfl⟩⟩ | exact ⟨_, rfl, rfl, Or.inr ⟨by omega, rfl⟩⟩
    · skip
      refine s_aload_n dX12_heard_16 0 rfl rfl (n_getc (q := 186) 141 70 196 dX12_heard_17 cf_X12 ff_X12_147 rfl sh_141 rfl (by decide) rfl (by decide) (s_bipush dX12_heard_20 (by decide) (s_iload_n dX12_heard_22 1 rfl (n_mul (z := (12 * c)) dX12_heard_23 (wr_id (by omega) (by omega)) (s_iload_n dX12_heard_24 2 rfl (n_add (z := ((12 * c) + p)) dX12_heard_25 (wr_id (by omega) (by omega)) (n_iald 186 dX12_heard_26 rfl sh_186 (by decide) ⟨(by omega), (by omega)⟩ (v := (w 186 ((12 * c) + p))) rfl (s_goto 32 dX12_heard_27 (by decide) (n_iret dX12_heard_32 hR rfl ?_)))))))))
      first | exact ⟨_, rfl, rfl, Or.inl ⟨by omega, rfl⟩⟩ | exact ⟨_, rfl, rfl, Or.inr ⟨by omega, rfl⟩⟩

/-- what at answers: n prints; pictureOf, wear, hall -/
def atV (n : Int) (f g h : Int → Int) (p q : Int) : Int := if 0 ≤ p ∧ p < n then (if q = 0 then f p else if q = 1 then g p else if q = 2 then h p else -1) else -1
/-- what of answers: n halls; coin, lookers, took, set, print, all lookers -/
def ofV (n : Int) (f g h s t u : Int → Int) (p q : Int) : Int := if 0 ≤ p ∧ p < n then (if q = 0 then f p else if q = 1 then g p else if q = 2 then h p else if q = 3 then s p else if q = 4 then t p else if q = 5 then u p else -1) else -1
set_option maxRecDepth 100000 in
theorem c_X_tellOf (p q : Int) (w : Wd) (h : 0 ≤ w 1 9 ∧ w 1 9 ≤ 30) : CallN 2 mX5_tellOf [(2, 1), (0, p), (0, q)] w (RQ (fun z w1 => w1 = w ∧ z = atV (w 1 9) (w 7) (w 8) (w 9) p q)) := by
  refine CallN.intro (by decide +kernel) (Nat.le_of_ble_eq_true rfl) (fun ρ hR => ?_)
  show AtN mX5_tellOf 2 ρ 0 [(0, (2, 1)), (1, (0, p)), (2, (0, q))] [] w
  refine s_aload_n dX5_tellOf_0 0 rfl rfl (s_iload_n dX5_tellOf_1 1 rfl (n_invV (as := [(0, p)]) dX5_tellOf_2 kv_X5_hasPrint ml_X5_76 (c_X_hasPrint p w) (by decide) 1 cf_X5 rfl sh_1 rfl rfl rfl (Nat.le_of_ble_eq_true rfl) (n_ifne_b 10 dX5_tellOf_5 (by decide) (fun c_5 => ?_) (fun c_5 => ?_))))
  · skip
    refine s_iload_n dX5_tellOf_10 2 rfl ?_
    rcases (show (q < 0 ∨ 2 < q) ∨ q = 0 ∨ q = 1 ∨ q = 2 from by omega) with c_11 | c_11 | c_11 | c_11
    · refine s_tableOut 57 dX5_tellOf_11 c_11 (by decide) ?_
      refine s_iconst dX5_tellOf_57 (by decide) (n_iret dX5_tellOf_58 hR rfl ?_)
      refine ⟨_, rfl, rfl, ?_⟩
      unfold atV
      first | (rw [if_neg (by omega)]; done) | (rw [if_pos (by omega)]; repeat (first | (rw [if_pos (by omega)]; done) | rw [if_neg (by omega)]))
    · refine s_tableIn 36 0 dX5_tellOf_11 (by rw [c_11]; rfl) (by decide) rfl (by decide) ?_
      refine s_aload_n dX5_tellOf_36 0 rfl rfl (n_getc (q := 7) 1 6 17 dX5_tellOf_37 cf_X5 ff_X5_27 rfl sh_1 rfl (by decide) rfl (by decide) (s_iload_n dX5_tellOf_40 1 rfl (n_iald 7 dX5_tellOf_41 rfl sh_7 (by decide) ⟨(by omega), (by omega)⟩ (v := (w 7 p)) rfl (n_iret dX5_tellOf_42 hR rfl ?_))))
      refine ⟨_, rfl, rfl, ?_⟩
      unfold atV
      first | (rw [if_neg (by omega)]; done) | (rw [if_pos (by omega)]; repeat (first | (rw [if_pos (by omega)]; done) | rw [if_neg (by omega)]))
    · refine s_tableIn 43 1 dX5_tellOf_11 (by rw [c_11]; rfl) (by decide) rfl (by decide) ?_
      refine s_aload_n dX5_tellOf_43 0 rfl rfl (n_getc (q := 8) 1 7 18 dX5_tellOf_44 cf_X5 ff_X5_30 rfl sh_1 rfl (by decide) rfl (by decide) (s_iload_n dX5_tellOf_47 1 rfl (n_iald 8 dX5_tellOf_48 rfl sh_8 (by decide) ⟨(by omega), (by omega)⟩ (v := (w 8 p)) rfl (n_iret dX5_tellOf_49 hR rfl ?_))))
      refine ⟨_, rfl, rfl, ?_⟩
      unfold atV
      first | (rw [if_neg (by omega)]; done) | (rw [if_pos (by omega)]; repeat (first | (rw [if_pos (by omega)]; done) | rw [if_neg (by omega)]))
    · refine s_tableIn 50 2 dX5_tellOf_11 (by rw [c_11]; rfl) (by decide) rfl (by decide) ?_
      refine s_aload_n dX5_tellOf_50 0 rfl rfl (n_getc (q := 9) 1 8 19 dX5_tellOf_51 cf_X5 ff_X5_33 rfl sh_1 rfl (by decide) rfl (by decide) (s_iload_n dX5_tellOf_54 1 rfl (n_iald 9 dX5_tellOf_55 rfl sh_9 (by decide) ⟨(by omega), (by omega)⟩ (v := (w 9 p)) rfl (n_iret dX5_tellOf_56 hR rfl ?_))))
      refine ⟨_, rfl, rfl, ?_⟩
      unfold atV
      first | (rw [if_neg (by omega)]; done) | (rw [if_pos (by omega)]; repeat (first | (rw [if_pos (by omega)]; done) | rw [if_neg (by omega)]))
  · skip
    refine s_iconst dX5_tellOf_8 (by decide) (n_iret dX5_tellOf_9 hR rfl ?_)
    refine ⟨_, rfl, rfl, ?_⟩
    unfold atV
    first | (rw [if_neg (by omega)]; done) | (rw [if_pos (by omega)]; repeat (first | (rw [if_pos (by omega)]; done) | rw [if_neg (by omega)]))

set_option maxRecDepth 100000 in
theorem x_at (p q : Int) (w : Wd) (h : 0 ≤ w 1 9 ∧ w 1 9 ≤ 30) : CallN 3 mX11_at [(2, 0), (0, p), (0, q)] w (RQ (fun z w1 => w1 = w ∧ z = atV (w 1 9) (w 7) (w 8) (w 9) p q)) := by
  refine CallN.intro (by decide +kernel) (Nat.le_of_ble_eq_true rfl) (fun ρ hR => ?_)
  show AtN mX11_at 3 ρ 0 [(0, (2, 0)), (1, (0, p)), (2, (0, q))] [] w
  refine s_aload_n dX11_at_0 0 rfl rfl (n_getc (q := 1) 0 0 11 dX11_at_1 cf_X11 ff_X11_10 rfl sh_0 rfl (by decide) rfl (by decide) (s_iload_n dX11_at_4 1 rfl (s_iload_n dX11_at_5 2 rfl (n_invV' (as := [(0, p), (0, q)]) dX11_at_6 kv_X5_tellOf ml_X11_234 (c_X_tellOf p q w h) (by decide) 1 cf_X5 rfl sh_1 rfl rfl rfl (Nat.le_of_ble_eq_true rfl) ?_))))
  rintro r_6 w_6 ⟨z_6, rfl, hz_6⟩
  show AtN _ _ ρ _ _ [(0, z_6)] w_6
  refine n_iret dX11_at_9 hR rfl ?_
  exact ⟨_, rfl, hz_6⟩

set_option maxRecDepth 100000 in
theorem m_at (p q : Int) (w : Wd) (h : 0 ≤ w 141 2 ∧ w 141 2 ≤ 30) : CallN 3 mX12_at [(2, 141), (0, p), (0, q)] w (RQ (fun z w1 => w1 = w ∧ z = atV (w 141 2) (w 147) (w 148) (w 149) p q)) := by
  refine CallN.intro (by decide +kernel) (Nat.le_of_ble_eq_true rfl) (fun ρ hR => ?_)
  show AtN mX12_at 3 ρ 0 [(0, (2, 141)), (1, (0, p)), (2, (0, q))] [] w
  refine s_aload_n dX12_at_0 0 rfl rfl (s_iload_n dX12_at_1 1 rfl (n_invV (as := [(0, p)]) dX12_at_2 kv_X12_isPrint ml_X12_243 (c_M_isPrint p w (by omega)) (by decide) 141 cf_X12 rfl sh_141 rfl rfl rfl (Nat.le_of_ble_eq_true rfl) (n_ifne_b 10 dX12_at_5 (by decide) (fun c_5 => ?_) (fun c_5 => ?_))))
  · skip
    refine s_iload_n dX12_at_10 2 rfl (s_if_ne 23 dX12_at_11 (by decide) (fun c_11 => ?_) (fun c_11 => ?_))
    · skip
      refine s_iload_n dX12_at_23 2 rfl (s_iconst dX12_at_24 (by decide) (s_icmp_ne 37 dX12_at_25 (by decide) (fun c_25 => ?_) (fun c_25 => ?_)))
      · skip
        refine s_iload_n dX12_at_37 2 rfl (s_iconst dX12_at_38 (by decide) (s_icmp_ne 51 dX12_at_39 (by decide) (fun c_39 => ?_) (fun c_39 => ?_)))
        · skip
          refine s_iconst dX12_at_51 (by decide) (n_iret dX12_at_52 hR rfl ?_)
          refine ⟨_, rfl, rfl, ?_⟩
          unfold atV
          first | (rw [if_neg (by omega)]; done) | (rw [if_pos (by omega)]; repeat (first | (rw [if_pos (by omega)]; done) | rw [if_neg (by omega)]))
        · skip
          refine s_aload_n dX12_at_42 0 rfl rfl (n_getc (q := 149) 141 17 159 dX12_at_43 cf_X12 ff_X12_31 rfl sh_141 rfl (by decide) rfl (by decide) (s_iload_n dX12_at_46 1 rfl (n_iald 149 dX12_at_47 rfl sh_149 (by decide) ⟨(by omega), (by omega)⟩ (v := (w 149 p)) rfl (s_goto 52 dX12_at_48 (by decide) (n_iret dX12_at_52 hR rfl ?_)))))
          refine ⟨_, rfl, rfl, ?_⟩
          unfold atV
          first | (rw [if_neg (by omega)]; done) | (rw [if_pos (by omega)]; repeat (first | (rw [if_pos (by omega)]; done) | rw [if_neg (by omega)]))
      · skip
        refine s_aload_n dX12_at_28 0 rfl rfl (n_getc (q := 148) 141 16 158 dX12_at_29 cf_X12 ff_X12_28 rfl sh_141 rfl (by decide) rfl (by decide) (s_iload_n dX12_at_32 1 rfl (n_iald 148 dX12_at_33 rfl sh_148 (by decide) ⟨(by omega), (by omega)⟩ (v := (w 148 p)) rfl (s_goto 52 dX12_at_34 (by decide) (n_iret dX12_at_52 hR rfl ?_)))))
        refine ⟨_, rfl, rfl, ?_⟩
        unfold atV
        first | (rw [if_neg (by omega)]; done) | (rw [if_pos (by omega)]; repeat (first | (rw [if_pos (by omega)]; done) | rw [if_neg (by omega)]))
    · skip
      refine s_aload_n dX12_at_14 0 rfl rfl (n_getc (q := 147) 141 15 157 dX12_at_15 cf_X12 ff_X12_25 rfl sh_141 rfl (by decide) rfl (by decide) (s_iload_n dX12_at_18 1 rfl (n_iald 147 dX12_at_19 rfl sh_147 (by decide) ⟨(by omega), (by omega)⟩ (v := (w 147 p)) rfl (s_goto 52 dX12_at_20 (by decide) (n_iret dX12_at_52 hR rfl ?_)))))
      refine ⟨_, rfl, rfl, ?_⟩
      unfold atV
      first | (rw [if_neg (by omega)]; done) | (rw [if_pos (by omega)]; repeat (first | (rw [if_pos (by omega)]; done) | rw [if_neg (by omega)]))
  · skip
    refine s_iconst dX12_at_8 (by decide) (n_iret dX12_at_9 hR rfl ?_)
    refine ⟨_, rfl, rfl, ?_⟩
    unfold atV
    first | (rw [if_neg (by omega)]; done) | (rw [if_pos (by omega)]; repeat (first | (rw [if_pos (by omega)]; done) | rw [if_neg (by omega)]))

set_option maxRecDepth 100000 in
theorem c_X_hallTell (p q : Int) (w : Wd) (h : 0 ≤ w 15 10 ∧ w 15 10 ≤ 16) : CallN 2 mX3_tell [(2, 15), (0, p), (0, q)] w (RQL (fun z w1 => w1 = w ∧ z = ofV (w 15 10) (w 20) (w 21) (w 22) (w 24) (w 25) (w 23) p q)) := by
  refine CallN.intro (by decide +kernel) (Nat.le_of_ble_eq_true rfl) (fun ρ hR => ?_)
  show AtN mX3_tell 2 ρ 0 [(0, (2, 15)), (1, (0, p)), (2, (0, q))] [] w
  refine s_aload_n dX3_tell_0 0 rfl rfl (s_iload_n dX3_tell_1 1 rfl (n_invV (as := [(0, p)]) dX3_tell_2 kv_X3_hasHall ml_X3_67 (c_X_hasHall p w) (by decide) 15 cf_X3 rfl sh_15 rfl rfl rfl (Nat.le_of_ble_eq_true rfl) (n_ifne_b 12 dX3_tell_5 (by decide) (fun c_5 => ?_) (fun c_5 => ?_))))
  · skip
    refine s_iload_n dX3_tell_12 2 rfl ?_
    rcases (show (q < 0 ∨ 5 < q) ∨ q = 0 ∨ q = 1 ∨ q = 2 ∨ q = 3 ∨ q = 4 ∨ q = 5 from by omega) with c_13 | c_13 | c_13 | c_13 | c_13 | c_13 | c_13
    · refine s_tableOut 99 dX3_tell_13 c_13 (by decide) ?_
      refine s_ldc2 (z := (-1)) dX3_tell_99 kc_X3_80 rfl (by unfold InL; decide) (n_lret dX3_tell_102 hR rfl ?_)
      refine ⟨_, rfl, rfl, ?_⟩
      unfold ofV
      first | (rw [if_neg (by omega)]; done) | (rw [if_pos (by omega)]; repeat (first | (rw [if_pos (by omega)]; done) | rw [if_neg (by omega)]))
    · refine s_tableIn 52 0 dX3_tell_13 (by rw [c_13]; rfl) (by decide) rfl (by decide) ?_
      refine s_aload_n dX3_tell_52 0 rfl rfl (n_getc (q := 20) 15 4 30 dX3_tell_53 cf_X3 ff_X3_24 rfl sh_15 rfl (by decide) rfl (by decide) (s_iload_n dX3_tell_56 1 rfl (n_lald 20 dX3_tell_57 rfl sh_20 (by decide) ⟨(by omega), (by omega)⟩ (v := (w 20 p)) rfl (n_lret dX3_tell_58 hR rfl ?_))))
      refine ⟨_, rfl, rfl, ?_⟩
      unfold ofV
      first | (rw [if_neg (by omega)]; done) | (rw [if_pos (by omega)]; repeat (first | (rw [if_pos (by omega)]; done) | rw [if_neg (by omega)]))
    · refine s_tableIn 59 1 dX3_tell_13 (by rw [c_13]; rfl) (by decide) rfl (by decide) ?_
      refine s_aload_n dX3_tell_59 0 rfl rfl (n_getc (q := 21) 15 5 31 dX3_tell_60 cf_X3 ff_X3_28 rfl sh_15 rfl (by decide) rfl (by decide) (s_iload_n dX3_tell_63 1 rfl (n_iald 21 dX3_tell_64 rfl sh_21 (by decide) ⟨(by omega), (by omega)⟩ (v := (w 21 p)) rfl (s_i2l dX3_tell_65 (n_lret dX3_tell_66 hR rfl ?_)))))
      refine ⟨_, rfl, rfl, ?_⟩
      unfold ofV
      first | (rw [if_neg (by omega)]; done) | (rw [if_pos (by omega)]; repeat (first | (rw [if_pos (by omega)]; done) | rw [if_neg (by omega)]))
    · refine s_tableIn 67 2 dX3_tell_13 (by rw [c_13]; rfl) (by decide) rfl (by decide) ?_
      refine s_aload_n dX3_tell_67 0 rfl rfl (n_getc (q := 22) 15 6 32 dX3_tell_68 cf_X3 ff_X3_31 rfl sh_15 rfl (by decide) rfl (by decide) (s_iload_n dX3_tell_71 1 rfl (n_iald 22 dX3_tell_72 rfl sh_22 (by decide) ⟨(by omega), (by omega)⟩ (v := (w 22 p)) rfl (s_i2l dX3_tell_73 (n_lret dX3_tell_74 hR rfl ?_)))))
      refine ⟨_, rfl, rfl, ?_⟩
      unfold ofV
      first | (rw [if_neg (by omega)]; done) | (rw [if_pos (by omega)]; repeat (first | (rw [if_pos (by omega)]; done) | rw [if_neg (by omega)]))
    · refine s_tableIn 75 3 dX3_tell_13 (by rw [c_13]; rfl) (by decide) rfl (by decide) ?_
      refine s_aload_n dX3_tell_75 0 rfl rfl (n_getc (q := 24) 15 8 34 dX3_tell_76 cf_X3 ff_X3_37 rfl sh_15 rfl (by decide) rfl (by decide) (s_iload_n dX3_tell_79 1 rfl (n_iald 24 dX3_tell_80 rfl sh_24 (by decide) ⟨(by omega), (by omega)⟩ (v := (w 24 p)) rfl (s_i2l dX3_tell_81 (n_lret dX3_tell_82 hR rfl ?_)))))
      refine ⟨_, rfl, rfl, ?_⟩
      unfold ofV
      first | (rw [if_neg (by omega)]; done) | (rw [if_pos (by omega)]; repeat (first | (rw [if_pos (by omega)]; done) | rw [if_neg (by omega)]))
    · refine s_tableIn 83 4 dX3_tell_13 (by rw [c_13]; rfl) (by decide) rfl (by decide) ?_
      refine s_aload_n dX3_tell_83 0 rfl rfl (n_getc (q := 25) 15 9 35 dX3_tell_84 cf_X3 ff_X3_40 rfl sh_15 rfl (by decide) rfl (by decide) (s_iload_n dX3_tell_87 1 rfl (n_iald 25 dX3_tell_88 rfl sh_25 (by decide) ⟨(by omega), (by omega)⟩ (v := (w 25 p)) rfl (s_i2l dX3_tell_89 (n_lret dX3_tell_90 hR rfl ?_)))))
      refine ⟨_, rfl, rfl, ?_⟩
      unfold ofV
      first | (rw [if_neg (by omega)]; done) | (rw [if_pos (by omega)]; repeat (first | (rw [if_pos (by omega)]; done) | rw [if_neg (by omega)]))
    · refine s_tableIn 91 5 dX3_tell_13 (by rw [c_13]; rfl) (by decide) rfl (by decide) ?_
      refine s_aload_n dX3_tell_91 0 rfl rfl (n_getc (q := 23) 15 7 33 dX3_tell_92 cf_X3 ff_X3_34 rfl sh_15 rfl (by decide) rfl (by decide) (s_iload_n dX3_tell_95 1 rfl (n_iald 23 dX3_tell_96 rfl sh_23 (by decide) ⟨(by omega), (by omega)⟩ (v := (w 23 p)) rfl (s_i2l dX3_tell_97 (n_lret dX3_tell_98 hR rfl ?_)))))
      refine ⟨_, rfl, rfl, ?_⟩
      unfold ofV
      first | (rw [if_neg (by omega)]; done) | (rw [if_pos (by omega)]; repeat (first | (rw [if_pos (by omega)]; done) | rw [if_neg (by omega)]))
  · skip
    refine s_ldc2 (z := (-1)) dX3_tell_8 kc_X3_80 rfl (by unfold InL; decide) (n_lret dX3_tell_11 hR rfl ?_)
    refine ⟨_, rfl, rfl, ?_⟩
    unfold ofV
    first | (rw [if_neg (by omega)]; done) | (rw [if_pos (by omega)]; repeat (first | (rw [if_pos (by omega)]; done) | rw [if_neg (by omega)]))

set_option maxRecDepth 100000 in
theorem x_of (p q : Int) (w : Wd) (h : 0 ≤ w 15 10 ∧ w 15 10 ≤ 16) : CallN 3 mX11_of [(2, 0), (0, p), (0, q)] w (RQL (fun z w1 => w1 = w ∧ z = ofV (w 15 10) (w 20) (w 21) (w 22) (w 24) (w 25) (w 23) p q)) := by
  refine CallN.intro (by decide +kernel) (Nat.le_of_ble_eq_true rfl) (fun ρ hR => ?_)
  show AtN mX11_of 3 ρ 0 [(0, (2, 0)), (1, (0, p)), (2, (0, q))] [] w
  refine s_aload_n dX11_of_0 0 rfl rfl (n_getc (q := 15) 0 1 25 dX11_of_1 cf_X11 ff_X11_19 rfl sh_0 rfl (by decide) rfl (by decide) (s_iload_n dX11_of_4 1 rfl (s_iload_n dX11_of_5 2 rfl (n_invV' (as := [(0, p), (0, q)]) dX11_of_6 kv_X3_tell ml_X11_231 (c_X_hallTell p q w h) (by decide) 15 cf_X3 rfl sh_15 rfl rfl rfl (Nat.le_of_ble_eq_true rfl) ?_))))
  rintro r_6 w_6 ⟨z_6, rfl, hz_6⟩
  show AtN _ _ ρ _ _ [(1, z_6)] w_6
  refine n_lret dX11_of_9 hR rfl ?_
  exact ⟨_, rfl, hz_6⟩

set_option maxRecDepth 100000 in
theorem m_of (p q : Int) (w : Wd) (h : 0 ≤ w 141 4 ∧ w 141 4 ≤ 16) (h5 : 0 ≤ w 141 5 ∧ w 141 5 ≤ 20) (h2 : 0 ≤ w 141 2 ∧ w 141 2 ≤ 30) : CallN 3 mX12_of [(2, 141), (0, p), (0, q)] w (RQL (fun z w1 => w1 = w ∧ z = ofV (w 141 4) (w 163) (w 159) (w 160) (fun q => fst (w 168) q (w 141 5).toNat) (fun q => fst (w 149) q (w 141 2).toNat) (w 164) p q)) := by
  refine CallN.intro (by decide +kernel) (Nat.le_of_ble_eq_true rfl) (fun ρ hR => ?_)
  show AtN mX12_of 3 ρ 0 [(0, (2, 141)), (1, (0, p)), (2, (0, q))] [] w
  refine s_aload_n dX12_of_0 0 rfl rfl (s_iload_n dX12_of_1 1 rfl (n_invV (as := [(0, p)]) dX12_of_2 kv_X12_isHall ml_X12_264 (c_M_isHall p w (by omega)) (by decide) 141 cf_X12 rfl sh_141 rfl rfl rfl (Nat.le_of_ble_eq_true rfl) (n_ifne_b 12 dX12_of_5 (by decide) (fun c_5 => ?_) (fun c_5 => ?_))))
  · skip
    refine s_iload_n dX12_of_12 2 rfl ?_
    rcases (show (q < 0 ∨ 5 < q) ∨ q = 0 ∨ q = 1 ∨ q = 2 ∨ q = 3 ∨ q = 4 ∨ q = 5 from by omega) with c_13 | c_13 | c_13 | c_13 | c_13 | c_13 | c_13
    · refine s_tableOut 96 dX12_of_13 c_13 (by decide) ?_
      refine s_ldc2 (z := (-1)) dX12_of_96 kc_X12_449 rfl (by unfold InL; decide) (n_lret dX12_of_99 hR rfl ?_)
      refine ⟨_, rfl, rfl, ?_⟩
      unfold ofV
      first | (rw [if_neg (by omega)]; done) | (rw [if_pos (by omega)]; repeat (first | (rw [if_pos (by omega)]; done) | rw [if_neg (by omega)]))
    · refine s_tableIn 52 0 dX12_of_13 (by rw [c_13]; rfl) (by decide) rfl (by decide) ?_
      refine s_aload_n dX12_of_52 0 rfl rfl (n_getc (q := 163) 141 31 173 dX12_of_53 cf_X12 ff_X12_73 rfl sh_141 rfl (by decide) rfl (by decide) (s_iload_n dX12_of_56 1 rfl (n_lald 163 dX12_of_57 rfl sh_163 (by decide) ⟨(by omega), (by omega)⟩ (v := (w 163 p)) rfl (n_lret dX12_of_58 hR rfl ?_))))
      refine ⟨_, rfl, rfl, ?_⟩
      unfold ofV
      first | (rw [if_neg (by omega)]; done) | (rw [if_pos (by omega)]; repeat (first | (rw [if_pos (by omega)]; done) | rw [if_neg (by omega)]))
    · refine s_tableIn 59 1 dX12_of_13 (by rw [c_13]; rfl) (by decide) rfl (by decide) ?_
      refine s_aload_n dX12_of_59 0 rfl rfl (n_getc (q := 159) 141 27 169 dX12_of_60 cf_X12 ff_X12_61 rfl sh_141 rfl (by decide) rfl (by decide) (s_iload_n dX12_of_63 1 rfl (n_iald 159 dX12_of_64 rfl sh_159 (by decide) ⟨(by omega), (by omega)⟩ (v := (w 159 p)) rfl (s_i2l dX12_of_65 (n_lret dX12_of_66 hR rfl ?_)))))
      refine ⟨_, rfl, rfl, ?_⟩
      unfold ofV
      first | (rw [if_neg (by omega)]; done) | (rw [if_pos (by omega)]; repeat (first | (rw [if_pos (by omega)]; done) | rw [if_neg (by omega)]))
    · refine s_tableIn 67 2 dX12_of_13 (by rw [c_13]; rfl) (by decide) rfl (by decide) ?_
      refine s_aload_n dX12_of_67 0 rfl rfl (n_getc (q := 160) 141 28 170 dX12_of_68 cf_X12 ff_X12_64 rfl sh_141 rfl (by decide) rfl (by decide) (s_iload_n dX12_of_71 1 rfl (n_iald 160 dX12_of_72 rfl sh_160 (by decide) ⟨(by omega), (by omega)⟩ (v := (w 160 p)) rfl (s_i2l dX12_of_73 (n_lret dX12_of_74 hR rfl ?_)))))
      refine ⟨_, rfl, rfl, ?_⟩
      unfold ofV
      first | (rw [if_neg (by omega)]; done) | (rw [if_pos (by omega)]; repeat (first | (rw [if_pos (by omega)]; done) | rw [if_neg (by omega)]))
    · refine s_tableIn 75 3 dX12_of_13 (by rw [c_13]; rfl) (by decide) rfl (by decide) ?_
      refine s_aload_n dX12_of_75 0 rfl rfl (s_iload_n dX12_of_76 1 rfl (n_invV (as := [(0, p)]) dX12_of_77 kv_X12_setIn ml_X12_270 (c_M_setIn p w (by omega)) (by decide) 141 cf_X12 rfl sh_141 rfl rfl rfl (Nat.le_of_ble_eq_true rfl) (s_i2l dX12_of_80 (n_lret dX12_of_81 hR rfl ?_))))
      refine ⟨_, rfl, rfl, ?_⟩
      unfold ofV
      first | (rw [if_neg (by omega)]; done) | (rw [if_pos (by omega)]; repeat (first | (rw [if_pos (by omega)]; done) | rw [if_neg (by omega)]))
    · refine s_tableIn 82 4 dX12_of_13 (by rw [c_13]; rfl) (by decide) rfl (by decide) ?_
      refine s_aload_n dX12_of_82 0 rfl rfl (s_iload_n dX12_of_83 1 rfl (n_invV (as := [(0, p)]) dX12_of_84 kv_X12_printIn ml_X12_274 (c_M_printIn p w (by omega)) (by decide) 141 cf_X12 rfl sh_141 rfl rfl rfl (Nat.le_of_ble_eq_true rfl) (s_i2l dX12_of_87 (n_lret dX12_of_88 hR rfl ?_))))
      refine ⟨_, rfl, rfl, ?_⟩
      unfold ofV
      first | (rw [if_neg (by omega)]; done) | (rw [if_pos (by omega)]; repeat (first | (rw [if_pos (by omega)]; done) | rw [if_neg (by omega)]))
    · refine s_tableIn 89 5 dX12_of_13 (by rw [c_13]; rfl) (by decide) rfl (by decide) ?_
      refine s_aload_n dX12_of_89 0 rfl rfl (n_getc (q := 164) 141 32 174 dX12_of_90 cf_X12 ff_X12_77 rfl sh_141 rfl (by decide) rfl (by decide) (s_iload_n dX12_of_93 1 rfl (n_lald 164 dX12_of_94 rfl sh_164 (by decide) ⟨(by omega), (by omega)⟩ (v := (w 164 p)) rfl (n_lret dX12_of_95 hR rfl ?_))))
      refine ⟨_, rfl, rfl, ?_⟩
      unfold ofV
      first | (rw [if_neg (by omega)]; done) | (rw [if_pos (by omega)]; repeat (first | (rw [if_pos (by omega)]; done) | rw [if_neg (by omega)]))
  · skip
    refine s_ldc2 (z := (-1)) dX12_of_8 kc_X12_449 rfl (by unfold InL; decide) (n_lret dX12_of_11 hR rfl ?_)
    refine ⟨_, rfl, rfl, ?_⟩
    unfold ofV
    first | (rw [if_neg (by omega)]; done) | (rw [if_pos (by omega)]; repeat (first | (rw [if_pos (by omega)]; done) | rw [if_neg (by omega)]))

set_option maxRecDepth 100000 in
theorem c_X_version (n : Int) (w : Wd) (h : 0 ≤ w 88 2 ∧ w 88 2 ≤ 9) : CallN 2 mX7_addVersion [(2, 88), (0, n)] w (RQ (Two ((1 ≤ n ∧ n ≤ 20) ∧ w 88 2 < 9) w (-1) (w 88 2) (wu (wu w 89 (w 88 2) n) 88 2 ((w 88 2) + 1)))) := by
  refine CallN.intro (by decide +kernel) (Nat.le_of_ble_eq_true rfl) (fun ρ hR => ?_)
  show AtN mX7_addVersion 2 ρ 0 [(0, (2, 88)), (1, (0, n))] [] w
  refine s_iload_n dX7_addVersion_0 1 rfl (s_iconst dX7_addVersion_1 (by decide) (s_bipush dX7_addVersion_2 (by decide) (n_invT (as := [(0, n), (0, 1), (0, 20)]) dX7_addVersion_4 kv_X11_within ml_X7_29 (c_within n 1 20 w) (by decide) rfl rfl (Nat.le_of_ble_eq_true rfl) (n_ifeq_b 19 dX7_addVersion_7 (by decide) (fun c_7 => ?_) (fun c_7 => ?_)))))
  · skip
    refine s_iconst dX7_addVersion_19 (by decide) (n_iret dX7_addVersion_20 hR rfl ?_)
    first | exact ⟨_, rfl, Or.inl ⟨by omega, by omega, rfl⟩⟩ | exact ⟨_, rfl, Or.inr ⟨by omega, by omega, rfl⟩⟩ | (exfalso; omega)
  · skip
    refine s_aload_n dX7_addVersion_10 0 rfl rfl (n_getf 88 2 0 dX7_addVersion_11 cf_X7 ff_X7_33 rfl sh_88 rfl (by decide) (v := (w 88 2)) rfl (s_bipush dX7_addVersion_14 (by decide) (s_icmp_lt 21 dX7_addVersion_16 (by decide) (fun c_16 => ?_) (fun c_16 => ?_))))
    · skip
      refine s_aload_n dX7_addVersion_21 0 rfl rfl (n_getc (q := 89) 88 0 99 dX7_addVersion_22 cf_X7 ff_X7_9 rfl sh_88 rfl (by decide) rfl (by decide) (s_aload_n dX7_addVersion_25 0 rfl rfl (n_getf 88 2 0 dX7_addVersion_26 cf_X7 ff_X7_33 rfl sh_88 rfl (by decide) (v := (w 88 2)) rfl (s_iload_n dX7_addVersion_29 1 rfl (s_iastore 89 dX7_addVersion_30 rfl sh_89 (by decide) ⟨(by omega), (by omega)⟩ (s_aload_n dX7_addVersion_31 0 rfl rfl (s_dup dX7_addVersion_32 (show (2 : Nat) ≠ 1 by decide) (n_getf 88 2 0 dX7_addVersion_33 cf_X7 ff_X7_33 rfl sh_88 rfl (by decide) (v := (w 88 2)) rfl (s_iconst dX7_addVersion_36 (by decide) ?_)))))))))
      refine n_add (z := ((w 88 2) + 1)) dX7_addVersion_37 (wr_id (by omega) (by omega)) (n_putf 88 2 2 dX7_addVersion_38 cf_X7 ff_X7_33 rfl rfl sh_88 rfl rfl rfl (s_aload_n dX7_addVersion_41 0 rfl rfl (n_getf 88 2 0 dX7_addVersion_42 cf_X7 ff_X7_33 rfl sh_88 rfl (by decide) (v := ((w 88 2) + 1)) rfl (s_iconst dX7_addVersion_45 (by decide) (n_sub (z := (((w 88 2) + 1) - 1)) dX7_addVersion_46 (wr_id (by omega) (by omega)) (n_iret dX7_addVersion_47 hR rfl ?_))))))
      first | exact ⟨_, rfl, Or.inl ⟨by omega, by omega, rfl⟩⟩ | exact ⟨_, rfl, Or.inr ⟨by omega, by omega, rfl⟩⟩ | (exfalso; omega)
    · skip
      refine s_iconst dX7_addVersion_19 (by decide) (n_iret dX7_addVersion_20 hR rfl ?_)
      first | exact ⟨_, rfl, Or.inl ⟨by omega, by omega, rfl⟩⟩ | exact ⟨_, rfl, Or.inr ⟨by omega, by omega, rfl⟩⟩ | (exfalso; omega)

set_option maxRecDepth 100000 in
theorem x_version (n : Int) (w : Wd) (h : 0 ≤ w 88 2 ∧ w 88 2 ≤ 9) : CallN 3 mX11_version [(2, 0), (0, n)] w (RQ (Two ((1 ≤ n ∧ n ≤ 20) ∧ w 88 2 < 9) w (-1) (w 88 2) (wu (wu w 89 (w 88 2) n) 88 2 ((w 88 2) + 1)))) := by
  refine CallN.intro (by decide +kernel) (Nat.le_of_ble_eq_true rfl) (fun ρ hR => ?_)
  show AtN mX11_version 3 ρ 0 [(0, (2, 0)), (1, (0, n))] [] w
  refine s_aload_n dX11_version_0 0 rfl rfl (n_getc (q := 88) 0 6 98 dX11_version_1 cf_X11 ff_X11_60 rfl sh_0 rfl (by decide) rfl (by decide) (s_iload_n dX11_version_4 1 rfl (n_invV' (as := [(0, n)]) dX11_version_5 kv_X7_addVersion ml_X11_237 (c_X_version n w h) (by decide) 88 cf_X7 rfl sh_88 rfl rfl rfl (Nat.le_of_ble_eq_true rfl) ?_)))
  rintro r_5 w_5 ⟨z_5, rfl, hz_5⟩
  show AtN _ _ ρ _ _ [(0, z_5)] w_5
  refine n_iret dX11_version_8 hR rfl ?_
  exact ⟨_, rfl, hz_5⟩

set_option maxRecDepth 100000 in
theorem m_version (n : Int) (w : Wd) (h : 0 ≤ w 141 7 ∧ w 141 7 ≤ 9) : CallN 3 mX12_version [(2, 141), (0, n)] w (RQ (Two ((1 ≤ n ∧ n ≤ 20) ∧ w 141 7 < 9) w (-1) (w 141 7) (wu (wu w 192 (w 141 7) n) 141 7 ((w 141 7) + 1)))) := by
  refine CallN.intro (by decide +kernel) (Nat.le_of_ble_eq_true rfl) (fun ρ hR => ?_)
  show AtN mX12_version 3 ρ 0 [(0, (2, 141)), (1, (0, n))] [] w
  refine s_iload_n dX12_version_0 1 rfl (s_iconst dX12_version_1 (by decide) (s_bipush dX12_version_2 (by decide) (n_invS (as := [(0, n), (0, 1), (0, 20)]) dX12_version_4 kv_X12_isIn ml_X12_223 (c_isIn n 1 20 w) (by decide) rfl rfl (Nat.le_of_ble_eq_true rfl) (n_ifeq_b 19 dX12_version_7 (by decide) (fun c_7 => ?_) (fun c_7 => ?_)))))
  · skip
    refine s_iconst dX12_version_19 (by decide) (n_iret dX12_version_20 hR rfl ?_)
    first | exact ⟨_, rfl, Or.inl ⟨by omega, by omega, rfl⟩⟩ | exact ⟨_, rfl, Or.inr ⟨by omega, by omega, rfl⟩⟩ | (exfalso; omega)
  · skip
    refine s_aload_n dX12_version_10 0 rfl rfl (n_getf 141 7 0 dX12_version_11 cf_X12 ff_X12_451 rfl sh_141 rfl (by decide) (v := (w 141 7)) rfl (s_bipush dX12_version_14 (by decide) (s_icmp_ne 21 dX12_version_16 (by decide) (fun c_16 => ?_) (fun c_16 => ?_))))
    · skip
      refine s_aload_n dX12_version_21 0 rfl rfl (n_getc (q := 192) 141 77 202 dX12_version_22 cf_X12 ff_X12_166 rfl sh_141 rfl (by decide) rfl (by decide) (s_aload_n dX12_version_25 0 rfl rfl (n_getf 141 7 0 dX12_version_26 cf_X12 ff_X12_451 rfl sh_141 rfl (by decide) (v := (w 141 7)) rfl (s_iload_n dX12_version_29 1 rfl (s_iastore 192 dX12_version_30 rfl sh_192 (by decide) ⟨(by omega), (by omega)⟩ (s_aload_n dX12_version_31 0 rfl rfl (s_dup dX12_version_32 (show (2 : Nat) ≠ 1 by decide) (n_getf 141 7 0 dX12_version_33 cf_X12 ff_X12_451 rfl sh_141 rfl (by decide) (v := (w 141 7)) rfl (s_iconst dX12_version_36 (by decide) ?_)))))))))
      refine n_add (z := ((w 141 7) + 1)) dX12_version_37 (wr_id (by omega) (by omega)) (n_putf 141 7 7 dX12_version_38 cf_X12 ff_X12_451 rfl rfl sh_141 rfl rfl rfl (s_aload_n dX12_version_41 0 rfl rfl (n_getf 141 7 0 dX12_version_42 cf_X12 ff_X12_451 rfl sh_141 rfl (by decide) (v := ((w 141 7) + 1)) rfl (s_iconst dX12_version_45 (by decide) (n_sub (z := (((w 141 7) + 1) - 1)) dX12_version_46 (wr_id (by omega) (by omega)) (n_iret dX12_version_47 hR rfl ?_))))))
      first | exact ⟨_, rfl, Or.inl ⟨by omega, by omega, rfl⟩⟩ | exact ⟨_, rfl, Or.inr ⟨by omega, by omega, rfl⟩⟩ | (exfalso; omega)
    · skip
      refine s_iconst dX12_version_19 (by decide) (n_iret dX12_version_20 hR rfl ?_)
      first | exact ⟨_, rfl, Or.inl ⟨by omega, by omega, rfl⟩⟩ | exact ⟨_, rfl, Or.inr ⟨by omega, by omega, rfl⟩⟩ | (exfalso; omega)

set_option maxRecDepth 100000 in
theorem c_X_hasVersion (q : Int) (w : Wd) : CallN 1 mX7_hasVersion [(2, 88), (0, q)] w (RV (0, bi (0 ≤ q ∧ q < w 88 2)) w) := by
  refine CallN.intro (by decide +kernel) (Nat.le_of_ble_eq_true rfl) (fun ρ hR => ?_)
  show AtN mX7_hasVersion 1 ρ 0 [(0, (2, 88)), (1, (0, q))] [] w
  refine s_iload_n dX7_hasVersion_0 1 rfl (s_if_lt 16 dX7_hasVersion_1 (by decide) (fun c_1 => ?_) (fun c_1 => ?_))
  · skip
    refine s_iconst dX7_hasVersion_16 (by decide) (n_zret dX7_hasVersion_17 hR rfl (by first | exact Or.inl rfl | exact Or.inr rfl | exact bi_01 _ | omega) ?_)
    refine ⟨congrArg (fun z => some ((0 : Nat), z)) ?_, rfl⟩
    first | exact (bi_t (by omega)).symm | exact (bi_f (by omega)).symm | exact bi_congr (by omega)
  · skip
    refine s_iload_n dX7_hasVersion_4 1 rfl (s_aload_n dX7_hasVersion_5 0 rfl rfl (n_getf 88 2 0 dX7_hasVersion_6 cf_X7 ff_X7_33 rfl sh_88 rfl (by decide) (v := (w 88 2)) rfl (s_icmp_ge 16 dX7_hasVersion_9 (by decide) (fun c_9 => ?_) (fun c_9 => ?_))))
    · skip
      refine s_iconst dX7_hasVersion_16 (by decide) (n_zret dX7_hasVersion_17 hR rfl (by first | exact Or.inl rfl | exact Or.inr rfl | exact bi_01 _ | omega) ?_)
      refine ⟨congrArg (fun z => some ((0 : Nat), z)) ?_, rfl⟩
      first | exact (bi_t (by omega)).symm | exact (bi_f (by omega)).symm | exact bi_congr (by omega)
    · skip
      refine s_iconst dX7_hasVersion_12 (by decide) (s_goto 17 dX7_hasVersion_13 (by decide) (n_zret dX7_hasVersion_17 hR rfl (by first | exact Or.inl rfl | exact Or.inr rfl | exact bi_01 _ | omega) ?_))
      refine ⟨congrArg (fun z => some ((0 : Nat), z)) ?_, rfl⟩
      first | exact (bi_t (by omega)).symm | exact (bi_f (by omega)).symm | exact bi_congr (by omega)

set_option maxRecDepth 100000 in
theorem c_M_isVersion (q : Int) (w : Wd) (h : 0 ≤ w 141 7 ∧ w 141 7 ≤ 9) : CallN 2 mX12_isVersion [(2, 141), (0, q)] w (RV (0, bi (0 ≤ q ∧ q < w 141 7)) w) := by
  refine CallN.intro (by decide +kernel) (Nat.le_of_ble_eq_true rfl) (fun ρ hR => ?_)
  show AtN mX12_isVersion 2 ρ 0 [(0, (2, 141)), (1, (0, q))] [] w
  refine s_iload_n dX12_isVersion_0 1 rfl (s_iconst dX12_isVersion_1 (by decide) (s_aload_n dX12_isVersion_2 0 rfl rfl (n_getf 141 7 0 dX12_isVersion_3 cf_X12 ff_X12_451 rfl sh_141 rfl (by decide) (v := (w 141 7)) rfl (s_iconst dX12_isVersion_6 (by decide) (n_sub (z := ((w 141 7) - 1)) dX12_isVersion_7 (wr_id (by omega) (by omega)) (n_invS (as := [(0, q), (0, 0), (0, ((w 141 7) - 1))]) dX12_isVersion_8 kv_X12_isIn ml_X12_223 (c_isIn q 0 ((w 141 7) - 1) w) (by decide) rfl rfl (Nat.le_of_ble_eq_true rfl) (n_zret dX12_isVersion_11 hR rfl (by first | exact Or.inl rfl | exact Or.inr rfl | exact bi_01 _ | omega) ?_)))))))
  refine ⟨congrArg (fun z => some ((0 : Nat), z)) ?_, rfl⟩
  first | exact (bi_t (by omega)).symm | exact (bi_f (by omega)).symm | exact bi_congr (by omega)

set_option maxRecDepth 100000 in
theorem c_X_change (a b n : Int) (w : Wd) (h : 0 ≤ w 88 2 ∧ w 88 2 ≤ 9) : CallN 2 mX7_link [(2, 88), (0, a), (0, b), (0, n)] w (RQ (Two ((0 ≤ a ∧ a < w 88 2) ∧ (0 ≤ b ∧ b < w 88 2) ∧ a ≠ b ∧ (0 ≤ n ∧ n ≤ 9)) w 0 1 (wu w (91 + Int.toNat a) b n))) := by
  refine CallN.intro (by decide +kernel) (Nat.le_of_ble_eq_true rfl) (fun ρ hR => ?_)
  show AtN mX7_link 2 ρ 0 [(0, (2, 88)), (1, (0, a)), (2, (0, b)), (3, (0, n))] [] w
  refine s_aload_n dX7_link_0 0 rfl rfl (s_iload_n dX7_link_1 1 rfl (n_invV (as := [(0, a)]) dX7_link_2 kv_X7_hasVersion ml_X7_37 (c_X_hasVersion a w) (by decide) 88 cf_X7 rfl sh_88 rfl rfl rfl (Nat.le_of_ble_eq_true rfl) (n_ifeq_b 31 dX7_link_5 (by decide) (fun c_5 => ?_) (fun c_5 => ?_))))
  · skip
    refine s_iconst dX7_link_31 (by decide) (n_zret dX7_link_32 hR rfl (by first | exact Or.inl rfl | exact Or.inr rfl | exact bi_01 _ | omega) ?_)
    first | exact ⟨_, rfl, Or.inl ⟨by omega, by omega, rfl⟩⟩ | exact ⟨_, rfl, Or.inr ⟨by omega, by omega, rfl⟩⟩ | (exfalso; omega)
  · skip
    refine s_aload_n dX7_link_8 0 rfl rfl (s_iload_n dX7_link_9 2 rfl (n_invV (as := [(0, b)]) dX7_link_10 kv_X7_hasVersion ml_X7_37 (c_X_hasVersion b w) (by decide) 88 cf_X7 rfl sh_88 rfl rfl rfl (Nat.le_of_ble_eq_true rfl) (n_ifeq_b 31 dX7_link_13 (by decide) (fun c_13 => ?_) (fun c_13 => ?_))))
    · skip
      refine s_iconst dX7_link_31 (by decide) (n_zret dX7_link_32 hR rfl (by first | exact Or.inl rfl | exact Or.inr rfl | exact bi_01 _ | omega) ?_)
      first | exact ⟨_, rfl, Or.inl ⟨by omega, by omega, rfl⟩⟩ | exact ⟨_, rfl, Or.inr ⟨by omega, by omega, rfl⟩⟩ | (exfalso; omega)
    · skip
      refine s_iload_n dX7_link_16 1 rfl (s_iload_n dX7_link_17 2 rfl (s_icmp_eq 31 dX7_link_18 (by decide) (fun c_18 => ?_) (fun c_18 => ?_)))
      · skip
        refine s_iconst dX7_link_31 (by decide) (n_zret dX7_link_32 hR rfl (by first | exact Or.inl rfl | exact Or.inr rfl | exact bi_01 _ | omega) ?_)
        first | exact ⟨_, rfl, Or.inl ⟨by omega, by omega, rfl⟩⟩ | exact ⟨_, rfl, Or.inr ⟨by omega, by omega, rfl⟩⟩ | (exfalso; omega)
      · skip
        refine s_iload_n dX7_link_21 3 rfl (s_iconst dX7_link_22 (by decide) (s_bipush dX7_link_23 (by decide) (n_invT (as := [(0, n), (0, 0), (0, 9)]) dX7_link_25 kv_X11_within ml_X7_29 (c_within n 0 9 w) (by decide) rfl rfl (Nat.le_of_ble_eq_true rfl) (n_ifne_b 33 dX7_link_28 (by decide) (fun c_28 => ?_) (fun c_28 => ?_)))))
        · skip
          refine s_aload_n dX7_link_33 0 rfl rfl (n_getc (q := 90) 88 1 100 dX7_link_34 cf_X7 ff_X7_17 rfl sh_88 rfl (by decide) rfl (by decide) (s_iload_n dX7_link_37 1 rfl (s_aaload6 90 dX7_link_38 rfl sh_90 (by decide) ⟨(by omega), (by omega)⟩ (s_iload_n dX7_link_39 2 rfl (s_iload_n dX7_link_40 3 rfl (s_iastore (91 + Int.toNat a) dX7_link_41 rfl (rowsh_91 _ (by omega)) (by decide) ⟨(by omega), (by omega)⟩ (s_iconst dX7_link_42 (by decide) (n_zret dX7_link_43 hR rfl (by first | exact Or.inl rfl | exact Or.inr rfl | exact bi_01 _ | omega) ?_))))))))
          first | exact ⟨_, rfl, Or.inl ⟨by omega, by omega, rfl⟩⟩ | exact ⟨_, rfl, Or.inr ⟨by omega, by omega, rfl⟩⟩ | (exfalso; omega)
        · skip
          refine s_iconst dX7_link_31 (by decide) (n_zret dX7_link_32 hR rfl (by first | exact Or.inl rfl | exact Or.inr rfl | exact bi_01 _ | omega) ?_)
          first | exact ⟨_, rfl, Or.inl ⟨by omega, by omega, rfl⟩⟩ | exact ⟨_, rfl, Or.inr ⟨by omega, by omega, rfl⟩⟩ | (exfalso; omega)

set_option maxRecDepth 100000 in
theorem x_change (a b n : Int) (w : Wd) (h : 0 ≤ w 88 2 ∧ w 88 2 ≤ 9) : CallN 3 mX11_change [(2, 0), (0, a), (0, b), (0, n)] w (RQ (Two ((0 ≤ a ∧ a < w 88 2) ∧ (0 ≤ b ∧ b < w 88 2) ∧ a ≠ b ∧ (0 ≤ n ∧ n ≤ 9)) w 0 1 (wu w (91 + Int.toNat a) b n))) := by
  refine CallN.intro (by decide +kernel) (Nat.le_of_ble_eq_true rfl) (fun ρ hR => ?_)
  show AtN mX11_change 3 ρ 0 [(0, (2, 0)), (1, (0, a)), (2, (0, b)), (3, (0, n))] [] w
  refine s_aload_n dX11_change_0 0 rfl rfl (n_getc (q := 88) 0 6 98 dX11_change_1 cf_X11 ff_X11_60 rfl sh_0 rfl (by decide) rfl (by decide) (s_iload_n dX11_change_4 1 rfl (s_iload_n dX11_change_5 2 rfl (s_iload_n dX11_change_6 3 rfl (n_invV' (as := [(0, a), (0, b), (0, n)]) dX11_change_7 kv_X7_link ml_X11_240 (c_X_change a b n w h) (by decide) 88 cf_X7 rfl sh_88 rfl rfl rfl (Nat.le_of_ble_eq_true rfl) ?_)))))
  rintro r_7 w_7 ⟨z_7, rfl, hz_7⟩
  show AtN _ _ ρ _ _ [(0, z_7)] w_7
  refine n_zret dX11_change_10 hR rfl (by first | exact Or.inl rfl | exact Or.inr rfl | exact bi_01 _ | omega) ?_
  exact ⟨_, rfl, hz_7⟩

set_option maxRecDepth 100000 in
theorem m_change (a b n : Int) (w : Wd) (h : 0 ≤ w 141 7 ∧ w 141 7 ≤ 9) : CallN 3 mX12_change [(2, 141), (0, a), (0, b), (0, n)] w (RQ (Two ((0 ≤ a ∧ a < w 141 7) ∧ (0 ≤ b ∧ b < w 141 7) ∧ a ≠ b ∧ (0 ≤ n ∧ n ≤ 9)) w 0 1 (wu w 193 (9 * a + b) n))) := by
  refine CallN.intro (by decide +kernel) (Nat.le_of_ble_eq_true rfl) (fun ρ hR => ?_)
  show AtN mX12_change 3 ρ 0 [(0, (2, 141)), (1, (0, a)), (2, (0, b)), (3, (0, n))] [] w
  refine s_aload_n dX12_change_0 0 rfl rfl (s_iload_n dX12_change_1 1 rfl (n_invV (as := [(0, a)]) dX12_change_2 kv_X12_isVersion ml_X12_454 (c_M_isVersion a w (by omega)) (by decide) 141 cf_X12 rfl sh_141 rfl rfl rfl (Nat.le_of_ble_eq_true rfl) (n_ifeq_b 31 dX12_change_5 (by decide) (fun c_5 => ?_) (fun c_5 => ?_))))
  · skip
    refine s_iconst dX12_change_31 (by decide) (n_zret dX12_change_32 hR rfl (by first | exact Or.inl rfl | exact Or.inr rfl | exact bi_01 _ | omega) ?_)
    first | exact ⟨_, rfl, Or.inl ⟨by omega, by omega, rfl⟩⟩ | exact ⟨_, rfl, Or.inr ⟨by omega, by omega, rfl⟩⟩ | (exfalso; omega)
  · skip
    refine s_aload_n dX12_change_8 0 rfl rfl (s_iload_n dX12_change_9 2 rfl (n_invV (as := [(0, b)]) dX12_change_10 kv_X12_isVersion ml_X12_454 (c_M_isVersion b w (by omega)) (by decide) 141 cf_X12 rfl sh_141 rfl rfl rfl (Nat.le_of_ble_eq_true rfl) (n_ifeq_b 31 dX12_change_13 (by decide) (fun c_13 => ?_) (fun c_13 => ?_))))
    · skip
      refine s_iconst dX12_change_31 (by decide) (n_zret dX12_change_32 hR rfl (by first | exact Or.inl rfl | exact Or.inr rfl | exact bi_01 _ | omega) ?_)
      first | exact ⟨_, rfl, Or.inl ⟨by omega, by omega, rfl⟩⟩ | exact ⟨_, rfl, Or.inr ⟨by omega, by omega, rfl⟩⟩ | (exfalso; omega)
    · skip
      refine s_iload_n dX12_change_16 1 rfl (s_iload_n dX12_change_17 2 rfl (s_icmp_eq 31 dX12_change_18 (by decide) (fun c_18 => ?_) (fun c_18 => ?_)))
      · skip
        refine s_iconst dX12_change_31 (by decide) (n_zret dX12_change_32 hR rfl (by first | exact Or.inl rfl | exact Or.inr rfl | exact bi_01 _ | omega) ?_)
        first | exact ⟨_, rfl, Or.inl ⟨by omega, by omega, rfl⟩⟩ | exact ⟨_, rfl, Or.inr ⟨by omega, by omega, rfl⟩⟩ | (exfalso; omega)
      · skip
        refine s_iload_n dX12_change_21 3 rfl (s_iconst dX12_change_22 (by decide) (s_bipush dX12_change_23 (by decide) (n_invS (as := [(0, n), (0, 0), (0, 9)]) dX12_change_25 kv_X12_isIn ml_X12_223 (c_isIn n 0 9 w) (by decide) rfl rfl (Nat.le_of_ble_eq_true rfl) (n_ifne_b 33 dX12_change_28 (by decide) (fun c_28 => ?_) (fun c_28 => ?_)))))
        · skip
          refine s_aload_n dX12_change_33 0 rfl rfl (n_getc (q := 193) 141 78 203 dX12_change_34 cf_X12 ff_X12_169 rfl sh_141 rfl (by decide) rfl (by decide) (s_bipush dX12_change_37 (by decide) (s_iload_n dX12_change_39 1 rfl (n_mul (z := (9 * a)) dX12_change_40 (wr_id (by omega) (by omega)) (s_iload_n dX12_change_41 2 rfl (n_add (z := ((9 * a) + b)) dX12_change_42 (wr_id (by omega) (by omega)) (s_iload_n dX12_change_43 3 rfl (s_iastore 193 dX12_change_44 rfl sh_193 (by decide) ⟨(by omega), (by omega)⟩ (s_iconst dX12_change_45 (by decide) ?_)))))))))
          refine n_zret dX12_change_46 hR rfl (by first | exact Or.inl rfl | exact Or.inr rfl | exact bi_01 _ | omega) ?_
          first | exact ⟨_, rfl, Or.inl ⟨by omega, by omega, rfl⟩⟩ | exact ⟨_, rfl, Or.inr ⟨by omega, by omega, rfl⟩⟩ | (exfalso; omega)
        · skip
          refine s_iconst dX12_change_31 (by decide) (n_zret dX12_change_32 hR rfl (by first | exact Or.inl rfl | exact Or.inr rfl | exact bi_01 _ | omega) ?_)
          first | exact ⟨_, rfl, Or.inl ⟨by omega, by omega, rfl⟩⟩ | exact ⟨_, rfl, Or.inr ⟨by omega, by omega, rfl⟩⟩ | (exfalso; omega)

set_option maxRecDepth 100000 in
theorem c_X_person (t v : Int) (w : Wd) (h : 0 ≤ w 88 6 ∧ w 88 6 ≤ 14) : CallN 2 mX7_addPerson [(2, 88), (0, t), (0, v)] w (RQ (Two (((1 ≤ t ∧ t ≤ 31) ∧ (0 ≤ v ∧ v ≤ 9)) ∧ w 88 6 < 14) w (-1) (w 88 6) (wu (wu (wu w 101 (w 88 6) t) 102 (w 88 6) v) 88 6 ((w 88 6) + 1)))) := by
  refine CallN.intro (by decide +kernel) (Nat.le_of_ble_eq_true rfl) (fun ρ hR => ?_)
  show AtN mX7_addPerson 2 ρ 0 [(0, (2, 88)), (1, (0, t)), (2, (0, v))] [] w
  refine s_iload_n dX7_addPerson_0 1 rfl (s_iconst dX7_addPerson_1 (by decide) (s_bipush dX7_addPerson_2 (by decide) (n_invT (as := [(0, t), (0, 1), (0, 31)]) dX7_addPerson_4 kv_X11_within ml_X7_29 (c_within t 1 31 w) (by decide) rfl rfl (Nat.le_of_ble_eq_true rfl) (n_ifeq_b 29 dX7_addPerson_7 (by decide) (fun c_7 => ?_) (fun c_7 => ?_)))))
  · skip
    refine s_iconst dX7_addPerson_29 (by decide) (n_iret dX7_addPerson_30 hR rfl ?_)
    first | exact ⟨_, rfl, Or.inl ⟨by omega, by omega, rfl⟩⟩ | exact ⟨_, rfl, Or.inr ⟨by omega, by omega, rfl⟩⟩ | (exfalso; omega)
  · skip
    refine s_iload_n dX7_addPerson_10 2 rfl (s_iconst dX7_addPerson_11 (by decide) (s_bipush dX7_addPerson_12 (by decide) (n_invT (as := [(0, v), (0, 0), (0, 9)]) dX7_addPerson_14 kv_X11_within ml_X7_29 (c_within v 0 9 w) (by decide) rfl rfl (Nat.le_of_ble_eq_true rfl) (n_ifeq_b 29 dX7_addPerson_17 (by decide) (fun c_17 => ?_) (fun c_17 => ?_)))))
    · skip
      refine s_iconst dX7_addPerson_29 (by decide) (n_iret dX7_addPerson_30 hR rfl ?_)
      first | exact ⟨_, rfl, Or.inl ⟨by omega, by omega, rfl⟩⟩ | exact ⟨_, rfl, Or.inr ⟨by omega, by omega, rfl⟩⟩ | (exfalso; omega)
    · skip
      refine s_aload_n dX7_addPerson_20 0 rfl rfl (n_getf 88 6 0 dX7_addPerson_21 cf_X7 ff_X7_66 rfl sh_88 rfl (by decide) (v := (w 88 6)) rfl (s_bipush dX7_addPerson_24 (by decide) (s_icmp_lt 31 dX7_addPerson_26 (by decide) (fun c_26 => ?_) (fun c_26 => ?_))))
      · skip
        refine s_aload_n dX7_addPerson_31 0 rfl rfl (n_getc (q := 101) 88 4 111 dX7_addPerson_32 cf_X7 ff_X7_23 rfl sh_88 rfl (by decide) rfl (by decide) (s_aload_n dX7_addPerson_35 0 rfl rfl (n_getf 88 6 0 dX7_addPerson_36 cf_X7 ff_X7_66 rfl sh_88 rfl (by decide) (v := (w 88 6)) rfl (s_iload_n dX7_addPerson_39 1 rfl (s_iastore 101 dX7_addPerson_40 rfl sh_101 (by decide) ⟨(by omega), (by omega)⟩ (s_aload_n dX7_addPerson_41 0 rfl rfl (n_getc (q := 102) 88 5 112 dX7_addPerson_42 cf_X7 ff_X7_26 rfl sh_88 rfl (by decide) rfl (by decide) (s_aload_n dX7_addPerson_45 0 rfl rfl (n_getf 88 6 0 dX7_addPerson_46 cf_X7 ff_X7_66 rfl sh_88 rfl (by decide) (v := (w 88 6)) rfl ?_)))))))))
        refine s_iload_n dX7_addPerson_49 2 rfl (s_iastore 102 dX7_addPerson_50 rfl sh_102 (by decide) ⟨(by omega), (by omega)⟩ (s_aload_n dX7_addPerson_51 0 rfl rfl (s_dup dX7_addPerson_52 (show (2 : Nat) ≠ 1 by decide) (n_getf 88 6 0 dX7_addPerson_53 cf_X7 ff_X7_66 rfl sh_88 rfl (by decide) (v := (w 88 6)) rfl (s_iconst dX7_addPerson_56 (by decide) (n_add (z := ((w 88 6) + 1)) dX7_addPerson_57 (wr_id (by omega) (by omega)) (n_putf 88 6 6 dX7_addPerson_58 cf_X7 ff_X7_66 rfl rfl sh_88 rfl rfl rfl (s_aload_n dX7_addPerson_61 0 rfl rfl (n_getf 88 6 0 dX7_addPerson_62 cf_X7 ff_X7_66 rfl sh_88 rfl (by decide) (v := ((w 88 6) + 1)) rfl ?_)))))))))
        refine s_iconst dX7_addPerson_65 (by decide) (n_sub (z := (((w 88 6) + 1) - 1)) dX7_addPerson_66 (wr_id (by omega) (by omega)) (n_iret dX7_addPerson_67 hR rfl ?_))
        first | exact ⟨_, rfl, Or.inl ⟨by omega, by omega, rfl⟩⟩ | exact ⟨_, rfl, Or.inr ⟨by omega, by omega, rfl⟩⟩ | (exfalso; omega)
      · skip
        refine s_iconst dX7_addPerson_29 (by decide) (n_iret dX7_addPerson_30 hR rfl ?_)
        first | exact ⟨_, rfl, Or.inl ⟨by omega, by omega, rfl⟩⟩ | exact ⟨_, rfl, Or.inr ⟨by omega, by omega, rfl⟩⟩ | (exfalso; omega)

set_option maxRecDepth 100000 in
theorem x_person (t v : Int) (w : Wd) (h : 0 ≤ w 88 6 ∧ w 88 6 ≤ 14) : CallN 3 mX11_person [(2, 0), (0, t), (0, v)] w (RQ (Two (((1 ≤ t ∧ t ≤ 31) ∧ (0 ≤ v ∧ v ≤ 9)) ∧ w 88 6 < 14) w (-1) (w 88 6) (wu (wu (wu w 101 (w 88 6) t) 102 (w 88 6) v) 88 6 ((w 88 6) + 1)))) := by
  refine CallN.intro (by decide +kernel) (Nat.le_of_ble_eq_true rfl) (fun ρ hR => ?_)
  show AtN mX11_person 3 ρ 0 [(0, (2, 0)), (1, (0, t)), (2, (0, v))] [] w
  refine s_aload_n dX11_person_0 0 rfl rfl (n_getc (q := 88) 0 6 98 dX11_person_1 cf_X11 ff_X11_60 rfl sh_0 rfl (by decide) rfl (by decide) (s_iload_n dX11_person_4 1 rfl (s_iload_n dX11_person_5 2 rfl (n_invV' (as := [(0, t), (0, v)]) dX11_person_6 kv_X7_addPerson ml_X11_246 (c_X_person t v w h) (by decide) 88 cf_X7 rfl sh_88 rfl rfl rfl (Nat.le_of_ble_eq_true rfl) ?_))))
  rintro r_6 w_6 ⟨z_6, rfl, hz_6⟩
  show AtN _ _ ρ _ _ [(0, z_6)] w_6
  refine n_iret dX11_person_9 hR rfl ?_
  exact ⟨_, rfl, hz_6⟩

set_option maxRecDepth 100000 in
theorem m_person (t v : Int) (w : Wd) (h : 0 ≤ w 141 8 ∧ w 141 8 ≤ 14) : CallN 3 mX12_person [(2, 141), (0, t), (0, v)] w (RQ (Two (((1 ≤ t ∧ t ≤ 31) ∧ (0 ≤ v ∧ v ≤ 9)) ∧ w 141 8 < 14) w (-1) (w 141 8) (wu (wu (wu w 197 (w 141 8) t) 198 (w 141 8) v) 141 8 ((w 141 8) + 1)))) := by
  refine CallN.intro (by decide +kernel) (Nat.le_of_ble_eq_true rfl) (fun ρ hR => ?_)
  show AtN mX12_person 3 ρ 0 [(0, (2, 141)), (1, (0, t)), (2, (0, v))] [] w
  refine s_iload_n dX12_person_0 1 rfl (s_iconst dX12_person_1 (by decide) (s_bipush dX12_person_2 (by decide) (n_invS (as := [(0, t), (0, 1), (0, 31)]) dX12_person_4 kv_X12_isIn ml_X12_223 (c_isIn t 1 31 w) (by decide) rfl rfl (Nat.le_of_ble_eq_true rfl) (n_ifeq_b 29 dX12_person_7 (by decide) (fun c_7 => ?_) (fun c_7 => ?_)))))
  · skip
    refine s_iconst dX12_person_29 (by decide) (n_iret dX12_person_30 hR rfl ?_)
    first | exact ⟨_, rfl, Or.inl ⟨by omega, by omega, rfl⟩⟩ | exact ⟨_, rfl, Or.inr ⟨by omega, by omega, rfl⟩⟩ | (exfalso; omega)
  · skip
    refine s_iload_n dX12_person_10 2 rfl (s_iconst dX12_person_11 (by decide) (s_bipush dX12_person_12 (by decide) (n_invS (as := [(0, v), (0, 0), (0, 9)]) dX12_person_14 kv_X12_isIn ml_X12_223 (c_isIn v 0 9 w) (by decide) rfl rfl (Nat.le_of_ble_eq_true rfl) (n_ifeq_b 29 dX12_person_17 (by decide) (fun c_17 => ?_) (fun c_17 => ?_)))))
    · skip
      refine s_iconst dX12_person_29 (by decide) (n_iret dX12_person_30 hR rfl ?_)
      first | exact ⟨_, rfl, Or.inl ⟨by omega, by omega, rfl⟩⟩ | exact ⟨_, rfl, Or.inr ⟨by omega, by omega, rfl⟩⟩ | (exfalso; omega)
    · skip
      refine s_aload_n dX12_person_20 0 rfl rfl (n_getf 141 8 0 dX12_person_21 cf_X12 ff_X12_469 rfl sh_141 rfl (by decide) (v := (w 141 8)) rfl (s_bipush dX12_person_24 (by decide) (s_icmp_ne 31 dX12_person_26 (by decide) (fun c_26 => ?_) (fun c_26 => ?_))))
      · skip
        refine s_aload_n dX12_person_31 0 rfl rfl (n_getc (q := 197) 141 83 207 dX12_person_32 cf_X12 ff_X12_181 rfl sh_141 rfl (by decide) rfl (by decide) (s_aload_n dX12_person_35 0 rfl rfl (n_getf 141 8 0 dX12_person_36 cf_X12 ff_X12_469 rfl sh_141 rfl (by decide) (v := (w 141 8)) rfl (s_iload_n dX12_person_39 1 rfl (s_iastore 197 dX12_person_40 rfl sh_197 (by decide) ⟨(by omega), (by omega)⟩ (s_aload_n dX12_person_41 0 rfl rfl (n_getc (q := 198) 141 84 208 dX12_person_42 cf_X12 ff_X12_184 rfl sh_141 rfl (by decide) rfl (by decide) (s_aload_n dX12_person_45 0 rfl rfl (n_getf 141 8 0 dX12_person_46 cf_X12 ff_X12_469 rfl sh_141 rfl (by decide) (v := (w 141 8)) rfl ?_)))))))))
        refine s_iload_n dX12_person_49 2 rfl (s_iastore 198 dX12_person_50 rfl sh_198 (by decide) ⟨(by omega), (by omega)⟩ (s_aload_n dX12_person_51 0 rfl rfl (s_dup dX12_person_52 (show (2 : Nat) ≠ 1 by decide) (n_getf 141 8 0 dX12_person_53 cf_X12 ff_X12_469 rfl sh_141 rfl (by decide) (v := (w 141 8)) rfl (s_iconst dX12_person_56 (by decide) (n_add (z := ((w 141 8) + 1)) dX12_person_57 (wr_id (by omega) (by omega)) (n_putf 141 8 8 dX12_person_58 cf_X12 ff_X12_469 rfl rfl sh_141 rfl rfl rfl (s_aload_n dX12_person_61 0 rfl rfl (n_getf 141 8 0 dX12_person_62 cf_X12 ff_X12_469 rfl sh_141 rfl (by decide) (v := ((w 141 8) + 1)) rfl ?_)))))))))
        refine s_iconst dX12_person_65 (by decide) (n_sub (z := (((w 141 8) + 1) - 1)) dX12_person_66 (wr_id (by omega) (by omega)) (n_iret dX12_person_67 hR rfl ?_))
        first | exact ⟨_, rfl, Or.inl ⟨by omega, by omega, rfl⟩⟩ | exact ⟨_, rfl, Or.inr ⟨by omega, by omega, rfl⟩⟩ | (exfalso; omega)
      · skip
        refine s_iconst dX12_person_29 (by decide) (n_iret dX12_person_30 hR rfl ?_)
        first | exact ⟨_, rfl, Or.inl ⟨by omega, by omega, rfl⟩⟩ | exact ⟨_, rfl, Or.inr ⟨by omega, by omega, rfl⟩⟩ | (exfalso; omega)

set_option maxRecDepth 100000 in
theorem c_X_needs (q k l : Int) (w : Wd) (h : 0 ≤ w 15 10 ∧ w 15 10 ≤ 16) : CallN 2 mX10_demand [(2, 103), (0, q), (0, k), (0, l)] w (RQ (Two ((0 ≤ q ∧ q < w 15 10) ∧ (1 ≤ k ∧ k ≤ 9) ∧ (0 ≤ l ∧ l ≤ 999)) w 0 1 (wu (wu w 104 q k) 105 q l))) := by
  refine CallN.intro (by decide +kernel) (Nat.le_of_ble_eq_true rfl) (fun ρ hR => ?_)
  show AtN mX10_demand 2 ρ 0 [(0, (2, 103)), (1, (0, q)), (2, (0, k)), (3, (0, l))] [] w
  refine s_aload_n dX10_demand_0 0 rfl rfl (n_getc (q := 15) 103 0 25 dX10_demand_1 cf_X10 ff_X10_27 rfl sh_103 rfl (by decide) rfl (by decide) (s_iload_n dX10_demand_4 1 rfl (n_invV (as := [(0, q)]) dX10_demand_5 kv_X3_hasHall ml_X10_31 (c_X_hasHall q w) (by decide) 15 cf_X3 rfl sh_15 rfl rfl rfl (Nat.le_of_ble_eq_true rfl) (n_ifeq_b 32 dX10_demand_8 (by decide) (fun c_8 => ?_) (fun c_8 => ?_)))))
  · skip
    refine s_iconst dX10_demand_32 (by decide) (n_zret dX10_demand_33 hR rfl (by first | exact Or.inl rfl | exact Or.inr rfl | exact bi_01 _ | omega) ?_)
    first | exact ⟨_, rfl, Or.inl ⟨by omega, by omega, rfl⟩⟩ | exact ⟨_, rfl, Or.inr ⟨by omega, by omega, rfl⟩⟩ | (exfalso; omega)
  · skip
    refine s_iload_n dX10_demand_11 2 rfl (s_iconst dX10_demand_12 (by decide) (s_bipush dX10_demand_13 (by decide) (n_invT (as := [(0, k), (0, 1), (0, 9)]) dX10_demand_15 kv_X11_within ml_X10_37 (c_within k 1 9 w) (by decide) rfl rfl (Nat.le_of_ble_eq_true rfl) (n_ifeq_b 32 dX10_demand_18 (by decide) (fun c_18 => ?_) (fun c_18 => ?_)))))
    · skip
      refine s_iconst dX10_demand_32 (by decide) (n_zret dX10_demand_33 hR rfl (by first | exact Or.inl rfl | exact Or.inr rfl | exact bi_01 _ | omega) ?_)
      first | exact ⟨_, rfl, Or.inl ⟨by omega, by omega, rfl⟩⟩ | exact ⟨_, rfl, Or.inr ⟨by omega, by omega, rfl⟩⟩ | (exfalso; omega)
    · skip
      refine s_iload_n dX10_demand_21 3 rfl (s_iconst dX10_demand_22 (by decide) (s_sipush dX10_demand_23 (by decide) (n_invT (as := [(0, l), (0, 0), (0, 999)]) dX10_demand_26 kv_X11_within ml_X10_37 (c_within l 0 999 w) (by decide) rfl rfl (Nat.le_of_ble_eq_true rfl) (n_ifne_b 34 dX10_demand_29 (by decide) (fun c_29 => ?_) (fun c_29 => ?_)))))
      · skip
        refine s_aload_n dX10_demand_34 0 rfl rfl (n_getc (q := 104) 103 1 114 dX10_demand_35 cf_X10 ff_X10_9 rfl sh_103 rfl (by decide) rfl (by decide) (s_iload_n dX10_demand_38 1 rfl (s_iload_n dX10_demand_39 2 rfl (s_iastore 104 dX10_demand_40 rfl sh_104 (by decide) ⟨(by omega), (by omega)⟩ (s_aload_n dX10_demand_41 0 rfl rfl (n_getc (q := 105) 103 2 115 dX10_demand_42 cf_X10 ff_X10_15 rfl sh_103 rfl (by decide) rfl (by decide) (s_iload_n dX10_demand_45 1 rfl (s_iload_n dX10_demand_46 3 rfl (s_iastore 105 dX10_demand_47 rfl sh_105 (by decide) ⟨(by omega), (by omega)⟩ ?_)))))))))
        refine s_iconst dX10_demand_48 (by decide) (n_zret dX10_demand_49 hR rfl (by first | exact Or.inl rfl | exact Or.inr rfl | exact bi_01 _ | omega) ?_)
        first | exact ⟨_, rfl, Or.inl ⟨by omega, by omega, rfl⟩⟩ | exact ⟨_, rfl, Or.inr ⟨by omega, by omega, rfl⟩⟩ | (exfalso; omega)
      · skip
        refine s_iconst dX10_demand_32 (by decide) (n_zret dX10_demand_33 hR rfl (by first | exact Or.inl rfl | exact Or.inr rfl | exact bi_01 _ | omega) ?_)
        first | exact ⟨_, rfl, Or.inl ⟨by omega, by omega, rfl⟩⟩ | exact ⟨_, rfl, Or.inr ⟨by omega, by omega, rfl⟩⟩ | (exfalso; omega)

set_option maxRecDepth 100000 in
theorem x_needs (q k l : Int) (w : Wd) (h : 0 ≤ w 15 10 ∧ w 15 10 ≤ 16) : CallN 3 mX11_needs [(2, 0), (0, q), (0, k), (0, l)] w (RQ (Two ((0 ≤ q ∧ q < w 15 10) ∧ (1 ≤ k ∧ k ≤ 9) ∧ (0 ≤ l ∧ l ≤ 999)) w 0 1 (wu (wu w 104 q k) 105 q l))) := by
  refine CallN.intro (by decide +kernel) (Nat.le_of_ble_eq_true rfl) (fun ρ hR => ?_)
  show AtN mX11_needs 3 ρ 0 [(0, (2, 0)), (1, (0, q)), (2, (0, k)), (3, (0, l))] [] w
  refine s_aload_n dX11_needs_0 0 rfl rfl (n_getc (q := 103) 0 7 113 dX11_needs_1 cf_X11 ff_X11_69 rfl sh_0 rfl (by decide) rfl (by decide) (s_iload_n dX11_needs_4 1 rfl (s_iload_n dX11_needs_5 2 rfl (s_iload_n dX11_needs_6 3 rfl (n_invV' (as := [(0, q), (0, k), (0, l)]) dX11_needs_7 kv_X10_demand ml_X11_261 (c_X_needs q k l w h) (by decide) 103 cf_X10 rfl sh_103 rfl rfl rfl (Nat.le_of_ble_eq_true rfl) ?_)))))
  rintro r_7 w_7 ⟨z_7, rfl, hz_7⟩
  show AtN _ _ ρ _ _ [(0, z_7)] w_7
  refine n_zret dX11_needs_10 hR rfl (by first | exact Or.inl rfl | exact Or.inr rfl | exact bi_01 _ | omega) ?_
  exact ⟨_, rfl, hz_7⟩

set_option maxRecDepth 100000 in
theorem m_needs (q k l : Int) (w : Wd) (h : 0 ≤ w 141 4 ∧ w 141 4 ≤ 16) : CallN 3 mX12_needs [(2, 141), (0, q), (0, k), (0, l)] w (RQ (Two ((0 ≤ q ∧ q < w 141 4) ∧ (1 ≤ k ∧ k ≤ 9) ∧ (0 ≤ l ∧ l ≤ 999)) w 0 1 (wu (wu w 161 q k) 162 q l))) := by
  refine CallN.intro (by decide +kernel) (Nat.le_of_ble_eq_true rfl) (fun ρ hR => ?_)
  show AtN mX12_needs 3 ρ 0 [(0, (2, 141)), (1, (0, q)), (2, (0, k)), (3, (0, l))] [] w
  refine s_aload_n dX12_needs_0 0 rfl rfl (s_iload_n dX12_needs_1 1 rfl (n_invV (as := [(0, q)]) dX12_needs_2 kv_X12_isHall ml_X12_264 (c_M_isHall q w (by omega)) (by decide) 141 cf_X12 rfl sh_141 rfl rfl rfl (Nat.le_of_ble_eq_true rfl) (n_ifeq_b 29 dX12_needs_5 (by decide) (fun c_5 => ?_) (fun c_5 => ?_))))
  · skip
    refine s_iconst dX12_needs_29 (by decide) (n_zret dX12_needs_30 hR rfl (by first | exact Or.inl rfl | exact Or.inr rfl | exact bi_01 _ | omega) ?_)
    first | exact ⟨_, rfl, Or.inl ⟨by omega, by omega, rfl⟩⟩ | exact ⟨_, rfl, Or.inr ⟨by omega, by omega, rfl⟩⟩ | (exfalso; omega)
  · skip
    refine s_iload_n dX12_needs_8 2 rfl (s_iconst dX12_needs_9 (by decide) (s_bipush dX12_needs_10 (by decide) (n_invS (as := [(0, k), (0, 1), (0, 9)]) dX12_needs_12 kv_X12_isIn ml_X12_223 (c_isIn k 1 9 w) (by decide) rfl rfl (Nat.le_of_ble_eq_true rfl) (n_ifeq_b 29 dX12_needs_15 (by decide) (fun c_15 => ?_) (fun c_15 => ?_)))))
    · skip
      refine s_iconst dX12_needs_29 (by decide) (n_zret dX12_needs_30 hR rfl (by first | exact Or.inl rfl | exact Or.inr rfl | exact bi_01 _ | omega) ?_)
      first | exact ⟨_, rfl, Or.inl ⟨by omega, by omega, rfl⟩⟩ | exact ⟨_, rfl, Or.inr ⟨by omega, by omega, rfl⟩⟩ | (exfalso; omega)
    · skip
      refine s_iload_n dX12_needs_18 3 rfl (s_iconst dX12_needs_19 (by decide) (s_sipush dX12_needs_20 (by decide) (n_invS (as := [(0, l), (0, 0), (0, 999)]) dX12_needs_23 kv_X12_isIn ml_X12_223 (c_isIn l 0 999 w) (by decide) rfl rfl (Nat.le_of_ble_eq_true rfl) (n_ifne_b 31 dX12_needs_26 (by decide) (fun c_26 => ?_) (fun c_26 => ?_)))))
      · skip
        refine s_aload_n dX12_needs_31 0 rfl rfl (n_getc (q := 161) 141 29 171 dX12_needs_32 cf_X12 ff_X12_67 rfl sh_141 rfl (by decide) rfl (by decide) (s_iload_n dX12_needs_35 1 rfl (s_iload_n dX12_needs_36 2 rfl (s_iastore 161 dX12_needs_37 rfl sh_161 (by decide) ⟨(by omega), (by omega)⟩ (s_aload_n dX12_needs_38 0 rfl rfl (n_getc (q := 162) 141 30 172 dX12_needs_39 cf_X12 ff_X12_70 rfl sh_141 rfl (by decide) rfl (by decide) (s_iload_n dX12_needs_42 1 rfl (s_iload_n dX12_needs_43 3 rfl (s_iastore 162 dX12_needs_44 rfl sh_162 (by decide) ⟨(by omega), (by omega)⟩ ?_)))))))))
        refine s_iconst dX12_needs_45 (by decide) (n_zret dX12_needs_46 hR rfl (by first | exact Or.inl rfl | exact Or.inr rfl | exact bi_01 _ | omega) ?_)
        first | exact ⟨_, rfl, Or.inl ⟨by omega, by omega, rfl⟩⟩ | exact ⟨_, rfl, Or.inr ⟨by omega, by omega, rfl⟩⟩ | (exfalso; omega)
      · skip
        refine s_iconst dX12_needs_29 (by decide) (n_zret dX12_needs_30 hR rfl (by first | exact Or.inl rfl | exact Or.inr rfl | exact bi_01 _ | omega) ?_)
        first | exact ⟨_, rfl, Or.inl ⟨by omega, by omega, rfl⟩⟩ | exact ⟨_, rfl, Or.inr ⟨by omega, by omega, rfl⟩⟩ | (exfalso; omega)

set_option maxRecDepth 100000 in
theorem c_M_isParty (q : Int) (w : Wd) : CallN 2 mX12_isParty [(0, q)] w (RV (0, bi (0 ≤ q ∧ q ≤ 19)) w) := by
  refine CallN.intro (by decide +kernel) (Nat.le_of_ble_eq_true rfl) (fun ρ hR => ?_)
  show AtN mX12_isParty 2 ρ 0 [(0, (0, q))] [] w
  refine s_iload_n dX12_isParty_0 0 rfl (s_iconst dX12_isParty_1 (by decide) (s_bipush dX12_isParty_2 (by decide) (n_invS (as := [(0, q), (0, 0), (0, 19)]) dX12_isParty_4 kv_X12_isIn ml_X12_223 (c_isIn q 0 19 w) (by decide) rfl rfl (Nat.le_of_ble_eq_true rfl) (n_zret dX12_isParty_7 hR rfl (by first | exact Or.inl rfl | exact Or.inr rfl | exact bi_01 _ | omega) ?_))))
  refine ⟨congrArg (fun z => some ((0 : Nat), z)) ?_, rfl⟩
  first | exact (bi_t (by omega)).symm | exact (bi_f (by omega)).symm | exact bi_congr (by omega)

set_option maxRecDepth 100000 in
theorem c_X_lend (a b v : Int) (w : Wd) (h : ∀ j i, 0 ≤ j → j < 20 → 0 ≤ i → i < 20 → 0 ≤ w (111 + Int.toNat j) i ∧ w (111 + Int.toNat j) i ≤ 99999) (h2 : ∀ j, 0 ≤ j → j < 20 → 0 ≤ w 132 j ∧ w 132 j ≤ 2000000) : CallN 2 mX1_lend [(2, 109), (0, a), (0, b), (0, v)] w (RQ (Two ((0 ≤ a ∧ a ≤ 19) ∧ (0 ≤ b ∧ b ≤ 19) ∧ a ≠ b ∧ (0 ≤ v ∧ v ≤ 99999)) w 0 1 (wu (wu w 132 a ((w 132 a) + (v - (w (111 + Int.toNat a) b)))) (111 + Int.toNat a) b v))) := by
  refine CallN.intro (by decide +kernel) (Nat.le_of_ble_eq_true rfl) (fun ρ hR => ?_)
  show AtN mX1_lend 2 ρ 0 [(0, (2, 109)), (1, (0, a)), (2, (0, b)), (3, (0, v))] [] w
  refine s_iload_n dX1_lend_0 1 rfl (s_iconst dX1_lend_1 (by decide) (s_bipush dX1_lend_2 (by decide) (n_invT (as := [(0, a), (0, 0), (0, 19)]) dX1_lend_4 kv_X11_within ml_X1_34 (c_within a 0 19 w) (by decide) rfl rfl (Nat.le_of_ble_eq_true rfl) (n_ifeq_b 29 dX1_lend_7 (by decide) (fun c_7 => ?_) (fun c_7 => ?_)))))
  · skip
    refine s_iconst dX1_lend_29 (by decide) (s_istore (ls' := [(0, (2, 109)), (1, (0, a)), (2, (0, b)), (3, (0, v)), (4, (0, 0))]) dX1_lend_30 (Nat.le_of_ble_eq_true rfl) rfl (s_iload dX1_lend_32 4 rfl (s_if_eq 47 dX1_lend_34 (by decide) (kf := fun c => absurd c (by decide)) (kt := fun _ => s_iconst dX1_lend_47 (by decide) (n_zret dX1_lend_48 hR rfl (by first | exact Or.inl rfl | exact Or.inr rfl | exact bi_01 _ | omega) ?_)))))
    first | exact ⟨_, rfl, Or.inl ⟨by omega, by omega, rfl⟩⟩ | exact ⟨_, rfl, Or.inr ⟨by omega, by omega, rfl⟩⟩ | (exfalso; omega)
  · skip
    refine s_iload_n dX1_lend_10 2 rfl (s_iconst dX1_lend_11 (by decide) (s_bipush dX1_lend_12 (by decide) (n_invT (as := [(0, b), (0, 0), (0, 19)]) dX1_lend_14 kv_X11_within ml_X1_34 (c_within b 0 19 w) (by decide) rfl rfl (Nat.le_of_ble_eq_true rfl) (n_ifeq_b 29 dX1_lend_17 (by decide) (fun c_17 => ?_) (fun c_17 => ?_)))))
    · skip
      refine s_iconst dX1_lend_29 (by decide) (s_istore (ls' := [(0, (2, 109)), (1, (0, a)), (2, (0, b)), (3, (0, v)), (4, (0, 0))]) dX1_lend_30 (Nat.le_of_ble_eq_true rfl) rfl (s_iload dX1_lend_32 4 rfl (s_if_eq 47 dX1_lend_34 (by decide) (kf := fun c => absurd c (by decide)) (kt := fun _ => s_iconst dX1_lend_47 (by decide) (n_zret dX1_lend_48 hR rfl (by first | exact Or.inl rfl | exact Or.inr rfl | exact bi_01 _ | omega) ?_)))))
      first | exact ⟨_, rfl, Or.inl ⟨by omega, by omega, rfl⟩⟩ | exact ⟨_, rfl, Or.inr ⟨by omega, by omega, rfl⟩⟩ | (exfalso; omega)
    · skip
      refine s_iload_n dX1_lend_20 1 rfl (s_iload_n dX1_lend_21 2 rfl (s_icmp_eq 29 dX1_lend_22 (by decide) (fun c_22 => ?_) (fun c_22 => ?_)))
      · skip
        refine s_iconst dX1_lend_29 (by decide) (s_istore (ls' := [(0, (2, 109)), (1, (0, a)), (2, (0, b)), (3, (0, v)), (4, (0, 0))]) dX1_lend_30 (Nat.le_of_ble_eq_true rfl) rfl (s_iload dX1_lend_32 4 rfl (s_if_eq 47 dX1_lend_34 (by decide) (kf := fun c => absurd c (by decide)) (kt := fun _ => s_iconst dX1_lend_47 (by decide) (n_zret dX1_lend_48 hR rfl (by first | exact Or.inl rfl | exact Or.inr rfl | exact bi_01 _ | omega) ?_)))))
        first | exact ⟨_, rfl, Or.inl ⟨by omega, by omega, rfl⟩⟩ | exact ⟨_, rfl, Or.inr ⟨by omega, by omega, rfl⟩⟩ | (exfalso; omega)
      · skip
        refine s_iconst dX1_lend_25 (by decide) (s_goto 30 dX1_lend_26 (by decide) (s_istore (ls' := [(0, (2, 109)), (1, (0, a)), (2, (0, b)), (3, (0, v)), (4, (0, 1))]) dX1_lend_30 (Nat.le_of_ble_eq_true rfl) rfl (s_iload dX1_lend_32 4 rfl (s_if_eq 47 dX1_lend_34 (by decide) (kt := fun c => absurd c (by decide)) (kf := fun _ => s_iload_n dX1_lend_37 3 rfl (s_iconst dX1_lend_38 (by decide) (s_ldc (own := "") (z := 99999) dX1_lend_39 kc_X1_38 rfl (n_invT (as := [(0, v), (0, 0), (0, 99999)]) dX1_lend_41 kv_X11_within ml_X1_34 (c_within v 0 99999 w) (by decide) rfl rfl (Nat.le_of_ble_eq_true rfl) (n_ifne_b 49 dX1_lend_44 (by decide) (fun c_44 => ?_) (fun c_44 => ?_))))))))))
        · skip
          have h9 := h a b (by omega) (by omega) (by omega) (by omega)
          have h8 := h2 a (by omega) (by omega)
          refine s_aload_n dX1_lend_49 0 rfl rfl (n_getc (q := 132) 109 3 142 dX1_lend_50 cf_X1 ff_X1_20 rfl sh_109 rfl (by decide) rfl (by decide) (s_iload_n dX1_lend_53 1 rfl (s_dup2 dX1_lend_54 (show (0 : Nat) ≠ 1 by decide) (show (2 : Nat) ≠ 1 by decide) (n_lald 132 dX1_lend_55 rfl sh_132 (by decide) ⟨(by omega), (by omega)⟩ (v := (w 132 a)) rfl (s_iload_n dX1_lend_56 3 rfl (s_aload_n dX1_lend_57 0 rfl rfl (n_getc (q := 110) 109 1 120 dX1_lend_58 cf_X1 ff_X1_11 rfl sh_109 rfl (by decide) rfl (by decide) (s_iload_n dX1_lend_61 1 rfl (s_aaload6 110 dX1_lend_62 rfl sh_110 (by decide) ⟨(by omega), (by omega)⟩ ?_)))))))))
          refine s_iload_n dX1_lend_63 2 rfl (n_iald (111 + Int.toNat a) dX1_lend_64 rfl (rowsh_111 _ (by omega)) (by decide) ⟨(by omega), (by omega)⟩ (v := (w (111 + Int.toNat a) b)) rfl (n_sub (z := (v - (w (111 + Int.toNat a) b))) dX1_lend_65 (wr_id (by omega) (by omega)) (s_i2l dX1_lend_66 (n_ladd (z := ((w 132 a) + (v - (w (111 + Int.toNat a) b)))) dX1_lend_67 (wrL_id (by omega) (by omega)) (s_lastore 132 dX1_lend_68 rfl sh_132 (by decide) ⟨(by omega), (by omega)⟩ (s_aload_n dX1_lend_69 0 rfl rfl (n_getc (q := 110) 109 1 120 dX1_lend_70 cf_X1 ff_X1_11 rfl sh_109 rfl (by decide) rfl (by decide) (s_iload_n dX1_lend_73 1 rfl (s_aaload6 110 dX1_lend_74 rfl sh_110 (by decide) ⟨(by omega), (by omega)⟩ ?_)))))))))
          refine s_iload_n dX1_lend_75 2 rfl (s_iload_n dX1_lend_76 3 rfl (s_iastore (111 + Int.toNat a) dX1_lend_77 rfl (rowsh_111 _ (by omega)) (by decide) ⟨(by omega), (by omega)⟩ (s_iconst dX1_lend_78 (by decide) (n_zret dX1_lend_79 hR rfl (by first | exact Or.inl rfl | exact Or.inr rfl | exact bi_01 _ | omega) ?_))))
          first | exact ⟨_, rfl, Or.inl ⟨by omega, by omega, rfl⟩⟩ | exact ⟨_, rfl, Or.inr ⟨by omega, by omega, rfl⟩⟩ | (exfalso; omega)
        · skip
          refine s_iconst dX1_lend_47 (by decide) (n_zret dX1_lend_48 hR rfl (by first | exact Or.inl rfl | exact Or.inr rfl | exact bi_01 _ | omega) ?_)
          first | exact ⟨_, rfl, Or.inl ⟨by omega, by omega, rfl⟩⟩ | exact ⟨_, rfl, Or.inr ⟨by omega, by omega, rfl⟩⟩ | (exfalso; omega)

set_option maxRecDepth 100000 in
theorem x_owe (a b v : Int) (w : Wd) (h : ∀ j i, 0 ≤ j → j < 20 → 0 ≤ i → i < 20 → 0 ≤ w (111 + Int.toNat j) i ∧ w (111 + Int.toNat j) i ≤ 99999) (h2 : ∀ j, 0 ≤ j → j < 20 → 0 ≤ w 132 j ∧ w 132 j ≤ 2000000) : CallN 3 mX11_owe [(2, 0), (0, a), (0, b), (0, v)] w (RQ (Two ((0 ≤ a ∧ a ≤ 19) ∧ (0 ≤ b ∧ b ≤ 19) ∧ a ≠ b ∧ (0 ≤ v ∧ v ≤ 99999)) w 0 1 (wu (wu w 132 a ((w 132 a) + (v - (w (111 + Int.toNat a) b)))) (111 + Int.toNat a) b v))) := by
  refine CallN.intro (by decide +kernel) (Nat.le_of_ble_eq_true rfl) (fun ρ hR => ?_)
  show AtN mX11_owe 3 ρ 0 [(0, (2, 0)), (1, (0, a)), (2, (0, b)), (3, (0, v))] [] w
  refine s_aload_n dX11_owe_0 0 rfl rfl (n_getc (q := 109) 0 8 119 dX11_owe_1 cf_X11 ff_X11_76 rfl sh_0 rfl (by decide) rfl (by decide) (s_iload_n dX11_owe_4 1 rfl (s_iload_n dX11_owe_5 2 rfl (s_iload_n dX11_owe_6 3 rfl (n_invV' (as := [(0, a), (0, b), (0, v)]) dX11_owe_7 kv_X1_lend ml_X11_263 (c_X_lend a b v w h h2) (by decide) 109 cf_X1 rfl sh_109 rfl rfl rfl (Nat.le_of_ble_eq_true rfl) ?_)))))
  rintro r_7 w_7 ⟨z_7, rfl, hz_7⟩
  show AtN _ _ ρ _ _ [(0, z_7)] w_7
  refine n_zret dX11_owe_10 hR rfl (by first | exact Or.inl rfl | exact Or.inr rfl | exact bi_01 _ | omega) ?_
  exact ⟨_, rfl, hz_7⟩

set_option maxRecDepth 100000 in
theorem m_owe (a b v : Int) (w : Wd) : CallN 3 mX12_owe [(2, 141), (0, a), (0, b), (0, v)] w (RQ (Two ((0 ≤ a ∧ a ≤ 19) ∧ (0 ≤ b ∧ b ≤ 19) ∧ a ≠ b ∧ (0 ≤ v ∧ v ≤ 99999)) w 0 1 (wu w 201 (20 * a + b) v))) := by
  refine CallN.intro (by decide +kernel) (Nat.le_of_ble_eq_true rfl) (fun ρ hR => ?_)
  show AtN mX12_owe 3 ρ 0 [(0, (2, 141)), (1, (0, a)), (2, (0, b)), (3, (0, v))] [] w
  refine s_iload_n dX12_owe_0 1 rfl (n_invS (as := [(0, a)]) dX12_owe_1 kv_X12_isParty ml_X12_479 (c_M_isParty a w) (by decide) rfl rfl (Nat.le_of_ble_eq_true rfl) (n_ifeq_b 30 dX12_owe_4 (by decide) (fun c_4 => ?_) (fun c_4 => ?_)))
  · skip
    refine s_iconst dX12_owe_30 (by decide) (n_zret dX12_owe_31 hR rfl (by first | exact Or.inl rfl | exact Or.inr rfl | exact bi_01 _ | omega) ?_)
    first | exact ⟨_, rfl, Or.inl ⟨by omega, by omega, rfl⟩⟩ | exact ⟨_, rfl, Or.inr ⟨by omega, by omega, rfl⟩⟩ | (exfalso; omega)
  · skip
    refine s_iload_n dX12_owe_7 2 rfl (n_invS (as := [(0, b)]) dX12_owe_8 kv_X12_isParty ml_X12_479 (c_M_isParty b w) (by decide) rfl rfl (Nat.le_of_ble_eq_true rfl) (n_ifeq_b 30 dX12_owe_11 (by decide) (fun c_11 => ?_) (fun c_11 => ?_)))
    · skip
      refine s_iconst dX12_owe_30 (by decide) (n_zret dX12_owe_31 hR rfl (by first | exact Or.inl rfl | exact Or.inr rfl | exact bi_01 _ | omega) ?_)
      first | exact ⟨_, rfl, Or.inl ⟨by omega, by omega, rfl⟩⟩ | exact ⟨_, rfl, Or.inr ⟨by omega, by omega, rfl⟩⟩ | (exfalso; omega)
    · skip
      refine s_iload_n dX12_owe_14 1 rfl (s_iload_n dX12_owe_15 2 rfl (s_icmp_eq 30 dX12_owe_16 (by decide) (fun c_16 => ?_) (fun c_16 => ?_)))
      · skip
        refine s_iconst dX12_owe_30 (by decide) (n_zret dX12_owe_31 hR rfl (by first | exact Or.inl rfl | exact Or.inr rfl | exact bi_01 _ | omega) ?_)
        first | exact ⟨_, rfl, Or.inl ⟨by omega, by omega, rfl⟩⟩ | exact ⟨_, rfl, Or.inr ⟨by omega, by omega, rfl⟩⟩ | (exfalso; omega)
      · skip
        refine s_iload_n dX12_owe_19 3 rfl (s_iconst dX12_owe_20 (by decide) (s_ldcw (z := 99999) dX12_owe_21 kc_X12_422 rfl (n_invS (as := [(0, v), (0, 0), (0, 99999)]) dX12_owe_24 kv_X12_isIn ml_X12_223 (c_isIn v 0 99999 w) (by decide) rfl rfl (Nat.le_of_ble_eq_true rfl) (n_ifne_b 32 dX12_owe_27 (by decide) (fun c_27 => ?_) (fun c_27 => ?_)))))
        · skip
          refine s_aload_n dX12_owe_32 0 rfl rfl (n_getc (q := 201) 141 88 211 dX12_owe_33 cf_X12 ff_X12_193 rfl sh_141 rfl (by decide) rfl (by decide) (s_bipush dX12_owe_36 (by decide) (s_iload_n dX12_owe_38 1 rfl (n_mul (z := (20 * a)) dX12_owe_39 (wr_id (by omega) (by omega)) (s_iload_n dX12_owe_40 2 rfl (n_add (z := ((20 * a) + b)) dX12_owe_41 (wr_id (by omega) (by omega)) (s_iload_n dX12_owe_42 3 rfl (s_iastore 201 dX12_owe_43 rfl sh_201 (by decide) ⟨(by omega), (by omega)⟩ (s_iconst dX12_owe_44 (by decide) ?_)))))))))
          refine n_zret dX12_owe_45 hR rfl (by first | exact Or.inl rfl | exact Or.inr rfl | exact bi_01 _ | omega) ?_
          first | exact ⟨_, rfl, Or.inl ⟨by omega, by omega, rfl⟩⟩ | exact ⟨_, rfl, Or.inr ⟨by omega, by omega, rfl⟩⟩ | (exfalso; omega)
        · skip
          refine s_iconst dX12_owe_30 (by decide) (n_zret dX12_owe_31 hR rfl (by first | exact Or.inl rfl | exact Or.inr rfl | exact bi_01 _ | omega) ?_)
          first | exact ⟨_, rfl, Or.inl ⟨by omega, by omega, rfl⟩⟩ | exact ⟨_, rfl, Or.inr ⟨by omega, by omega, rfl⟩⟩ | (exfalso; omega)

set_option maxRecDepth 100000 in
theorem c_X_purse (p v : Int) (w : Wd)  : CallN 2 mX1_fill [(2, 109), (0, p), (0, v)] w (RQ (Two ((16 ≤ p ∧ p ≤ 19) ∧ (0 ≤ v ∧ v ≤ 99999)) w 0 1 (wu w 131 (p - 16) v))) := by
  refine CallN.intro (by decide +kernel) (Nat.le_of_ble_eq_true rfl) (fun ρ hR => ?_)
  show AtN mX1_fill 2 ρ 0 [(0, (2, 109)), (1, (0, p)), (2, (0, v))] [] w
  refine s_iload_n dX1_fill_0 1 rfl (s_bipush dX1_fill_1 (by decide) (s_bipush dX1_fill_3 (by decide) (n_invT (as := [(0, p), (0, 16), (0, 19)]) dX1_fill_5 kv_X11_within ml_X1_34 (c_within p 16 19 w) (by decide) rfl rfl (Nat.le_of_ble_eq_true rfl) (n_ifeq_b 21 dX1_fill_8 (by decide) (fun c_8 => ?_) (fun c_8 => ?_)))))
  · skip
    refine s_iconst dX1_fill_21 (by decide) (n_zret dX1_fill_22 hR rfl (by first | exact Or.inl rfl | exact Or.inr rfl | exact bi_01 _ | omega) ?_)
    first | exact ⟨_, rfl, Or.inl ⟨by omega, by omega, rfl⟩⟩ | exact ⟨_, rfl, Or.inr ⟨by omega, by omega, rfl⟩⟩ | (exfalso; omega)
  · skip
    refine s_iload_n dX1_fill_11 2 rfl (s_iconst dX1_fill_12 (by decide) (s_ldc (own := "") (z := 99999) dX1_fill_13 kc_X1_38 rfl (n_invT (as := [(0, v), (0, 0), (0, 99999)]) dX1_fill_15 kv_X11_within ml_X1_34 (c_within v 0 99999 w) (by decide) rfl rfl (Nat.le_of_ble_eq_true rfl) (n_ifne_b 23 dX1_fill_18 (by decide) (fun c_18 => ?_) (fun c_18 => ?_)))))
    · skip
      refine s_aload_n dX1_fill_23 0 rfl rfl (n_getc (q := 131) 109 2 141 dX1_fill_24 cf_X1 ff_X1_16 rfl sh_109 rfl (by decide) rfl (by decide) (s_iload_n dX1_fill_27 1 rfl (s_bipush dX1_fill_28 (by decide) (n_sub (z := (p - 16)) dX1_fill_30 (wr_id (by omega) (by omega)) (s_iload_n dX1_fill_31 2 rfl (s_iastore 131 dX1_fill_32 rfl sh_131 (by decide) ⟨(by omega), (by omega)⟩ (s_iconst dX1_fill_33 (by decide) (n_zret dX1_fill_34 hR rfl (by first | exact Or.inl rfl | exact Or.inr rfl | exact bi_01 _ | omega) ?_))))))))
      first | exact ⟨_, rfl, Or.inl ⟨by omega, by omega, rfl⟩⟩ | exact ⟨_, rfl, Or.inr ⟨by omega, by omega, rfl⟩⟩ | (exfalso; omega)
    · skip
      refine s_iconst dX1_fill_21 (by decide) (n_zret dX1_fill_22 hR rfl (by first | exact Or.inl rfl | exact Or.inr rfl | exact bi_01 _ | omega) ?_)
      first | exact ⟨_, rfl, Or.inl ⟨by omega, by omega, rfl⟩⟩ | exact ⟨_, rfl, Or.inr ⟨by omega, by omega, rfl⟩⟩ | (exfalso; omega)

set_option maxRecDepth 100000 in
theorem x_purse (p v : Int) (w : Wd)  : CallN 3 mX11_purse [(2, 0), (0, p), (0, v)] w (RQ (Two ((16 ≤ p ∧ p ≤ 19) ∧ (0 ≤ v ∧ v ≤ 99999)) w 0 1 (wu w 131 (p - 16) v))) := by
  refine CallN.intro (by decide +kernel) (Nat.le_of_ble_eq_true rfl) (fun ρ hR => ?_)
  show AtN mX11_purse 3 ρ 0 [(0, (2, 0)), (1, (0, p)), (2, (0, v))] [] w
  refine s_aload_n dX11_purse_0 0 rfl rfl (n_getc (q := 109) 0 8 119 dX11_purse_1 cf_X11 ff_X11_76 rfl sh_0 rfl (by decide) rfl (by decide) (s_iload_n dX11_purse_4 1 rfl (s_iload_n dX11_purse_5 2 rfl (n_invV' (as := [(0, p), (0, v)]) dX11_purse_6 kv_X1_fill ml_X11_266 (c_X_purse p v w) (by decide) 109 cf_X1 rfl sh_109 rfl rfl rfl (Nat.le_of_ble_eq_true rfl) ?_))))
  rintro r_6 w_6 ⟨z_6, rfl, hz_6⟩
  show AtN _ _ ρ _ _ [(0, z_6)] w_6
  refine n_zret dX11_purse_9 hR rfl (by first | exact Or.inl rfl | exact Or.inr rfl | exact bi_01 _ | omega) ?_
  exact ⟨_, rfl, hz_6⟩

set_option maxRecDepth 100000 in
theorem m_purse (p v : Int) (w : Wd)  : CallN 2 mX12_purse [(2, 141), (0, p), (0, v)] w (RQ (Two ((16 ≤ p ∧ p ≤ 19) ∧ (0 ≤ v ∧ v ≤ 99999)) w 0 1 (wu w 202 p v))) := by
  refine CallN.intro (by decide +kernel) (Nat.le_of_ble_eq_true rfl) (fun ρ hR => ?_)
  show AtN mX12_purse 2 ρ 0 [(0, (2, 141)), (1, (0, p)), (2, (0, v))] [] w
  refine s_iload_n dX12_purse_0 1 rfl (s_bipush dX12_purse_1 (by decide) (s_bipush dX12_purse_3 (by decide) (n_invS (as := [(0, p), (0, 16), (0, 19)]) dX12_purse_5 kv_X12_isIn ml_X12_223 (c_isIn p 16 19 w) (by decide) rfl rfl (Nat.le_of_ble_eq_true rfl) (n_ifeq_b 22 dX12_purse_8 (by decide) (fun c_8 => ?_) (fun c_8 => ?_)))))
  · skip
    refine s_iconst dX12_purse_22 (by decide) (n_zret dX12_purse_23 hR rfl (by first | exact Or.inl rfl | exact Or.inr rfl | exact bi_01 _ | omega) ?_)
    first | exact ⟨_, rfl, Or.inl ⟨by omega, by omega, rfl⟩⟩ | exact ⟨_, rfl, Or.inr ⟨by omega, by omega, rfl⟩⟩ | (exfalso; omega)
  · skip
    refine s_iload_n dX12_purse_11 2 rfl (s_iconst dX12_purse_12 (by decide) (s_ldcw (z := 99999) dX12_purse_13 kc_X12_422 rfl (n_invS (as := [(0, v), (0, 0), (0, 99999)]) dX12_purse_16 kv_X12_isIn ml_X12_223 (c_isIn v 0 99999 w) (by decide) rfl rfl (Nat.le_of_ble_eq_true rfl) (n_ifne_b 24 dX12_purse_19 (by decide) (fun c_19 => ?_) (fun c_19 => ?_)))))
    · skip
      refine s_aload_n dX12_purse_24 0 rfl rfl (n_getc (q := 202) 141 89 212 dX12_purse_25 cf_X12 ff_X12_196 rfl sh_141 rfl (by decide) rfl (by decide) (s_iload_n dX12_purse_28 1 rfl (s_iload_n dX12_purse_29 2 rfl (s_iastore 202 dX12_purse_30 rfl sh_202 (by decide) ⟨(by omega), (by omega)⟩ (s_iconst dX12_purse_31 (by decide) (n_zret dX12_purse_32 hR rfl (by first | exact Or.inl rfl | exact Or.inr rfl | exact bi_01 _ | omega) ?_))))))
      first | exact ⟨_, rfl, Or.inl ⟨by omega, by omega, rfl⟩⟩ | exact ⟨_, rfl, Or.inr ⟨by omega, by omega, rfl⟩⟩ | (exfalso; omega)
    · skip
      refine s_iconst dX12_purse_22 (by decide) (n_zret dX12_purse_23 hR rfl (by first | exact Or.inl rfl | exact Or.inr rfl | exact bi_01 _ | omega) ?_)
      first | exact ⟨_, rfl, Or.inl ⟨by omega, by omega, rfl⟩⟩ | exact ⟨_, rfl, Or.inr ⟨by omega, by omega, rfl⟩⟩ | (exfalso; omega)

set_option maxRecDepth 100000 in
theorem c_X_clause (a b c : Int) (w : Wd) (h : 0 ≤ w 135 2 ∧ w 135 2 ≤ 9) : CallN 2 mX9_addClause [(2, 135), (0, a), (0, b), (0, c)] w (RQ (Two (((-99 ≤ a ∧ a ≤ 99) ∧ (-99 ≤ b ∧ b ≤ 99) ∧ (-99 ≤ c ∧ c ≤ 99)) ∧ w 135 2 < 9) w (-1) (w 135 2) (wu (wu (wu (wu w 137 (w 135 2) a) 138 (w 135 2) b) 139 (w 135 2) c) 135 2 ((w 135 2) + 1)))) := by
  refine CallN.intro (by decide +kernel) (Nat.le_of_ble_eq_true rfl) (fun ρ hR => ?_)
  show AtN mX9_addClause 2 ρ 0 [(0, (2, 135)), (1, (0, a)), (2, (0, b)), (3, (0, c))] [] w
  refine s_iload_n dX9_addClause_0 1 rfl (s_bipush dX9_addClause_1 (by decide) (s_bipush dX9_addClause_3 (by decide) (n_invT (as := [(0, a), (0, (-99)), (0, 99)]) dX9_addClause_5 kv_X11_within ml_X9_20 (c_within a (-99) 99 w) (by decide) rfl rfl (Nat.le_of_ble_eq_true rfl) (n_ifeq_b 37 dX9_addClause_8 (by decide) (fun c_8 => ?_) (fun c_8 => ?_)))))
  · skip
    refine s_iconst dX9_addClause_37 (by decide) (s_istore (ls' := [(0, (2, 135)), (1, (0, a)), (2, (0, b)), (3, (0, c)), (4, (0, 0))]) dX9_addClause_38 (Nat.le_of_ble_eq_true rfl) rfl (s_iload dX9_addClause_40 4 rfl (s_if_eq 54 dX9_addClause_42 (by decide) (kf := fun c => absurd c (by decide)) (kt := fun _ => s_iconst dX9_addClause_54 (by decide) (n_iret dX9_addClause_55 hR rfl ?_)))))
    first | exact ⟨_, rfl, Or.inl ⟨by omega, by omega, rfl⟩⟩ | exact ⟨_, rfl, Or.inr ⟨by omega, by omega, rfl⟩⟩ | (exfalso; omega)
  · skip
    refine s_iload_n dX9_addClause_11 2 rfl (s_bipush dX9_addClause_12 (by decide) (s_bipush dX9_addClause_14 (by decide) (n_invT (as := [(0, b), (0, (-99)), (0, 99)]) dX9_addClause_16 kv_X11_within ml_X9_20 (c_within b (-99) 99 w) (by decide) rfl rfl (Nat.le_of_ble_eq_true rfl) (n_ifeq_b 37 dX9_addClause_19 (by decide) (fun c_19 => ?_) (fun c_19 => ?_)))))
    · skip
      refine s_iconst dX9_addClause_37 (by decide) (s_istore (ls' := [(0, (2, 135)), (1, (0, a)), (2, (0, b)), (3, (0, c)), (4, (0, 0))]) dX9_addClause_38 (Nat.le_of_ble_eq_true rfl) rfl (s_iload dX9_addClause_40 4 rfl (s_if_eq 54 dX9_addClause_42 (by decide) (kf := fun c => absurd c (by decide)) (kt := fun _ => s_iconst dX9_addClause_54 (by decide) (n_iret dX9_addClause_55 hR rfl ?_)))))
      first | exact ⟨_, rfl, Or.inl ⟨by omega, by omega, rfl⟩⟩ | exact ⟨_, rfl, Or.inr ⟨by omega, by omega, rfl⟩⟩ | (exfalso; omega)
    · skip
      refine s_iload_n dX9_addClause_22 3 rfl (s_bipush dX9_addClause_23 (by decide) (s_bipush dX9_addClause_25 (by decide) (n_invT (as := [(0, c), (0, (-99)), (0, 99)]) dX9_addClause_27 kv_X11_within ml_X9_20 (c_within c (-99) 99 w) (by decide) rfl rfl (Nat.le_of_ble_eq_true rfl) (n_ifeq_b 37 dX9_addClause_30 (by decide) (fun c_30 => ?_) (fun c_30 => ?_)))))
      · skip
        refine s_iconst dX9_addClause_37 (by decide) (s_istore (ls' := [(0, (2, 135)), (1, (0, a)), (2, (0, b)), (3, (0, c)), (4, (0, 0))]) dX9_addClause_38 (Nat.le_of_ble_eq_true rfl) rfl (s_iload dX9_addClause_40 4 rfl (s_if_eq 54 dX9_addClause_42 (by decide) (kf := fun c => absurd c (by decide)) (kt := fun _ => s_iconst dX9_addClause_54 (by decide) (n_iret dX9_addClause_55 hR rfl ?_)))))
        first | exact ⟨_, rfl, Or.inl ⟨by omega, by omega, rfl⟩⟩ | exact ⟨_, rfl, Or.inr ⟨by omega, by omega, rfl⟩⟩ | (exfalso; omega)
      · skip
        refine s_iconst dX9_addClause_33 (by decide) (s_goto 38 dX9_addClause_34 (by decide) (s_istore (ls' := [(0, (2, 135)), (1, (0, a)), (2, (0, b)), (3, (0, c)), (4, (0, 1))]) dX9_addClause_38 (Nat.le_of_ble_eq_true rfl) rfl (s_iload dX9_addClause_40 4 rfl (s_if_eq 54 dX9_addClause_42 (by decide) (kt := fun c => absurd c (by decide)) (kf := fun _ => s_aload_n dX9_addClause_45 0 rfl rfl (n_getf 135 2 0 dX9_addClause_46 cf_X9 ff_X9_24 rfl sh_135 rfl (by decide) (v := (w 135 2)) rfl (s_bipush dX9_addClause_49 (by decide) (s_icmp_lt 56 dX9_addClause_51 (by decide) (fun c_51 => ?_) (fun c_51 => ?_)))))))))
        · skip
          refine s_aload_n dX9_addClause_56 0 rfl rfl (n_getc (q := 136) 135 0 146 dX9_addClause_57 cf_X9 ff_X9_11 rfl sh_135 rfl (by decide) rfl (by decide) (s_iconst dX9_addClause_60 (by decide) (s_aaload6 136 dX9_addClause_61 rfl sh_136 (by decide) (by decide) (s_aload_n dX9_addClause_62 0 rfl rfl (n_getf 135 2 0 dX9_addClause_63 cf_X9 ff_X9_24 rfl sh_135 rfl (by decide) (v := (w 135 2)) rfl (s_iload_n dX9_addClause_66 1 rfl (s_iastore 137 dX9_addClause_67 rfl sh_137 (by decide) ⟨(by omega), (by omega)⟩ (s_aload_n dX9_addClause_68 0 rfl rfl (n_getc (q := 136) 135 0 146 dX9_addClause_69 cf_X9 ff_X9_11 rfl sh_135 rfl (by decide) rfl (by decide) ?_)))))))))
          refine s_iconst dX9_addClause_72 (by decide) (s_aaload6 136 dX9_addClause_73 rfl sh_136 (by decide) (by decide) (s_aload_n dX9_addClause_74 0 rfl rfl (n_getf 135 2 0 dX9_addClause_75 cf_X9 ff_X9_24 rfl sh_135 rfl (by decide) (v := (w 135 2)) rfl (s_iload_n dX9_addClause_78 2 rfl (s_iastore 138 dX9_addClause_79 rfl sh_138 (by decide) ⟨(by omega), (by omega)⟩ (s_aload_n dX9_addClause_80 0 rfl rfl (n_getc (q := 136) 135 0 146 dX9_addClause_81 cf_X9 ff_X9_11 rfl sh_135 rfl (by decide) rfl (by decide) (s_iconst dX9_addClause_84 (by decide) (s_aaload6 136 dX9_addClause_85 rfl sh_136 (by decide) (by decide) ?_)))))))))
          refine s_aload_n dX9_addClause_86 0 rfl rfl (n_getf 135 2 0 dX9_addClause_87 cf_X9 ff_X9_24 rfl sh_135 rfl (by decide) (v := (w 135 2)) rfl (s_iload_n dX9_addClause_90 3 rfl (s_iastore 139 dX9_addClause_91 rfl sh_139 (by decide) ⟨(by omega), (by omega)⟩ (s_aload_n dX9_addClause_92 0 rfl rfl (s_dup dX9_addClause_93 (show (2 : Nat) ≠ 1 by decide) (n_getf 135 2 0 dX9_addClause_94 cf_X9 ff_X9_24 rfl sh_135 rfl (by decide) (v := (w 135 2)) rfl (s_iconst dX9_addClause_97 (by decide) (n_add (z := ((w 135 2) + 1)) dX9_addClause_98 (wr_id (by omega) (by omega)) (n_putf 135 2 2 dX9_addClause_99 cf_X9 ff_X9_24 rfl rfl sh_135 rfl rfl rfl ?_)))))))))
          refine s_aload_n dX9_addClause_102 0 rfl rfl (n_getf 135 2 0 dX9_addClause_103 cf_X9 ff_X9_24 rfl sh_135 rfl (by decide) (v := ((w 135 2) + 1)) rfl (s_iconst dX9_addClause_106 (by decide) (n_sub (z := (((w 135 2) + 1) - 1)) dX9_addClause_107 (wr_id (by omega) (by omega)) (n_iret dX9_addClause_108 hR rfl ?_))))
          first | exact ⟨_, rfl, Or.inl ⟨by omega, by omega, rfl⟩⟩ | exact ⟨_, rfl, Or.inr ⟨by omega, by omega, rfl⟩⟩ | (exfalso; omega)
        · skip
          refine s_iconst dX9_addClause_54 (by decide) (n_iret dX9_addClause_55 hR rfl ?_)
          first | exact ⟨_, rfl, Or.inl ⟨by omega, by omega, rfl⟩⟩ | exact ⟨_, rfl, Or.inr ⟨by omega, by omega, rfl⟩⟩ | (exfalso; omega)

set_option maxRecDepth 100000 in
theorem x_clause (a b c : Int) (w : Wd) (h : 0 ≤ w 135 2 ∧ w 135 2 ≤ 9) : CallN 3 mX11_clause [(2, 0), (0, a), (0, b), (0, c)] w (RQ (Two (((-99 ≤ a ∧ a ≤ 99) ∧ (-99 ≤ b ∧ b ≤ 99) ∧ (-99 ≤ c ∧ c ≤ 99)) ∧ w 135 2 < 9) w (-1) (w 135 2) (wu (wu (wu (wu w 137 (w 135 2) a) 138 (w 135 2) b) 139 (w 135 2) c) 135 2 ((w 135 2) + 1)))) := by
  refine CallN.intro (by decide +kernel) (Nat.le_of_ble_eq_true rfl) (fun ρ hR => ?_)
  show AtN mX11_clause 3 ρ 0 [(0, (2, 0)), (1, (0, a)), (2, (0, b)), (3, (0, c))] [] w
  refine s_aload_n dX11_clause_0 0 rfl rfl (n_getc (q := 135) 0 9 145 dX11_clause_1 cf_X11 ff_X11_83 rfl sh_0 rfl (by decide) rfl (by decide) (s_iload_n dX11_clause_4 1 rfl (s_iload_n dX11_clause_5 2 rfl (s_iload_n dX11_clause_6 3 rfl (n_invV' (as := [(0, a), (0, b), (0, c)]) dX11_clause_7 kv_X9_addClause ml_X11_287 (c_X_clause a b c w h) (by decide) 135 cf_X9 rfl sh_135 rfl rfl rfl (Nat.le_of_ble_eq_true rfl) ?_)))))
  rintro r_7 w_7 ⟨z_7, rfl, hz_7⟩
  show AtN _ _ ρ _ _ [(0, z_7)] w_7
  refine n_iret dX11_clause_10 hR rfl ?_
  exact ⟨_, rfl, hz_7⟩

set_option maxRecDepth 100000 in
theorem m_clause (a b c : Int) (w : Wd) (h : 0 ≤ w 141 9 ∧ w 141 9 ≤ 9) : CallN 3 mX12_clause [(2, 141), (0, a), (0, b), (0, c)] w (RQ (Two (((-99 ≤ a ∧ a ≤ 99) ∧ (-99 ≤ b ∧ b ≤ 99) ∧ (-99 ≤ c ∧ c ≤ 99)) ∧ w 141 9 < 9) w (-1) (w 141 9) (wu (wu (wu (wu w 208 (3 * (w 141 9)) a) 208 ((3 * (w 141 9)) + 1) b) 208 ((3 * (w 141 9)) + 2) c) 141 9 ((w 141 9) + 1)))) := by
  refine CallN.intro (by decide +kernel) (Nat.le_of_ble_eq_true rfl) (fun ρ hR => ?_)
  show AtN mX12_clause 3 ρ 0 [(0, (2, 141)), (1, (0, a)), (2, (0, b)), (3, (0, c))] [] w
  refine s_iload_n dX12_clause_0 1 rfl (s_bipush dX12_clause_1 (by decide) (s_bipush dX12_clause_3 (by decide) (n_invS (as := [(0, a), (0, (-99)), (0, 99)]) dX12_clause_5 kv_X12_isIn ml_X12_223 (c_isIn a (-99) 99 w) (by decide) rfl rfl (Nat.le_of_ble_eq_true rfl) (n_ifeq_b 42 dX12_clause_8 (by decide) (fun c_8 => ?_) (fun c_8 => ?_)))))
  · skip
    refine s_iconst dX12_clause_42 (by decide) (n_iret dX12_clause_43 hR rfl ?_)
    first | exact ⟨_, rfl, Or.inl ⟨by omega, by omega, rfl⟩⟩ | exact ⟨_, rfl, Or.inr ⟨by omega, by omega, rfl⟩⟩ | (exfalso; omega)
  · skip
    refine s_iload_n dX12_clause_11 2 rfl (s_bipush dX12_clause_12 (by decide) (s_bipush dX12_clause_14 (by decide) (n_invS (as := [(0, b), (0, (-99)), (0, 99)]) dX12_clause_16 kv_X12_isIn ml_X12_223 (c_isIn b (-99) 99 w) (by decide) rfl rfl (Nat.le_of_ble_eq_true rfl) (n_ifeq_b 42 dX12_clause_19 (by decide) (fun c_19 => ?_) (fun c_19 => ?_)))))
    · skip
      refine s_iconst dX12_clause_42 (by decide) (n_iret dX12_clause_43 hR rfl ?_)
      first | exact ⟨_, rfl, Or.inl ⟨by omega, by omega, rfl⟩⟩ | exact ⟨_, rfl, Or.inr ⟨by omega, by omega, rfl⟩⟩ | (exfalso; omega)
    · skip
      refine s_iload_n dX12_clause_22 3 rfl (s_bipush dX12_clause_23 (by decide) (s_bipush dX12_clause_25 (by decide) (n_invS (as := [(0, c), (0, (-99)), (0, 99)]) dX12_clause_27 kv_X12_isIn ml_X12_223 (c_isIn c (-99) 99 w) (by decide) rfl rfl (Nat.le_of_ble_eq_true rfl) (n_ifeq_b 42 dX12_clause_30 (by decide) (fun c_30 => ?_) (fun c_30 => ?_)))))
      · skip
        refine s_iconst dX12_clause_42 (by decide) (n_iret dX12_clause_43 hR rfl ?_)
        first | exact ⟨_, rfl, Or.inl ⟨by omega, by omega, rfl⟩⟩ | exact ⟨_, rfl, Or.inr ⟨by omega, by omega, rfl⟩⟩ | (exfalso; omega)
      · skip
        refine s_aload_n dX12_clause_33 0 rfl rfl (n_getf 141 9 0 dX12_clause_34 cf_X12 ff_X12_494 rfl sh_141 rfl (by decide) (v := (w 141 9)) rfl (s_bipush dX12_clause_37 (by decide) (s_icmp_ne 44 dX12_clause_39 (by decide) (fun c_39 => ?_) (fun c_39 => ?_))))
        · skip
          refine s_aload_n dX12_clause_44 0 rfl rfl (n_getc (q := 208) 141 96 218 dX12_clause_45 cf_X12 ff_X12_214 rfl sh_141 rfl (by decide) rfl (by decide) (s_iconst dX12_clause_48 (by decide) (s_aload_n dX12_clause_49 0 rfl rfl (n_getf 141 9 0 dX12_clause_50 cf_X12 ff_X12_494 rfl sh_141 rfl (by decide) (v := (w 141 9)) rfl (n_mul (z := (3 * (w 141 9))) dX12_clause_53 (wr_id (by omega) (by omega)) (s_iload_n dX12_clause_54 1 rfl (s_iastore 208 dX12_clause_55 rfl sh_208 (by decide) ⟨(by omega), (by omega)⟩ (s_aload_n dX12_clause_56 0 rfl rfl (n_getc (q := 208) 141 96 218 dX12_clause_57 cf_X12 ff_X12_214 rfl sh_141 rfl (by decide) rfl (by decide) ?_)))))))))
          refine s_iconst dX12_clause_60 (by decide) (s_aload_n dX12_clause_61 0 rfl rfl (n_getf 141 9 0 dX12_clause_62 cf_X12 ff_X12_494 rfl sh_141 rfl (by decide) (v := (w 141 9)) rfl (n_mul (z := (3 * (w 141 9))) dX12_clause_65 (wr_id (by omega) (by omega)) (s_iconst dX12_clause_66 (by decide) (n_add (z := ((3 * (w 141 9)) + 1)) dX12_clause_67 (wr_id (by omega) (by omega)) (s_iload_n dX12_clause_68 2 rfl (s_iastore 208 dX12_clause_69 rfl sh_208 (by decide) ⟨(by omega), (by omega)⟩ (s_aload_n dX12_clause_70 0 rfl rfl (n_getc (q := 208) 141 96 218 dX12_clause_71 cf_X12 ff_X12_214 rfl sh_141 rfl (by decide) rfl (by decide) ?_)))))))))
          refine s_iconst dX12_clause_74 (by decide) (s_aload_n dX12_clause_75 0 rfl rfl (n_getf 141 9 0 dX12_clause_76 cf_X12 ff_X12_494 rfl sh_141 rfl (by decide) (v := (w 141 9)) rfl (n_mul (z := (3 * (w 141 9))) dX12_clause_79 (wr_id (by omega) (by omega)) (s_iconst dX12_clause_80 (by decide) (n_add (z := ((3 * (w 141 9)) + 2)) dX12_clause_81 (wr_id (by omega) (by omega)) (s_iload_n dX12_clause_82 3 rfl (s_iastore 208 dX12_clause_83 rfl sh_208 (by decide) ⟨(by omega), (by omega)⟩ (s_aload_n dX12_clause_84 0 rfl rfl (s_dup dX12_clause_85 (show (2 : Nat) ≠ 1 by decide) ?_)))))))))
          refine n_getf 141 9 0 dX12_clause_86 cf_X12 ff_X12_494 rfl sh_141 rfl (by decide) (v := (w 141 9)) rfl (s_iconst dX12_clause_89 (by decide) (n_add (z := ((w 141 9) + 1)) dX12_clause_90 (wr_id (by omega) (by omega)) (n_putf 141 9 9 dX12_clause_91 cf_X12 ff_X12_494 rfl rfl sh_141 rfl rfl rfl (s_aload_n dX12_clause_94 0 rfl rfl (n_getf 141 9 0 dX12_clause_95 cf_X12 ff_X12_494 rfl sh_141 rfl (by decide) (v := ((w 141 9) + 1)) rfl (s_iconst dX12_clause_98 (by decide) (n_sub (z := (((w 141 9) + 1) - 1)) dX12_clause_99 (wr_id (by omega) (by omega)) (n_iret dX12_clause_100 hR rfl ?_))))))))
          first | exact ⟨_, rfl, Or.inl ⟨by omega, by omega, rfl⟩⟩ | exact ⟨_, rfl, Or.inr ⟨by omega, by omega, rfl⟩⟩ | (exfalso; omega)
        · skip
          refine s_iconst dX12_clause_42 (by decide) (n_iret dX12_clause_43 hR rfl ?_)
          first | exact ⟨_, rfl, Or.inl ⟨by omega, by omega, rfl⟩⟩ | exact ⟨_, rfl, Or.inr ⟨by omega, by omega, rfl⟩⟩ | (exfalso; omega)

set_option maxRecDepth 100000 in
theorem c_X_stand (f v : Int) (w : Wd)  : CallN 2 mX9_insist [(2, 135), (0, f), (0, v)] w (RQ (Two ((0 ≤ f ∧ f ≤ 2) ∧ (-999 ≤ v ∧ v ≤ 999)) w 0 1 (wu w 140 f v))) := by
  refine CallN.intro (by decide +kernel) (Nat.le_of_ble_eq_true rfl) (fun ρ hR => ?_)
  show AtN mX9_insist 2 ρ 0 [(0, (2, 135)), (1, (0, f)), (2, (0, v))] [] w
  refine s_iload_n dX9_insist_0 1 rfl (s_iconst dX9_insist_1 (by decide) (s_iconst dX9_insist_2 (by decide) (n_invT (as := [(0, f), (0, 0), (0, 2)]) dX9_insist_3 kv_X11_within ml_X9_20 (c_within f 0 2 w) (by decide) rfl rfl (Nat.le_of_ble_eq_true rfl) (n_ifeq_b 22 dX9_insist_6 (by decide) (fun c_6 => ?_) (fun c_6 => ?_)))))
  · skip
    refine s_iconst dX9_insist_22 (by decide) (n_zret dX9_insist_23 hR rfl (by first | exact Or.inl rfl | exact Or.inr rfl | exact bi_01 _ | omega) ?_)
    first | exact ⟨_, rfl, Or.inl ⟨by omega, by omega, rfl⟩⟩ | exact ⟨_, rfl, Or.inr ⟨by omega, by omega, rfl⟩⟩ | (exfalso; omega)
  · skip
    refine s_iload_n dX9_insist_9 2 rfl (s_sipush dX9_insist_10 (by decide) (s_sipush dX9_insist_13 (by decide) (n_invT (as := [(0, v), (0, (-999)), (0, 999)]) dX9_insist_16 kv_X11_within ml_X9_20 (c_within v (-999) 999 w) (by decide) rfl rfl (Nat.le_of_ble_eq_true rfl) (n_ifne_b 24 dX9_insist_19 (by decide) (fun c_19 => ?_) (fun c_19 => ?_)))))
    · skip
      refine s_aload_n dX9_insist_24 0 rfl rfl (n_getc (q := 140) 135 1 150 dX9_insist_25 cf_X9 ff_X9_16 rfl sh_135 rfl (by decide) rfl (by decide) (s_iload_n dX9_insist_28 1 rfl (s_iload_n dX9_insist_29 2 rfl (s_iastore 140 dX9_insist_30 rfl sh_140 (by decide) ⟨(by omega), (by omega)⟩ (s_iconst dX9_insist_31 (by decide) (n_zret dX9_insist_32 hR rfl (by first | exact Or.inl rfl | exact Or.inr rfl | exact bi_01 _ | omega) ?_))))))
      first | exact ⟨_, rfl, Or.inl ⟨by omega, by omega, rfl⟩⟩ | exact ⟨_, rfl, Or.inr ⟨by omega, by omega, rfl⟩⟩ | (exfalso; omega)
    · skip
      refine s_iconst dX9_insist_22 (by decide) (n_zret dX9_insist_23 hR rfl (by first | exact Or.inl rfl | exact Or.inr rfl | exact bi_01 _ | omega) ?_)
      first | exact ⟨_, rfl, Or.inl ⟨by omega, by omega, rfl⟩⟩ | exact ⟨_, rfl, Or.inr ⟨by omega, by omega, rfl⟩⟩ | (exfalso; omega)

set_option maxRecDepth 100000 in
theorem x_stand (f v : Int) (w : Wd)  : CallN 3 mX11_stand [(2, 0), (0, f), (0, v)] w (RQ (Two ((0 ≤ f ∧ f ≤ 2) ∧ (-999 ≤ v ∧ v ≤ 999)) w 0 1 (wu w 140 f v))) := by
  refine CallN.intro (by decide +kernel) (Nat.le_of_ble_eq_true rfl) (fun ρ hR => ?_)
  show AtN mX11_stand 3 ρ 0 [(0, (2, 0)), (1, (0, f)), (2, (0, v))] [] w
  refine s_aload_n dX11_stand_0 0 rfl rfl (n_getc (q := 135) 0 9 145 dX11_stand_1 cf_X11 ff_X11_83 rfl sh_0 rfl (by decide) rfl (by decide) (s_iload_n dX11_stand_4 1 rfl (s_iload_n dX11_stand_5 2 rfl (n_invV' (as := [(0, f), (0, v)]) dX11_stand_6 kv_X9_insist ml_X11_290 (c_X_stand f v w) (by decide) 135 cf_X9 rfl sh_135 rfl rfl rfl (Nat.le_of_ble_eq_true rfl) ?_))))
  rintro r_6 w_6 ⟨z_6, rfl, hz_6⟩
  show AtN _ _ ρ _ _ [(0, z_6)] w_6
  refine n_zret dX11_stand_9 hR rfl (by first | exact Or.inl rfl | exact Or.inr rfl | exact bi_01 _ | omega) ?_
  exact ⟨_, rfl, hz_6⟩

set_option maxRecDepth 100000 in
theorem m_stand (f v : Int) (w : Wd)  : CallN 2 mX12_stand [(2, 141), (0, f), (0, v)] w (RQ (Two ((0 ≤ f ∧ f ≤ 2) ∧ (-999 ≤ v ∧ v ≤ 999)) w 0 1 (wu w 209 f v))) := by
  refine CallN.intro (by decide +kernel) (Nat.le_of_ble_eq_true rfl) (fun ρ hR => ?_)
  show AtN mX12_stand 2 ρ 0 [(0, (2, 141)), (1, (0, f)), (2, (0, v))] [] w
  refine s_iload_n dX12_stand_0 1 rfl (s_iconst dX12_stand_1 (by decide) (s_iconst dX12_stand_2 (by decide) (n_invS (as := [(0, f), (0, 0), (0, 2)]) dX12_stand_3 kv_X12_isIn ml_X12_223 (c_isIn f 0 2 w) (by decide) rfl rfl (Nat.le_of_ble_eq_true rfl) (n_ifeq_b 22 dX12_stand_6 (by decide) (fun c_6 => ?_) (fun c_6 => ?_)))))
  · skip
    refine s_iconst dX12_stand_22 (by decide) (n_zret dX12_stand_23 hR rfl (by first | exact Or.inl rfl | exact Or.inr rfl | exact bi_01 _ | omega) ?_)
    first | exact ⟨_, rfl, Or.inl ⟨by omega, by omega, rfl⟩⟩ | exact ⟨_, rfl, Or.inr ⟨by omega, by omega, rfl⟩⟩ | (exfalso; omega)
  · skip
    refine s_iload_n dX12_stand_9 2 rfl (s_sipush dX12_stand_10 (by decide) (s_sipush dX12_stand_13 (by decide) (n_invS (as := [(0, v), (0, (-999)), (0, 999)]) dX12_stand_16 kv_X12_isIn ml_X12_223 (c_isIn v (-999) 999 w) (by decide) rfl rfl (Nat.le_of_ble_eq_true rfl) (n_ifne_b 24 dX12_stand_19 (by decide) (fun c_19 => ?_) (fun c_19 => ?_)))))
    · skip
      refine s_aload_n dX12_stand_24 0 rfl rfl (n_getc (q := 209) 141 97 219 dX12_stand_25 cf_X12 ff_X12_217 rfl sh_141 rfl (by decide) rfl (by decide) (s_iload_n dX12_stand_28 1 rfl (s_iload_n dX12_stand_29 2 rfl (s_iastore 209 dX12_stand_30 rfl sh_209 (by decide) ⟨(by omega), (by omega)⟩ (s_iconst dX12_stand_31 (by decide) (n_zret dX12_stand_32 hR rfl (by first | exact Or.inl rfl | exact Or.inr rfl | exact bi_01 _ | omega) ?_))))))
      first | exact ⟨_, rfl, Or.inl ⟨by omega, by omega, rfl⟩⟩ | exact ⟨_, rfl, Or.inr ⟨by omega, by omega, rfl⟩⟩ | (exfalso; omega)
    · skip
      refine s_iconst dX12_stand_22 (by decide) (n_zret dX12_stand_23 hR rfl (by first | exact Or.inl rfl | exact Or.inr rfl | exact bi_01 _ | omega) ?_)
      first | exact ⟨_, rfl, Or.inl ⟨by omega, by omega, rfl⟩⟩ | exact ⟨_, rfl, Or.inr ⟨by omega, by omega, rfl⟩⟩ | (exfalso; omega)

def fauV (a b q : Int) : Int := if q = 0 then a else if q = 1 then b else -1
set_option maxRecDepth 100000 in
theorem x_fault (q : Int) (w : Wd) : CallN 2 mX11_fault [(2, 0), (0, q)] w (RQ (fun z w1 => w1 = w ∧ z = fauV (w 35 3) (w 35 4) q)) := by
  refine CallN.intro (by decide +kernel) (Nat.le_of_ble_eq_true rfl) (fun ρ hR => ?_)
  show AtN mX11_fault 2 ρ 0 [(0, (2, 0)), (1, (0, q))] [] w
  refine s_iload_n dX11_fault_0 1 rfl (s_if_ne 12 dX11_fault_1 (by decide) (fun c_1 => ?_) (fun c_1 => ?_))
  · skip
    refine s_iload_n dX11_fault_12 1 rfl (s_iconst dX11_fault_13 (by decide) (s_icmp_ne 27 dX11_fault_14 (by decide) (fun c_14 => ?_) (fun c_14 => ?_)))
    · skip
      refine s_iconst dX11_fault_27 (by decide) (n_iret dX11_fault_28 hR rfl ?_)
      refine ⟨_, rfl, rfl, ?_⟩
      unfold fauV
      repeat (first | (rw [if_pos (by omega)]; done) | rw [if_neg (by omega)])
    · skip
      refine s_aload_n dX11_fault_17 0 rfl rfl (n_getc (q := 35) 0 3 45 dX11_fault_18 cf_X11 ff_X11_35 rfl sh_0 rfl (by decide) rfl (by decide) (n_getf 35 4 0 dX11_fault_21 cf_X4 ff_X11_182 rfl sh_35 rfl (by decide) (v := (w 35 4)) rfl (s_goto 28 dX11_fault_24 (by decide) (n_iret dX11_fault_28 hR rfl ?_))))
      refine ⟨_, rfl, rfl, ?_⟩
      unfold fauV
      repeat (first | (rw [if_pos (by omega)]; done) | rw [if_neg (by omega)])
  · skip
    refine s_aload_n dX11_fault_4 0 rfl rfl (n_getc (q := 35) 0 3 45 dX11_fault_5 cf_X11 ff_X11_35 rfl sh_0 rfl (by decide) rfl (by decide) (n_getf 35 3 0 dX11_fault_8 cf_X4 ff_X11_179 rfl sh_35 rfl (by decide) (v := (w 35 3)) rfl (n_iret dX11_fault_11 hR rfl ?_)))
    refine ⟨_, rfl, rfl, ?_⟩
    unfold fauV
    repeat (first | (rw [if_pos (by omega)]; done) | rw [if_neg (by omega)])

set_option maxRecDepth 100000 in
theorem m_fault (q : Int) (w : Wd) : CallN 2 mX12_fault [(2, 141), (0, q)] w (RQ (fun z w1 => w1 = w ∧ z = fauV (w 141 57) (w 141 59) q)) := by
  refine CallN.intro (by decide +kernel) (Nat.le_of_ble_eq_true rfl) (fun ρ hR => ?_)
  show AtN mX12_fault 2 ρ 0 [(0, (2, 141)), (1, (0, q))] [] w
  refine s_iload_n dX12_fault_0 1 rfl (s_if_ne 11 dX12_fault_1 (by decide) (fun c_1 => ?_) (fun c_1 => ?_))
  · skip
    refine s_iload_n dX12_fault_11 1 rfl (s_iconst dX12_fault_12 (by decide) (s_icmp_ne 23 dX12_fault_13 (by decide) (fun c_13 => ?_) (fun c_13 => ?_)))
    · skip
      refine s_iconst dX12_fault_23 (by decide) (n_iret dX12_fault_24 hR rfl ?_)
      refine ⟨_, rfl, rfl, ?_⟩
      unfold fauV
      repeat (first | (rw [if_pos (by omega)]; done) | rw [if_neg (by omega)])
    · skip
      refine s_aload_n dX12_fault_16 0 rfl rfl (n_getf 141 59 0 dX12_fault_17 cf_X12 ff_X12_125 rfl sh_141 rfl (by decide) (v := (w 141 59)) rfl (s_goto 24 dX12_fault_20 (by decide) (n_iret dX12_fault_24 hR rfl ?_)))
      refine ⟨_, rfl, rfl, ?_⟩
      unfold fauV
      repeat (first | (rw [if_pos (by omega)]; done) | rw [if_neg (by omega)])
  · skip
    refine s_aload_n dX12_fault_4 0 rfl rfl (n_getf 141 57 0 dX12_fault_5 cf_X12 ff_X12_393 rfl sh_141 rfl (by decide) (v := (w 141 57)) rfl (s_goto 24 dX12_fault_8 (by decide) (n_iret dX12_fault_24 hR rfl ?_)))
    refine ⟨_, rfl, rfl, ?_⟩
    unfold fauV
    repeat (first | (rw [if_pos (by omega)]; done) | rw [if_neg (by omega)])

set_option maxRecDepth 100000 in
theorem c_X_end (n : Int) (w : Wd)  : CallN 2 mX8_cut [(2, 30), (0, n)] w (RQ (Two (0 ≤ n ∧ n ≤ w 30 1) w 0 1 (wu w 30 1 n))) := by
  refine CallN.intro (by decide +kernel) (Nat.le_of_ble_eq_true rfl) (fun ρ hR => ?_)
  show AtN mX8_cut 2 ρ 0 [(0, (2, 30)), (1, (0, n))] [] w
  refine s_iload_n dX8_cut_0 1 rfl (s_iconst dX8_cut_1 (by decide) (s_aload_n dX8_cut_2 0 rfl rfl (n_getf 30 1 0 dX8_cut_3 cf_X8 ff_X8_24 rfl sh_30 rfl (by decide) (v := (w 30 1)) rfl (n_invT (as := [(0, n), (0, 0), (0, (w 30 1))]) dX8_cut_6 kv_X11_within ml_X8_32 (c_within n 0 (w 30 1) w) (by decide) rfl rfl (Nat.le_of_ble_eq_true rfl) (n_ifne_b 14 dX8_cut_9 (by decide) (fun c_9 => ?_) (fun c_9 => ?_))))))
  · skip
    refine s_aload_n dX8_cut_14 0 rfl rfl (s_iload_n dX8_cut_15 1 rfl (n_putf 30 1 1 dX8_cut_16 cf_X8 ff_X8_24 rfl rfl sh_30 rfl rfl rfl (s_iconst dX8_cut_19 (by decide) (n_zret dX8_cut_20 hR rfl (by first | exact Or.inl rfl | exact Or.inr rfl | exact bi_01 _ | omega) ?_))))
    first | exact ⟨_, rfl, Or.inl ⟨by omega, by omega, rfl⟩⟩ | exact ⟨_, rfl, Or.inr ⟨by omega, by omega, rfl⟩⟩ | (exfalso; omega)
  · skip
    refine s_iconst dX8_cut_12 (by decide) (n_zret dX8_cut_13 hR rfl (by first | exact Or.inl rfl | exact Or.inr rfl | exact bi_01 _ | omega) ?_)
    first | exact ⟨_, rfl, Or.inl ⟨by omega, by omega, rfl⟩⟩ | exact ⟨_, rfl, Or.inr ⟨by omega, by omega, rfl⟩⟩ | (exfalso; omega)

set_option maxRecDepth 100000 in
theorem x_end (n : Int) (w : Wd)  : CallN 3 mX11_end [(2, 0), (0, n)] w (RQ (Two (0 ≤ n ∧ n ≤ w 30 1) w 0 1 (wu w 30 1 n))) := by
  refine CallN.intro (by decide +kernel) (Nat.le_of_ble_eq_true rfl) (fun ρ hR => ?_)
  show AtN mX11_end 3 ρ 0 [(0, (2, 0)), (1, (0, n))] [] w
  refine s_aload_n dX11_end_0 0 rfl rfl (n_getc (q := 30) 0 2 40 dX11_end_1 cf_X11 ff_X11_26 rfl sh_0 rfl (by decide) rfl (by decide) (s_iload_n dX11_end_4 1 rfl (n_invV' (as := [(0, n)]) dX11_end_5 kv_X8_cut ml_X11_158 (c_X_end n w) (by decide) 30 cf_X8 rfl sh_30 rfl rfl rfl (Nat.le_of_ble_eq_true rfl) ?_)))
  rintro r_5 w_5 ⟨z_5, rfl, hz_5⟩
  show AtN _ _ ρ _ _ [(0, z_5)] w_5
  refine n_zret dX11_end_8 hR rfl (by first | exact Or.inl rfl | exact Or.inr rfl | exact bi_01 _ | omega) ?_
  exact ⟨_, rfl, hz_5⟩

set_option maxRecDepth 100000 in
theorem m_end (n : Int) (w : Wd)  : CallN 2 mX12_end [(2, 141), (0, n)] w (RQ (Two (0 ≤ n ∧ n ≤ w 141 50) w 0 1 (wu w 141 50 n))) := by
  refine CallN.intro (by decide +kernel) (Nat.le_of_ble_eq_true rfl) (fun ρ hR => ?_)
  show AtN mX12_end 2 ρ 0 [(0, (2, 141)), (1, (0, n))] [] w
  refine s_iload_n dX12_end_0 1 rfl (s_iconst dX12_end_1 (by decide) (s_aload_n dX12_end_2 0 rfl rfl (n_getf 141 50 0 dX12_end_3 cf_X12 ff_X12_277 rfl sh_141 rfl (by decide) (v := (w 141 50)) rfl (n_invS (as := [(0, n), (0, 0), (0, (w 141 50))]) dX12_end_6 kv_X12_isIn ml_X12_223 (c_isIn n 0 (w 141 50) w) (by decide) rfl rfl (Nat.le_of_ble_eq_true rfl) (n_ifne_b 14 dX12_end_9 (by decide) (fun c_9 => ?_) (fun c_9 => ?_))))))
  · skip
    refine s_aload_n dX12_end_14 0 rfl rfl (s_iload_n dX12_end_15 1 rfl (n_putf 141 50 50 dX12_end_16 cf_X12 ff_X12_277 rfl rfl sh_141 rfl rfl rfl (s_iconst dX12_end_19 (by decide) (n_zret dX12_end_20 hR rfl (by first | exact Or.inl rfl | exact Or.inr rfl | exact bi_01 _ | omega) ?_))))
    first | exact ⟨_, rfl, Or.inl ⟨by omega, by omega, rfl⟩⟩ | exact ⟨_, rfl, Or.inr ⟨by omega, by omega, rfl⟩⟩ | (exfalso; omega)
  · skip
    refine s_iconst dX12_end_12 (by decide) (n_zret dX12_end_13 hR rfl (by first | exact Or.inl rfl | exact Or.inr rfl | exact bi_01 _ | omega) ?_)
    first | exact ⟨_, rfl, Or.inl ⟨by omega, by omega, rfl⟩⟩ | exact ⟨_, rfl, Or.inr ⟨by omega, by omega, rfl⟩⟩ | (exfalso; omega)
