/-! PICTURES, PRINTS, EVENTS. -/
abbrev RQ (Q : Int → Wd → Prop) : Option PV → Wd → Prop := fun r w1 => ∃ z, r = some (0, z) ∧ Q z w1
abbrev RQL (Q : Int → Wd → Prop) : Option PV → Wd → Prop := fun r w1 => ∃ z, r = some (1, z) ∧ Q z w1
abbrev RUQ (Q : Wd → Prop) : Option PV → Wd → Prop := fun r w1 => r = none ∧ Q w1
/-- either it can be, and this comes of it, or it can't, and nothing is done -/
abbrev Two (P : Prop) (w : Wd) (no v : Int) (u : Wd) : Int → Wd → Prop := fun z w1 => (P ∧ z = v ∧ w1 = u) ∨ (¬ P ∧ z = no ∧ w1 = w)
abbrev okPic (n m t a k f : Int) : Prop := (0 ≤ m ∧ m ≤ 2) ∧ (0 ≤ t ∧ t ≤ 5) ∧ (0 ≤ a ∧ a ≤ 3) ∧ (0 ≤ k ∧ k ≤ 3) ∧ (100 ≤ f ∧ f ≤ 9999) ∧ (t = 5 ↔ k = 3) ∧ n < 12
abbrev okEv (p kind f n : Int) (np ne fr : Int) : Prop := (0 ≤ p ∧ p < np) ∧ (0 ≤ f ∧ f < fr) ∧ ((kind = 0 ∧ 1 ≤ n ∧ n ≤ 99) ∨ (kind = 1 ∧ 1 ≤ n ∧ n ≤ 99) ∨ (kind = 2 ∧ -9 ≤ n ∧ n ≤ 9 ∧ n ≠ 0) ∨ (kind = 3 ∧ -99 ≤ n ∧ n ≤ 99 ∧ f = 0)) ∧ ne < 150

set_option maxRecDepth 100000 in
theorem c_X_addPicture (m t a k f : Int) (w : Wd) (h : 0 ≤ w 1 5 ∧ w 1 5 ≤ 12) : CallN 2 mX5_addPicture [(2, 1), (0, m), (0, t), (0, a), (0, k), (0, f)] w (RQ (Two (okPic (w 1 5) m t a k f) w (-1) (w 1 5) (wu (wu (wu (wu (wu (wu w 2 (w 1 5) m) 3 (w 1 5) t) 4 (w 1 5) a) 5 (w 1 5) k) 6 (w 1 5) f) 1 5 ((w 1 5) + 1)))) := by
  refine CallN.intro (by decide +kernel) (Nat.le_of_ble_eq_true rfl) (fun ρ hR => ?_)
  show AtN mX5_addPicture 2 ρ 0 [(0, (2, 1)), (1, (0, m)), (2, (0, t)), (3, (0, a)), (4, (0, k)), (5, (0, f))] [] w
  refine s_iload_n dX5_addPicture_0 1 rfl (s_iconst dX5_addPicture_1 (by decide) (s_iconst dX5_addPicture_2 (by decide) (n_invT (as := [(0, m), (0, 0), (0, 2)]) dX5_addPicture_3 kv_X11_within ml_X5_51 (c_within m 0 2 w) (by decide) rfl rfl (Nat.le_of_ble_eq_true rfl) (n_ifeq_b 78 dX5_addPicture_6 (by decide) (fun c_6 => ?_) (fun c_6 => ?_)))))
  · skip
    refine s_iconst dX5_addPicture_78 (by decide) (s_istore dX5_addPicture_79 (Nat.le_of_ble_eq_true rfl) rfl (s_iload dX5_addPicture_81 6 rfl (s_if_eq 95 dX5_addPicture_83 (by decide) (kf := fun c => absurd c (by decide)) (kt := fun _ => s_iconst dX5_addPicture_95 (by decide) (n_iret dX5_addPicture_96 hR rfl ?_)))))
    first | exact ⟨_, rfl, Or.inl ⟨by omega, by omega, rfl⟩⟩ | exact ⟨_, rfl, Or.inr ⟨by omega, by omega, rfl⟩⟩
  · skip
    refine s_iload_n dX5_addPicture_9 2 rfl (s_iconst dX5_addPicture_10 (by decide) (s_iconst dX5_addPicture_11 (by decide) (n_invT (as := [(0, t), (0, 0), (0, 5)]) dX5_addPicture_12 kv_X11_within ml_X5_51 (c_within t 0 5 w) (by decide) rfl rfl (Nat.le_of_ble_eq_true rfl) (n_ifeq_b 78 dX5_addPicture_15 (by decide) (fun c_15 => ?_) (fun c_15 => ?_)))))
    · skip
      refine s_iconst dX5_addPicture_78 (by decide) (s_istore dX5_addPicture_79 (Nat.le_of_ble_eq_true rfl) rfl (s_iload dX5_addPicture_81 6 rfl (s_if_eq 95 dX5_addPicture_83 (by decide) (kf := fun c => absurd c (by decide)) (kt := fun _ => s_iconst dX5_addPicture_95 (by decide) (n_iret dX5_addPicture_96 hR rfl ?_)))))
      first | exact ⟨_, rfl, Or.inl ⟨by omega, by omega, rfl⟩⟩ | exact ⟨_, rfl, Or.inr ⟨by omega, by omega, rfl⟩⟩
    · skip
      refine s_iload_n dX5_addPicture_18 3 rfl (s_iconst dX5_addPicture_19 (by decide) (s_iconst dX5_addPicture_20 (by decide) (n_invT (as := [(0, a), (0, 0), (0, 3)]) dX5_addPicture_21 kv_X11_within ml_X5_51 (c_within a 0 3 w) (by decide) rfl rfl (Nat.le_of_ble_eq_true rfl) (n_ifeq_b 78 dX5_addPicture_24 (by decide) (fun c_24 => ?_) (fun c_24 => ?_)))))
      · skip
        refine s_iconst dX5_addPicture_78 (by decide) (s_istore dX5_addPicture_79 (Nat.le_of_ble_eq_true rfl) rfl (s_iload dX5_addPicture_81 6 rfl (s_if_eq 95 dX5_addPicture_83 (by decide) (kf := fun c => absurd c (by decide)) (kt := fun _ => s_iconst dX5_addPicture_95 (by decide) (n_iret dX5_addPicture_96 hR rfl ?_)))))
        first | exact ⟨_, rfl, Or.inl ⟨by omega, by omega, rfl⟩⟩ | exact ⟨_, rfl, Or.inr ⟨by omega, by omega, rfl⟩⟩
      · skip
        refine s_iload dX5_addPicture_27 4 rfl (s_iconst dX5_addPicture_29 (by decide) (s_iconst dX5_addPicture_30 (by decide) (n_invT (as := [(0, k), (0, 0), (0, 3)]) dX5_addPicture_31 kv_X11_within ml_X5_51 (c_within k 0 3 w) (by decide) rfl rfl (Nat.le_of_ble_eq_true rfl) (n_ifeq_b 78 dX5_addPicture_34 (by decide) (fun c_34 => ?_) (fun c_34 => ?_)))))
        · skip
          refine s_iconst dX5_addPicture_78 (by decide) (s_istore dX5_addPicture_79 (Nat.le_of_ble_eq_true rfl) rfl (s_iload dX5_addPicture_81 6 rfl (s_if_eq 95 dX5_addPicture_83 (by decide) (kf := fun c => absurd c (by decide)) (kt := fun _ => s_iconst dX5_addPicture_95 (by decide) (n_iret dX5_addPicture_96 hR rfl ?_)))))
          first | exact ⟨_, rfl, Or.inl ⟨by omega, by omega, rfl⟩⟩ | exact ⟨_, rfl, Or.inr ⟨by omega, by omega, rfl⟩⟩
        · skip
          refine s_iload dX5_addPicture_37 5 rfl (s_bipush dX5_addPicture_39 (by decide) (s_sipush dX5_addPicture_41 (by decide) (n_invT (as := [(0, f), (0, 100), (0, 9999)]) dX5_addPicture_44 kv_X11_within ml_X5_51 (c_within f 100 9999 w) (by decide) rfl rfl (Nat.le_of_ble_eq_true rfl) (n_ifeq_b 78 dX5_addPicture_47 (by decide) (fun c_47 => ?_) (fun c_47 => ?_)))))
          · skip
            refine s_iconst dX5_addPicture_78 (by decide) (s_istore dX5_addPicture_79 (Nat.le_of_ble_eq_true rfl) rfl (s_iload dX5_addPicture_81 6 rfl (s_if_eq 95 dX5_addPicture_83 (by decide) (kf := fun c => absurd c (by decide)) (kt := fun _ => s_iconst dX5_addPicture_95 (by decide) (n_iret dX5_addPicture_96 hR rfl ?_)))))
            first | exact ⟨_, rfl, Or.inl ⟨by omega, by omega, rfl⟩⟩ | exact ⟨_, rfl, Or.inr ⟨by omega, by omega, rfl⟩⟩
          · skip
            refine s_iload_n dX5_addPicture_50 2 rfl (s_iconst dX5_addPicture_51 (by decide) (s_icmp_ne 59 dX5_addPicture_52 (by decide) (fun c_52 => ?_) (fun c_52 => ?_)))
            · skip
              refine s_iconst dX5_addPicture_59 (by decide) (s_iload dX5_addPicture_60 4 rfl (s_iconst dX5_addPicture_62 (by decide) (s_icmp_ne 70 dX5_addPicture_63 (by decide) (fun c_63 => ?_) (fun c_63 => ?_))))
              · skip
                refine s_iconst dX5_addPicture_70 (by decide) (s_icmp_ne 78 dX5_addPicture_71 (by decide) (kt := fun c => absurd c (by decide)) (kf := fun _ => s_iconst dX5_addPicture_74 (by decide) (s_goto 79 dX5_addPicture_75 (by decide) (s_istore dX5_addPicture_79 (Nat.le_of_ble_eq_true rfl) rfl (s_iload dX5_addPicture_81 6 rfl (s_if_eq 95 dX5_addPicture_83 (by decide) (kt := fun c => absurd c (by decide)) (kf := fun _ => s_aload_n dX5_addPicture_86 0 rfl rfl (n_getf 1 5 0 dX5_addPicture_87 cf_X5 ff_X5_55 rfl sh_1 rfl (by decide) (v := (w 1 5)) rfl (s_bipush dX5_addPicture_90 (by decide) ?_)))))))))
                refine s_icmp_lt 97 dX5_addPicture_92 (by decide) (fun c_92 => ?_) (fun c_92 => ?_)
                · skip
                  refine s_aload_n dX5_addPicture_97 0 rfl rfl (n_getc (q := 2) 1 0 12 dX5_addPicture_98 cf_X5 ff_X5_9 rfl sh_1 rfl (by decide) rfl (by decide) (s_aload_n dX5_addPicture_101 0 rfl rfl (n_getf 1 5 0 dX5_addPicture_102 cf_X5 ff_X5_55 rfl sh_1 rfl (by decide) (v := (w 1 5)) rfl (s_iload_n dX5_addPicture_105 1 rfl (s_iastore 2 dX5_addPicture_106 rfl sh_2 (by decide) ⟨(by omega), (by omega)⟩ (s_aload_n dX5_addPicture_107 0 rfl rfl (n_getc (q := 3) 1 1 13 dX5_addPicture_108 cf_X5 ff_X5_15 rfl sh_1 rfl (by decide) rfl (by decide) (s_aload_n dX5_addPicture_111 0 rfl rfl (n_getf 1 5 0 dX5_addPicture_112 cf_X5 ff_X5_55 rfl sh_1 rfl (by decide) (v := (w 1 5)) rfl ?_)))))))))
                  refine s_iload_n dX5_addPicture_115 2 rfl (s_iastore 3 dX5_addPicture_116 rfl sh_3 (by decide) ⟨(by omega), (by omega)⟩ (s_aload_n dX5_addPicture_117 0 rfl rfl (n_getc (q := 4) 1 2 14 dX5_addPicture_118 cf_X5 ff_X5_18 rfl sh_1 rfl (by decide) rfl (by decide) (s_aload_n dX5_addPicture_121 0 rfl rfl (n_getf 1 5 0 dX5_addPicture_122 cf_X5 ff_X5_55 rfl sh_1 rfl (by decide) (v := (w 1 5)) rfl (s_iload_n dX5_addPicture_125 3 rfl (s_iastore 4 dX5_addPicture_126 rfl sh_4 (by decide) ⟨(by omega), (by omega)⟩ (s_aload_n dX5_addPicture_127 0 rfl rfl (n_getc (q := 5) 1 3 15 dX5_addPicture_128 cf_X5 ff_X5_21 rfl sh_1 rfl (by decide) rfl (by decide) ?_)))))))))
                  refine s_aload_n dX5_addPicture_131 0 rfl rfl (n_getf 1 5 0 dX5_addPicture_132 cf_X5 ff_X5_55 rfl sh_1 rfl (by decide) (v := (w 1 5)) rfl (s_iload dX5_addPicture_135 4 rfl (s_iastore 5 dX5_addPicture_137 rfl sh_5 (by decide) ⟨(by omega), (by omega)⟩ (s_aload_n dX5_addPicture_138 0 rfl rfl (n_getc (q := 6) 1 4 16 dX5_addPicture_139 cf_X5 ff_X5_24 rfl sh_1 rfl (by decide) rfl (by decide) (s_aload_n dX5_addPicture_142 0 rfl rfl (n_getf 1 5 0 dX5_addPicture_143 cf_X5 ff_X5_55 rfl sh_1 rfl (by decide) (v := (w 1 5)) rfl (s_iload dX5_addPicture_146 5 rfl (s_iastore 6 dX5_addPicture_148 rfl sh_6 (by decide) ⟨(by omega), (by omega)⟩ ?_)))))))))
                  refine s_aload_n dX5_addPicture_149 0 rfl rfl (s_dup dX5_addPicture_150 (show (2 : Nat) ≠ 1 by decide) (n_getf 1 5 0 dX5_addPicture_151 cf_X5 ff_X5_55 rfl sh_1 rfl (by decide) (v := (w 1 5)) rfl (s_iconst dX5_addPicture_154 (by decide) (n_add (z := ((w 1 5) + 1)) dX5_addPicture_155 (wr_id (by omega) (by omega)) (n_putf 1 5 5 dX5_addPicture_156 cf_X5 ff_X5_55 rfl rfl sh_1 rfl rfl rfl (s_aload_n dX5_addPicture_159 0 rfl rfl (n_getf 1 5 0 dX5_addPicture_160 cf_X5 ff_X5_55 rfl sh_1 rfl (by decide) (v := ((w 1 5) + 1)) rfl (s_iconst dX5_addPicture_163 (by decide) (n_sub (z := (((w 1 5) + 1) - 1)) dX5_addPicture_164 (wr_id (by omega) (by omega)) ?_)))))))))
                  refine n_iret dX5_addPicture_165 hR rfl ?_
                  first | exact ⟨_, rfl, Or.inl ⟨by omega, by omega, rfl⟩⟩ | exact ⟨_, rfl, Or.inr ⟨by omega, by omega, rfl⟩⟩
                · skip
                  refine s_iconst dX5_addPicture_95 (by decide) (n_iret dX5_addPicture_96 hR rfl ?_)
                  first | exact ⟨_, rfl, Or.inl ⟨by omega, by omega, rfl⟩⟩ | exact ⟨_, rfl, Or.inr ⟨by omega, by omega, rfl⟩⟩
              · skip
                refine s_iconst dX5_addPicture_66 (by decide) (s_goto 71 dX5_addPicture_67 (by decide) (s_icmp_ne 78 dX5_addPicture_71 (by decide) (kf := fun c => absurd c (by decide)) (kt := fun _ => s_iconst dX5_addPicture_78 (by decide) (s_istore dX5_addPicture_79 (Nat.le_of_ble_eq_true rfl) rfl (s_iload dX5_addPicture_81 6 rfl (s_if_eq 95 dX5_addPicture_83 (by decide) (kf := fun c => absurd c (by decide)) (kt := fun _ => s_iconst dX5_addPicture_95 (by decide) (n_iret dX5_addPicture_96 hR rfl ?_))))))))
                first | exact ⟨_, rfl, Or.inl ⟨by omega, by omega, rfl⟩⟩ | exact ⟨_, rfl, Or.inr ⟨by omega, by omega, rfl⟩⟩
            · skip
              refine s_iconst dX5_addPicture_55 (by decide) (s_goto 60 dX5_addPicture_56 (by decide) (s_iload dX5_addPicture_60 4 rfl (s_iconst dX5_addPicture_62 (by decide) (s_icmp_ne 70 dX5_addPicture_63 (by decide) (fun c_63 => ?_) (fun c_63 => ?_)))))
              · skip
                refine s_iconst dX5_addPicture_70 (by decide) (s_icmp_ne 78 dX5_addPicture_71 (by decide) (kf := fun c => absurd c (by decide)) (kt := fun _ => s_iconst dX5_addPicture_78 (by decide) (s_istore dX5_addPicture_79 (Nat.le_of_ble_eq_true rfl) rfl (s_iload dX5_addPicture_81 6 rfl (s_if_eq 95 dX5_addPicture_83 (by decide) (kf := fun c => absurd c (by decide)) (kt := fun _ => s_iconst dX5_addPicture_95 (by decide) (n_iret dX5_addPicture_96 hR rfl ?_)))))))
                first | exact ⟨_, rfl, Or.inl ⟨by omega, by omega, rfl⟩⟩ | exact ⟨_, rfl, Or.inr ⟨by omega, by omega, rfl⟩⟩
              · skip
                refine s_iconst dX5_addPicture_66 (by decide) (s_goto 71 dX5_addPicture_67 (by decide) (s_icmp_ne 78 dX5_addPicture_71 (by decide) (kt := fun c => absurd c (by decide)) (kf := fun _ => s_iconst dX5_addPicture_74 (by decide) (s_goto 79 dX5_addPicture_75 (by decide) (s_istore dX5_addPicture_79 (Nat.le_of_ble_eq_true rfl) rfl (s_iload dX5_addPicture_81 6 rfl (s_if_eq 95 dX5_addPicture_83 (by decide) (kt := fun c => absurd c (by decide)) (kf := fun _ => s_aload_n dX5_addPicture_86 0 rfl rfl (n_getf 1 5 0 dX5_addPicture_87 cf_X5 ff_X5_55 rfl sh_1 rfl (by decide) (v := (w 1 5)) rfl ?_)))))))))
                refine s_bipush dX5_addPicture_90 (by decide) (s_icmp_lt 97 dX5_addPicture_92 (by decide) (fun c_92 => ?_) (fun c_92 => ?_))
                · skip
                  refine s_aload_n dX5_addPicture_97 0 rfl rfl (n_getc (q := 2) 1 0 12 dX5_addPicture_98 cf_X5 ff_X5_9 rfl sh_1 rfl (by decide) rfl (by decide) (s_aload_n dX5_addPicture_101 0 rfl rfl (n_getf 1 5 0 dX5_addPicture_102 cf_X5 ff_X5_55 rfl sh_1 rfl (by decide) (v := (w 1 5)) rfl (s_iload_n dX5_addPicture_105 1 rfl (s_iastore 2 dX5_addPicture_106 rfl sh_2 (by decide) ⟨(by omega), (by omega)⟩ (s_aload_n dX5_addPicture_107 0 rfl rfl (n_getc (q := 3) 1 1 13 dX5_addPicture_108 cf_X5 ff_X5_15 rfl sh_1 rfl (by decide) rfl (by decide) (s_aload_n dX5_addPicture_111 0 rfl rfl (n_getf 1 5 0 dX5_addPicture_112 cf_X5 ff_X5_55 rfl sh_1 rfl (by decide) (v := (w 1 5)) rfl ?_)))))))))
                  refine s_iload_n dX5_addPicture_115 2 rfl (s_iastore 3 dX5_addPicture_116 rfl sh_3 (by decide) ⟨(by omega), (by omega)⟩ (s_aload_n dX5_addPicture_117 0 rfl rfl (n_getc (q := 4) 1 2 14 dX5_addPicture_118 cf_X5 ff_X5_18 rfl sh_1 rfl (by decide) rfl (by decide) (s_aload_n dX5_addPicture_121 0 rfl rfl (n_getf 1 5 0 dX5_addPicture_122 cf_X5 ff_X5_55 rfl sh_1 rfl (by decide) (v := (w 1 5)) rfl (s_iload_n dX5_addPicture_125 3 rfl (s_iastore 4 dX5_addPicture_126 rfl sh_4 (by decide) ⟨(by omega), (by omega)⟩ (s_aload_n dX5_addPicture_127 0 rfl rfl (n_getc (q := 5) 1 3 15 dX5_addPicture_128 cf_X5 ff_X5_21 rfl sh_1 rfl (by decide) rfl (by decide) ?_)))))))))
                  refine s_aload_n dX5_addPicture_131 0 rfl rfl (n_getf 1 5 0 dX5_addPicture_132 cf_X5 ff_X5_55 rfl sh_1 rfl (by decide) (v := (w 1 5)) rfl (s_iload dX5_addPicture_135 4 rfl (s_iastore 5 dX5_addPicture_137 rfl sh_5 (by decide) ⟨(by omega), (by omega)⟩ (s_aload_n dX5_addPicture_138 0 rfl rfl (n_getc (q := 6) 1 4 16 dX5_addPicture_139 cf_X5 ff_X5_24 rfl sh_1 rfl (by decide) rfl (by decide) (s_aload_n dX5_addPicture_142 0 rfl rfl (n_getf 1 5 0 dX5_addPicture_143 cf_X5 ff_X5_55 rfl sh_1 rfl (by decide) (v := (w 1 5)) rfl (s_iload dX5_addPicture_146 5 rfl (s_iastore 6 dX5_addPicture_148 rfl sh_6 (by decide) ⟨(by omega), (by omega)⟩ ?_)))))))))
                  refine s_aload_n dX5_addPicture_149 0 rfl rfl (s_dup dX5_addPicture_150 (show (2 : Nat) ≠ 1 by decide) (n_getf 1 5 0 dX5_addPicture_151 cf_X5 ff_X5_55 rfl sh_1 rfl (by decide) (v := (w 1 5)) rfl (s_iconst dX5_addPicture_154 (by decide) (n_add (z := ((w 1 5) + 1)) dX5_addPicture_155 (wr_id (by omega) (by omega)) (n_putf 1 5 5 dX5_addPicture_156 cf_X5 ff_X5_55 rfl rfl sh_1 rfl rfl rfl (s_aload_n dX5_addPicture_159 0 rfl rfl (n_getf 1 5 0 dX5_addPicture_160 cf_X5 ff_X5_55 rfl sh_1 rfl (by decide) (v := ((w 1 5) + 1)) rfl (s_iconst dX5_addPicture_163 (by decide) (n_sub (z := (((w 1 5) + 1) - 1)) dX5_addPicture_164 (wr_id (by omega) (by omega)) ?_)))))))))
                  refine n_iret dX5_addPicture_165 hR rfl ?_
                  first | exact ⟨_, rfl, Or.inl ⟨by omega, by omega, rfl⟩⟩ | exact ⟨_, rfl, Or.inr ⟨by omega, by omega, rfl⟩⟩
                · skip
                  refine s_iconst dX5_addPicture_95 (by decide) (n_iret dX5_addPicture_96 hR rfl ?_)
                  first | exact ⟨_, rfl, Or.inl ⟨by omega, by omega, rfl⟩⟩ | exact ⟨_, rfl, Or.inr ⟨by omega, by omega, rfl⟩⟩

set_option maxRecDepth 100000 in
theorem x_picture (m t a k f : Int) (w : Wd) (h : 0 ≤ w 1 5 ∧ w 1 5 ≤ 12) : CallN 3 mX11_picture [(2, 0), (0, m), (0, t), (0, a), (0, k), (0, f)] w (RQ (Two (okPic (w 1 5) m t a k f) w (-1) (w 1 5) (wu (wu (wu (wu (wu (wu w 2 (w 1 5) m) 3 (w 1 5) t) 4 (w 1 5) a) 5 (w 1 5) k) 6 (w 1 5) f) 1 5 ((w 1 5) + 1)))) := by
  refine CallN.intro (by decide +kernel) (Nat.le_of_ble_eq_true rfl) (fun ρ hR => ?_)
  show AtN mX11_picture 3 ρ 0 [(0, (2, 0)), (1, (0, m)), (2, (0, t)), (3, (0, a)), (4, (0, k)), (5, (0, f))] [] w
  refine s_aload_n dX11_picture_0 0 rfl rfl (n_getc (q := 1) 0 0 11 dX11_picture_1 cf_X11 ff_X11_10 rfl sh_0 rfl (by decide) rfl (by decide) (s_iload_n dX11_picture_4 1 rfl (s_iload_n dX11_picture_5 2 rfl (s_iload_n dX11_picture_6 3 rfl (s_iload dX11_picture_7 4 rfl (s_iload dX11_picture_9 5 rfl (n_invV' (as := [(0, m), (0, t), (0, a), (0, k), (0, f)]) dX11_picture_11 kv_X5_addPicture ml_X11_91 (c_X_addPicture m t a k f w h) (by decide) 1 cf_X5 rfl sh_1 rfl rfl rfl (Nat.le_of_ble_eq_true rfl) ?_)))))))
  rintro r_11 w_11 ⟨z_11, rfl, hz_11⟩
  show AtN _ _ ρ _ _ [(0, z_11)] w_11
  refine n_iret dX11_picture_14 hR rfl ?_
  exact ⟨_, rfl, hz_11⟩

set_option maxRecDepth 100000 in
theorem m_picture (m t a k f : Int) (w : Wd) (h : 0 ≤ w 141 1 ∧ w 141 1 ≤ 12) : CallN 2 mX12_picture [(2, 141), (0, m), (0, t), (0, a), (0, k), (0, f)] w (RQ (Two (okPic (w 141 1) m t a k f) w (-1) (w 141 1) (wu (wu (wu (wu (wu (wu w 142 (w 141 1) m) 143 (w 141 1) t) 144 (w 141 1) a) 145 (w 141 1) k) 146 (w 141 1) f) 141 1 ((w 141 1) + 1)))) := by
  refine CallN.intro (by decide +kernel) (Nat.le_of_ble_eq_true rfl) (fun ρ hR => ?_)
  show AtN mX12_picture 2 ρ 0 [(0, (2, 141)), (1, (0, m)), (2, (0, t)), (3, (0, a)), (4, (0, k)), (5, (0, f))] [] w
  refine s_iload_n dX12_picture_0 1 rfl (s_iconst dX12_picture_1 (by decide) (s_iconst dX12_picture_2 (by decide) (n_invS (as := [(0, m), (0, 0), (0, 2)]) dX12_picture_3 kv_X12_isIn ml_X12_223 (c_isIn m 0 2 w) (by decide) rfl rfl (Nat.le_of_ble_eq_true rfl) (n_ifeq_b 83 dX12_picture_6 (by decide) (fun c_6 => ?_) (fun c_6 => ?_)))))
  · skip
    refine s_iconst dX12_picture_83 (by decide) (n_iret dX12_picture_84 hR rfl ?_)
    first | exact ⟨_, rfl, Or.inl ⟨by omega, by omega, rfl⟩⟩ | exact ⟨_, rfl, Or.inr ⟨by omega, by omega, rfl⟩⟩
  · skip
    refine s_iload_n dX12_picture_9 2 rfl (s_iconst dX12_picture_10 (by decide) (s_iconst dX12_picture_11 (by decide) (n_invS (as := [(0, t), (0, 0), (0, 5)]) dX12_picture_12 kv_X12_isIn ml_X12_223 (c_isIn t 0 5 w) (by decide) rfl rfl (Nat.le_of_ble_eq_true rfl) (n_ifeq_b 83 dX12_picture_15 (by decide) (fun c_15 => ?_) (fun c_15 => ?_)))))
    · skip
      refine s_iconst dX12_picture_83 (by decide) (n_iret dX12_picture_84 hR rfl ?_)
      first | exact ⟨_, rfl, Or.inl ⟨by omega, by omega, rfl⟩⟩ | exact ⟨_, rfl, Or.inr ⟨by omega, by omega, rfl⟩⟩
    · skip
      refine s_iload_n dX12_picture_18 3 rfl (s_iconst dX12_picture_19 (by decide) (s_iconst dX12_picture_20 (by decide) (n_invS (as := [(0, a), (0, 0), (0, 3)]) dX12_picture_21 kv_X12_isIn ml_X12_223 (c_isIn a 0 3 w) (by decide) rfl rfl (Nat.le_of_ble_eq_true rfl) (n_ifeq_b 83 dX12_picture_24 (by decide) (fun c_24 => ?_) (fun c_24 => ?_)))))
      · skip
        refine s_iconst dX12_picture_83 (by decide) (n_iret dX12_picture_84 hR rfl ?_)
        first | exact ⟨_, rfl, Or.inl ⟨by omega, by omega, rfl⟩⟩ | exact ⟨_, rfl, Or.inr ⟨by omega, by omega, rfl⟩⟩
      · skip
        refine s_iload dX12_picture_27 4 rfl (s_iconst dX12_picture_29 (by decide) (s_iconst dX12_picture_30 (by decide) (n_invS (as := [(0, k), (0, 0), (0, 3)]) dX12_picture_31 kv_X12_isIn ml_X12_223 (c_isIn k 0 3 w) (by decide) rfl rfl (Nat.le_of_ble_eq_true rfl) (n_ifeq_b 83 dX12_picture_34 (by decide) (fun c_34 => ?_) (fun c_34 => ?_)))))
        · skip
          refine s_iconst dX12_picture_83 (by decide) (n_iret dX12_picture_84 hR rfl ?_)
          first | exact ⟨_, rfl, Or.inl ⟨by omega, by omega, rfl⟩⟩ | exact ⟨_, rfl, Or.inr ⟨by omega, by omega, rfl⟩⟩
        · skip
          refine s_iload dX12_picture_37 4 rfl (s_iconst dX12_picture_39 (by decide) (s_icmp_ne 47 dX12_picture_40 (by decide) (fun c_40 => ?_) (fun c_40 => ?_)))
          · skip
            refine s_iconst dX12_picture_47 (by decide) (s_iload_n dX12_picture_48 2 rfl (s_iconst dX12_picture_49 (by decide) (s_icmp_ne 57 dX12_picture_50 (by decide) (fun c_50 => ?_) (fun c_50 => ?_))))
            · skip
              refine s_iconst dX12_picture_57 (by decide) (s_icmp_ne 83 dX12_picture_58 (by decide) (kt := fun c => absurd c (by decide)) (kf := fun _ => s_iload dX12_picture_61 5 rfl (s_bipush dX12_picture_63 (by decide) (s_sipush dX12_picture_65 (by decide) (n_invS (as := [(0, f), (0, 100), (0, 9999)]) dX12_picture_68 kv_X12_isIn ml_X12_223 (c_isIn f 100 9999 w) (by decide) rfl rfl (Nat.le_of_ble_eq_true rfl) (n_ifeq_b 83 dX12_picture_71 (by decide) (fun c_71 => ?_) (fun c_71 => ?_)))))))
              · skip
                refine s_iconst dX12_picture_83 (by decide) (n_iret dX12_picture_84 hR rfl ?_)
                first | exact ⟨_, rfl, Or.inl ⟨by omega, by omega, rfl⟩⟩ | exact ⟨_, rfl, Or.inr ⟨by omega, by omega, rfl⟩⟩
              · skip
                refine s_aload_n dX12_picture_74 0 rfl rfl (n_getf 141 1 0 dX12_picture_75 cf_X12 ff_X12_220 rfl sh_141 rfl (by decide) (v := (w 141 1)) rfl (s_bipush dX12_picture_78 (by decide) (s_icmp_ne 85 dX12_picture_80 (by decide) (fun c_80 => ?_) (fun c_80 => ?_))))
                · skip
                  refine s_aload_n dX12_picture_85 0 rfl rfl (n_getc (q := 142) 141 10 152 dX12_picture_86 cf_X12 ff_X12_7 rfl sh_141 rfl (by decide) rfl (by decide) (s_aload_n dX12_picture_89 0 rfl rfl (n_getf 141 1 0 dX12_picture_90 cf_X12 ff_X12_220 rfl sh_141 rfl (by decide) (v := (w 141 1)) rfl (s_iload_n dX12_picture_93 1 rfl (s_iastore 142 dX12_picture_94 rfl sh_142 (by decide) ⟨(by omega), (by omega)⟩ (s_aload_n dX12_picture_95 0 rfl rfl (n_getc (q := 143) 141 11 153 dX12_picture_96 cf_X12 ff_X12_13 rfl sh_141 rfl (by decide) rfl (by decide) (s_aload_n dX12_picture_99 0 rfl rfl (n_getf 141 1 0 dX12_picture_100 cf_X12 ff_X12_220 rfl sh_141 rfl (by decide) (v := (w 141 1)) rfl ?_)))))))))
                  refine s_iload_n dX12_picture_103 2 rfl (s_iastore 143 dX12_picture_104 rfl sh_143 (by decide) ⟨(by omega), (by omega)⟩ (s_aload_n dX12_picture_105 0 rfl rfl (n_getc (q := 144) 141 12 154 dX12_picture_106 cf_X12 ff_X12_16 rfl sh_141 rfl (by decide) rfl (by decide) (s_aload_n dX12_picture_109 0 rfl rfl (n_getf 141 1 0 dX12_picture_110 cf_X12 ff_X12_220 rfl sh_141 rfl (by decide) (v := (w 141 1)) rfl (s_iload_n dX12_picture_113 3 rfl (s_iastore 144 dX12_picture_114 rfl sh_144 (by decide) ⟨(by omega), (by omega)⟩ (s_aload_n dX12_picture_115 0 rfl rfl (n_getc (q := 145) 141 13 155 dX12_picture_116 cf_X12 ff_X12_19 rfl sh_141 rfl (by decide) rfl (by decide) ?_)))))))))
                  refine s_aload_n dX12_picture_119 0 rfl rfl (n_getf 141 1 0 dX12_picture_120 cf_X12 ff_X12_220 rfl sh_141 rfl (by decide) (v := (w 141 1)) rfl (s_iload dX12_picture_123 4 rfl (s_iastore 145 dX12_picture_125 rfl sh_145 (by decide) ⟨(by omega), (by omega)⟩ (s_aload_n dX12_picture_126 0 rfl rfl (n_getc (q := 146) 141 14 156 dX12_picture_127 cf_X12 ff_X12_22 rfl sh_141 rfl (by decide) rfl (by decide) (s_aload_n dX12_picture_130 0 rfl rfl (n_getf 141 1 0 dX12_picture_131 cf_X12 ff_X12_220 rfl sh_141 rfl (by decide) (v := (w 141 1)) rfl (s_iload dX12_picture_134 5 rfl (s_iastore 146 dX12_picture_136 rfl sh_146 (by decide) ⟨(by omega), (by omega)⟩ ?_)))))))))
                  refine s_aload_n dX12_picture_137 0 rfl rfl (s_dup dX12_picture_138 (show (2 : Nat) ≠ 1 by decide) (n_getf 141 1 0 dX12_picture_139 cf_X12 ff_X12_220 rfl sh_141 rfl (by decide) (v := (w 141 1)) rfl (s_iconst dX12_picture_142 (by decide) (n_add (z := ((w 141 1) + 1)) dX12_picture_143 (wr_id (by omega) (by omega)) (n_putf 141 1 1 dX12_picture_144 cf_X12 ff_X12_220 rfl rfl sh_141 rfl rfl rfl (s_aload_n dX12_picture_147 0 rfl rfl (n_getf 141 1 0 dX12_picture_148 cf_X12 ff_X12_220 rfl sh_141 rfl (by decide) (v := ((w 141 1) + 1)) rfl (s_iconst dX12_picture_151 (by decide) (n_sub (z := (((w 141 1) + 1) - 1)) dX12_picture_152 (wr_id (by omega) (by omega)) ?_)))))))))
                  refine n_iret dX12_picture_153 hR rfl ?_
                  first | exact ⟨_, rfl, Or.inl ⟨by omega, by omega, rfl⟩⟩ | exact ⟨_, rfl, Or.inr ⟨by omega, by omega, rfl⟩⟩
                · skip
                  refine s_iconst dX12_picture_83 (by decide) (n_iret dX12_picture_84 hR rfl ?_)
                  first | exact ⟨_, rfl, Or.inl ⟨by omega, by omega, rfl⟩⟩ | exact ⟨_, rfl, Or.inr ⟨by omega, by omega, rfl⟩⟩
            · skip
              refine s_iconst dX12_picture_53 (by decide) (s_goto 58 dX12_picture_54 (by decide) (s_icmp_ne 83 dX12_picture_58 (by decide) (kf := fun c => absurd c (by decide)) (kt := fun _ => s_iconst dX12_picture_83 (by decide) (n_iret dX12_picture_84 hR rfl ?_))))
              first | exact ⟨_, rfl, Or.inl ⟨by omega, by omega, rfl⟩⟩ | exact ⟨_, rfl, Or.inr ⟨by omega, by omega, rfl⟩⟩
          · skip
            refine s_iconst dX12_picture_43 (by decide) (s_goto 48 dX12_picture_44 (by decide) (s_iload_n dX12_picture_48 2 rfl (s_iconst dX12_picture_49 (by decide) (s_icmp_ne 57 dX12_picture_50 (by decide) (fun c_50 => ?_) (fun c_50 => ?_)))))
            · skip
              refine s_iconst dX12_picture_57 (by decide) (s_icmp_ne 83 dX12_picture_58 (by decide) (kf := fun c => absurd c (by decide)) (kt := fun _ => s_iconst dX12_picture_83 (by decide) (n_iret dX12_picture_84 hR rfl ?_)))
              first | exact ⟨_, rfl, Or.inl ⟨by omega, by omega, rfl⟩⟩ | exact ⟨_, rfl, Or.inr ⟨by omega, by omega, rfl⟩⟩
            · skip
              refine s_iconst dX12_picture_53 (by decide) (s_goto 58 dX12_picture_54 (by decide) (s_icmp_ne 83 dX12_picture_58 (by decide) (kt := fun c => absurd c (by decide)) (kf := fun _ => s_iload dX12_picture_61 5 rfl (s_bipush dX12_picture_63 (by decide) (s_sipush dX12_picture_65 (by decide) (n_invS (as := [(0, f), (0, 100), (0, 9999)]) dX12_picture_68 kv_X12_isIn ml_X12_223 (c_isIn f 100 9999 w) (by decide) rfl rfl (Nat.le_of_ble_eq_true rfl) (n_ifeq_b 83 dX12_picture_71 (by decide) (fun c_71 => ?_) (fun c_71 => ?_))))))))
              · skip
                refine s_iconst dX12_picture_83 (by decide) (n_iret dX12_picture_84 hR rfl ?_)
                first | exact ⟨_, rfl, Or.inl ⟨by omega, by omega, rfl⟩⟩ | exact ⟨_, rfl, Or.inr ⟨by omega, by omega, rfl⟩⟩
              · skip
                refine s_aload_n dX12_picture_74 0 rfl rfl (n_getf 141 1 0 dX12_picture_75 cf_X12 ff_X12_220 rfl sh_141 rfl (by decide) (v := (w 141 1)) rfl (s_bipush dX12_picture_78 (by decide) (s_icmp_ne 85 dX12_picture_80 (by decide) (fun c_80 => ?_) (fun c_80 => ?_))))
                · skip
                  refine s_aload_n dX12_picture_85 0 rfl rfl (n_getc (q := 142) 141 10 152 dX12_picture_86 cf_X12 ff_X12_7 rfl sh_141 rfl (by decide) rfl (by decide) (s_aload_n dX12_picture_89 0 rfl rfl (n_getf 141 1 0 dX12_picture_90 cf_X12 ff_X12_220 rfl sh_141 rfl (by decide) (v := (w 141 1)) rfl (s_iload_n dX12_picture_93 1 rfl (s_iastore 142 dX12_picture_94 rfl sh_142 (by decide) ⟨(by omega), (by omega)⟩ (s_aload_n dX12_picture_95 0 rfl rfl (n_getc (q := 143) 141 11 153 dX12_picture_96 cf_X12 ff_X12_13 rfl sh_141 rfl (by decide) rfl (by decide) (s_aload_n dX12_picture_99 0 rfl rfl (n_getf 141 1 0 dX12_picture_100 cf_X12 ff_X12_220 rfl sh_141 rfl (by decide) (v := (w 141 1)) rfl ?_)))))))))
                  refine s_iload_n dX12_picture_103 2 rfl (s_iastore 143 dX12_picture_104 rfl sh_143 (by decide) ⟨(by omega), (by omega)⟩ (s_aload_n dX12_picture_105 0 rfl rfl (n_getc (q := 144) 141 12 154 dX12_picture_106 cf_X12 ff_X12_16 rfl sh_141 rfl (by decide) rfl (by decide) (s_aload_n dX12_picture_109 0 rfl rfl (n_getf 141 1 0 dX12_picture_110 cf_X12 ff_X12_220 rfl sh_141 rfl (by decide) (v := (w 141 1)) rfl (s_iload_n dX12_picture_113 3 rfl (s_iastore 144 dX12_picture_114 rfl sh_144 (by decide) ⟨(by omega), (by omega)⟩ (s_aload_n dX12_picture_115 0 rfl rfl (n_getc (q := 145) 141 13 155 dX12_picture_116 cf_X12 ff_X12_19 rfl sh_141 rfl (by decide) rfl (by decide) ?_)))))))))
                  refine s_aload_n dX12_picture_119 0 rfl rfl (n_getf 141 1 0 dX12_picture_120 cf_X12 ff_X12_220 rfl sh_141 rfl (by decide) (v := (w 141 1)) rfl (s_iload dX12_picture_123 4 rfl (s_iastore 145 dX12_picture_125 rfl sh_145 (by decide) ⟨(by omega), (by omega)⟩ (s_aload_n dX12_picture_126 0 rfl rfl (n_getc (q := 146) 141 14 156 dX12_picture_127 cf_X12 ff_X12_22 rfl sh_141 rfl (by decide) rfl (by decide) (s_aload_n dX12_picture_130 0 rfl rfl (n_getf 141 1 0 dX12_picture_131 cf_X12 ff_X12_220 rfl sh_141 rfl (by decide) (v := (w 141 1)) rfl (s_iload dX12_picture_134 5 rfl (s_iastore 146 dX12_picture_136 rfl sh_146 (by decide) ⟨(by omega), (by omega)⟩ ?_)))))))))
                  refine s_aload_n dX12_picture_137 0 rfl rfl (s_dup dX12_picture_138 (show (2 : Nat) ≠ 1 by decide) (n_getf 141 1 0 dX12_picture_139 cf_X12 ff_X12_220 rfl sh_141 rfl (by decide) (v := (w 141 1)) rfl (s_iconst dX12_picture_142 (by decide) (n_add (z := ((w 141 1) + 1)) dX12_picture_143 (wr_id (by omega) (by omega)) (n_putf 141 1 1 dX12_picture_144 cf_X12 ff_X12_220 rfl rfl sh_141 rfl rfl rfl (s_aload_n dX12_picture_147 0 rfl rfl (n_getf 141 1 0 dX12_picture_148 cf_X12 ff_X12_220 rfl sh_141 rfl (by decide) (v := ((w 141 1) + 1)) rfl (s_iconst dX12_picture_151 (by decide) (n_sub (z := (((w 141 1) + 1) - 1)) dX12_picture_152 (wr_id (by omega) (by omega)) ?_)))))))))
                  refine n_iret dX12_picture_153 hR rfl ?_
                  first | exact ⟨_, rfl, Or.inl ⟨by omega, by omega, rfl⟩⟩ | exact ⟨_, rfl, Or.inr ⟨by omega, by omega, rfl⟩⟩
                · skip
                  refine s_iconst dX12_picture_83 (by decide) (n_iret dX12_picture_84 hR rfl ?_)
                  first | exact ⟨_, rfl, Or.inl ⟨by omega, by omega, rfl⟩⟩ | exact ⟨_, rfl, Or.inr ⟨by omega, by omega, rfl⟩⟩
