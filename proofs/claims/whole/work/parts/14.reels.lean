/-! PICTURES, PRINTS, EVENTS. -/
abbrev RQ (Q : Int → Wd → Prop) : Option PV → Wd → Prop := fun r w1 => ∃ z, r = some (0, z) ∧ Q z w1
abbrev RQL (Q : Int → Wd → Prop) : Option PV → Wd → Prop := fun r w1 => ∃ z, r = some (1, z) ∧ Q z w1
abbrev RUQ (Q : Wd → Prop) : Option PV → Wd → Prop := fun r w1 => r = none ∧ Q w1
/-- either it can be, and this comes of it, or it can't, and nothing is done -/
abbrev Two (P : Prop) (w : Wd) (no v : Int) (u : Wd) : Int → Wd → Prop := fun z w1 => (P ∧ z = v ∧ w1 = u) ∨ (¬ P ∧ z = no ∧ w1 = w)
abbrev okPic (n m t a k f : Int) : Prop := (0 ≤ m ∧ m ≤ 2) ∧ (0 ≤ t ∧ t ≤ 5) ∧ (0 ≤ a ∧ a ≤ 3) ∧ (0 ≤ k ∧ k ≤ 3) ∧ (100 ≤ f ∧ f ≤ 9999) ∧ (t = 5 ↔ k = 3) ∧ n < 12
abbrev okEv (p kind f n : Int) (np ne fr : Int) : Prop := (0 ≤ p ∧ p < np) ∧ (0 ≤ f ∧ f < fr) ∧ ((kind = 0 ∧ 1 ≤ n ∧ n ≤ 99) ∨ (kind = 1 ∧ 1 ≤ n ∧ n ≤ 99) ∨ (kind = 2 ∧ -9 ≤ n ∧ n ≤ 9 ∧ n ≠ 0) ∨ (kind = 3 ∧ -99 ≤ n ∧ n ≤ 99 ∧ f = 0)) ∧ ne < 150

set_option maxRecDepth 100000 in
theorem c_X_addPicture (m t a k f : Int) (w : Wd) (h : 0 ≤ w 1 5 ∧ w 1 5 ≤ 12) : CallN 2 mX5_addPicture [(2, 1), (0, m), (0, t), (0, a), (0, k), (0, f)] w (RQ (Two (okPic (w 1 5) m t a k f) w (-1) (w 1 5) (wu (wu (wu (wu (wu (wu w 2 (w 1 5) m) 3 (w 1 5) t) 4 (w 1 5) a) 5 (w 1 5) k) 6 (w 1 5) f) 1 5 ((w 1 5) + 1)))) := by
  refine CallN.intro (by decide +kernel) (Nat.le_of_ble_eq_true rfl) (fun ρ hR => ?_)
  show AtN mX5_addPicture 2 ρ 0 [(0, (2, 1)), (1, (0, m)), (2, (0, t)), (3, (0, a)), (4, (0, k)), (5, (0, f))] [] w
  refine s_iload_n dX5_addPicture_0 1 rfl (s_iconst dX5_addPicture_1 (by decide) (s_iconst dX5_addPicture_2 (by decide) (n_invT (as := [(0, m), (0, 0), (0, 2)]) dX5_addPicture_3 kv_X11_within ml_X5_51 (c_within m 0 2 w) (by decide) rfl rfl (Nat.le_of_ble_eq_true rfl) (n_ifeq_b 78 dX5_addPicture_6 (by decide) (fun c_6 => ?_) (fun c_6 => ?_)))))
  · skip
    refine s_iconst dX5_addPicture_78 (by decide) (s_istore (ls' := [(0, (2, 1)), (1, (0, m)), (2, (0, t)), (3, (0, a)), (4, (0, k)), (5, (0, f)), (6, (0, 0))]) dX5_addPicture_79 (Nat.le_of_ble_eq_true rfl) rfl (s_iload dX5_addPicture_81 6 rfl (s_if_eq 95 dX5_addPicture_83 (by decide) (kf := fun c => absurd c (by decide)) (kt := fun _ => s_iconst dX5_addPicture_95 (by decide) (n_iret dX5_addPicture_96 hR rfl ?_)))))
    first | exact ⟨_, rfl, Or.inl ⟨by omega, by omega, rfl⟩⟩ | exact ⟨_, rfl, Or.inr ⟨by omega, by omega, rfl⟩⟩ | (exfalso; omega)
  · skip
    refine s_iload_n dX5_addPicture_9 2 rfl (s_iconst dX5_addPicture_10 (by decide) (s_iconst dX5_addPicture_11 (by decide) (n_invT (as := [(0, t), (0, 0), (0, 5)]) dX5_addPicture_12 kv_X11_within ml_X5_51 (c_within t 0 5 w) (by decide) rfl rfl (Nat.le_of_ble_eq_true rfl) (n_ifeq_b 78 dX5_addPicture_15 (by decide) (fun c_15 => ?_) (fun c_15 => ?_)))))
    · skip
      refine s_iconst dX5_addPicture_78 (by decide) (s_istore (ls' := [(0, (2, 1)), (1, (0, m)), (2, (0, t)), (3, (0, a)), (4, (0, k)), (5, (0, f)), (6, (0, 0))]) dX5_addPicture_79 (Nat.le_of_ble_eq_true rfl) rfl (s_iload dX5_addPicture_81 6 rfl (s_if_eq 95 dX5_addPicture_83 (by decide) (kf := fun c => absurd c (by decide)) (kt := fun _ => s_iconst dX5_addPicture_95 (by decide) (n_iret dX5_addPicture_96 hR rfl ?_)))))
      first | exact ⟨_, rfl, Or.inl ⟨by omega, by omega, rfl⟩⟩ | exact ⟨_, rfl, Or.inr ⟨by omega, by omega, rfl⟩⟩ | (exfalso; omega)
    · skip
      refine s_iload_n dX5_addPicture_18 3 rfl (s_iconst dX5_addPicture_19 (by decide) (s_iconst dX5_addPicture_20 (by decide) (n_invT (as := [(0, a), (0, 0), (0, 3)]) dX5_addPicture_21 kv_X11_within ml_X5_51 (c_within a 0 3 w) (by decide) rfl rfl (Nat.le_of_ble_eq_true rfl) (n_ifeq_b 78 dX5_addPicture_24 (by decide) (fun c_24 => ?_) (fun c_24 => ?_)))))
      · skip
        refine s_iconst dX5_addPicture_78 (by decide) (s_istore (ls' := [(0, (2, 1)), (1, (0, m)), (2, (0, t)), (3, (0, a)), (4, (0, k)), (5, (0, f)), (6, (0, 0))]) dX5_addPicture_79 (Nat.le_of_ble_eq_true rfl) rfl (s_iload dX5_addPicture_81 6 rfl (s_if_eq 95 dX5_addPicture_83 (by decide) (kf := fun c => absurd c (by decide)) (kt := fun _ => s_iconst dX5_addPicture_95 (by decide) (n_iret dX5_addPicture_96 hR rfl ?_)))))
        first | exact ⟨_, rfl, Or.inl ⟨by omega, by omega, rfl⟩⟩ | exact ⟨_, rfl, Or.inr ⟨by omega, by omega, rfl⟩⟩ | (exfalso; omega)
      · skip
        refine s_iload dX5_addPicture_27 4 rfl (s_iconst dX5_addPicture_29 (by decide) (s_iconst dX5_addPicture_30 (by decide) (n_invT (as := [(0, k), (0, 0), (0, 3)]) dX5_addPicture_31 kv_X11_within ml_X5_51 (c_within k 0 3 w) (by decide) rfl rfl (Nat.le_of_ble_eq_true rfl) (n_ifeq_b 78 dX5_addPicture_34 (by decide) (fun c_34 => ?_) (fun c_34 => ?_)))))
        · skip
          refine s_iconst dX5_addPicture_78 (by decide) (s_istore (ls' := [(0, (2, 1)), (1, (0, m)), (2, (0, t)), (3, (0, a)), (4, (0, k)), (5, (0, f)), (6, (0, 0))]) dX5_addPicture_79 (Nat.le_of_ble_eq_true rfl) rfl (s_iload dX5_addPicture_81 6 rfl (s_if_eq 95 dX5_addPicture_83 (by decide) (kf := fun c => absurd c (by decide)) (kt := fun _ => s_iconst dX5_addPicture_95 (by decide) (n_iret dX5_addPicture_96 hR rfl ?_)))))
          first | exact ⟨_, rfl, Or.inl ⟨by omega, by omega, rfl⟩⟩ | exact ⟨_, rfl, Or.inr ⟨by omega, by omega, rfl⟩⟩ | (exfalso; omega)
        · skip
          refine s_iload dX5_addPicture_37 5 rfl (s_bipush dX5_addPicture_39 (by decide) (s_sipush dX5_addPicture_41 (by decide) (n_invT (as := [(0, f), (0, 100), (0, 9999)]) dX5_addPicture_44 kv_X11_within ml_X5_51 (c_within f 100 9999 w) (by decide) rfl rfl (Nat.le_of_ble_eq_true rfl) (n_ifeq_b 78 dX5_addPicture_47 (by decide) (fun c_47 => ?_) (fun c_47 => ?_)))))
          · skip
            refine s_iconst dX5_addPicture_78 (by decide) (s_istore (ls' := [(0, (2, 1)), (1, (0, m)), (2, (0, t)), (3, (0, a)), (4, (0, k)), (5, (0, f)), (6, (0, 0))]) dX5_addPicture_79 (Nat.le_of_ble_eq_true rfl) rfl (s_iload dX5_addPicture_81 6 rfl (s_if_eq 95 dX5_addPicture_83 (by decide) (kf := fun c => absurd c (by decide)) (kt := fun _ => s_iconst dX5_addPicture_95 (by decide) (n_iret dX5_addPicture_96 hR rfl ?_)))))
            first | exact ⟨_, rfl, Or.inl ⟨by omega, by omega, rfl⟩⟩ | exact ⟨_, rfl, Or.inr ⟨by omega, by omega, rfl⟩⟩ | (exfalso; omega)
          · skip
            refine s_iload_n dX5_addPicture_50 2 rfl (s_iconst dX5_addPicture_51 (by decide) (s_icmp_ne 59 dX5_addPicture_52 (by decide) (fun c_52 => ?_) (fun c_52 => ?_)))
            · skip
              refine s_iconst dX5_addPicture_59 (by decide) (s_iload dX5_addPicture_60 4 rfl (s_iconst dX5_addPicture_62 (by decide) (s_icmp_ne 70 dX5_addPicture_63 (by decide) (fun c_63 => ?_) (fun c_63 => ?_))))
              · skip
                refine s_iconst dX5_addPicture_70 (by decide) (s_icmp_ne 78 dX5_addPicture_71 (by decide) (kt := fun c => absurd c (by decide)) (kf := fun _ => s_iconst dX5_addPicture_74 (by decide) (s_goto 79 dX5_addPicture_75 (by decide) (s_istore (ls' := [(0, (2, 1)), (1, (0, m)), (2, (0, t)), (3, (0, a)), (4, (0, k)), (5, (0, f)), (6, (0, 1))]) dX5_addPicture_79 (Nat.le_of_ble_eq_true rfl) rfl (s_iload dX5_addPicture_81 6 rfl (s_if_eq 95 dX5_addPicture_83 (by decide) (kt := fun c => absurd c (by decide)) (kf := fun _ => s_aload_n dX5_addPicture_86 0 rfl rfl (n_getf 1 5 0 dX5_addPicture_87 cf_X5 ff_X5_55 rfl sh_1 rfl (by decide) (v := (w 1 5)) rfl (s_bipush dX5_addPicture_90 (by decide) ?_)))))))))
                refine s_icmp_lt 97 dX5_addPicture_92 (by decide) (fun c_92 => ?_) (fun c_92 => ?_)
                · skip
                  refine s_aload_n dX5_addPicture_97 0 rfl rfl (n_getc (q := 2) 1 0 12 dX5_addPicture_98 cf_X5 ff_X5_9 rfl sh_1 rfl (by decide) rfl (by decide) (s_aload_n dX5_addPicture_101 0 rfl rfl (n_getf 1 5 0 dX5_addPicture_102 cf_X5 ff_X5_55 rfl sh_1 rfl (by decide) (v := (w 1 5)) rfl (s_iload_n dX5_addPicture_105 1 rfl (s_iastore 2 dX5_addPicture_106 rfl sh_2 (by decide) ⟨(by omega), (by omega)⟩ (s_aload_n dX5_addPicture_107 0 rfl rfl (n_getc (q := 3) 1 1 13 dX5_addPicture_108 cf_X5 ff_X5_15 rfl sh_1 rfl (by decide) rfl (by decide) (s_aload_n dX5_addPicture_111 0 rfl rfl (n_getf 1 5 0 dX5_addPicture_112 cf_X5 ff_X5_55 rfl sh_1 rfl (by decide) (v := (w 1 5)) rfl ?_)))))))))
                  refine s_iload_n dX5_addPicture_115 2 rfl (s_iastore 3 dX5_addPicture_116 rfl sh_3 (by decide) ⟨(by omega), (by omega)⟩ (s_aload_n dX5_addPicture_117 0 rfl rfl (n_getc (q := 4) 1 2 14 dX5_addPicture_118 cf_X5 ff_X5_18 rfl sh_1 rfl (by decide) rfl (by decide) (s_aload_n dX5_addPicture_121 0 rfl rfl (n_getf 1 5 0 dX5_addPicture_122 cf_X5 ff_X5_55 rfl sh_1 rfl (by decide) (v := (w 1 5)) rfl (s_iload_n dX5_addPicture_125 3 rfl (s_iastore 4 dX5_addPicture_126 rfl sh_4 (by decide) ⟨(by omega), (by omega)⟩ (s_aload_n dX5_addPicture_127 0 rfl rfl (n_getc (q := 5) 1 3 15 dX5_addPicture_128 cf_X5 ff_X5_21 rfl sh_1 rfl (by decide) rfl (by decide) ?_)))))))))
                  refine s_aload_n dX5_addPicture_131 0 rfl rfl (n_getf 1 5 0 dX5_addPicture_132 cf_X5 ff_X5_55 rfl sh_1 rfl (by decide) (v := (w 1 5)) rfl (s_iload dX5_addPicture_135 4 rfl (s_iastore 5 dX5_addPicture_137 rfl sh_5 (by decide) ⟨(by omega), (by omega)⟩ (s_aload_n dX5_addPicture_138 0 rfl rfl (n_getc (q := 6) 1 4 16 dX5_addPicture_139 cf_X5 ff_X5_24 rfl sh_1 rfl (by decide) rfl (by decide) (s_aload_n dX5_addPicture_142 0 rfl rfl (n_getf 1 5 0 dX5_addPicture_143 cf_X5 ff_X5_55 rfl sh_1 rfl (by decide) (v := (w 1 5)) rfl (s_iload dX5_addPicture_146 5 rfl (s_iastore 6 dX5_addPicture_148 rfl sh_6 (by decide) ⟨(by omega), (by omega)⟩ ?_)))))))))
                  refine s_aload_n dX5_addPicture_149 0 rfl rfl (s_dup dX5_addPicture_150 (show (2 : Nat) ≠ 1 by decide) (n_getf 1 5 0 dX5_addPicture_151 cf_X5 ff_X5_55 rfl sh_1 rfl (by decide) (v := (w 1 5)) rfl (s_iconst dX5_addPicture_154 (by decide) (n_add (z := ((w 1 5) + 1)) dX5_addPicture_155 (wr_id (by omega) (by omega)) (n_putf 1 5 5 dX5_addPicture_156 cf_X5 ff_X5_55 rfl rfl sh_1 rfl rfl rfl (s_aload_n dX5_addPicture_159 0 rfl rfl (n_getf 1 5 0 dX5_addPicture_160 cf_X5 ff_X5_55 rfl sh_1 rfl (by decide) (v := ((w 1 5) + 1)) rfl (s_iconst dX5_addPicture_163 (by decide) (n_sub (z := (((w 1 5) + 1) - 1)) dX5_addPicture_164 (wr_id (by omega) (by omega)) ?_)))))))))
                  refine n_iret dX5_addPicture_165 hR rfl ?_
                  first | exact ⟨_, rfl, Or.inl ⟨by omega, by omega, rfl⟩⟩ | exact ⟨_, rfl, Or.inr ⟨by omega, by omega, rfl⟩⟩ | (exfalso; omega)
                · skip
                  refine s_iconst dX5_addPicture_95 (by decide) (n_iret dX5_addPicture_96 hR rfl ?_)
                  first | exact ⟨_, rfl, Or.inl ⟨by omega, by omega, rfl⟩⟩ | exact ⟨_, rfl, Or.inr ⟨by omega, by omega, rfl⟩⟩ | (exfalso; omega)
              · skip
                refine s_iconst dX5_addPicture_66 (by decide) (s_goto 71 dX5_addPicture_67 (by decide) (s_icmp_ne 78 dX5_addPicture_71 (by decide) (kf := fun c => absurd c (by decide)) (kt := fun _ => s_iconst dX5_addPicture_78 (by decide) (s_istore (ls' := [(0, (2, 1)), (1, (0, m)), (2, (0, t)), (3, (0, a)), (4, (0, k)), (5, (0, f)), (6, (0, 0))]) dX5_addPicture_79 (Nat.le_of_ble_eq_true rfl) rfl (s_iload dX5_addPicture_81 6 rfl (s_if_eq 95 dX5_addPicture_83 (by decide) (kf := fun c => absurd c (by decide)) (kt := fun _ => s_iconst dX5_addPicture_95 (by decide) (n_iret dX5_addPicture_96 hR rfl ?_))))))))
                first | exact ⟨_, rfl, Or.inl ⟨by omega, by omega, rfl⟩⟩ | exact ⟨_, rfl, Or.inr ⟨by omega, by omega, rfl⟩⟩ | (exfalso; omega)
            · skip
              refine s_iconst dX5_addPicture_55 (by decide) (s_goto 60 dX5_addPicture_56 (by decide) (s_iload dX5_addPicture_60 4 rfl (s_iconst dX5_addPicture_62 (by decide) (s_icmp_ne 70 dX5_addPicture_63 (by decide) (fun c_63 => ?_) (fun c_63 => ?_)))))
              · skip
                refine s_iconst dX5_addPicture_70 (by decide) (s_icmp_ne 78 dX5_addPicture_71 (by decide) (kf := fun c => absurd c (by decide)) (kt := fun _ => s_iconst dX5_addPicture_78 (by decide) (s_istore (ls' := [(0, (2, 1)), (1, (0, m)), (2, (0, t)), (3, (0, a)), (4, (0, k)), (5, (0, f)), (6, (0, 0))]) dX5_addPicture_79 (Nat.le_of_ble_eq_true rfl) rfl (s_iload dX5_addPicture_81 6 rfl (s_if_eq 95 dX5_addPicture_83 (by decide) (kf := fun c => absurd c (by decide)) (kt := fun _ => s_iconst dX5_addPicture_95 (by decide) (n_iret dX5_addPicture_96 hR rfl ?_)))))))
                first | exact ⟨_, rfl, Or.inl ⟨by omega, by omega, rfl⟩⟩ | exact ⟨_, rfl, Or.inr ⟨by omega, by omega, rfl⟩⟩ | (exfalso; omega)
              · skip
                refine s_iconst dX5_addPicture_66 (by decide) (s_goto 71 dX5_addPicture_67 (by decide) (s_icmp_ne 78 dX5_addPicture_71 (by decide) (kt := fun c => absurd c (by decide)) (kf := fun _ => s_iconst dX5_addPicture_74 (by decide) (s_goto 79 dX5_addPicture_75 (by decide) (s_istore (ls' := [(0, (2, 1)), (1, (0, m)), (2, (0, t)), (3, (0, a)), (4, (0, k)), (5, (0, f)), (6, (0, 1))]) dX5_addPicture_79 (Nat.le_of_ble_eq_true rfl) rfl (s_iload dX5_addPicture_81 6 rfl (s_if_eq 95 dX5_addPicture_83 (by decide) (kt := fun c => absurd c (by decide)) (kf := fun _ => s_aload_n dX5_addPicture_86 0 rfl rfl (n_getf 1 5 0 dX5_addPicture_87 cf_X5 ff_X5_55 rfl sh_1 rfl (by decide) (v := (w 1 5)) rfl ?_)))))))))
                refine s_bipush dX5_addPicture_90 (by decide) (s_icmp_lt 97 dX5_addPicture_92 (by decide) (fun c_92 => ?_) (fun c_92 => ?_))
                · skip
                  refine s_aload_n dX5_addPicture_97 0 rfl rfl (n_getc (q := 2) 1 0 12 dX5_addPicture_98 cf_X5 ff_X5_9 rfl sh_1 rfl (by decide) rfl (by decide) (s_aload_n dX5_addPicture_101 0 rfl rfl (n_getf 1 5 0 dX5_addPicture_102 cf_X5 ff_X5_55 rfl sh_1 rfl (by decide) (v := (w 1 5)) rfl (s_iload_n dX5_addPicture_105 1 rfl (s_iastore 2 dX5_addPicture_106 rfl sh_2 (by decide) ⟨(by omega), (by omega)⟩ (s_aload_n dX5_addPicture_107 0 rfl rfl (n_getc (q := 3) 1 1 13 dX5_addPicture_108 cf_X5 ff_X5_15 rfl sh_1 rfl (by decide) rfl (by decide) (s_aload_n dX5_addPicture_111 0 rfl rfl (n_getf 1 5 0 dX5_addPicture_112 cf_X5 ff_X5_55 rfl sh_1 rfl (by decide) (v := (w 1 5)) rfl ?_)))))))))
                  refine s_iload_n dX5_addPicture_115 2 rfl (s_iastore 3 dX5_addPicture_116 rfl sh_3 (by decide) ⟨(by omega), (by omega)⟩ (s_aload_n dX5_addPicture_117 0 rfl rfl (n_getc (q := 4) 1 2 14 dX5_addPicture_118 cf_X5 ff_X5_18 rfl sh_1 rfl (by decide) rfl (by decide) (s_aload_n dX5_addPicture_121 0 rfl rfl (n_getf 1 5 0 dX5_addPicture_122 cf_X5 ff_X5_55 rfl sh_1 rfl (by decide) (v := (w 1 5)) rfl (s_iload_n dX5_addPicture_125 3 rfl (s_iastore 4 dX5_addPicture_126 rfl sh_4 (by decide) ⟨(by omega), (by omega)⟩ (s_aload_n dX5_addPicture_127 0 rfl rfl (n_getc (q := 5) 1 3 15 dX5_addPicture_128 cf_X5 ff_X5_21 rfl sh_1 rfl (by decide) rfl (by decide) ?_)))))))))
                  refine s_aload_n dX5_addPicture_131 0 rfl rfl (n_getf 1 5 0 dX5_addPicture_132 cf_X5 ff_X5_55 rfl sh_1 rfl (by decide) (v := (w 1 5)) rfl (s_iload dX5_addPicture_135 4 rfl (s_iastore 5 dX5_addPicture_137 rfl sh_5 (by decide) ⟨(by omega), (by omega)⟩ (s_aload_n dX5_addPicture_138 0 rfl rfl (n_getc (q := 6) 1 4 16 dX5_addPicture_139 cf_X5 ff_X5_24 rfl sh_1 rfl (by decide) rfl (by decide) (s_aload_n dX5_addPicture_142 0 rfl rfl (n_getf 1 5 0 dX5_addPicture_143 cf_X5 ff_X5_55 rfl sh_1 rfl (by decide) (v := (w 1 5)) rfl (s_iload dX5_addPicture_146 5 rfl (s_iastore 6 dX5_addPicture_148 rfl sh_6 (by decide) ⟨(by omega), (by omega)⟩ ?_)))))))))
                  refine s_aload_n dX5_addPicture_149 0 rfl rfl (s_dup dX5_addPicture_150 (show (2 : Nat) ≠ 1 by decide) (n_getf 1 5 0 dX5_addPicture_151 cf_X5 ff_X5_55 rfl sh_1 rfl (by decide) (v := (w 1 5)) rfl (s_iconst dX5_addPicture_154 (by decide) (n_add (z := ((w 1 5) + 1)) dX5_addPicture_155 (wr_id (by omega) (by omega)) (n_putf 1 5 5 dX5_addPicture_156 cf_X5 ff_X5_55 rfl rfl sh_1 rfl rfl rfl (s_aload_n dX5_addPicture_159 0 rfl rfl (n_getf 1 5 0 dX5_addPicture_160 cf_X5 ff_X5_55 rfl sh_1 rfl (by decide) (v := ((w 1 5) + 1)) rfl (s_iconst dX5_addPicture_163 (by decide) (n_sub (z := (((w 1 5) + 1) - 1)) dX5_addPicture_164 (wr_id (by omega) (by omega)) ?_)))))))))
                  refine n_iret dX5_addPicture_165 hR rfl ?_
                  first | exact ⟨_, rfl, Or.inl ⟨by omega, by omega, rfl⟩⟩ | exact ⟨_, rfl, Or.inr ⟨by omega, by omega, rfl⟩⟩ | (exfalso; omega)
                · skip
                  refine s_iconst dX5_addPicture_95 (by decide) (n_iret dX5_addPicture_96 hR rfl ?_)
                  first | exact ⟨_, rfl, Or.inl ⟨by omega, by omega, rfl⟩⟩ | exact ⟨_, rfl, Or.inr ⟨by omega, by omega, rfl⟩⟩ | (exfalso; omega)

set_option maxRecDepth 100000 in
theorem x_picture (m t a k f : Int) (w : Wd) (h : 0 ≤ w 1 5 ∧ w 1 5 ≤ 12) : CallN 3 mX11_picture [(2, 0), (0, m), (0, t), (0, a), (0, k), (0, f)] w (RQ (Two (okPic (w 1 5) m t a k f) w (-1) (w 1 5) (wu (wu (wu (wu (wu (wu w 2 (w 1 5) m) 3 (w 1 5) t) 4 (w 1 5) a) 5 (w 1 5) k) 6 (w 1 5) f) 1 5 ((w 1 5) + 1)))) := by
  refine CallN.intro (by decide +kernel) (Nat.le_of_ble_eq_true rfl) (fun ρ hR => ?_)
  show AtN mX11_picture 3 ρ 0 [(0, (2, 0)), (1, (0, m)), (2, (0, t)), (3, (0, a)), (4, (0, k)), (5, (0, f))] [] w
  refine s_aload_n dX11_picture_0 0 rfl rfl (n_getc (q := 1) 0 0 11 dX11_picture_1 cf_X11 ff_X11_10 rfl sh_0 rfl (by decide) rfl (by decide) (s_iload_n dX11_picture_4 1 rfl (s_iload_n dX11_picture_5 2 rfl (s_iload_n dX11_picture_6 3 rfl (s_iload dX11_picture_7 4 rfl (s_iload dX11_picture_9 5 rfl (n_invV' (as := [(0, m), (0, t), (0, a), (0, k), (0, f)]) dX11_picture_11 kv_X5_addPicture ml_X11_91 (c_X_addPicture m t a k f w h) (by decide) 1 cf_X5 rfl sh_1 rfl rfl rfl (Nat.le_of_ble_eq_true rfl) ?_)))))))
  rintro r_11 w_11 ⟨z_11, rfl, hz_11⟩
  show AtN _ _ ρ _ _ [(0, z_11)] w_11
  refine n_iret dX11_picture_14 hR rfl ?_
  exact ⟨_, rfl, hz_11⟩

set_option maxRecDepth 100000 in
theorem m_picture (m t a k f : Int) (w : Wd) (h : 0 ≤ w 141 1 ∧ w 141 1 ≤ 12) : CallN 2 mX12_picture [(2, 141), (0, m), (0, t), (0, a), (0, k), (0, f)] w (RQ (Two (okPic (w 141 1) m t a k f) w (-1) (w 141 1) (wu (wu (wu (wu (wu (wu w 142 (w 141 1) m) 143 (w 141 1) t) 144 (w 141 1) a) 145 (w 141 1) k) 146 (w 141 1) f) 141 1 ((w 141 1) + 1)))) := by
  refine CallN.intro (by decide +kernel) (Nat.le_of_ble_eq_true rfl) (fun ρ hR => ?_)
  show AtN mX12_picture 2 ρ 0 [(0, (2, 141)), (1, (0, m)), (2, (0, t)), (3, (0, a)), (4, (0, k)), (5, (0, f))] [] w
  refine s_iload_n dX12_picture_0 1 rfl (s_iconst dX12_picture_1 (by decide) (s_iconst dX12_picture_2 (by decide) (n_invS (as := [(0, m), (0, 0), (0, 2)]) dX12_picture_3 kv_X12_isIn ml_X12_223 (c_isIn m 0 2 w) (by decide) rfl rfl (Nat.le_of_ble_eq_true rfl) (n_ifeq_b 83 dX12_picture_6 (by decide) (fun c_6 => ?_) (fun c_6 => ?_)))))
  · skip
    refine s_iconst dX12_picture_83 (by decide) (n_iret dX12_picture_84 hR rfl ?_)
    first | exact ⟨_, rfl, Or.inl ⟨by omega, by omega, rfl⟩⟩ | exact ⟨_, rfl, Or.inr ⟨by omega, by omega, rfl⟩⟩ | (exfalso; omega)
  · skip
    refine s_iload_n dX12_picture_9 2 rfl (s_iconst dX12_picture_10 (by decide) (s_iconst dX12_picture_11 (by decide) (n_invS (as := [(0, t), (0, 0), (0, 5)]) dX12_picture_12 kv_X12_isIn ml_X12_223 (c_isIn t 0 5 w) (by decide) rfl rfl (Nat.le_of_ble_eq_true rfl) (n_ifeq_b 83 dX12_picture_15 (by decide) (fun c_15 => ?_) (fun c_15 => ?_)))))
    · skip
      refine s_iconst dX12_picture_83 (by decide) (n_iret dX12_picture_84 hR rfl ?_)
      first | exact ⟨_, rfl, Or.inl ⟨by omega, by omega, rfl⟩⟩ | exact ⟨_, rfl, Or.inr ⟨by omega, by omega, rfl⟩⟩ | (exfalso; omega)
    · skip
      refine s_iload_n dX12_picture_18 3 rfl (s_iconst dX12_picture_19 (by decide) (s_iconst dX12_picture_20 (by decide) (n_invS (as := [(0, a), (0, 0), (0, 3)]) dX12_picture_21 kv_X12_isIn ml_X12_223 (c_isIn a 0 3 w) (by decide) rfl rfl (Nat.le_of_ble_eq_true rfl) (n_ifeq_b 83 dX12_picture_24 (by decide) (fun c_24 => ?_) (fun c_24 => ?_)))))
      · skip
        refine s_iconst dX12_picture_83 (by decide) (n_iret dX12_picture_84 hR rfl ?_)
        first | exact ⟨_, rfl, Or.inl ⟨by omega, by omega, rfl⟩⟩ | exact ⟨_, rfl, Or.inr ⟨by omega, by omega, rfl⟩⟩ | (exfalso; omega)
      · skip
        refine s_iload dX12_picture_27 4 rfl (s_iconst dX12_picture_29 (by decide) (s_iconst dX12_picture_30 (by decide) (n_invS (as := [(0, k), (0, 0), (0, 3)]) dX12_picture_31 kv_X12_isIn ml_X12_223 (c_isIn k 0 3 w) (by decide) rfl rfl (Nat.le_of_ble_eq_true rfl) (n_ifeq_b 83 dX12_picture_34 (by decide) (fun c_34 => ?_) (fun c_34 => ?_)))))
        · skip
          refine s_iconst dX12_picture_83 (by decide) (n_iret dX12_picture_84 hR rfl ?_)
          first | exact ⟨_, rfl, Or.inl ⟨by omega, by omega, rfl⟩⟩ | exact ⟨_, rfl, Or.inr ⟨by omega, by omega, rfl⟩⟩ | (exfalso; omega)
        · skip
          refine s_iload dX12_picture_37 4 rfl (s_iconst dX12_picture_39 (by decide) (s_icmp_ne 47 dX12_picture_40 (by decide) (fun c_40 => ?_) (fun c_40 => ?_)))
          · skip
            refine s_iconst dX12_picture_47 (by decide) (s_iload_n dX12_picture_48 2 rfl (s_iconst dX12_picture_49 (by decide) (s_icmp_ne 57 dX12_picture_50 (by decide) (fun c_50 => ?_) (fun c_50 => ?_))))
            · skip
              refine s_iconst dX12_picture_57 (by decide) (s_icmp_ne 83 dX12_picture_58 (by decide) (kt := fun c => absurd c (by decide)) (kf := fun _ => s_iload dX12_picture_61 5 rfl (s_bipush dX12_picture_63 (by decide) (s_sipush dX12_picture_65 (by decide) (n_invS (as := [(0, f), (0, 100), (0, 9999)]) dX12_picture_68 kv_X12_isIn ml_X12_223 (c_isIn f 100 9999 w) (by decide) rfl rfl (Nat.le_of_ble_eq_true rfl) (n_ifeq_b 83 dX12_picture_71 (by decide) (fun c_71 => ?_) (fun c_71 => ?_)))))))
              · skip
                refine s_iconst dX12_picture_83 (by decide) (n_iret dX12_picture_84 hR rfl ?_)
                first | exact ⟨_, rfl, Or.inl ⟨by omega, by omega, rfl⟩⟩ | exact ⟨_, rfl, Or.inr ⟨by omega, by omega, rfl⟩⟩ | (exfalso; omega)
              · skip
                refine s_aload_n dX12_picture_74 0 rfl rfl (n_getf 141 1 0 dX12_picture_75 cf_X12 ff_X12_220 rfl sh_141 rfl (by decide) (v := (w 141 1)) rfl (s_bipush dX12_picture_78 (by decide) (s_icmp_ne 85 dX12_picture_80 (by decide) (fun c_80 => ?_) (fun c_80 => ?_))))
                · skip
                  refine s_aload_n dX12_picture_85 0 rfl rfl (n_getc (q := 142) 141 10 152 dX12_picture_86 cf_X12 ff_X12_7 rfl sh_141 rfl (by decide) rfl (by decide) (s_aload_n dX12_picture_89 0 rfl rfl (n_getf 141 1 0 dX12_picture_90 cf_X12 ff_X12_220 rfl sh_141 rfl (by decide) (v := (w 141 1)) rfl (s_iload_n dX12_picture_93 1 rfl (s_iastore 142 dX12_picture_94 rfl sh_142 (by decide) ⟨(by omega), (by omega)⟩ (s_aload_n dX12_picture_95 0 rfl rfl (n_getc (q := 143) 141 11 153 dX12_picture_96 cf_X12 ff_X12_13 rfl sh_141 rfl (by decide) rfl (by decide) (s_aload_n dX12_picture_99 0 rfl rfl (n_getf 141 1 0 dX12_picture_100 cf_X12 ff_X12_220 rfl sh_141 rfl (by decide) (v := (w 141 1)) rfl ?_)))))))))
                  refine s_iload_n dX12_picture_103 2 rfl (s_iastore 143 dX12_picture_104 rfl sh_143 (by decide) ⟨(by omega), (by omega)⟩ (s_aload_n dX12_picture_105 0 rfl rfl (n_getc (q := 144) 141 12 154 dX12_picture_106 cf_X12 ff_X12_16 rfl sh_141 rfl (by decide) rfl (by decide) (s_aload_n dX12_picture_109 0 rfl rfl (n_getf 141 1 0 dX12_picture_110 cf_X12 ff_X12_220 rfl sh_141 rfl (by decide) (v := (w 141 1)) rfl (s_iload_n dX12_picture_113 3 rfl (s_iastore 144 dX12_picture_114 rfl sh_144 (by decide) ⟨(by omega), (by omega)⟩ (s_aload_n dX12_picture_115 0 rfl rfl (n_getc (q := 145) 141 13 155 dX12_picture_116 cf_X12 ff_X12_19 rfl sh_141 rfl (by decide) rfl (by decide) ?_)))))))))
                  refine s_aload_n dX12_picture_119 0 rfl rfl (n_getf 141 1 0 dX12_picture_120 cf_X12 ff_X12_220 rfl sh_141 rfl (by decide) (v := (w 141 1)) rfl (s_iload dX12_picture_123 4 rfl (s_iastore 145 dX12_picture_125 rfl sh_145 (by decide) ⟨(by omega), (by omega)⟩ (s_aload_n dX12_picture_126 0 rfl rfl (n_getc (q := 146) 141 14 156 dX12_picture_127 cf_X12 ff_X12_22 rfl sh_141 rfl (by decide) rfl (by decide) (s_aload_n dX12_picture_130 0 rfl rfl (n_getf 141 1 0 dX12_picture_131 cf_X12 ff_X12_220 rfl sh_141 rfl (by decide) (v := (w 141 1)) rfl (s_iload dX12_picture_134 5 rfl (s_iastore 146 dX12_picture_136 rfl sh_146 (by decide) ⟨(by omega), (by omega)⟩ ?_)))))))))
                  refine s_aload_n dX12_picture_137 0 rfl rfl (s_dup dX12_picture_138 (show (2 : Nat) ≠ 1 by decide) (n_getf 141 1 0 dX12_picture_139 cf_X12 ff_X12_220 rfl sh_141 rfl (by decide) (v := (w 141 1)) rfl (s_iconst dX12_picture_142 (by decide) (n_add (z := ((w 141 1) + 1)) dX12_picture_143 (wr_id (by omega) (by omega)) (n_putf 141 1 1 dX12_picture_144 cf_X12 ff_X12_220 rfl rfl sh_141 rfl rfl rfl (s_aload_n dX12_picture_147 0 rfl rfl (n_getf 141 1 0 dX12_picture_148 cf_X12 ff_X12_220 rfl sh_141 rfl (by decide) (v := ((w 141 1) + 1)) rfl (s_iconst dX12_picture_151 (by decide) (n_sub (z := (((w 141 1) + 1) - 1)) dX12_picture_152 (wr_id (by omega) (by omega)) ?_)))))))))
                  refine n_iret dX12_picture_153 hR rfl ?_
                  first | exact ⟨_, rfl, Or.inl ⟨by omega, by omega, rfl⟩⟩ | exact ⟨_, rfl, Or.inr ⟨by omega, by omega, rfl⟩⟩ | (exfalso; omega)
                · skip
                  refine s_iconst dX12_picture_83 (by decide) (n_iret dX12_picture_84 hR rfl ?_)
                  first | exact ⟨_, rfl, Or.inl ⟨by omega, by omega, rfl⟩⟩ | exact ⟨_, rfl, Or.inr ⟨by omega, by omega, rfl⟩⟩ | (exfalso; omega)
            · skip
              refine s_iconst dX12_picture_53 (by decide) (s_goto 58 dX12_picture_54 (by decide) (s_icmp_ne 83 dX12_picture_58 (by decide) (kf := fun c => absurd c (by decide)) (kt := fun _ => s_iconst dX12_picture_83 (by decide) (n_iret dX12_picture_84 hR rfl ?_))))
              first | exact ⟨_, rfl, Or.inl ⟨by omega, by omega, rfl⟩⟩ | exact ⟨_, rfl, Or.inr ⟨by omega, by omega, rfl⟩⟩ | (exfalso; omega)
          · skip
            refine s_iconst dX12_picture_43 (by decide) (s_goto 48 dX12_picture_44 (by decide) (s_iload_n dX12_picture_48 2 rfl (s_iconst dX12_picture_49 (by decide) (s_icmp_ne 57 dX12_picture_50 (by decide) (fun c_50 => ?_) (fun c_50 => ?_)))))
            · skip
              refine s_iconst dX12_picture_57 (by decide) (s_icmp_ne 83 dX12_picture_58 (by decide) (kf := fun c => absurd c (by decide)) (kt := fun _ => s_iconst dX12_picture_83 (by decide) (n_iret dX12_picture_84 hR rfl ?_)))
              first | exact ⟨_, rfl, Or.inl ⟨by omega, by omega, rfl⟩⟩ | exact ⟨_, rfl, Or.inr ⟨by omega, by omega, rfl⟩⟩ | (exfalso; omega)
            · skip
              refine s_iconst dX12_picture_53 (by decide) (s_goto 58 dX12_picture_54 (by decide) (s_icmp_ne 83 dX12_picture_58 (by decide) (kt := fun c => absurd c (by decide)) (kf := fun _ => s_iload dX12_picture_61 5 rfl (s_bipush dX12_picture_63 (by decide) (s_sipush dX12_picture_65 (by decide) (n_invS (as := [(0, f), (0, 100), (0, 9999)]) dX12_picture_68 kv_X12_isIn ml_X12_223 (c_isIn f 100 9999 w) (by decide) rfl rfl (Nat.le_of_ble_eq_true rfl) (n_ifeq_b 83 dX12_picture_71 (by decide) (fun c_71 => ?_) (fun c_71 => ?_))))))))
              · skip
                refine s_iconst dX12_picture_83 (by decide) (n_iret dX12_picture_84 hR rfl ?_)
                first | exact ⟨_, rfl, Or.inl ⟨by omega, by omega, rfl⟩⟩ | exact ⟨_, rfl, Or.inr ⟨by omega, by omega, rfl⟩⟩ | (exfalso; omega)
              · skip
                refine s_aload_n dX12_picture_74 0 rfl rfl (n_getf 141 1 0 dX12_picture_75 cf_X12 ff_X12_220 rfl sh_141 rfl (by decide) (v := (w 141 1)) rfl (s_bipush dX12_picture_78 (by decide) (s_icmp_ne 85 dX12_picture_80 (by decide) (fun c_80 => ?_) (fun c_80 => ?_))))
                · skip
                  refine s_aload_n dX12_picture_85 0 rfl rfl (n_getc (q := 142) 141 10 152 dX12_picture_86 cf_X12 ff_X12_7 rfl sh_141 rfl (by decide) rfl (by decide) (s_aload_n dX12_picture_89 0 rfl rfl (n_getf 141 1 0 dX12_picture_90 cf_X12 ff_X12_220 rfl sh_141 rfl (by decide) (v := (w 141 1)) rfl (s_iload_n dX12_picture_93 1 rfl (s_iastore 142 dX12_picture_94 rfl sh_142 (by decide) ⟨(by omega), (by omega)⟩ (s_aload_n dX12_picture_95 0 rfl rfl (n_getc (q := 143) 141 11 153 dX12_picture_96 cf_X12 ff_X12_13 rfl sh_141 rfl (by decide) rfl (by decide) (s_aload_n dX12_picture_99 0 rfl rfl (n_getf 141 1 0 dX12_picture_100 cf_X12 ff_X12_220 rfl sh_141 rfl (by decide) (v := (w 141 1)) rfl ?_)))))))))
                  refine s_iload_n dX12_picture_103 2 rfl (s_iastore 143 dX12_picture_104 rfl sh_143 (by decide) ⟨(by omega), (by omega)⟩ (s_aload_n dX12_picture_105 0 rfl rfl (n_getc (q := 144) 141 12 154 dX12_picture_106 cf_X12 ff_X12_16 rfl sh_141 rfl (by decide) rfl (by decide) (s_aload_n dX12_picture_109 0 rfl rfl (n_getf 141 1 0 dX12_picture_110 cf_X12 ff_X12_220 rfl sh_141 rfl (by decide) (v := (w 141 1)) rfl (s_iload_n dX12_picture_113 3 rfl (s_iastore 144 dX12_picture_114 rfl sh_144 (by decide) ⟨(by omega), (by omega)⟩ (s_aload_n dX12_picture_115 0 rfl rfl (n_getc (q := 145) 141 13 155 dX12_picture_116 cf_X12 ff_X12_19 rfl sh_141 rfl (by decide) rfl (by decide) ?_)))))))))
                  refine s_aload_n dX12_picture_119 0 rfl rfl (n_getf 141 1 0 dX12_picture_120 cf_X12 ff_X12_220 rfl sh_141 rfl (by decide) (v := (w 141 1)) rfl (s_iload dX12_picture_123 4 rfl (s_iastore 145 dX12_picture_125 rfl sh_145 (by decide) ⟨(by omega), (by omega)⟩ (s_aload_n dX12_picture_126 0 rfl rfl (n_getc (q := 146) 141 14 156 dX12_picture_127 cf_X12 ff_X12_22 rfl sh_141 rfl (by decide) rfl (by decide) (s_aload_n dX12_picture_130 0 rfl rfl (n_getf 141 1 0 dX12_picture_131 cf_X12 ff_X12_220 rfl sh_141 rfl (by decide) (v := (w 141 1)) rfl (s_iload dX12_picture_134 5 rfl (s_iastore 146 dX12_picture_136 rfl sh_146 (by decide) ⟨(by omega), (by omega)⟩ ?_)))))))))
                  refine s_aload_n dX12_picture_137 0 rfl rfl (s_dup dX12_picture_138 (show (2 : Nat) ≠ 1 by decide) (n_getf 141 1 0 dX12_picture_139 cf_X12 ff_X12_220 rfl sh_141 rfl (by decide) (v := (w 141 1)) rfl (s_iconst dX12_picture_142 (by decide) (n_add (z := ((w 141 1) + 1)) dX12_picture_143 (wr_id (by omega) (by omega)) (n_putf 141 1 1 dX12_picture_144 cf_X12 ff_X12_220 rfl rfl sh_141 rfl rfl rfl (s_aload_n dX12_picture_147 0 rfl rfl (n_getf 141 1 0 dX12_picture_148 cf_X12 ff_X12_220 rfl sh_141 rfl (by decide) (v := ((w 141 1) + 1)) rfl (s_iconst dX12_picture_151 (by decide) (n_sub (z := (((w 141 1) + 1) - 1)) dX12_picture_152 (wr_id (by omega) (by omega)) ?_)))))))))
                  refine n_iret dX12_picture_153 hR rfl ?_
                  first | exact ⟨_, rfl, Or.inl ⟨by omega, by omega, rfl⟩⟩ | exact ⟨_, rfl, Or.inr ⟨by omega, by omega, rfl⟩⟩ | (exfalso; omega)
                · skip
                  refine s_iconst dX12_picture_83 (by decide) (n_iret dX12_picture_84 hR rfl ?_)
                  first | exact ⟨_, rfl, Or.inl ⟨by omega, by omega, rfl⟩⟩ | exact ⟨_, rfl, Or.inr ⟨by omega, by omega, rfl⟩⟩ | (exfalso; omega)

set_option maxRecDepth 100000 in
theorem c_X_hasPicture (p : Int) (w : Wd) : CallN 1 mX5_hasPicture [(2, 1), (0, p)] w (RV (0, bi (0 ≤ p ∧ p < w 1 5)) w) := by
  refine CallN.intro (by decide +kernel) (Nat.le_of_ble_eq_true rfl) (fun ρ hR => ?_)
  show AtN mX5_hasPicture 1 ρ 0 [(0, (2, 1)), (1, (0, p))] [] w
  refine s_iload_n dX5_hasPicture_0 1 rfl (s_if_lt 16 dX5_hasPicture_1 (by decide) (fun c_1 => ?_) (fun c_1 => ?_))
  · skip
    refine s_iconst dX5_hasPicture_16 (by decide) (n_zret dX5_hasPicture_17 hR rfl (by first | exact Or.inl rfl | exact Or.inr rfl | exact bi_01 _ | omega) ?_)
    refine ⟨congrArg (fun z => some ((0 : Nat), z)) ?_, rfl⟩
    first | exact (bi_t (by omega)).symm | exact (bi_f (by omega)).symm | exact bi_congr (by omega)
  · skip
    refine s_iload_n dX5_hasPicture_4 1 rfl (s_aload_n dX5_hasPicture_5 0 rfl rfl (n_getf 1 5 0 dX5_hasPicture_6 cf_X5 ff_X5_55 rfl sh_1 rfl (by decide) (v := (w 1 5)) rfl (s_icmp_ge 16 dX5_hasPicture_9 (by decide) (fun c_9 => ?_) (fun c_9 => ?_))))
    · skip
      refine s_iconst dX5_hasPicture_16 (by decide) (n_zret dX5_hasPicture_17 hR rfl (by first | exact Or.inl rfl | exact Or.inr rfl | exact bi_01 _ | omega) ?_)
      refine ⟨congrArg (fun z => some ((0 : Nat), z)) ?_, rfl⟩
      first | exact (bi_t (by omega)).symm | exact (bi_f (by omega)).symm | exact bi_congr (by omega)
    · skip
      refine s_iconst dX5_hasPicture_12 (by decide) (s_goto 17 dX5_hasPicture_13 (by decide) (n_zret dX5_hasPicture_17 hR rfl (by first | exact Or.inl rfl | exact Or.inr rfl | exact bi_01 _ | omega) ?_))
      refine ⟨congrArg (fun z => some ((0 : Nat), z)) ?_, rfl⟩
      first | exact (bi_t (by omega)).symm | exact (bi_f (by omega)).symm | exact bi_congr (by omega)

set_option maxRecDepth 100000 in
theorem c_X_hasPrint (p : Int) (w : Wd) : CallN 1 mX5_hasPrint [(2, 1), (0, p)] w (RV (0, bi (0 ≤ p ∧ p < w 1 9)) w) := by
  refine CallN.intro (by decide +kernel) (Nat.le_of_ble_eq_true rfl) (fun ρ hR => ?_)
  show AtN mX5_hasPrint 1 ρ 0 [(0, (2, 1)), (1, (0, p))] [] w
  refine s_iload_n dX5_hasPrint_0 1 rfl (s_if_lt 16 dX5_hasPrint_1 (by decide) (fun c_1 => ?_) (fun c_1 => ?_))
  · skip
    refine s_iconst dX5_hasPrint_16 (by decide) (n_zret dX5_hasPrint_17 hR rfl (by first | exact Or.inl rfl | exact Or.inr rfl | exact bi_01 _ | omega) ?_)
    refine ⟨congrArg (fun z => some ((0 : Nat), z)) ?_, rfl⟩
    first | exact (bi_t (by omega)).symm | exact (bi_f (by omega)).symm | exact bi_congr (by omega)
  · skip
    refine s_iload_n dX5_hasPrint_4 1 rfl (s_aload_n dX5_hasPrint_5 0 rfl rfl (n_getf 1 9 0 dX5_hasPrint_6 cf_X5 ff_X5_63 rfl sh_1 rfl (by decide) (v := (w 1 9)) rfl (s_icmp_ge 16 dX5_hasPrint_9 (by decide) (fun c_9 => ?_) (fun c_9 => ?_))))
    · skip
      refine s_iconst dX5_hasPrint_16 (by decide) (n_zret dX5_hasPrint_17 hR rfl (by first | exact Or.inl rfl | exact Or.inr rfl | exact bi_01 _ | omega) ?_)
      refine ⟨congrArg (fun z => some ((0 : Nat), z)) ?_, rfl⟩
      first | exact (bi_t (by omega)).symm | exact (bi_f (by omega)).symm | exact bi_congr (by omega)
    · skip
      refine s_iconst dX5_hasPrint_12 (by decide) (s_goto 17 dX5_hasPrint_13 (by decide) (n_zret dX5_hasPrint_17 hR rfl (by first | exact Or.inl rfl | exact Or.inr rfl | exact bi_01 _ | omega) ?_))
      refine ⟨congrArg (fun z => some ((0 : Nat), z)) ?_, rfl⟩
      first | exact (bi_t (by omega)).symm | exact (bi_f (by omega)).symm | exact bi_congr (by omega)

set_option maxRecDepth 100000 in
theorem c_M_isPicture (q : Int) (w : Wd) (h : 0 ≤ w 141 1 ∧ w 141 1 ≤ 30) : CallN 2 mX12_isPicture [(2, 141), (0, q)] w (RV (0, bi (0 ≤ q ∧ q < w 141 1)) w) := by
  refine CallN.intro (by decide +kernel) (Nat.le_of_ble_eq_true rfl) (fun ρ hR => ?_)
  show AtN mX12_isPicture 2 ρ 0 [(0, (2, 141)), (1, (0, q))] [] w
  refine s_iload_n dX12_isPicture_0 1 rfl (s_iconst dX12_isPicture_1 (by decide) (s_aload_n dX12_isPicture_2 0 rfl rfl (n_getf 141 1 0 dX12_isPicture_3 cf_X12 ff_X12_220 rfl sh_141 rfl (by decide) (v := (w 141 1)) rfl (s_iconst dX12_isPicture_6 (by decide) (n_sub (z := ((w 141 1) - 1)) dX12_isPicture_7 (wr_id (by omega) (by omega)) (n_invS (as := [(0, q), (0, 0), (0, ((w 141 1) - 1))]) dX12_isPicture_8 kv_X12_isIn ml_X12_223 (c_isIn q 0 ((w 141 1) - 1) w) (by decide) rfl rfl (Nat.le_of_ble_eq_true rfl) (n_zret dX12_isPicture_11 hR rfl (by first | exact Or.inl rfl | exact Or.inr rfl | exact bi_01 _ | omega) ?_)))))))
  refine ⟨congrArg (fun z => some ((0 : Nat), z)) ?_, rfl⟩
  first | exact (bi_t (by omega)).symm | exact (bi_f (by omega)).symm | exact bi_congr (by omega)

set_option maxRecDepth 100000 in
theorem c_M_isPrint (q : Int) (w : Wd) (h : 0 ≤ w 141 2 ∧ w 141 2 ≤ 30) : CallN 2 mX12_isPrint [(2, 141), (0, q)] w (RV (0, bi (0 ≤ q ∧ q < w 141 2)) w) := by
  refine CallN.intro (by decide +kernel) (Nat.le_of_ble_eq_true rfl) (fun ρ hR => ?_)
  show AtN mX12_isPrint 2 ρ 0 [(0, (2, 141)), (1, (0, q))] [] w
  refine s_iload_n dX12_isPrint_0 1 rfl (s_iconst dX12_isPrint_1 (by decide) (s_aload_n dX12_isPrint_2 0 rfl rfl (n_getf 141 2 0 dX12_isPrint_3 cf_X12 ff_X12_227 rfl sh_141 rfl (by decide) (v := (w 141 2)) rfl (s_iconst dX12_isPrint_6 (by decide) (n_sub (z := ((w 141 2) - 1)) dX12_isPrint_7 (wr_id (by omega) (by omega)) (n_invS (as := [(0, q), (0, 0), (0, ((w 141 2) - 1))]) dX12_isPrint_8 kv_X12_isIn ml_X12_223 (c_isIn q 0 ((w 141 2) - 1) w) (by decide) rfl rfl (Nat.le_of_ble_eq_true rfl) (n_zret dX12_isPrint_11 hR rfl (by first | exact Or.inl rfl | exact Or.inr rfl | exact bi_01 _ | omega) ?_)))))))
  refine ⟨congrArg (fun z => some ((0 : Nat), z)) ?_, rfl⟩
  first | exact (bi_t (by omega)).symm | exact (bi_f (by omega)).symm | exact bi_congr (by omega)

set_option maxRecDepth 100000 in
theorem c_M_isHall (q : Int) (w : Wd) (h : 0 ≤ w 141 4 ∧ w 141 4 ≤ 30) : CallN 2 mX12_isHall [(2, 141), (0, q)] w (RV (0, bi (0 ≤ q ∧ q < w 141 4)) w) := by
  refine CallN.intro (by decide +kernel) (Nat.le_of_ble_eq_true rfl) (fun ρ hR => ?_)
  show AtN mX12_isHall 2 ρ 0 [(0, (2, 141)), (1, (0, q))] [] w
  refine s_iload_n dX12_isHall_0 1 rfl (s_iconst dX12_isHall_1 (by decide) (s_aload_n dX12_isHall_2 0 rfl rfl (n_getf 141 4 0 dX12_isHall_3 cf_X12 ff_X12_230 rfl sh_141 rfl (by decide) (v := (w 141 4)) rfl (s_iconst dX12_isHall_6 (by decide) (n_sub (z := ((w 141 4) - 1)) dX12_isHall_7 (wr_id (by omega) (by omega)) (n_invS (as := [(0, q), (0, 0), (0, ((w 141 4) - 1))]) dX12_isHall_8 kv_X12_isIn ml_X12_223 (c_isIn q 0 ((w 141 4) - 1) w) (by decide) rfl rfl (Nat.le_of_ble_eq_true rfl) (n_zret dX12_isHall_11 hR rfl (by first | exact Or.inl rfl | exact Or.inr rfl | exact bi_01 _ | omega) ?_)))))))
  refine ⟨congrArg (fun z => some ((0 : Nat), z)) ?_, rfl⟩
  first | exact (bi_t (by omega)).symm | exact (bi_f (by omega)).symm | exact bi_congr (by omega)

set_option maxRecDepth 100000 in
theorem c_M_isSet (q : Int) (w : Wd) (h : 0 ≤ w 141 5 ∧ w 141 5 ≤ 30) : CallN 2 mX12_isSet [(2, 141), (0, q)] w (RV (0, bi (0 ≤ q ∧ q < w 141 5)) w) := by
  refine CallN.intro (by decide +kernel) (Nat.le_of_ble_eq_true rfl) (fun ρ hR => ?_)
  show AtN mX12_isSet 2 ρ 0 [(0, (2, 141)), (1, (0, q))] [] w
  refine s_iload_n dX12_isSet_0 1 rfl (s_iconst dX12_isSet_1 (by decide) (s_aload_n dX12_isSet_2 0 rfl rfl (n_getf 141 5 0 dX12_isSet_3 cf_X12 ff_X12_233 rfl sh_141 rfl (by decide) (v := (w 141 5)) rfl (s_iconst dX12_isSet_6 (by decide) (n_sub (z := ((w 141 5) - 1)) dX12_isSet_7 (wr_id (by omega) (by omega)) (n_invS (as := [(0, q), (0, 0), (0, ((w 141 5) - 1))]) dX12_isSet_8 kv_X12_isIn ml_X12_223 (c_isIn q 0 ((w 141 5) - 1) w) (by decide) rfl rfl (Nat.le_of_ble_eq_true rfl) (n_zret dX12_isSet_11 hR rfl (by first | exact Or.inl rfl | exact Or.inr rfl | exact bi_01 _ | omega) ?_)))))))
  refine ⟨congrArg (fun z => some ((0 : Nat), z)) ?_, rfl⟩
  first | exact (bi_t (by omega)).symm | exact (bi_f (by omega)).symm | exact bi_congr (by omega)

set_option maxRecDepth 100000 in
theorem c_M_isCrowd (q : Int) (w : Wd) (h : 0 ≤ w 141 6 ∧ w 141 6 ≤ 30) : CallN 2 mX12_isCrowd [(2, 141), (0, q)] w (RV (0, bi (0 ≤ q ∧ q < w 141 6)) w) := by
  refine CallN.intro (by decide +kernel) (Nat.le_of_ble_eq_true rfl) (fun ρ hR => ?_)
  show AtN mX12_isCrowd 2 ρ 0 [(0, (2, 141)), (1, (0, q))] [] w
  refine s_iload_n dX12_isCrowd_0 1 rfl (s_iconst dX12_isCrowd_1 (by decide) (s_aload_n dX12_isCrowd_2 0 rfl rfl (n_getf 141 6 0 dX12_isCrowd_3 cf_X12 ff_X12_236 rfl sh_141 rfl (by decide) (v := (w 141 6)) rfl (s_iconst dX12_isCrowd_6 (by decide) (n_sub (z := ((w 141 6) - 1)) dX12_isCrowd_7 (wr_id (by omega) (by omega)) (n_invS (as := [(0, q), (0, 0), (0, ((w 141 6) - 1))]) dX12_isCrowd_8 kv_X12_isIn ml_X12_223 (c_isIn q 0 ((w 141 6) - 1) w) (by decide) rfl rfl (Nat.le_of_ble_eq_true rfl) (n_zret dX12_isCrowd_11 hR rfl (by first | exact Or.inl rfl | exact Or.inr rfl | exact bi_01 _ | omega) ?_)))))))
  refine ⟨congrArg (fun z => some ((0 : Nat), z)) ?_, rfl⟩
  first | exact (bi_t (by omega)).symm | exact (bi_f (by omega)).symm | exact bi_congr (by omega)

set_option maxRecDepth 100000 in
theorem c_X_addPrint (p : Int) (w : Wd) (h : 0 ≤ w 1 9 ∧ w 1 9 ≤ 30) : CallN 2 mX5_addPrint [(2, 1), (0, p)] w (RQ (Two ((0 ≤ p ∧ p < w 1 5) ∧ w 1 9 < 30) w (-1) (w 1 9) (wu (wu (wu (wu w 7 (w 1 9) p) 8 (w 1 9) 0) 9 (w 1 9) (-1)) 1 9 ((w 1 9) + 1)))) := by
  refine CallN.intro (by decide +kernel) (Nat.le_of_ble_eq_true rfl) (fun ρ hR => ?_)
  show AtN mX5_addPrint 2 ρ 0 [(0, (2, 1)), (1, (0, p))] [] w
  refine s_aload_n dX5_addPrint_0 0 rfl rfl (s_iload_n dX5_addPrint_1 1 rfl (n_invV (as := [(0, p)]) dX5_addPrint_2 kv_X5_hasPicture ml_X5_59 (c_X_hasPicture p w) (by decide) 1 cf_X5 rfl sh_1 rfl rfl rfl (Nat.le_of_ble_eq_true rfl) (n_ifeq_b 17 dX5_addPrint_5 (by decide) (fun c_5 => ?_) (fun c_5 => ?_))))
  · skip
    refine s_iconst dX5_addPrint_17 (by decide) (n_iret dX5_addPrint_18 hR rfl ?_)
    first | exact ⟨_, rfl, Or.inl ⟨by omega, by omega, rfl⟩⟩ | exact ⟨_, rfl, Or.inr ⟨by omega, by omega, rfl⟩⟩ | (exfalso; omega)
  · skip
    refine s_aload_n dX5_addPrint_8 0 rfl rfl (n_getf 1 9 0 dX5_addPrint_9 cf_X5 ff_X5_63 rfl sh_1 rfl (by decide) (v := (w 1 9)) rfl (s_bipush dX5_addPrint_12 (by decide) (s_icmp_lt 19 dX5_addPrint_14 (by decide) (fun c_14 => ?_) (fun c_14 => ?_))))
    · skip
      refine s_aload_n dX5_addPrint_19 0 rfl rfl (n_getc (q := 7) 1 6 17 dX5_addPrint_20 cf_X5 ff_X5_27 rfl sh_1 rfl (by decide) rfl (by decide) (s_aload_n dX5_addPrint_23 0 rfl rfl (n_getf 1 9 0 dX5_addPrint_24 cf_X5 ff_X5_63 rfl sh_1 rfl (by decide) (v := (w 1 9)) rfl (s_iload_n dX5_addPrint_27 1 rfl (s_iastore 7 dX5_addPrint_28 rfl sh_7 (by decide) ⟨(by omega), (by omega)⟩ (s_aload_n dX5_addPrint_29 0 rfl rfl (n_getc (q := 8) 1 7 18 dX5_addPrint_30 cf_X5 ff_X5_30 rfl sh_1 rfl (by decide) rfl (by decide) (s_aload_n dX5_addPrint_33 0 rfl rfl (n_getf 1 9 0 dX5_addPrint_34 cf_X5 ff_X5_63 rfl sh_1 rfl (by decide) (v := (w 1 9)) rfl ?_)))))))))
      refine s_iconst dX5_addPrint_37 (by decide) (s_iastore 8 dX5_addPrint_38 rfl sh_8 (by decide) ⟨(by omega), (by omega)⟩ (s_aload_n dX5_addPrint_39 0 rfl rfl (n_getc (q := 9) 1 8 19 dX5_addPrint_40 cf_X5 ff_X5_33 rfl sh_1 rfl (by decide) rfl (by decide) (s_aload_n dX5_addPrint_43 0 rfl rfl (n_getf 1 9 0 dX5_addPrint_44 cf_X5 ff_X5_63 rfl sh_1 rfl (by decide) (v := (w 1 9)) rfl (s_iconst dX5_addPrint_47 (by decide) (s_iastore 9 dX5_addPrint_48 rfl sh_9 (by decide) ⟨(by omega), (by omega)⟩ (s_aload_n dX5_addPrint_49 0 rfl rfl (s_dup dX5_addPrint_50 (show (2 : Nat) ≠ 1 by decide) ?_)))))))))
      refine n_getf 1 9 0 dX5_addPrint_51 cf_X5 ff_X5_63 rfl sh_1 rfl (by decide) (v := (w 1 9)) rfl (s_iconst dX5_addPrint_54 (by decide) (n_add (z := ((w 1 9) + 1)) dX5_addPrint_55 (wr_id (by omega) (by omega)) (n_putf 1 9 9 dX5_addPrint_56 cf_X5 ff_X5_63 rfl rfl sh_1 rfl rfl rfl (s_aload_n dX5_addPrint_59 0 rfl rfl (n_getf 1 9 0 dX5_addPrint_60 cf_X5 ff_X5_63 rfl sh_1 rfl (by decide) (v := ((w 1 9) + 1)) rfl (s_iconst dX5_addPrint_63 (by decide) (n_sub (z := (((w 1 9) + 1) - 1)) dX5_addPrint_64 (wr_id (by omega) (by omega)) (n_iret dX5_addPrint_65 hR rfl ?_))))))))
      first | exact ⟨_, rfl, Or.inl ⟨by omega, by omega, rfl⟩⟩ | exact ⟨_, rfl, Or.inr ⟨by omega, by omega, rfl⟩⟩ | (exfalso; omega)
    · skip
      refine s_iconst dX5_addPrint_17 (by decide) (n_iret dX5_addPrint_18 hR rfl ?_)
      first | exact ⟨_, rfl, Or.inl ⟨by omega, by omega, rfl⟩⟩ | exact ⟨_, rfl, Or.inr ⟨by omega, by omega, rfl⟩⟩ | (exfalso; omega)

set_option maxRecDepth 100000 in
theorem x_print (p : Int) (w : Wd) (h : 0 ≤ w 1 9 ∧ w 1 9 ≤ 30) : CallN 3 mX11_print [(2, 0), (0, p)] w (RQ (Two ((0 ≤ p ∧ p < w 1 5) ∧ w 1 9 < 30) w (-1) (w 1 9) (wu (wu (wu (wu w 7 (w 1 9) p) 8 (w 1 9) 0) 9 (w 1 9) (-1)) 1 9 ((w 1 9) + 1)))) := by
  refine CallN.intro (by decide +kernel) (Nat.le_of_ble_eq_true rfl) (fun ρ hR => ?_)
  show AtN mX11_print 3 ρ 0 [(0, (2, 0)), (1, (0, p))] [] w
  refine s_aload_n dX11_print_0 0 rfl rfl (n_getc (q := 1) 0 0 11 dX11_print_1 cf_X11 ff_X11_10 rfl sh_0 rfl (by decide) rfl (by decide) (s_iload_n dX11_print_4 1 rfl (n_invV' (as := [(0, p)]) dX11_print_5 kv_X5_addPrint ml_X11_95 (c_X_addPrint p w h) (by decide) 1 cf_X5 rfl sh_1 rfl rfl rfl (Nat.le_of_ble_eq_true rfl) ?_)))
  rintro r_5 w_5 ⟨z_5, rfl, hz_5⟩
  show AtN _ _ ρ _ _ [(0, z_5)] w_5
  refine n_iret dX11_print_8 hR rfl ?_
  exact ⟨_, rfl, hz_5⟩

set_option maxRecDepth 100000 in
theorem m_print (p : Int) (w : Wd) (h1 : 0 ≤ w 141 1 ∧ w 141 1 ≤ 12) (h : 0 ≤ w 141 2 ∧ w 141 2 ≤ 30) : CallN 3 mX12_print [(2, 141), (0, p)] w (RQ (Two ((0 ≤ p ∧ p < w 141 1) ∧ w 141 2 < 30) w (-1) (w 141 2) (wu (wu (wu w 147 (w 141 2) p) 149 (w 141 2) (-1)) 141 2 ((w 141 2) + 1)))) := by
  refine CallN.intro (by decide +kernel) (Nat.le_of_ble_eq_true rfl) (fun ρ hR => ?_)
  show AtN mX12_print 3 ρ 0 [(0, (2, 141)), (1, (0, p))] [] w
  refine s_aload_n dX12_print_0 0 rfl rfl (s_iload_n dX12_print_1 1 rfl (n_invV (as := [(0, p)]) dX12_print_2 kv_X12_isPicture ml_X12_239 (c_M_isPicture p w (by omega)) (by decide) 141 cf_X12 rfl sh_141 rfl rfl rfl (Nat.le_of_ble_eq_true rfl) (n_ifeq_b 17 dX12_print_5 (by decide) (fun c_5 => ?_) (fun c_5 => ?_))))
  · skip
    refine s_iconst dX12_print_17 (by decide) (n_iret dX12_print_18 hR rfl ?_)
    first | exact ⟨_, rfl, Or.inl ⟨by omega, by omega, rfl⟩⟩ | exact ⟨_, rfl, Or.inr ⟨by omega, by omega, rfl⟩⟩ | (exfalso; omega)
  · skip
    refine s_aload_n dX12_print_8 0 rfl rfl (n_getf 141 2 0 dX12_print_9 cf_X12 ff_X12_227 rfl sh_141 rfl (by decide) (v := (w 141 2)) rfl (s_bipush dX12_print_12 (by decide) (s_icmp_ne 19 dX12_print_14 (by decide) (fun c_14 => ?_) (fun c_14 => ?_))))
    · skip
      refine s_aload_n dX12_print_19 0 rfl rfl (n_getc (q := 147) 141 15 157 dX12_print_20 cf_X12 ff_X12_25 rfl sh_141 rfl (by decide) rfl (by decide) (s_aload_n dX12_print_23 0 rfl rfl (n_getf 141 2 0 dX12_print_24 cf_X12 ff_X12_227 rfl sh_141 rfl (by decide) (v := (w 141 2)) rfl (s_iload_n dX12_print_27 1 rfl (s_iastore 147 dX12_print_28 rfl sh_147 (by decide) ⟨(by omega), (by omega)⟩ (s_aload_n dX12_print_29 0 rfl rfl (n_getc (q := 149) 141 17 159 dX12_print_30 cf_X12 ff_X12_31 rfl sh_141 rfl (by decide) rfl (by decide) (s_aload_n dX12_print_33 0 rfl rfl (n_getf 141 2 0 dX12_print_34 cf_X12 ff_X12_227 rfl sh_141 rfl (by decide) (v := (w 141 2)) rfl ?_)))))))))
      refine s_iconst dX12_print_37 (by decide) (s_iastore 149 dX12_print_38 rfl sh_149 (by decide) ⟨(by omega), (by omega)⟩ (s_aload_n dX12_print_39 0 rfl rfl (s_dup dX12_print_40 (show (2 : Nat) ≠ 1 by decide) (n_getf 141 2 0 dX12_print_41 cf_X12 ff_X12_227 rfl sh_141 rfl (by decide) (v := (w 141 2)) rfl (s_iconst dX12_print_44 (by decide) (n_add (z := ((w 141 2) + 1)) dX12_print_45 (wr_id (by omega) (by omega)) (n_putf 141 2 2 dX12_print_46 cf_X12 ff_X12_227 rfl rfl sh_141 rfl rfl rfl (s_aload_n dX12_print_49 0 rfl rfl (n_getf 141 2 0 dX12_print_50 cf_X12 ff_X12_227 rfl sh_141 rfl (by decide) (v := ((w 141 2) + 1)) rfl ?_)))))))))
      refine s_iconst dX12_print_53 (by decide) (n_sub (z := (((w 141 2) + 1) - 1)) dX12_print_54 (wr_id (by omega) (by omega)) (n_iret dX12_print_55 hR rfl ?_))
      first | exact ⟨_, rfl, Or.inl ⟨by omega, by omega, rfl⟩⟩ | exact ⟨_, rfl, Or.inr ⟨by omega, by omega, rfl⟩⟩ | (exfalso; omega)
    · skip
      refine s_iconst dX12_print_17 (by decide) (n_iret dX12_print_18 hR rfl ?_)
      first | exact ⟨_, rfl, Or.inl ⟨by omega, by omega, rfl⟩⟩ | exact ⟨_, rfl, Or.inr ⟨by omega, by omega, rfl⟩⟩ | (exfalso; omega)

set_option maxRecDepth 100000 in
theorem c_X_hasFrame (p f : Int) (w : Wd) (h : w 1 9 ≤ 30) (hp : ∀ j, 0 ≤ j → j < w 1 9 → 0 ≤ w 7 j ∧ w 7 j < 12) : CallN 2 mX5_hasFrame [(2, 1), (0, p), (0, f)] w (RV (0, bi ((0 ≤ p ∧ p < w 1 9) ∧ (0 ≤ f ∧ f < w 6 (w 7 p)))) w) := by
  refine CallN.intro (by decide +kernel) (Nat.le_of_ble_eq_true rfl) (fun ρ hR => ?_)
  show AtN mX5_hasFrame 2 ρ 0 [(0, (2, 1)), (1, (0, p)), (2, (0, f))] [] w
  refine s_aload_n dX5_hasFrame_0 0 rfl rfl (s_iload_n dX5_hasFrame_1 1 rfl (n_invV (as := [(0, p)]) dX5_hasFrame_2 kv_X5_hasPrint ml_X5_76 (c_X_hasPrint p w) (by decide) 1 cf_X5 rfl sh_1 rfl rfl rfl (Nat.le_of_ble_eq_true rfl) (n_ifeq_b 31 dX5_hasFrame_5 (by decide) (fun c_5 => ?_) (fun c_5 => ?_))))
  · skip
    refine s_iconst dX5_hasFrame_31 (by decide) (n_zret dX5_hasFrame_32 hR rfl (by first | exact Or.inl rfl | exact Or.inr rfl | exact bi_01 _ | omega) ?_)
    refine ⟨congrArg (fun z => some ((0 : Nat), z)) ?_, rfl⟩
    first | exact (bi_t (by omega)).symm | exact (bi_f (by omega)).symm | exact bi_congr (by omega)
  · skip
    refine s_iload_n dX5_hasFrame_8 2 rfl (s_if_lt 31 dX5_hasFrame_9 (by decide) (fun c_9 => ?_) (fun c_9 => ?_))
    · skip
      refine s_iconst dX5_hasFrame_31 (by decide) (n_zret dX5_hasFrame_32 hR rfl (by first | exact Or.inl rfl | exact Or.inr rfl | exact bi_01 _ | omega) ?_)
      refine ⟨congrArg (fun z => some ((0 : Nat), z)) ?_, rfl⟩
      first | exact (bi_t (by omega)).symm | exact (bi_f (by omega)).symm | exact bi_congr (by omega)
    · skip
      refine s_iload_n dX5_hasFrame_12 2 rfl (s_aload_n dX5_hasFrame_13 0 rfl rfl ?_)
      have h7 := hp p (by omega) (by omega)
      refine n_getc (q := 6) 1 4 16 dX5_hasFrame_14 cf_X5 ff_X5_24 rfl sh_1 rfl (by decide) rfl (by decide) (s_aload_n dX5_hasFrame_17 0 rfl rfl (n_getc (q := 7) 1 6 17 dX5_hasFrame_18 cf_X5 ff_X5_27 rfl sh_1 rfl (by decide) rfl (by decide) (s_iload_n dX5_hasFrame_21 1 rfl (n_iald 7 dX5_hasFrame_22 rfl sh_7 (by decide) ⟨(by omega), (by omega)⟩ (v := (w 7 p)) rfl (n_iald 6 dX5_hasFrame_23 rfl sh_6 (by decide) ⟨(by omega), (by omega)⟩ (v := (w 6 (w 7 p))) rfl (s_icmp_ge 31 dX5_hasFrame_24 (by decide) (fun c_24 => ?_) (fun c_24 => ?_)))))))
      · skip
        refine s_iconst dX5_hasFrame_31 (by decide) (n_zret dX5_hasFrame_32 hR rfl (by first | exact Or.inl rfl | exact Or.inr rfl | exact bi_01 _ | omega) ?_)
        refine ⟨congrArg (fun z => some ((0 : Nat), z)) ?_, rfl⟩
        first | exact (bi_t (by omega)).symm | exact (bi_f (by omega)).symm | exact bi_congr (by omega)
      · skip
        refine s_iconst dX5_hasFrame_27 (by decide) (s_goto 32 dX5_hasFrame_28 (by decide) (n_zret dX5_hasFrame_32 hR rfl (by first | exact Or.inl rfl | exact Or.inr rfl | exact bi_01 _ | omega) ?_))
        refine ⟨congrArg (fun z => some ((0 : Nat), z)) ?_, rfl⟩
        first | exact (bi_t (by omega)).symm | exact (bi_f (by omega)).symm | exact bi_congr (by omega)

set_option maxRecDepth 100000 in
theorem c_X_canBe (kind f n : Int) (w : Wd) : CallN 2 mX5_canBe [(0, kind), (0, f), (0, n)] w (RV (0, bi ((kind = 0 ∧ 1 ≤ n ∧ n ≤ 99) ∨ (kind = 1 ∧ 1 ≤ n ∧ n ≤ 99) ∨ (kind = 2 ∧ -9 ≤ n ∧ n ≤ 9 ∧ n ≠ 0) ∨ (kind = 3 ∧ -99 ≤ n ∧ n ≤ 99 ∧ f = 0))) w) := by
  refine CallN.intro (by decide +kernel) (Nat.le_of_ble_eq_true rfl) (fun ρ hR => ?_)
  show AtN mX5_canBe 2 ρ 0 [(0, (0, kind)), (1, (0, f)), (2, (0, n))] [] w
  refine s_iload_n dX5_canBe_0 0 rfl ?_
  rcases (show (kind < 0 ∨ 3 < kind) ∨ kind = 0 ∨ kind = 1 ∨ kind = 2 ∨ kind = 3 from by omega) with c_1 | c_1 | c_1 | c_1 | c_1
  · refine s_tableOut 82 dX5_canBe_1 c_1 (by decide) ?_
    refine s_iconst dX5_canBe_82 (by decide) (n_zret dX5_canBe_83 hR rfl (by first | exact Or.inl rfl | exact Or.inr rfl | exact bi_01 _ | omega) ?_)
    refine ⟨congrArg (fun z => some ((0 : Nat), z)) ?_, rfl⟩
    first | exact (bi_t (by omega)).symm | exact (bi_f (by omega)).symm | exact bi_congr (by omega)
  · refine s_tableIn 32 0 dX5_canBe_1 (by rw [c_1]; rfl) (by decide) rfl (by decide) ?_
    refine s_iload_n dX5_canBe_32 2 rfl (s_iconst dX5_canBe_33 (by decide) (s_bipush dX5_canBe_34 (by decide) (n_invT (as := [(0, n), (0, 1), (0, 99)]) dX5_canBe_36 kv_X11_within ml_X5_51 (c_within n 1 99 w) (by decide) rfl rfl (Nat.le_of_ble_eq_true rfl) (n_zret dX5_canBe_39 hR rfl (by first | exact Or.inl rfl | exact Or.inr rfl | exact bi_01 _ | omega) ?_))))
    refine ⟨congrArg (fun z => some ((0 : Nat), z)) ?_, rfl⟩
    first | exact (bi_t (by omega)).symm | exact (bi_f (by omega)).symm | exact bi_congr (by omega)
  · refine s_tableIn 32 1 dX5_canBe_1 (by rw [c_1]; rfl) (by decide) rfl (by decide) ?_
    refine s_iload_n dX5_canBe_32 2 rfl (s_iconst dX5_canBe_33 (by decide) (s_bipush dX5_canBe_34 (by decide) (n_invT (as := [(0, n), (0, 1), (0, 99)]) dX5_canBe_36 kv_X11_within ml_X5_51 (c_within n 1 99 w) (by decide) rfl rfl (Nat.le_of_ble_eq_true rfl) (n_zret dX5_canBe_39 hR rfl (by first | exact Or.inl rfl | exact Or.inr rfl | exact bi_01 _ | omega) ?_))))
    refine ⟨congrArg (fun z => some ((0 : Nat), z)) ?_, rfl⟩
    first | exact (bi_t (by omega)).symm | exact (bi_f (by omega)).symm | exact bi_congr (by omega)
  · refine s_tableIn 40 2 dX5_canBe_1 (by rw [c_1]; rfl) (by decide) rfl (by decide) ?_
    refine s_iload_n dX5_canBe_40 2 rfl (s_bipush dX5_canBe_41 (by decide) (s_bipush dX5_canBe_43 (by decide) (n_invT (as := [(0, n), (0, (-9)), (0, 9)]) dX5_canBe_45 kv_X11_within ml_X5_51 (c_within n (-9) 9 w) (by decide) rfl rfl (Nat.le_of_ble_eq_true rfl) (n_ifeq_b 59 dX5_canBe_48 (by decide) (fun c_48 => ?_) (fun c_48 => ?_)))))
    · skip
      refine s_iconst dX5_canBe_59 (by decide) (n_zret dX5_canBe_60 hR rfl (by first | exact Or.inl rfl | exact Or.inr rfl | exact bi_01 _ | omega) ?_)
      refine ⟨congrArg (fun z => some ((0 : Nat), z)) ?_, rfl⟩
      first | exact (bi_t (by omega)).symm | exact (bi_f (by omega)).symm | exact bi_congr (by omega)
    · skip
      refine s_iload_n dX5_canBe_51 2 rfl (s_if_eq 59 dX5_canBe_52 (by decide) (fun c_52 => ?_) (fun c_52 => ?_))
      · skip
        refine s_iconst dX5_canBe_59 (by decide) (n_zret dX5_canBe_60 hR rfl (by first | exact Or.inl rfl | exact Or.inr rfl | exact bi_01 _ | omega) ?_)
        refine ⟨congrArg (fun z => some ((0 : Nat), z)) ?_, rfl⟩
        first | exact (bi_t (by omega)).symm | exact (bi_f (by omega)).symm | exact bi_congr (by omega)
      · skip
        refine s_iconst dX5_canBe_55 (by decide) (s_goto 60 dX5_canBe_56 (by decide) (n_zret dX5_canBe_60 hR rfl (by first | exact Or.inl rfl | exact Or.inr rfl | exact bi_01 _ | omega) ?_))
        refine ⟨congrArg (fun z => some ((0 : Nat), z)) ?_, rfl⟩
        first | exact (bi_t (by omega)).symm | exact (bi_f (by omega)).symm | exact bi_congr (by omega)
  · refine s_tableIn 61 3 dX5_canBe_1 (by rw [c_1]; rfl) (by decide) rfl (by decide) ?_
    refine s_iload_n dX5_canBe_61 2 rfl (s_bipush dX5_canBe_62 (by decide) (s_bipush dX5_canBe_64 (by decide) (n_invT (as := [(0, n), (0, (-99)), (0, 99)]) dX5_canBe_66 kv_X11_within ml_X5_51 (c_within n (-99) 99 w) (by decide) rfl rfl (Nat.le_of_ble_eq_true rfl) (n_ifeq_b 80 dX5_canBe_69 (by decide) (fun c_69 => ?_) (fun c_69 => ?_)))))
    · skip
      refine s_iconst dX5_canBe_80 (by decide) (n_zret dX5_canBe_81 hR rfl (by first | exact Or.inl rfl | exact Or.inr rfl | exact bi_01 _ | omega) ?_)
      refine ⟨congrArg (fun z => some ((0 : Nat), z)) ?_, rfl⟩
      first | exact (bi_t (by omega)).symm | exact (bi_f (by omega)).symm | exact bi_congr (by omega)
    · skip
      refine s_iload_n dX5_canBe_72 1 rfl (s_if_ne 80 dX5_canBe_73 (by decide) (fun c_73 => ?_) (fun c_73 => ?_))
      · skip
        refine s_iconst dX5_canBe_80 (by decide) (n_zret dX5_canBe_81 hR rfl (by first | exact Or.inl rfl | exact Or.inr rfl | exact bi_01 _ | omega) ?_)
        refine ⟨congrArg (fun z => some ((0 : Nat), z)) ?_, rfl⟩
        first | exact (bi_t (by omega)).symm | exact (bi_f (by omega)).symm | exact bi_congr (by omega)
      · skip
        refine s_iconst dX5_canBe_76 (by decide) (s_goto 81 dX5_canBe_77 (by decide) (n_zret dX5_canBe_81 hR rfl (by first | exact Or.inl rfl | exact Or.inr rfl | exact bi_01 _ | omega) ?_))
        refine ⟨congrArg (fun z => some ((0 : Nat), z)) ?_, rfl⟩
        first | exact (bi_t (by omega)).symm | exact (bi_f (by omega)).symm | exact bi_congr (by omega)

set_option maxRecDepth 100000 in
theorem c_X_tell (p kind f n now : Int) (w : Wd) (h : w 1 9 ≤ 30) (hp : ∀ j, 0 ≤ j → j < w 1 9 → 0 ≤ w 7 j ∧ w 7 j < 12) (he : 0 ≤ w 1 15 ∧ w 1 15 ≤ 150) : CallN 3 mX5_tell [(2, 1), (0, p), (0, kind), (0, f), (0, n), (0, now)] w (RQ (Two (okEv p kind f n (w 1 9) (w 1 15) (w 6 (w 7 p))) w (-1) (w 1 15 + 1) (wu (wu (wu (wu (wu (wu w 10 (w 1 15) p) 11 (w 1 15) kind) 12 (w 1 15) f) 13 (w 1 15) n) 14 (w 1 15) now) 1 15 ((w 1 15) + 1)))) := by
  refine CallN.intro (by decide +kernel) (Nat.le_of_ble_eq_true rfl) (fun ρ hR => ?_)
  show AtN mX5_tell 3 ρ 0 [(0, (2, 1)), (1, (0, p)), (2, (0, kind)), (3, (0, f)), (4, (0, n)), (5, (0, now))] [] w
  refine s_aload_n dX5_tell_0 0 rfl rfl (s_iload_n dX5_tell_1 1 rfl (s_iload_n dX5_tell_2 3 rfl (n_invV (as := [(0, p), (0, f)]) dX5_tell_3 kv_X5_hasFrame ml_X5_66 (c_X_hasFrame p f w h hp) (by decide) 1 cf_X5 rfl sh_1 rfl rfl rfl (Nat.le_of_ble_eq_true rfl) (n_ifeq_b 29 dX5_tell_6 (by decide) (fun c_6 => ?_) (fun c_6 => ?_)))))
  · skip
    refine s_iconst dX5_tell_29 (by decide) (n_iret dX5_tell_30 hR rfl ?_)
    first | exact ⟨_, rfl, Or.inl ⟨by omega, by omega, rfl⟩⟩ | exact ⟨_, rfl, Or.inr ⟨by omega, by omega, rfl⟩⟩ | (exfalso; omega)
  · skip
    refine s_iload_n dX5_tell_9 2 rfl (s_iload_n dX5_tell_10 3 rfl (s_iload dX5_tell_11 4 rfl (n_invS (as := [(0, kind), (0, f), (0, n)]) dX5_tell_13 kv_X5_canBe ml_X5_70 (c_X_canBe kind f n w) (by decide) rfl rfl (Nat.le_of_ble_eq_true rfl) (n_ifeq_b 29 dX5_tell_16 (by decide) (fun c_16 => ?_) (fun c_16 => ?_)))))
    · skip
      refine s_iconst dX5_tell_29 (by decide) (n_iret dX5_tell_30 hR rfl ?_)
      first | exact ⟨_, rfl, Or.inl ⟨by omega, by omega, rfl⟩⟩ | exact ⟨_, rfl, Or.inr ⟨by omega, by omega, rfl⟩⟩ | (exfalso; omega)
    · skip
      refine s_aload_n dX5_tell_19 0 rfl rfl (n_getf 1 15 0 dX5_tell_20 cf_X5 ff_X5_73 rfl sh_1 rfl (by decide) (v := (w 1 15)) rfl (s_sipush dX5_tell_23 (by decide) (s_icmp_lt 31 dX5_tell_26 (by decide) (fun c_26 => ?_) (fun c_26 => ?_))))
      · skip
        refine s_aload_n dX5_tell_31 0 rfl rfl (n_getc (q := 10) 1 10 20 dX5_tell_32 cf_X5 ff_X5_36 rfl sh_1 rfl (by decide) rfl (by decide) (s_aload_n dX5_tell_35 0 rfl rfl (n_getf 1 15 0 dX5_tell_36 cf_X5 ff_X5_73 rfl sh_1 rfl (by decide) (v := (w 1 15)) rfl (s_iload_n dX5_tell_39 1 rfl (s_iastore 10 dX5_tell_40 rfl sh_10 (by decide) ⟨(by omega), (by omega)⟩ (s_aload_n dX5_tell_41 0 rfl rfl (n_getc (q := 11) 1 11 21 dX5_tell_42 cf_X5 ff_X5_39 rfl sh_1 rfl (by decide) rfl (by decide) (s_aload_n dX5_tell_45 0 rfl rfl (n_getf 1 15 0 dX5_tell_46 cf_X5 ff_X5_73 rfl sh_1 rfl (by decide) (v := (w 1 15)) rfl ?_)))))))))
        refine s_iload_n dX5_tell_49 2 rfl (s_iastore 11 dX5_tell_50 rfl sh_11 (by decide) ⟨(by omega), (by omega)⟩ (s_aload_n dX5_tell_51 0 rfl rfl (n_getc (q := 12) 1 12 22 dX5_tell_52 cf_X5 ff_X5_42 rfl sh_1 rfl (by decide) rfl (by decide) (s_aload_n dX5_tell_55 0 rfl rfl (n_getf 1 15 0 dX5_tell_56 cf_X5 ff_X5_73 rfl sh_1 rfl (by decide) (v := (w 1 15)) rfl (s_iload_n dX5_tell_59 3 rfl (s_iastore 12 dX5_tell_60 rfl sh_12 (by decide) ⟨(by omega), (by omega)⟩ (s_aload_n dX5_tell_61 0 rfl rfl (n_getc (q := 13) 1 13 23 dX5_tell_62 cf_X5 ff_X5_45 rfl sh_1 rfl (by decide) rfl (by decide) ?_)))))))))
        refine s_aload_n dX5_tell_65 0 rfl rfl (n_getf 1 15 0 dX5_tell_66 cf_X5 ff_X5_73 rfl sh_1 rfl (by decide) (v := (w 1 15)) rfl (s_iload dX5_tell_69 4 rfl (s_iastore 13 dX5_tell_71 rfl sh_13 (by decide) ⟨(by omega), (by omega)⟩ (s_aload_n dX5_tell_72 0 rfl rfl (n_getc (q := 14) 1 14 24 dX5_tell_73 cf_X5 ff_X5_48 rfl sh_1 rfl (by decide) rfl (by decide) (s_aload_n dX5_tell_76 0 rfl rfl (n_getf 1 15 0 dX5_tell_77 cf_X5 ff_X5_73 rfl sh_1 rfl (by decide) (v := (w 1 15)) rfl (s_iload dX5_tell_80 5 rfl (s_iastore 14 dX5_tell_82 rfl sh_14 (by decide) ⟨(by omega), (by omega)⟩ ?_)))))))))
        refine s_aload_n dX5_tell_83 0 rfl rfl (s_dup dX5_tell_84 (show (2 : Nat) ≠ 1 by decide) (n_getf 1 15 0 dX5_tell_85 cf_X5 ff_X5_73 rfl sh_1 rfl (by decide) (v := (w 1 15)) rfl (s_iconst dX5_tell_88 (by decide) (n_add (z := ((w 1 15) + 1)) dX5_tell_89 (wr_id (by omega) (by omega)) (n_putf 1 15 15 dX5_tell_90 cf_X5 ff_X5_73 rfl rfl sh_1 rfl rfl rfl (s_aload_n dX5_tell_93 0 rfl rfl (n_getf 1 15 0 dX5_tell_94 cf_X5 ff_X5_73 rfl sh_1 rfl (by decide) (v := ((w 1 15) + 1)) rfl (n_iret dX5_tell_97 hR rfl ?_))))))))
        first | exact ⟨_, rfl, Or.inl ⟨by omega, by omega, rfl⟩⟩ | exact ⟨_, rfl, Or.inr ⟨by omega, by omega, rfl⟩⟩ | (exfalso; omega)
      · skip
        refine s_iconst dX5_tell_29 (by decide) (n_iret dX5_tell_30 hR rfl ?_)
        first | exact ⟨_, rfl, Or.inl ⟨by omega, by omega, rfl⟩⟩ | exact ⟨_, rfl, Or.inr ⟨by omega, by omega, rfl⟩⟩ | (exfalso; omega)

set_option maxRecDepth 100000 in
theorem x_event (p kind f n : Int) (w : Wd) (h : w 1 9 ≤ 30) (hp : ∀ j, 0 ≤ j → j < w 1 9 → 0 ≤ w 7 j ∧ w 7 j < 12) (he : 0 ≤ w 1 15 ∧ w 1 15 ≤ 150) : CallN 4 mX11_event [(2, 0), (0, p), (0, kind), (0, f), (0, n)] w (RQ (Two (okEv p kind f n (w 1 9) (w 1 15) (w 6 (w 7 p))) w (-1) (w 1 15 + 1) (wu (wu (wu (wu (wu (wu w 10 (w 1 15) p) 11 (w 1 15) kind) 12 (w 1 15) f) 13 (w 1 15) n) 14 (w 1 15) (w 0 10)) 1 15 ((w 1 15) + 1)))) := by
  refine CallN.intro (by decide +kernel) (Nat.le_of_ble_eq_true rfl) (fun ρ hR => ?_)
  show AtN mX11_event 4 ρ 0 [(0, (2, 0)), (1, (0, p)), (2, (0, kind)), (3, (0, f)), (4, (0, n))] [] w
  refine s_aload_n dX11_event_0 0 rfl rfl (n_getc (q := 1) 0 0 11 dX11_event_1 cf_X11 ff_X11_10 rfl sh_0 rfl (by decide) rfl (by decide) (s_iload_n dX11_event_4 1 rfl (s_iload_n dX11_event_5 2 rfl (s_iload_n dX11_event_6 3 rfl (s_iload dX11_event_7 4 rfl (s_aload_n dX11_event_9 0 rfl rfl (n_getf 0 10 0 dX11_event_10 cf_X11 ff_X11_87 rfl sh_0 rfl (by decide) (v := (w 0 10)) rfl (n_invV' (as := [(0, p), (0, kind), (0, f), (0, n), (0, (w 0 10))]) dX11_event_13 kv_X5_tell ml_X11_99 (c_X_tell p kind f n (w 0 10) w h hp he) (by decide) 1 cf_X5 rfl sh_1 rfl rfl rfl (Nat.le_of_ble_eq_true rfl) ?_))))))))
  rintro r_13 w_13 ⟨z_13, rfl, hz_13⟩
  show AtN _ _ ρ _ _ [(0, z_13)] w_13
  refine n_iret dX11_event_16 hR rfl ?_
  exact ⟨_, rfl, hz_13⟩

set_option maxRecDepth 100000 in
theorem c_M_canBe (kind n : Int) (w : Wd) : CallN 2 mX12_canBe [(0, kind), (0, n)] w (RV (0, bi ((kind = 0 ∧ 1 ≤ n ∧ n ≤ 99) ∨ (kind = 1 ∧ 1 ≤ n ∧ n ≤ 99) ∨ (kind = 2 ∧ -9 ≤ n ∧ n ≤ 9 ∧ n ≠ 0) ∨ (kind = 3 ∧ -99 ≤ n ∧ n ≤ 99))) w) := by
  refine CallN.intro (by decide +kernel) (Nat.le_of_ble_eq_true rfl) (fun ρ hR => ?_)
  show AtN mX12_canBe 2 ρ 0 [(0, (0, kind)), (1, (0, n))] [] w
  refine s_iload_n dX12_canBe_0 0 rfl ?_
  rcases (show (kind < 0 ∨ 2 < kind) ∨ kind = 0 ∨ kind = 1 ∨ kind = 2 from by omega) with c_1 | c_1 | c_1 | c_1
  · refine s_tableOut 57 dX12_canBe_1 c_1 (by decide) ?_
    refine s_iload_n dX12_canBe_57 0 rfl (s_iconst dX12_canBe_58 (by decide) (s_icmp_ne 77 dX12_canBe_59 (by decide) (fun c_59 => ?_) (fun c_59 => ?_)))
    · skip
      refine s_iconst dX12_canBe_77 (by decide) (n_zret dX12_canBe_78 hR rfl (by first | exact Or.inl rfl | exact Or.inr rfl | exact bi_01 _ | omega) ?_)
      refine ⟨congrArg (fun z => some ((0 : Nat), z)) ?_, rfl⟩
      first | exact (bi_t (by omega)).symm | exact (bi_f (by omega)).symm | exact bi_congr (by omega)
    · skip
      refine s_iload_n dX12_canBe_62 1 rfl (s_bipush dX12_canBe_63 (by decide) (s_bipush dX12_canBe_65 (by decide) (n_invS (as := [(0, n), (0, (-99)), (0, 99)]) dX12_canBe_67 kv_X12_isIn ml_X12_223 (c_isIn n (-99) 99 w) (by decide) rfl rfl (Nat.le_of_ble_eq_true rfl) (n_ifeq_b 77 dX12_canBe_70 (by decide) (fun c_70 => ?_) (fun c_70 => ?_)))))
      · skip
        refine s_iconst dX12_canBe_77 (by decide) (n_zret dX12_canBe_78 hR rfl (by first | exact Or.inl rfl | exact Or.inr rfl | exact bi_01 _ | omega) ?_)
        refine ⟨congrArg (fun z => some ((0 : Nat), z)) ?_, rfl⟩
        first | exact (bi_t (by omega)).symm | exact (bi_f (by omega)).symm | exact bi_congr (by omega)
      · skip
        refine s_iconst dX12_canBe_73 (by decide) (s_goto 78 dX12_canBe_74 (by decide) (n_zret dX12_canBe_78 hR rfl (by first | exact Or.inl rfl | exact Or.inr rfl | exact bi_01 _ | omega) ?_))
        refine ⟨congrArg (fun z => some ((0 : Nat), z)) ?_, rfl⟩
        first | exact (bi_t (by omega)).symm | exact (bi_f (by omega)).symm | exact bi_congr (by omega)
  · refine s_tableIn 28 0 dX12_canBe_1 (by rw [c_1]; rfl) (by decide) rfl (by decide) ?_
    refine s_iload_n dX12_canBe_28 1 rfl (s_iconst dX12_canBe_29 (by decide) (s_bipush dX12_canBe_30 (by decide) (n_invS (as := [(0, n), (0, 1), (0, 99)]) dX12_canBe_32 kv_X12_isIn ml_X12_223 (c_isIn n 1 99 w) (by decide) rfl rfl (Nat.le_of_ble_eq_true rfl) (n_zret dX12_canBe_35 hR rfl (by first | exact Or.inl rfl | exact Or.inr rfl | exact bi_01 _ | omega) ?_))))
    refine ⟨congrArg (fun z => some ((0 : Nat), z)) ?_, rfl⟩
    first | exact (bi_t (by omega)).symm | exact (bi_f (by omega)).symm | exact bi_congr (by omega)
  · refine s_tableIn 28 1 dX12_canBe_1 (by rw [c_1]; rfl) (by decide) rfl (by decide) ?_
    refine s_iload_n dX12_canBe_28 1 rfl (s_iconst dX12_canBe_29 (by decide) (s_bipush dX12_canBe_30 (by decide) (n_invS (as := [(0, n), (0, 1), (0, 99)]) dX12_canBe_32 kv_X12_isIn ml_X12_223 (c_isIn n 1 99 w) (by decide) rfl rfl (Nat.le_of_ble_eq_true rfl) (n_zret dX12_canBe_35 hR rfl (by first | exact Or.inl rfl | exact Or.inr rfl | exact bi_01 _ | omega) ?_))))
    refine ⟨congrArg (fun z => some ((0 : Nat), z)) ?_, rfl⟩
    first | exact (bi_t (by omega)).symm | exact (bi_f (by omega)).symm | exact bi_congr (by omega)
  · refine s_tableIn 36 2 dX12_canBe_1 (by rw [c_1]; rfl) (by decide) rfl (by decide) ?_
    refine s_iload_n dX12_canBe_36 1 rfl (s_bipush dX12_canBe_37 (by decide) (s_bipush dX12_canBe_39 (by decide) (n_invS (as := [(0, n), (0, (-9)), (0, 9)]) dX12_canBe_41 kv_X12_isIn ml_X12_223 (c_isIn n (-9) 9 w) (by decide) rfl rfl (Nat.le_of_ble_eq_true rfl) (n_ifeq_b 55 dX12_canBe_44 (by decide) (fun c_44 => ?_) (fun c_44 => ?_)))))
    · skip
      refine s_iconst dX12_canBe_55 (by decide) (n_zret dX12_canBe_56 hR rfl (by first | exact Or.inl rfl | exact Or.inr rfl | exact bi_01 _ | omega) ?_)
      refine ⟨congrArg (fun z => some ((0 : Nat), z)) ?_, rfl⟩
      first | exact (bi_t (by omega)).symm | exact (bi_f (by omega)).symm | exact bi_congr (by omega)
    · skip
      refine s_iload_n dX12_canBe_47 1 rfl (s_if_eq 55 dX12_canBe_48 (by decide) (fun c_48 => ?_) (fun c_48 => ?_))
      · skip
        refine s_iconst dX12_canBe_55 (by decide) (n_zret dX12_canBe_56 hR rfl (by first | exact Or.inl rfl | exact Or.inr rfl | exact bi_01 _ | omega) ?_)
        refine ⟨congrArg (fun z => some ((0 : Nat), z)) ?_, rfl⟩
        first | exact (bi_t (by omega)).symm | exact (bi_f (by omega)).symm | exact bi_congr (by omega)
      · skip
        refine s_iconst dX12_canBe_51 (by decide) (s_goto 56 dX12_canBe_52 (by decide) (n_zret dX12_canBe_56 hR rfl (by first | exact Or.inl rfl | exact Or.inr rfl | exact bi_01 _ | omega) ?_))
        refine ⟨congrArg (fun z => some ((0 : Nat), z)) ?_, rfl⟩
        first | exact (bi_t (by omega)).symm | exact (bi_f (by omega)).symm | exact bi_congr (by omega)

set_option maxRecDepth 100000 in
theorem m_event (p kind f n : Int) (w : Wd) (h : 0 ≤ w 141 2 ∧ w 141 2 ≤ 30) (hp : ∀ j, 0 ≤ j → j < w 141 2 → 0 ≤ w 147 j ∧ w 147 j < 12) (hf : ∀ j, 0 ≤ j → j < 12 → 0 ≤ w 146 j ∧ w 146 j ≤ 9999) (he : 0 ≤ w 141 3 ∧ w 141 3 ≤ 150) (hf2 : ∀ j, 0 ≤ j → j < w 141 2 → 100 ≤ w 146 (w 147 j)) : CallN 3 mX12_event [(2, 141), (0, p), (0, kind), (0, f), (0, n)] w (RQ (Two (okEv p kind f n (w 141 2) (w 141 3) (w 146 (w 147 p))) w (-1) (w 141 3 + 1) (wu (wu (wu (wu (wu (wu w 150 (w 141 3) p) 151 (w 141 3) kind) 152 (w 141 3) f) 153 (w 141 3) n) 154 (w 141 3) (w 141 0)) 141 3 ((w 141 3) + 1)))) := by
  refine CallN.intro (by decide +kernel) (Nat.le_of_ble_eq_true rfl) (fun ρ hR => ?_)
  show AtN mX12_event 3 ρ 0 [(0, (2, 141)), (1, (0, p)), (2, (0, kind)), (3, (0, f)), (4, (0, n))] [] w
  have hx : 0 ≤ p → p < w 141 2 → (0 ≤ w 147 p ∧ w 147 p < 12) ∧ 100 ≤ w 146 (w 147 p) ∧ w 146 (w 147 p) ≤ 9999 := fun a b => ⟨hp p a b, hf2 p a b, (hf _ (hp p a b).1 (hp p a b).2).2⟩
  refine s_aload_n dX12_event_0 0 rfl rfl (s_iload_n dX12_event_1 1 rfl (n_invV (as := [(0, p)]) dX12_event_2 kv_X12_isPrint ml_X12_243 (c_M_isPrint p w (by omega)) (by decide) 141 cf_X12 rfl sh_141 rfl rfl rfl (Nat.le_of_ble_eq_true rfl) (n_ifeq_b 57 dX12_event_5 (by decide) (fun c_5 => ?_) (fun c_5 => ?_))))
  · skip
    refine s_iconst dX12_event_57 (by decide) (n_iret dX12_event_58 hR rfl ?_)
    first | exact ⟨_, rfl, Or.inl ⟨by omega, by omega, rfl⟩⟩ | exact ⟨_, rfl, Or.inr ⟨by omega, by omega, rfl⟩⟩ | (exfalso; omega)
  · skip
    refine s_iload_n dX12_event_8 2 rfl (s_iload dX12_event_9 4 rfl (n_invS (as := [(0, kind), (0, n)]) dX12_event_11 kv_X12_canBe ml_X12_246 (c_M_canBe kind n w) (by decide) rfl rfl (Nat.le_of_ble_eq_true rfl) (n_ifeq_b 57 dX12_event_14 (by decide) (fun c_14 => ?_) (fun c_14 => ?_))))
    · skip
      refine s_iconst dX12_event_57 (by decide) (n_iret dX12_event_58 hR rfl ?_)
      first | exact ⟨_, rfl, Or.inl ⟨by omega, by omega, rfl⟩⟩ | exact ⟨_, rfl, Or.inr ⟨by omega, by omega, rfl⟩⟩ | (exfalso; omega)
    · skip
      refine s_iload_n dX12_event_17 3 rfl (s_iconst dX12_event_18 (by decide) (s_iload_n dX12_event_19 2 rfl (s_iconst dX12_event_20 (by decide) (s_icmp_ne 28 dX12_event_21 (by decide) (fun c_21 => ?_) (fun c_21 => ?_)))))
      · skip
        refine s_aload_n dX12_event_28 0 rfl rfl (n_getc (q := 146) 141 14 156 dX12_event_29 cf_X12 ff_X12_22 rfl sh_141 rfl (by decide) rfl (by decide) (s_aload_n dX12_event_32 0 rfl rfl (n_getc (q := 147) 141 15 157 dX12_event_33 cf_X12 ff_X12_25 rfl sh_141 rfl (by decide) rfl (by decide) (s_iload_n dX12_event_36 1 rfl (n_iald 147 dX12_event_37 rfl sh_147 (by decide) ⟨(by omega), (by omega)⟩ (v := (w 147 p)) rfl (n_iald 146 dX12_event_38 rfl sh_146 (by decide) ⟨(by omega), (by omega)⟩ (v := (w 146 (w 147 p))) rfl (s_iconst dX12_event_39 (by decide) (n_sub (z := ((w 146 (w 147 p)) - 1)) dX12_event_40 (wr_id (by omega) (by omega)) (n_invS (as := [(0, f), (0, 0), (0, ((w 146 (w 147 p)) - 1))]) dX12_event_41 kv_X12_isIn ml_X12_223 (c_isIn f 0 ((w 146 (w 147 p)) - 1) w) (by decide) rfl rfl (Nat.le_of_ble_eq_true rfl) ?_)))))))))
        refine n_ifeq_b 57 dX12_event_44 (by decide) (fun c_44 => ?_) (fun c_44 => ?_)
        · skip
          refine s_iconst dX12_event_57 (by decide) (n_iret dX12_event_58 hR rfl ?_)
          first | exact ⟨_, rfl, Or.inl ⟨by omega, by omega, rfl⟩⟩ | exact ⟨_, rfl, Or.inr ⟨by omega, by omega, rfl⟩⟩ | (exfalso; omega)
        · skip
          refine s_aload_n dX12_event_47 0 rfl rfl (n_getf 141 3 0 dX12_event_48 cf_X12 ff_X12_250 rfl sh_141 rfl (by decide) (v := (w 141 3)) rfl (s_sipush dX12_event_51 (by decide) (s_icmp_ne 59 dX12_event_54 (by decide) (fun c_54 => ?_) (fun c_54 => ?_))))
          · skip
            refine s_aload_n dX12_event_59 0 rfl rfl (n_getc (q := 150) 141 18 160 dX12_event_60 cf_X12 ff_X12_34 rfl sh_141 rfl (by decide) rfl (by decide) (s_aload_n dX12_event_63 0 rfl rfl (n_getf 141 3 0 dX12_event_64 cf_X12 ff_X12_250 rfl sh_141 rfl (by decide) (v := (w 141 3)) rfl (s_iload_n dX12_event_67 1 rfl (s_iastore 150 dX12_event_68 rfl sh_150 (by decide) ⟨(by omega), (by omega)⟩ (s_aload_n dX12_event_69 0 rfl rfl (n_getc (q := 151) 141 19 161 dX12_event_70 cf_X12 ff_X12_37 rfl sh_141 rfl (by decide) rfl (by decide) (s_aload_n dX12_event_73 0 rfl rfl (n_getf 141 3 0 dX12_event_74 cf_X12 ff_X12_250 rfl sh_141 rfl (by decide) (v := (w 141 3)) rfl ?_)))))))))
            refine s_iload_n dX12_event_77 2 rfl (s_iastore 151 dX12_event_78 rfl sh_151 (by decide) ⟨(by omega), (by omega)⟩ (s_aload_n dX12_event_79 0 rfl rfl (n_getc (q := 152) 141 20 162 dX12_event_80 cf_X12 ff_X12_40 rfl sh_141 rfl (by decide) rfl (by decide) (s_aload_n dX12_event_83 0 rfl rfl (n_getf 141 3 0 dX12_event_84 cf_X12 ff_X12_250 rfl sh_141 rfl (by decide) (v := (w 141 3)) rfl (s_iload_n dX12_event_87 3 rfl (s_iastore 152 dX12_event_88 rfl sh_152 (by decide) ⟨(by omega), (by omega)⟩ (s_aload_n dX12_event_89 0 rfl rfl (n_getc (q := 153) 141 21 163 dX12_event_90 cf_X12 ff_X12_43 rfl sh_141 rfl (by decide) rfl (by decide) ?_)))))))))
            refine s_aload_n dX12_event_93 0 rfl rfl (n_getf 141 3 0 dX12_event_94 cf_X12 ff_X12_250 rfl sh_141 rfl (by decide) (v := (w 141 3)) rfl (s_iload dX12_event_97 4 rfl (s_iastore 153 dX12_event_99 rfl sh_153 (by decide) ⟨(by omega), (by omega)⟩ (s_aload_n dX12_event_100 0 rfl rfl (n_getc (q := 154) 141 22 164 dX12_event_101 cf_X12 ff_X12_46 rfl sh_141 rfl (by decide) rfl (by decide) (s_aload_n dX12_event_104 0 rfl rfl (n_getf 141 3 0 dX12_event_105 cf_X12 ff_X12_250 rfl sh_141 rfl (by decide) (v := (w 141 3)) rfl (s_aload_n dX12_event_108 0 rfl rfl (n_getf 141 0 0 dX12_event_109 cf_X12 ff_X12_253 rfl sh_141 rfl (by decide) (v := (w 141 0)) rfl ?_)))))))))
            refine s_iastore 154 dX12_event_112 rfl sh_154 (by decide) ⟨(by omega), (by omega)⟩ (s_aload_n dX12_event_113 0 rfl rfl (s_dup dX12_event_114 (show (2 : Nat) ≠ 1 by decide) (n_getf 141 3 0 dX12_event_115 cf_X12 ff_X12_250 rfl sh_141 rfl (by decide) (v := (w 141 3)) rfl (s_iconst dX12_event_118 (by decide) (n_add (z := ((w 141 3) + 1)) dX12_event_119 (wr_id (by omega) (by omega)) (n_putf 141 3 3 dX12_event_120 cf_X12 ff_X12_250 rfl rfl sh_141 rfl rfl rfl (s_aload_n dX12_event_123 0 rfl rfl (n_getf 141 3 0 dX12_event_124 cf_X12 ff_X12_250 rfl sh_141 rfl (by decide) (v := ((w 141 3) + 1)) rfl (n_iret dX12_event_127 hR rfl ?_)))))))))
            first | exact ⟨_, rfl, Or.inl ⟨by omega, by omega, rfl⟩⟩ | exact ⟨_, rfl, Or.inr ⟨by omega, by omega, rfl⟩⟩ | (exfalso; omega)
          · skip
            refine s_iconst dX12_event_57 (by decide) (n_iret dX12_event_58 hR rfl ?_)
            first | exact ⟨_, rfl, Or.inl ⟨by omega, by omega, rfl⟩⟩ | exact ⟨_, rfl, Or.inr ⟨by omega, by omega, rfl⟩⟩ | (exfalso; omega)
      · skip
        refine s_iconst dX12_event_24 (by decide) (s_goto 41 dX12_event_25 (by decide) (n_invS (as := [(0, f), (0, 0), (0, 0)]) dX12_event_41 kv_X12_isIn ml_X12_223 (c_isIn f 0 0 w) (by decide) rfl rfl (Nat.le_of_ble_eq_true rfl) (n_ifeq_b 57 dX12_event_44 (by decide) (fun c_44 => ?_) (fun c_44 => ?_))))
        · skip
          refine s_iconst dX12_event_57 (by decide) (n_iret dX12_event_58 hR rfl ?_)
          first | exact ⟨_, rfl, Or.inl ⟨by omega, by omega, rfl⟩⟩ | exact ⟨_, rfl, Or.inr ⟨by omega, by omega, rfl⟩⟩ | (exfalso; omega)
        · skip
          refine s_aload_n dX12_event_47 0 rfl rfl (n_getf 141 3 0 dX12_event_48 cf_X12 ff_X12_250 rfl sh_141 rfl (by decide) (v := (w 141 3)) rfl (s_sipush dX12_event_51 (by decide) (s_icmp_ne 59 dX12_event_54 (by decide) (fun c_54 => ?_) (fun c_54 => ?_))))
          · skip
            refine s_aload_n dX12_event_59 0 rfl rfl (n_getc (q := 150) 141 18 160 dX12_event_60 cf_X12 ff_X12_34 rfl sh_141 rfl (by decide) rfl (by decide) (s_aload_n dX12_event_63 0 rfl rfl (n_getf 141 3 0 dX12_event_64 cf_X12 ff_X12_250 rfl sh_141 rfl (by decide) (v := (w 141 3)) rfl (s_iload_n dX12_event_67 1 rfl (s_iastore 150 dX12_event_68 rfl sh_150 (by decide) ⟨(by omega), (by omega)⟩ (s_aload_n dX12_event_69 0 rfl rfl (n_getc (q := 151) 141 19 161 dX12_event_70 cf_X12 ff_X12_37 rfl sh_141 rfl (by decide) rfl (by decide) (s_aload_n dX12_event_73 0 rfl rfl (n_getf 141 3 0 dX12_event_74 cf_X12 ff_X12_250 rfl sh_141 rfl (by decide) (v := (w 141 3)) rfl ?_)))))))))
            refine s_iload_n dX12_event_77 2 rfl (s_iastore 151 dX12_event_78 rfl sh_151 (by decide) ⟨(by omega), (by omega)⟩ (s_aload_n dX12_event_79 0 rfl rfl (n_getc (q := 152) 141 20 162 dX12_event_80 cf_X12 ff_X12_40 rfl sh_141 rfl (by decide) rfl (by decide) (s_aload_n dX12_event_83 0 rfl rfl (n_getf 141 3 0 dX12_event_84 cf_X12 ff_X12_250 rfl sh_141 rfl (by decide) (v := (w 141 3)) rfl (s_iload_n dX12_event_87 3 rfl (s_iastore 152 dX12_event_88 rfl sh_152 (by decide) ⟨(by omega), (by omega)⟩ (s_aload_n dX12_event_89 0 rfl rfl (n_getc (q := 153) 141 21 163 dX12_event_90 cf_X12 ff_X12_43 rfl sh_141 rfl (by decide) rfl (by decide) ?_)))))))))
            refine s_aload_n dX12_event_93 0 rfl rfl (n_getf 141 3 0 dX12_event_94 cf_X12 ff_X12_250 rfl sh_141 rfl (by decide) (v := (w 141 3)) rfl (s_iload dX12_event_97 4 rfl (s_iastore 153 dX12_event_99 rfl sh_153 (by decide) ⟨(by omega), (by omega)⟩ (s_aload_n dX12_event_100 0 rfl rfl (n_getc (q := 154) 141 22 164 dX12_event_101 cf_X12 ff_X12_46 rfl sh_141 rfl (by decide) rfl (by decide) (s_aload_n dX12_event_104 0 rfl rfl (n_getf 141 3 0 dX12_event_105 cf_X12 ff_X12_250 rfl sh_141 rfl (by decide) (v := (w 141 3)) rfl (s_aload_n dX12_event_108 0 rfl rfl (n_getf 141 0 0 dX12_event_109 cf_X12 ff_X12_253 rfl sh_141 rfl (by decide) (v := (w 141 0)) rfl ?_)))))))))
            refine s_iastore 154 dX12_event_112 rfl sh_154 (by decide) ⟨(by omega), (by omega)⟩ (s_aload_n dX12_event_113 0 rfl rfl (s_dup dX12_event_114 (show (2 : Nat) ≠ 1 by decide) (n_getf 141 3 0 dX12_event_115 cf_X12 ff_X12_250 rfl sh_141 rfl (by decide) (v := (w 141 3)) rfl (s_iconst dX12_event_118 (by decide) (n_add (z := ((w 141 3) + 1)) dX12_event_119 (wr_id (by omega) (by omega)) (n_putf 141 3 3 dX12_event_120 cf_X12 ff_X12_250 rfl rfl sh_141 rfl rfl rfl (s_aload_n dX12_event_123 0 rfl rfl (n_getf 141 3 0 dX12_event_124 cf_X12 ff_X12_250 rfl sh_141 rfl (by decide) (v := ((w 141 3) + 1)) rfl (n_iret dX12_event_127 hR rfl ?_)))))))))
            first | exact ⟨_, rfl, Or.inl ⟨by omega, by omega, rfl⟩⟩ | exact ⟨_, rfl, Or.inr ⟨by omega, by omega, rfl⟩⟩ | (exfalso; omega)
          · skip
            refine s_iconst dX12_event_57 (by decide) (n_iret dX12_event_58 hR rfl ?_)
            first | exact ⟨_, rfl, Or.inl ⟨by omega, by omega, rfl⟩⟩ | exact ⟨_, rfl, Or.inr ⟨by omega, by omega, rfl⟩⟩ | (exfalso; omega)
