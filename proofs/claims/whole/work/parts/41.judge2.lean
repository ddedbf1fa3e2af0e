/-! FACTS, JUDGE, RUNS: the class. -/
/-- the facts of a print in a hall, numbered as the reference does -/
def fcV (mk tr tg fr we sf se ba pr now k : Int) : Int := if k = 1 then mk else if k = 2 then tr else if k = 3 then tg else if k = 4 then fr else if k = 5 then we else if k = 6 then sf else if k = 7 then se else if k = 8 then ba else if k = 9 then pr else now
def fcX (w : Wd) (p h now : Int) : Int → Int := fcV (w 2 (w 7 p)) (w 5 (w 7 p)) (w 3 (w 7 p)) (w 6 (w 7 p)) (w 8 p) (if 0 ≤ w 24 h ∧ w 24 h < w 15 15 then w 26 (w 24 h) else 3) (w 17 h) (w 19 h) (w 18 h) now

set_option maxRecDepth 100000 in
theorem c_X_gather (p h now : Int) (w : Wd) (hp : 0 ≤ p ∧ p < 30) (hh : 0 ≤ h ∧ h < 16) (hpi : 0 ≤ w 7 p ∧ w 7 p < 12) (hset : w 15 15 ≤ 20) : CallN 2 mX2_gather [(2, 41), (0, p), (0, h), (0, now)] w (RUQ (fun w1 => (∀ c, c ≠ 43 → w1 c = w c) ∧ ∀ j, 0 ≤ j → j ≤ 9 → w1 43 j = fcX w p h now (j + 1))) := by
  refine CallN.intro (by decide +kernel) (Nat.le_of_ble_eq_true rfl) (fun ρ hR => ?_)
  show AtN mX2_gather 2 ρ 0 [(0, (2, 41)), (1, (0, p)), (2, (0, h)), (3, (0, now))] [] w
  refine s_aload_n dX2_gather_0 0 rfl rfl (n_getc (q := 1) 41 0 11 dX2_gather_1 cf_X2 ff_X2_21 rfl sh_41 rfl (by decide) rfl (by decide) (n_getc (q := 7) 1 6 17 dX2_gather_4 cf_X5 ff_X2_61 rfl sh_1 rfl (by decide) rfl (by decide) (s_iload_n dX2_gather_7 1 rfl (n_iald 7 dX2_gather_8 rfl sh_7 (by decide) ⟨(by omega), (by omega)⟩ (v := (w 7 p)) rfl (s_istore (ls' := [(0, (2, 41)), (1, (0, p)), (2, (0, h)), (3, (0, now)), (4, (0, (w 7 p)))]) dX2_gather_9 (Nat.le_of_ble_eq_true rfl) rfl (s_aload_n dX2_gather_11 0 rfl rfl (n_getc (q := 15) 41 1 25 dX2_gather_12 cf_X2 ff_X2_25 rfl sh_41 rfl (by decide) rfl (by decide) (n_getc (q := 24) 15 8 34 dX2_gather_15 cf_X3 ff_X2_66 rfl sh_15 rfl (by decide) rfl (by decide) (s_iload_n dX2_gather_18 2 rfl ?_)))))))))
  refine n_iald 24 dX2_gather_19 rfl sh_24 (by decide) ⟨(by omega), (by omega)⟩ (v := (w 24 h)) rfl (s_istore (ls' := [(0, (2, 41)), (1, (0, p)), (2, (0, h)), (3, (0, now)), (4, (0, (w 7 p))), (5, (0, (w 24 h)))]) dX2_gather_20 (Nat.le_of_ble_eq_true rfl) rfl (s_aload_n dX2_gather_22 0 rfl rfl (n_getc (q := 43) 41 3 53 dX2_gather_23 cf_X2 ff_X2_17 rfl sh_41 rfl (by decide) rfl (by decide) (s_iconst dX2_gather_26 (by decide) (s_aload_n dX2_gather_27 0 rfl rfl (n_getc (q := 1) 41 0 11 dX2_gather_28 cf_X2 ff_X2_21 rfl sh_41 rfl (by decide) rfl (by decide) (n_getc (q := 2) 1 0 12 dX2_gather_31 cf_X5 ff_X2_71 rfl sh_1 rfl (by decide) rfl (by decide) (s_iload dX2_gather_34 4 rfl (n_iald 2 dX2_gather_36 rfl sh_2 (by decide) ⟨(by omega), (by omega)⟩ (v := (w 2 (w 7 p))) rfl ?_)))))))))
  refine s_iastore 43 dX2_gather_37 rfl sh_43 (by decide) (by decide) (s_aload_n dX2_gather_38 0 rfl rfl (n_getc (q := 43) 41 3 53 dX2_gather_39 cf_X2 ff_X2_17 rfl sh_41 rfl (by decide) rfl (by decide) (s_iconst dX2_gather_42 (by decide) (s_aload_n dX2_gather_43 0 rfl rfl (n_getc (q := 1) 41 0 11 dX2_gather_44 cf_X2 ff_X2_21 rfl sh_41 rfl (by decide) rfl (by decide) (n_getc (q := 5) 1 3 15 dX2_gather_47 cf_X5 ff_X2_74 rfl sh_1 rfl (by decide) rfl (by decide) (s_iload dX2_gather_50 4 rfl (n_iald 5 dX2_gather_52 rfl sh_5 (by decide) ⟨(by omega), (by omega)⟩ (v := (w 5 (w 7 p))) rfl (s_iastore 43 dX2_gather_53 rfl sh_43 (by decide) (by decide) ?_)))))))))
  refine s_aload_n dX2_gather_54 0 rfl rfl (n_getc (q := 43) 41 3 53 dX2_gather_55 cf_X2 ff_X2_17 rfl sh_41 rfl (by decide) rfl (by decide) (s_iconst dX2_gather_58 (by decide) (s_aload_n dX2_gather_59 0 rfl rfl (n_getc (q := 1) 41 0 11 dX2_gather_60 cf_X2 ff_X2_21 rfl sh_41 rfl (by decide) rfl (by decide) (n_getc (q := 3) 1 1 13 dX2_gather_63 cf_X5 ff_X2_77 rfl sh_1 rfl (by decide) rfl (by decide) (s_iload dX2_gather_66 4 rfl (n_iald 3 dX2_gather_68 rfl sh_3 (by decide) ⟨(by omega), (by omega)⟩ (v := (w 3 (w 7 p))) rfl (s_iastore 43 dX2_gather_69 rfl sh_43 (by decide) (by decide) (s_aload_n dX2_gather_70 0 rfl rfl ?_)))))))))
  refine n_getc (q := 43) 41 3 53 dX2_gather_71 cf_X2 ff_X2_17 rfl sh_41 rfl (by decide) rfl (by decide) (s_iconst dX2_gather_74 (by decide) (s_aload_n dX2_gather_75 0 rfl rfl (n_getc (q := 1) 41 0 11 dX2_gather_76 cf_X2 ff_X2_21 rfl sh_41 rfl (by decide) rfl (by decide) (n_getc (q := 6) 1 4 16 dX2_gather_79 cf_X5 ff_X2_80 rfl sh_1 rfl (by decide) rfl (by decide) (s_iload dX2_gather_82 4 rfl (n_iald 6 dX2_gather_84 rfl sh_6 (by decide) ⟨(by omega), (by omega)⟩ (v := (w 6 (w 7 p))) rfl (s_iastore 43 dX2_gather_85 rfl sh_43 (by decide) (by decide) (s_aload_n dX2_gather_86 0 rfl rfl (n_getc (q := 43) 41 3 53 dX2_gather_87 cf_X2 ff_X2_17 rfl sh_41 rfl (by decide) rfl (by decide) ?_)))))))))
  refine s_iconst dX2_gather_90 (by decide) (s_aload_n dX2_gather_91 0 rfl rfl (n_getc (q := 1) 41 0 11 dX2_gather_92 cf_X2 ff_X2_21 rfl sh_41 rfl (by decide) rfl (by decide) (n_getc (q := 8) 1 7 18 dX2_gather_95 cf_X5 ff_X2_83 rfl sh_1 rfl (by decide) rfl (by decide) (s_iload_n dX2_gather_98 1 rfl (n_iald 8 dX2_gather_99 rfl sh_8 (by decide) ⟨(by omega), (by omega)⟩ (v := (w 8 p)) rfl (s_iastore 43 dX2_gather_100 rfl sh_43 (by decide) (by decide) (s_aload_n dX2_gather_101 0 rfl rfl (n_getc (q := 43) 41 3 53 dX2_gather_102 cf_X2 ff_X2_17 rfl sh_41 rfl (by decide) rfl (by decide) (s_iconst dX2_gather_105 (by decide) ?_)))))))))
  refine s_aload_n dX2_gather_106 0 rfl rfl (n_getc (q := 15) 41 1 25 dX2_gather_107 cf_X2 ff_X2_25 rfl sh_41 rfl (by decide) rfl (by decide) (s_iload dX2_gather_110 5 rfl (n_invV (as := [(0, (w 24 h))]) dX2_gather_112 kv_X3_hasSet ml_X2_86 (show CallN 1 mX3_hasSet [(2, 15), (0, (w 24 h))] (wu (wu (wu (wu (wu w 43 0 (w 2 (w 7 p))) 43 1 (w 5 (w 7 p))) 43 2 (w 3 (w 7 p))) 43 3 (w 6 (w 7 p))) 43 4 (w 8 p)) (RV (0, bi (0 ≤ w 24 h ∧ w 24 h < w 15 15)) (wu (wu (wu (wu (wu w 43 0 (w 2 (w 7 p))) 43 1 (w 5 (w 7 p))) 43 2 (w 3 (w 7 p))) 43 3 (w 6 (w 7 p))) 43 4 (w 8 p))) from c_X_hasSet (w 24 h) (wu (wu (wu (wu (wu w 43 0 (w 2 (w 7 p))) 43 1 (w 5 (w 7 p))) 43 2 (w 3 (w 7 p))) 43 3 (w 6 (w 7 p))) 43 4 (w 8 p))) (by decide) 15 cf_X3 rfl sh_15 rfl rfl rfl (Nat.le_of_ble_eq_true rfl) (n_ifeq_b 131 dX2_gather_115 (by decide) (fun c_115 => ?_) (fun c_115 => ?_)))))
  · skip
    refine s_iconst dX2_gather_131 (by decide) (s_iastore 43 dX2_gather_132 rfl sh_43 (by decide) (by decide) (s_aload_n dX2_gather_133 0 rfl rfl (n_getc (q := 43) 41 3 53 dX2_gather_134 cf_X2 ff_X2_17 rfl sh_41 rfl (by decide) rfl (by decide) (s_bipush dX2_gather_137 (by decide) (s_aload_n dX2_gather_139 0 rfl rfl (n_getc (q := 15) 41 1 25 dX2_gather_140 cf_X2 ff_X2_25 rfl sh_41 rfl (by decide) rfl (by decide) (n_getc (q := 17) 15 1 27 dX2_gather_143 cf_X3 ff_X2_93 rfl sh_15 rfl (by decide) rfl (by decide) (s_iload_n dX2_gather_146 2 rfl (n_iald 17 dX2_gather_147 rfl sh_17 (by decide) ⟨(by omega), (by omega)⟩ (v := (w 17 h)) rfl ?_)))))))))
    refine s_iastore 43 dX2_gather_148 rfl sh_43 (by decide) (by decide) (s_aload_n dX2_gather_149 0 rfl rfl (n_getc (q := 43) 41 3 53 dX2_gather_150 cf_X2 ff_X2_17 rfl sh_41 rfl (by decide) rfl (by decide) (s_bipush dX2_gather_153 (by decide) (s_aload_n dX2_gather_155 0 rfl rfl (n_getc (q := 15) 41 1 25 dX2_gather_156 cf_X2 ff_X2_25 rfl sh_41 rfl (by decide) rfl (by decide) (n_getc (q := 19) 15 3 29 dX2_gather_159 cf_X3 ff_X2_96 rfl sh_15 rfl (by decide) rfl (by decide) (s_iload_n dX2_gather_162 2 rfl (n_iald 19 dX2_gather_163 rfl sh_19 (by decide) ⟨(by omega), (by omega)⟩ (v := (w 19 h)) rfl (s_iastore 43 dX2_gather_164 rfl sh_43 (by decide) (by decide) ?_)))))))))
    refine s_aload_n dX2_gather_165 0 rfl rfl (n_getc (q := 43) 41 3 53 dX2_gather_166 cf_X2 ff_X2_17 rfl sh_41 rfl (by decide) rfl (by decide) (s_bipush dX2_gather_169 (by decide) (s_aload_n dX2_gather_171 0 rfl rfl (n_getc (q := 15) 41 1 25 dX2_gather_172 cf_X2 ff_X2_25 rfl sh_41 rfl (by decide) rfl (by decide) (n_getc (q := 18) 15 2 28 dX2_gather_175 cf_X3 ff_X2_99 rfl sh_15 rfl (by decide) rfl (by decide) (s_iload_n dX2_gather_178 2 rfl (n_iald 18 dX2_gather_179 rfl sh_18 (by decide) ⟨(by omega), (by omega)⟩ (v := (w 18 h)) rfl (s_iastore 43 dX2_gather_180 rfl sh_43 (by decide) (by decide) (s_aload_n dX2_gather_181 0 rfl rfl ?_)))))))))
    refine n_getc (q := 43) 41 3 53 dX2_gather_182 cf_X2 ff_X2_17 rfl sh_41 rfl (by decide) rfl (by decide) (s_bipush dX2_gather_185 (by decide) (s_iload_n dX2_gather_187 3 rfl (s_iastore 43 dX2_gather_188 rfl sh_43 (by decide) (by decide) (n_ret dX2_gather_189 hR rfl ?_))))
    refine ⟨rfl, fun c hc => ?_, fun j j0 j1 => ?_⟩
    · repeat rw [wu_ne hc]
    · rcases (show j = 0 ∨ j = 1 ∨ j = 2 ∨ j = 3 ∨ j = 4 ∨ j = 5 ∨ j = 6 ∨ j = 7 ∨ j = 8 ∨ j = 9 from by omega) with rfl | rfl | rfl | rfl | rfl | rfl | rfl | rfl | rfl | rfl
      all_goals first
      | rfl
      | (unfold fcX fcV; first | exact (if_pos (by omega)).symm | exact (if_neg (by omega)).symm)
      | (show _ = (if 0 ≤ w 24 h ∧ w 24 h < w 15 15 then w 26 (w 24 h) else 3); first | exact (if_pos (by omega)).symm | exact (if_neg (by omega)).symm)
  · skip
    refine s_aload_n dX2_gather_118 0 rfl rfl (n_getc (q := 15) 41 1 25 dX2_gather_119 cf_X2 ff_X2_25 rfl sh_41 rfl (by decide) rfl (by decide) (n_getc (q := 26) 15 11 36 dX2_gather_122 cf_X3 ff_X2_90 rfl sh_15 rfl (by decide) rfl (by decide) (s_iload dX2_gather_125 5 rfl (n_iald 26 dX2_gather_127 rfl sh_26 (by decide) ⟨(by omega), (by omega)⟩ (v := (w 26 (w 24 h))) rfl (s_goto 132 dX2_gather_128 (by decide) (s_iastore 43 dX2_gather_132 rfl sh_43 (by decide) (by decide) (s_aload_n dX2_gather_133 0 rfl rfl (n_getc (q := 43) 41 3 53 dX2_gather_134 cf_X2 ff_X2_17 rfl sh_41 rfl (by decide) rfl (by decide) (s_bipush dX2_gather_137 (by decide) ?_)))))))))
    refine s_aload_n dX2_gather_139 0 rfl rfl (n_getc (q := 15) 41 1 25 dX2_gather_140 cf_X2 ff_X2_25 rfl sh_41 rfl (by decide) rfl (by decide) (n_getc (q := 17) 15 1 27 dX2_gather_143 cf_X3 ff_X2_93 rfl sh_15 rfl (by decide) rfl (by decide) (s_iload_n dX2_gather_146 2 rfl (n_iald 17 dX2_gather_147 rfl sh_17 (by decide) ⟨(by omega), (by omega)⟩ (v := (w 17 h)) rfl (s_iastore 43 dX2_gather_148 rfl sh_43 (by decide) (by decide) (s_aload_n dX2_gather_149 0 rfl rfl (n_getc (q := 43) 41 3 53 dX2_gather_150 cf_X2 ff_X2_17 rfl sh_41 rfl (by decide) rfl (by decide) (s_bipush dX2_gather_153 (by decide) (s_aload_n dX2_gather_155 0 rfl rfl ?_)))))))))
    refine n_getc (q := 15) 41 1 25 dX2_gather_156 cf_X2 ff_X2_25 rfl sh_41 rfl (by decide) rfl (by decide) (n_getc (q := 19) 15 3 29 dX2_gather_159 cf_X3 ff_X2_96 rfl sh_15 rfl (by decide) rfl (by decide) (s_iload_n dX2_gather_162 2 rfl (n_iald 19 dX2_gather_163 rfl sh_19 (by decide) ⟨(by omega), (by omega)⟩ (v := (w 19 h)) rfl (s_iastore 43 dX2_gather_164 rfl sh_43 (by decide) (by decide) (s_aload_n dX2_gather_165 0 rfl rfl (n_getc (q := 43) 41 3 53 dX2_gather_166 cf_X2 ff_X2_17 rfl sh_41 rfl (by decide) rfl (by decide) (s_bipush dX2_gather_169 (by decide) (s_aload_n dX2_gather_171 0 rfl rfl (n_getc (q := 15) 41 1 25 dX2_gather_172 cf_X2 ff_X2_25 rfl sh_41 rfl (by decide) rfl (by decide) ?_)))))))))
    refine n_getc (q := 18) 15 2 28 dX2_gather_175 cf_X3 ff_X2_99 rfl sh_15 rfl (by decide) rfl (by decide) (s_iload_n dX2_gather_178 2 rfl (n_iald 18 dX2_gather_179 rfl sh_18 (by decide) ⟨(by omega), (by omega)⟩ (v := (w 18 h)) rfl (s_iastore 43 dX2_gather_180 rfl sh_43 (by decide) (by decide) (s_aload_n dX2_gather_181 0 rfl rfl (n_getc (q := 43) 41 3 53 dX2_gather_182 cf_X2 ff_X2_17 rfl sh_41 rfl (by decide) rfl (by decide) (s_bipush dX2_gather_185 (by decide) (s_iload_n dX2_gather_187 3 rfl (s_iastore 43 dX2_gather_188 rfl sh_43 (by decide) (by decide) (n_ret dX2_gather_189 hR rfl ?_)))))))))
    refine ⟨rfl, fun c hc => ?_, fun j j0 j1 => ?_⟩
    · repeat rw [wu_ne hc]
    · rcases (show j = 0 ∨ j = 1 ∨ j = 2 ∨ j = 3 ∨ j = 4 ∨ j = 5 ∨ j = 6 ∨ j = 7 ∨ j = 8 ∨ j = 9 from by omega) with rfl | rfl | rfl | rfl | rfl | rfl | rfl | rfl | rfl | rfl
      all_goals first
      | rfl
      | (unfold fcX fcV; first | exact (if_pos (by omega)).symm | exact (if_neg (by omega)).symm)
      | (show _ = (if 0 ≤ w 24 h ∧ w 24 h < w 15 15 then w 26 (w 24 h) else 3); first | exact (if_pos (by omega)).symm | exact (if_neg (by omega)).symm)

def FrG3 (w v : Wd) : Prop := (∀ c, c ≠ 41 → c ≠ 43 → c ≠ 40 → c ≠ 48 → c ≠ 53 → c ≠ 58 → v c = w c) ∧ ∀ j : Int, (j < 4 ∨ 7 < j) → v 41 j = w 41 j
def jdF (F : Int → Int) (LN : Int → List Lin) : Jd := ((jdA F LN 3).1, (jdA F LN 3).2.1, (jdA F LN 3).2.2.1, mnL (jdA F LN 3).2.2.2 40)
/-- facts written into the class's cell leave the scripts as they are -/
theorem SCL.g {w v : Wd} {s : Int → Nat} {LN : Int → List Lin} (h : SCL w s LN) (hf : ∀ c, c ≠ 43 → v c = w c) : SCL v s LN := by
  refine ⟨fun f a b => ?_, fun f a b => ?_⟩
  · rw [hf (s f) (by rcases (h.1 f a b).1 with z | z | z | z <;> omega), hf 42 (by decide)]
    exact h.1 f a b
  · have hs := (h.1 f a b).1
    have e : ∀ k : Nat, k ≤ 3 → v (s f + k) = w (s f + k) := fun k hk => hf _ (by rcases hs with z | z | z | z <;> omega)
    have e0 : v (s f) = w (s f) := e 0 (by decide)
    rw [e0]
    refine ⟨(h.2 f a b).1, fun i hi => ⟨?_, ((h.2 f a b).2 i hi).2⟩⟩
    have := ((h.2 f a b).2 i hi).1
    unfold lnX at this ⊢
    rw [e 1 (by decide), e 2 (by decide), e 3 (by decide), e0]
    exact this

set_option maxRecDepth 100000 in
theorem c_X_judge (p h now : Int) (w : Wd) (s : Int → Nat) (LN : Int → List Lin) (hs : SCL w s LN) (hp : 0 ≤ p ∧ p < 30) (hh : 0 ≤ h ∧ h < 16) (hpi : 0 ≤ w 7 p ∧ w 7 p < 12) (hset : w 15 15 ≤ 20) : CallN 5 mX2_judge [(2, 41), (0, p), (0, h), (0, now)] w (RUQ (fun w1 => FrG3 w w1 ∧ (w1 41 4, w1 41 5, w1 41 6, w1 41 7) = jdF (fcX w p h now) LN)) := by
  refine CallN.intro (by decide +kernel) (Nat.le_of_ble_eq_true rfl) (fun ρ hR => ?_)
  show AtN mX2_judge 5 ρ 0 [(0, (2, 41)), (1, (0, p)), (2, (0, h)), (3, (0, now))] [] w
  have L_30 : ∀ (fu : Nat) (u : Wd) (i : Int) (v9 : Wd), (∀ c, c ≠ 43 → u c = w c) → (∀ j, 0 ≤ j → j ≤ 9 → u 43 j = fcX w p h now (j + 1)) → 0 ≤ i ∧ i ≤ 3 → FrJ u v9 → v9 41 4 = (jdA (fcX w p h now) LN i.toNat).1 ∧ v9 41 5 = (jdA (fcX w p h now) LN i.toNat).2.1 ∧ v9 41 6 = (jdA (fcX w p h now) LN i.toNat).2.2.1 ∧ v9 41 7 = (jdA (fcX w p h now) LN i.toNat).2.2.2 → (3 - i).toNat < fu → AtN mX2_judge 5 ρ 30 [(0, (2, 41)), (1, (0, p)), (2, (0, h)), (3, (0, now)), (4, (0, i))] [] v9 := by
    intro fu
    induction fu with
    | zero => intro u i v9 hwu hgu hi hf9 hS hm; exact absurd hm (Nat.not_lt_zero _)
    | succ fu ih =>
      intro u i v9 hwu hgu hi hf9 hS hm
      obtain ⟨F, hFd⟩ : ∃ F, F = fcX w p h now := ⟨_, rfl⟩
      rw [← hFd] at hS hgu
      have hsu := hs.g hwu
      have hGu := hgu
      have hs9 := hsu.fr hf9
      have hG9 : ∀ j, 0 ≤ j → j ≤ 9 → v9 43 j = F (j + 1) := fun j a b => by rw [hf9.1 43 (by decide) (by decide) (by decide) (by decide) (by decide)]; exact hGu j a b
      have hfe := jdA_fee (F := F) (LN := LN) i.toNat
      rw [← hS.2.2.1, toN_c hi.1] at hfe
      refine s_iload dX2_judge_30 4 rfl (s_iconst dX2_judge_32 (by decide) (s_icmp_ge 62 dX2_judge_33 (by decide) (fun c_33 => ?_) (fun c_33 => ?_)))
      · skip
        refine s_aload_n dX2_judge_62 0 rfl rfl (s_aload_n dX2_judge_63 0 rfl rfl (n_getf 41 7 0 dX2_judge_64 cf_X2 ff_X2_47 rfl sh_41 rfl (by decide) (v := (v9 41 7)) rfl (s_bipush dX2_judge_67 (by decide) (n_invS (as := [(0, (v9 41 7)), (0, 40)]) dX2_judge_69 kv_J9_min_7cf53 ml_X2_55 (j_minI (v9 41 7) 40 v9) (by decide) rfl rfl (Nat.le_of_ble_eq_true rfl) (n_putf 41 7 7 dX2_judge_72 cf_X2 ff_X2_47 rfl rfl sh_41 rfl rfl rfl (n_ret dX2_judge_75 hR rfl ?_))))))
        have e9 : i = 3 := by omega
        rw [e9] at hS
        obtain ⟨g1, g2, g3, g4⟩ := hS
        refine ⟨rfl, ⟨fun c c1 c2 c3 c4 c5 c6 => ?_, fun j hj => ?_⟩, ?_⟩
        · rw [wu_ne c1, hf9.1 c c1 c3 c4 c5 c6]; exact hwu c c2
        · rw [wu_at, if_neg (by omega), hf9.2 j hj, hwu 41 (by decide)]
        · rw [← hFd]
          show (v9 41 4, v9 41 5, v9 41 6, _) = _
          rw [g1, g2, g3, wu_same, g4]
          rfl
      · skip
        refine s_aload_n dX2_judge_36 0 rfl rfl (s_dup dX2_judge_37 (show (2 : Nat) ≠ 1 by decide) (n_getf 41 6 0 dX2_judge_38 cf_X2 ff_X2_44 rfl sh_41 rfl (by decide) (v := (v9 41 6)) rfl (s_aload_n dX2_judge_41 0 rfl rfl (s_iload dX2_judge_42 4 rfl (n_invV' (as := [(0, i)]) dX2_judge_44 kv_X2_ask ml_X2_50 (c_X_ask i v9 F s LN ⟨by omega, by omega⟩ hs9 hG9) (by decide) 41 cf_X2 rfl sh_41 rfl rfl rfl (Nat.le_of_ble_eq_true rfl) ?_)))))
        rintro r_44 w_44 ⟨z_44, rfl, hf44, h644, hJ44⟩
        show AtN _ _ ρ _ _ [(0, z_44), (0, (v9 41 6)), (2, 41)] w_44
        have hmz := jdL_m (F := F) (f := i) (L := LN i) (S := (v9 41 4, v9 41 5, 0, v9 41 7)) (LN i).length
        rw [← hJ44] at hmz
        have hmz2 : 0 ≤ z_44 := hmz
        have hmn : 0 ≤ mnL z_44 99999 ∧ mnL z_44 99999 ≤ 99999 := by unfold mnL; split <;> omega
        refine s_ldc (own := "") (z := 99999) dX2_judge_47 kc_X2_54 rfl (n_invS (as := [(0, z_44), (0, 99999)]) dX2_judge_49 kv_J9_min_7cf53 ml_X2_55 (j_minI z_44 99999 w_44) (by decide) rfl rfl (Nat.le_of_ble_eq_true rfl) (n_add (z := ((v9 41 6) + (mnL z_44 99999))) dX2_judge_52 (wr_id (by omega) (by omega)) (n_putf 41 6 6 dX2_judge_53 cf_X2 ff_X2_44 rfl rfl sh_41 rfl rfl rfl (s_iinc (z := (i + 1)) (ls' := [(0, (2, 41)), (1, (0, p)), (2, (0, h)), (3, (0, now)), (4, (0, (i + 1)))]) dX2_judge_56 4 rfl (Nat.le_of_ble_eq_true rfl) (wr_id (by omega) (by omega)) rfl (s_goto 30 dX2_judge_59 (by decide) ?_)))))
        exact ih u (i + 1) (wu w_44 41 6 ((v9 41 6) + (mnL z_44 99999))) hwu (by rw [← hFd]; exact hgu) (by omega) ((hf9.tr hf44).u1 (by decide)) (by
  rw [← hFd, toN_s hi.1, jdA]
  obtain ⟨g1, g2, g3, g4⟩ := hS
  rw [← g1, ← g2, ← g3, ← g4, toN_c hi.1, ← hJ44]
  exact ⟨rfl, rfl, rfl, rfl⟩) (by omega)
  refine s_aload_n dX2_judge_0 0 rfl rfl (s_iload_n dX2_judge_1 1 rfl (s_iload_n dX2_judge_2 2 rfl (s_iload_n dX2_judge_3 3 rfl (n_invV' (as := [(0, p), (0, h), (0, now)]) dX2_judge_4 kv_X2_gather ml_X2_34 (c_X_gather p h now w hp hh hpi hset) (by decide) 41 cf_X2 rfl sh_41 rfl rfl rfl (Nat.le_of_ble_eq_true rfl) ?_))))
  rintro r_4 w_4 ⟨rfl, hw4, hg4⟩
  refine s_aload_n dX2_judge_7 0 rfl rfl (s_iconst dX2_judge_8 (by decide) (n_putf 41 4 4 dX2_judge_9 cf_X2 ff_X2_38 rfl rfl sh_41 rfl rfl rfl (s_aload_n dX2_judge_12 0 rfl rfl (s_iconst dX2_judge_13 (by decide) (n_putf 41 5 5 dX2_judge_14 cf_X2 ff_X2_41 rfl rfl sh_41 rfl rfl rfl (s_aload_n dX2_judge_17 0 rfl rfl (s_iconst dX2_judge_18 (by decide) (n_putf 41 6 6 dX2_judge_19 cf_X2 ff_X2_44 rfl rfl sh_41 rfl rfl rfl (s_aload_n dX2_judge_22 0 rfl rfl ?_)))))))))
  refine s_iconst dX2_judge_23 (by decide) (n_putf 41 7 7 dX2_judge_24 cf_X2 ff_X2_47 rfl rfl sh_41 rfl rfl rfl (s_iconst dX2_judge_27 (by decide) (s_istore (ls' := [(0, (2, 41)), (1, (0, p)), (2, (0, h)), (3, (0, now)), (4, (0, 0))]) dX2_judge_28 (Nat.le_of_ble_eq_true rfl) rfl ?_)))
  exact L_30 _ w_4 0 (wu (wu (wu (wu w_4 41 4 (-1)) 41 5 (-1)) 41 6 0) 41 7 0) hw4 hg4 (by omega) ⟨fun c c1 _ _ _ _ => by rw [wu_ne c1, wu_ne c1, wu_ne c1, wu_ne c1], fun j hj => by rw [wu_at, if_neg (by omega), wu_at, if_neg (by omega), wu_at, if_neg (by omega), wu_at, if_neg (by omega)]⟩ ⟨rfl, rfl, rfl, rfl⟩ (Nat.lt_succ_self _)

set_option maxRecDepth 100000 in
theorem c_X_canPlay (h t : Int) (w : Wd) (hh : 0 ≤ h ∧ h < 16) (hset : w 15 15 ≤ 20) : CallN 2 mX3_canPlay [(2, 15), (0, h), (0, t)] w (RV (0, bi ((0 ≤ w 24 h ∧ w 24 h < w 15 15) ∧ bt (w 27 (w 24 h)) t = 1)) w) := by
  refine CallN.intro (by decide +kernel) (Nat.le_of_ble_eq_true rfl) (fun ρ hR => ?_)
  show AtN mX3_canPlay 2 ρ 0 [(0, (2, 15)), (1, (0, h)), (2, (0, t))] [] w
  refine s_aload_n dX3_canPlay_0 0 rfl rfl (n_getc (q := 24) 15 8 34 dX3_canPlay_1 cf_X3 ff_X3_37 rfl sh_15 rfl (by decide) rfl (by decide) (s_iload_n dX3_canPlay_4 1 rfl (n_iald 24 dX3_canPlay_5 rfl sh_24 (by decide) ⟨(by omega), (by omega)⟩ (v := (w 24 h)) rfl (s_istore_n (ls' := [(0, (2, 15)), (1, (0, h)), (2, (0, t)), (3, (0, (w 24 h)))]) dX3_canPlay_6 (Nat.le_of_ble_eq_true rfl) rfl (s_aload_n dX3_canPlay_7 0 rfl rfl (s_iload_n dX3_canPlay_8 3 rfl (n_invV (as := [(0, (w 24 h))]) dX3_canPlay_9 kv_X3_hasSet ml_X3_74 (c_X_hasSet (w 24 h) w) (by decide) 15 cf_X3 rfl sh_15 rfl rfl rfl (Nat.le_of_ble_eq_true rfl) (n_ifeq_b 32 dX3_canPlay_12 (by decide) (fun c_12 => ?_) (fun c_12 => ?_)))))))))
  · skip
    refine s_iconst dX3_canPlay_32 (by decide) (n_zret dX3_canPlay_33 hR rfl (by first | exact Or.inl rfl | exact Or.inr rfl | exact bi_01 _ | omega) ?_)
    refine ⟨congrArg (fun z => some ((0 : Nat), z)) ?_, rfl⟩
    first | exact (bi_t (by omega)).symm | exact (bi_f (by omega)).symm | exact bi_congr (by omega)
  · skip
    refine s_aload_n dX3_canPlay_15 0 rfl rfl (n_getc (q := 27) 15 12 37 dX3_canPlay_16 cf_X3 ff_X3_46 rfl sh_15 rfl (by decide) rfl (by decide) (s_iload_n dX3_canPlay_19 3 rfl (n_iald 27 dX3_canPlay_20 rfl sh_27 (by decide) ⟨(by omega), (by omega)⟩ (v := (w 27 (w 24 h))) rfl (s_iload_n dX3_canPlay_21 2 rfl (n_invT (as := [(0, (w 27 (w 24 h))), (0, t)]) dX3_canPlay_22 kv_X11_has ml_X3_77 (c_X_has (w 27 (w 24 h)) t w) (by decide) rfl rfl (Nat.le_of_ble_eq_true rfl) (n_ifeq_b 32 dX3_canPlay_25 (by decide) (fun c_25 => ?_) (fun c_25 => ?_)))))))
    · skip
      refine s_iconst dX3_canPlay_32 (by decide) (n_zret dX3_canPlay_33 hR rfl (by first | exact Or.inl rfl | exact Or.inr rfl | exact bi_01 _ | omega) ?_)
      refine ⟨congrArg (fun z => some ((0 : Nat), z)) ?_, rfl⟩
      first | exact (bi_t (by omega)).symm | exact (bi_f (by omega)).symm | exact bi_congr (by omega)
    · skip
      refine s_iconst dX3_canPlay_28 (by decide) (s_goto 33 dX3_canPlay_29 (by decide) (n_zret dX3_canPlay_33 hR rfl (by first | exact Or.inl rfl | exact Or.inr rfl | exact bi_01 _ | omega) ?_))
      refine ⟨congrArg (fun z => some ((0 : Nat), z)) ?_, rfl⟩
      first | exact (bi_t (by omega)).symm | exact (bi_f (by omega)).symm | exact bi_congr (by omega)

/-- why a print does not run -/
def rsX (w : Wd) (p h bf : Int) : Int := if 12 ≤ w 8 p then 1 else if w 5 (w 7 p) ≠ 3 ∧ ¬ ((0 ≤ w 24 h ∧ w 24 h < w 15 15) ∧ bt (w 27 (w 24 h)) (w 5 (w 7 p)) = 1) then 2 else if w 5 (w 7 p) = 3 ∧ w 19 h = 0 then 3 else if bf = -1 then 0 else 4
set_option maxRecDepth 100000 in
theorem c_X_reason (p h : Int) (w : Wd) (hp : 0 ≤ p ∧ p < 30) (hh : 0 ≤ h ∧ h < 16) (hpi : 0 ≤ w 7 p ∧ w 7 p < 12) (hset : w 15 15 ≤ 20) : CallN 3 mX2_reason [(2, 41), (0, p), (0, h)] w (RV (0, rsX w p h (w 41 4)) w) := by
  refine CallN.intro (by decide +kernel) (Nat.le_of_ble_eq_true rfl) (fun ρ hR => ?_)
  show AtN mX2_reason 3 ρ 0 [(0, (2, 41)), (1, (0, p)), (2, (0, h))] [] w
  refine s_aload_n dX2_reason_0 0 rfl rfl (n_getc (q := 1) 41 0 11 dX2_reason_1 cf_X2 ff_X2_21 rfl sh_41 rfl (by decide) rfl (by decide) (n_getc (q := 5) 1 3 15 dX2_reason_4 cf_X5 ff_X2_74 rfl sh_1 rfl (by decide) rfl (by decide) (s_aload_n dX2_reason_7 0 rfl rfl (n_getc (q := 1) 41 0 11 dX2_reason_8 cf_X2 ff_X2_21 rfl sh_41 rfl (by decide) rfl (by decide) (n_getc (q := 7) 1 6 17 dX2_reason_11 cf_X5 ff_X2_61 rfl sh_1 rfl (by decide) rfl (by decide) (s_iload_n dX2_reason_14 1 rfl (n_iald 7 dX2_reason_15 rfl sh_7 (by decide) ⟨(by omega), (by omega)⟩ (v := (w 7 p)) rfl (n_iald 5 dX2_reason_16 rfl sh_5 (by decide) ⟨(by omega), (by omega)⟩ (v := (w 5 (w 7 p))) rfl (s_istore_n (ls' := [(0, (2, 41)), (1, (0, p)), (2, (0, h)), (3, (0, (w 5 (w 7 p))))]) dX2_reason_17 (Nat.le_of_ble_eq_true rfl) rfl ?_)))))))))
  refine s_aload_n dX2_reason_18 0 rfl rfl (n_getc (q := 1) 41 0 11 dX2_reason_19 cf_X2 ff_X2_21 rfl sh_41 rfl (by decide) rfl (by decide) (n_getc (q := 8) 1 7 18 dX2_reason_22 cf_X5 ff_X2_83 rfl sh_1 rfl (by decide) rfl (by decide) (s_iload_n dX2_reason_25 1 rfl (n_iald 8 dX2_reason_26 rfl sh_8 (by decide) ⟨(by omega), (by omega)⟩ (v := (w 8 p)) rfl (s_bipush dX2_reason_27 (by decide) (s_icmp_lt 34 dX2_reason_29 (by decide) (fun c_29 => ?_) (fun c_29 => ?_)))))))
  · skip
    refine s_iload_n dX2_reason_34 3 rfl (s_iconst dX2_reason_35 (by decide) (s_icmp_eq 53 dX2_reason_36 (by decide) (fun c_36 => ?_) (fun c_36 => ?_)))
    · skip
      refine s_iload_n dX2_reason_53 3 rfl (s_iconst dX2_reason_54 (by decide) (s_icmp_ne 72 dX2_reason_55 (by decide) (fun c_55 => ?_) (fun c_55 => ?_)))
      · skip
        refine s_aload_n dX2_reason_72 0 rfl rfl (n_getf 41 4 0 dX2_reason_73 cf_X2 ff_X2_38 rfl sh_41 rfl (by decide) (v := (w 41 4)) rfl (s_iconst dX2_reason_76 (by decide) (s_icmp_ne 84 dX2_reason_77 (by decide) (fun c_77 => ?_) (fun c_77 => ?_))))
        · skip
          refine s_iconst dX2_reason_84 (by decide) (n_iret dX2_reason_85 hR rfl ?_)
          refine ⟨congrArg (fun z => some ((0 : Nat), z)) ?_, rfl⟩
          unfold rsX
          first
          | (rw [if_pos (by omega)]; done)
          | (rw [if_neg (by omega), if_pos (by omega)]; done)
          | (rw [if_neg (by omega), if_neg (by omega), if_pos (by omega)]; done)
          | (rw [if_neg (by omega), if_neg (by omega), if_neg (by omega), if_pos (by omega)]; done)
          | (rw [if_neg (by omega), if_neg (by omega), if_neg (by omega), if_neg (by omega)]; done)
        · skip
          refine s_iconst dX2_reason_80 (by decide) (s_goto 85 dX2_reason_81 (by decide) (n_iret dX2_reason_85 hR rfl ?_))
          refine ⟨congrArg (fun z => some ((0 : Nat), z)) ?_, rfl⟩
          unfold rsX
          first
          | (rw [if_pos (by omega)]; done)
          | (rw [if_neg (by omega), if_pos (by omega)]; done)
          | (rw [if_neg (by omega), if_neg (by omega), if_pos (by omega)]; done)
          | (rw [if_neg (by omega), if_neg (by omega), if_neg (by omega), if_pos (by omega)]; done)
          | (rw [if_neg (by omega), if_neg (by omega), if_neg (by omega), if_neg (by omega)]; done)
      · skip
        refine s_aload_n dX2_reason_58 0 rfl rfl (n_getc (q := 15) 41 1 25 dX2_reason_59 cf_X2 ff_X2_25 rfl sh_41 rfl (by decide) rfl (by decide) (n_getc (q := 19) 15 3 29 dX2_reason_62 cf_X3 ff_X2_96 rfl sh_15 rfl (by decide) rfl (by decide) (s_iload_n dX2_reason_65 2 rfl (n_iald 19 dX2_reason_66 rfl sh_19 (by decide) ⟨(by omega), (by omega)⟩ (v := (w 19 h)) rfl (s_if_ne 72 dX2_reason_67 (by decide) (fun c_67 => ?_) (fun c_67 => ?_))))))
        · skip
          refine s_aload_n dX2_reason_72 0 rfl rfl (n_getf 41 4 0 dX2_reason_73 cf_X2 ff_X2_38 rfl sh_41 rfl (by decide) (v := (w 41 4)) rfl (s_iconst dX2_reason_76 (by decide) (s_icmp_ne 84 dX2_reason_77 (by decide) (fun c_77 => ?_) (fun c_77 => ?_))))
          · skip
            refine s_iconst dX2_reason_84 (by decide) (n_iret dX2_reason_85 hR rfl ?_)
            refine ⟨congrArg (fun z => some ((0 : Nat), z)) ?_, rfl⟩
            unfold rsX
            first
            | (rw [if_pos (by omega)]; done)
            | (rw [if_neg (by omega), if_pos (by omega)]; done)
            | (rw [if_neg (by omega), if_neg (by omega), if_pos (by omega)]; done)
            | (rw [if_neg (by omega), if_neg (by omega), if_neg (by omega), if_pos (by omega)]; done)
            | (rw [if_neg (by omega), if_neg (by omega), if_neg (by omega), if_neg (by omega)]; done)
          · skip
            refine s_iconst dX2_reason_80 (by decide) (s_goto 85 dX2_reason_81 (by decide) (n_iret dX2_reason_85 hR rfl ?_))
            refine ⟨congrArg (fun z => some ((0 : Nat), z)) ?_, rfl⟩
            unfold rsX
            first
            | (rw [if_pos (by omega)]; done)
            | (rw [if_neg (by omega), if_pos (by omega)]; done)
            | (rw [if_neg (by omega), if_neg (by omega), if_pos (by omega)]; done)
            | (rw [if_neg (by omega), if_neg (by omega), if_neg (by omega), if_pos (by omega)]; done)
            | (rw [if_neg (by omega), if_neg (by omega), if_neg (by omega), if_neg (by omega)]; done)
        · skip
          refine s_iconst dX2_reason_70 (by decide) (n_iret dX2_reason_71 hR rfl ?_)
          refine ⟨congrArg (fun z => some ((0 : Nat), z)) ?_, rfl⟩
          unfold rsX
          first
          | (rw [if_pos (by omega)]; done)
          | (rw [if_neg (by omega), if_pos (by omega)]; done)
          | (rw [if_neg (by omega), if_neg (by omega), if_pos (by omega)]; done)
          | (rw [if_neg (by omega), if_neg (by omega), if_neg (by omega), if_pos (by omega)]; done)
          | (rw [if_neg (by omega), if_neg (by omega), if_neg (by omega), if_neg (by omega)]; done)
    · skip
      refine s_aload_n dX2_reason_39 0 rfl rfl (n_getc (q := 15) 41 1 25 dX2_reason_40 cf_X2 ff_X2_25 rfl sh_41 rfl (by decide) rfl (by decide) (s_iload_n dX2_reason_43 2 rfl (s_iload_n dX2_reason_44 3 rfl (n_invV (as := [(0, h), (0, (w 5 (w 7 p)))]) dX2_reason_45 kv_X3_canPlay ml_X2_120 (c_X_canPlay h (w 5 (w 7 p)) w hh hset) (by decide) 15 cf_X3 rfl sh_15 rfl rfl rfl (Nat.le_of_ble_eq_true rfl) (n_ifne_b 53 dX2_reason_48 (by decide) (fun c_48 => ?_) (fun c_48 => ?_))))))
      · skip
        refine s_iload_n dX2_reason_53 3 rfl (s_iconst dX2_reason_54 (by decide) (s_icmp_ne 72 dX2_reason_55 (by decide) (fun c_55 => ?_) (fun c_55 => ?_)))
        · skip
          refine s_aload_n dX2_reason_72 0 rfl rfl (n_getf 41 4 0 dX2_reason_73 cf_X2 ff_X2_38 rfl sh_41 rfl (by decide) (v := (w 41 4)) rfl (s_iconst dX2_reason_76 (by decide) (s_icmp_ne 84 dX2_reason_77 (by decide) (fun c_77 => ?_) (fun c_77 => ?_))))
          · skip
            refine s_iconst dX2_reason_84 (by decide) (n_iret dX2_reason_85 hR rfl ?_)
            refine ⟨congrArg (fun z => some ((0 : Nat), z)) ?_, rfl⟩
            unfold rsX
            first
            | (rw [if_pos (by omega)]; done)
            | (rw [if_neg (by omega), if_pos (by omega)]; done)
            | (rw [if_neg (by omega), if_neg (by omega), if_pos (by omega)]; done)
            | (rw [if_neg (by omega), if_neg (by omega), if_neg (by omega), if_pos (by omega)]; done)
            | (rw [if_neg (by omega), if_neg (by omega), if_neg (by omega), if_neg (by omega)]; done)
          · skip
            refine s_iconst dX2_reason_80 (by decide) (s_goto 85 dX2_reason_81 (by decide) (n_iret dX2_reason_85 hR rfl ?_))
            refine ⟨congrArg (fun z => some ((0 : Nat), z)) ?_, rfl⟩
            unfold rsX
            first
            | (rw [if_pos (by omega)]; done)
            | (rw [if_neg (by omega), if_pos (by omega)]; done)
            | (rw [if_neg (by omega), if_neg (by omega), if_pos (by omega)]; done)
            | (rw [if_neg (by omega), if_neg (by omega), if_neg (by omega), if_pos (by omega)]; done)
            | (rw [if_neg (by omega), if_neg (by omega), if_neg (by omega), if_neg (by omega)]; done)
        · skip
          refine s_aload_n dX2_reason_58 0 rfl rfl (n_getc (q := 15) 41 1 25 dX2_reason_59 cf_X2 ff_X2_25 rfl sh_41 rfl (by decide) rfl (by decide) (n_getc (q := 19) 15 3 29 dX2_reason_62 cf_X3 ff_X2_96 rfl sh_15 rfl (by decide) rfl (by decide) (s_iload_n dX2_reason_65 2 rfl (n_iald 19 dX2_reason_66 rfl sh_19 (by decide) ⟨(by omega), (by omega)⟩ (v := (w 19 h)) rfl (s_if_ne 72 dX2_reason_67 (by decide) (fun c_67 => ?_) (fun c_67 => ?_))))))
          · skip
            refine s_aload_n dX2_reason_72 0 rfl rfl (n_getf 41 4 0 dX2_reason_73 cf_X2 ff_X2_38 rfl sh_41 rfl (by decide) (v := (w 41 4)) rfl (s_iconst dX2_reason_76 (by decide) (s_icmp_ne 84 dX2_reason_77 (by decide) (fun c_77 => ?_) (fun c_77 => ?_))))
            · skip
              refine s_iconst dX2_reason_84 (by decide) (n_iret dX2_reason_85 hR rfl ?_)
              refine ⟨congrArg (fun z => some ((0 : Nat), z)) ?_, rfl⟩
              unfold rsX
              first
              | (rw [if_pos (by omega)]; done)
              | (rw [if_neg (by omega), if_pos (by omega)]; done)
              | (rw [if_neg (by omega), if_neg (by omega), if_pos (by omega)]; done)
              | (rw [if_neg (by omega), if_neg (by omega), if_neg (by omega), if_pos (by omega)]; done)
              | (rw [if_neg (by omega), if_neg (by omega), if_neg (by omega), if_neg (by omega)]; done)
            · skip
              refine s_iconst dX2_reason_80 (by decide) (s_goto 85 dX2_reason_81 (by decide) (n_iret dX2_reason_85 hR rfl ?_))
              refine ⟨congrArg (fun z => some ((0 : Nat), z)) ?_, rfl⟩
              unfold rsX
              first
              | (rw [if_pos (by omega)]; done)
              | (rw [if_neg (by omega), if_pos (by omega)]; done)
              | (rw [if_neg (by omega), if_neg (by omega), if_pos (by omega)]; done)
              | (rw [if_neg (by omega), if_neg (by omega), if_neg (by omega), if_pos (by omega)]; done)
              | (rw [if_neg (by omega), if_neg (by omega), if_neg (by omega), if_neg (by omega)]; done)
          · skip
            refine s_iconst dX2_reason_70 (by decide) (n_iret dX2_reason_71 hR rfl ?_)
            refine ⟨congrArg (fun z => some ((0 : Nat), z)) ?_, rfl⟩
            unfold rsX
            first
            | (rw [if_pos (by omega)]; done)
            | (rw [if_neg (by omega), if_pos (by omega)]; done)
            | (rw [if_neg (by omega), if_neg (by omega), if_pos (by omega)]; done)
            | (rw [if_neg (by omega), if_neg (by omega), if_neg (by omega), if_pos (by omega)]; done)
            | (rw [if_neg (by omega), if_neg (by omega), if_neg (by omega), if_neg (by omega)]; done)
      · skip
        refine s_iconst dX2_reason_51 (by decide) (n_iret dX2_reason_52 hR rfl ?_)
        refine ⟨congrArg (fun z => some ((0 : Nat), z)) ?_, rfl⟩
        unfold rsX
        first
        | (rw [if_pos (by omega)]; done)
        | (rw [if_neg (by omega), if_pos (by omega)]; done)
        | (rw [if_neg (by omega), if_neg (by omega), if_pos (by omega)]; done)
        | (rw [if_neg (by omega), if_neg (by omega), if_neg (by omega), if_pos (by omega)]; done)
        | (rw [if_neg (by omega), if_neg (by omega), if_neg (by omega), if_neg (by omega)]; done)
  · skip
    refine s_iconst dX2_reason_32 (by decide) (n_iret dX2_reason_33 hR rfl ?_)
    refine ⟨congrArg (fun z => some ((0 : Nat), z)) ?_, rfl⟩
    unfold rsX
    first
    | (rw [if_pos (by omega)]; done)
    | (rw [if_neg (by omega), if_pos (by omega)]; done)
    | (rw [if_neg (by omega), if_neg (by omega), if_pos (by omega)]; done)
    | (rw [if_neg (by omega), if_neg (by omega), if_neg (by omega), if_pos (by omega)]; done)
    | (rw [if_neg (by omega), if_neg (by omega), if_neg (by omega), if_neg (by omega)]; done)

def rnV (S : Jd) (r q : Int) : Int := if q = 0 then r else if q = 1 then S.1 else if q = 2 then S.2.1 else if q = 3 then S.2.2.1 else if q = 4 then S.2.2.2 else -1
set_option maxRecDepth 100000 in
theorem x_runs (p h q : Int) (w : Wd) (s : Int → Nat) (LN : Int → List Lin) (hs : SCL w s LN) (hn1 : w 1 9 ≤ 30) (hn2 : w 15 10 ≤ 16) (hpi : ∀ j, 0 ≤ j → j < w 1 9 → 0 ≤ w 7 j ∧ w 7 j < 12) (hset : w 15 15 ≤ 20) : CallN 6 mX11_runs [(2, 0), (0, p), (0, h), (0, q)] w (RQ (fun z w1 => (((0 ≤ p ∧ p < w 1 9) ∧ (0 ≤ h ∧ h < w 15 10)) ∧ FrG3 w w1 ∧ z = rnV (jdF (fcX w p h (w 0 10)) LN) (rsX w p h (jdF (fcX w p h (w 0 10)) LN).1) q) ∨ (¬ ((0 ≤ p ∧ p < w 1 9) ∧ (0 ≤ h ∧ h < w 15 10)) ∧ w1 = w ∧ z = -1))) := by
  refine CallN.intro (by decide +kernel) (Nat.le_of_ble_eq_true rfl) (fun ρ hR => ?_)
  show AtN mX11_runs 6 ρ 0 [(0, (2, 0)), (1, (0, p)), (2, (0, h)), (3, (0, q))] [] w
  refine s_aload_n dX11_runs_0 0 rfl rfl (n_getc (q := 1) 0 0 11 dX11_runs_1 cf_X11 ff_X11_10 rfl sh_0 rfl (by decide) rfl (by decide) (s_iload_n dX11_runs_4 1 rfl (n_invV (as := [(0, p)]) dX11_runs_5 kv_X5_hasPrint ml_X11_114 (c_X_hasPrint p w) (by decide) 1 cf_X5 rfl sh_1 rfl rfl rfl (Nat.le_of_ble_eq_true rfl) (n_ifeq_b 22 dX11_runs_8 (by decide) (fun c_8 => ?_) (fun c_8 => ?_)))))
  · skip
    refine s_iconst dX11_runs_22 (by decide) (n_iret dX11_runs_23 hR rfl ?_)
    exact ⟨_, rfl, Or.inr ⟨by omega, rfl, rfl⟩⟩
  · skip
    refine s_aload_n dX11_runs_11 0 rfl rfl (n_getc (q := 15) 0 1 25 dX11_runs_12 cf_X11 ff_X11_19 rfl sh_0 rfl (by decide) rfl (by decide) (s_iload_n dX11_runs_15 2 rfl (n_invV (as := [(0, h)]) dX11_runs_16 kv_X3_hasHall ml_X11_185 (c_X_hasHall h w) (by decide) 15 cf_X3 rfl sh_15 rfl rfl rfl (Nat.le_of_ble_eq_true rfl) (n_ifne_b 24 dX11_runs_19 (by decide) (fun c_19 => ?_) (fun c_19 => ?_)))))
    · skip
      refine s_aload_n dX11_runs_24 0 rfl rfl (n_getc (q := 41) 0 4 51 dX11_runs_25 cf_X11 ff_X11_44 rfl sh_0 rfl (by decide) rfl (by decide) (s_iload_n dX11_runs_28 1 rfl (s_iload_n dX11_runs_29 2 rfl (s_aload_n dX11_runs_30 0 rfl rfl (n_getf 0 10 0 dX11_runs_31 cf_X11 ff_X11_87 rfl sh_0 rfl (by decide) (v := (w 0 10)) rfl (n_invV' (as := [(0, p), (0, h), (0, (w 0 10))]) dX11_runs_34 kv_X2_judge ml_X11_188 (c_X_judge p h (w 0 10) w s LN hs ⟨by omega, by omega⟩ ⟨by omega, by omega⟩ (hpi p (by omega) (by omega)) hset) (by decide) 41 cf_X2 rfl sh_41 rfl rfl rfl (Nat.le_of_ble_eq_true rfl) ?_))))))
      rintro r_34 w_34 ⟨rfl, hF34, hJ34⟩
      have e7 : w_34 7 = w 7 := hF34.1 7 (by decide) (by decide) (by decide) (by decide) (by decide) (by decide)
      have e8 : w_34 8 = w 8 := hF34.1 8 (by decide) (by decide) (by decide) (by decide) (by decide) (by decide)
      have e5 : w_34 5 = w 5 := hF34.1 5 (by decide) (by decide) (by decide) (by decide) (by decide) (by decide)
      have e24 : w_34 24 = w 24 := hF34.1 24 (by decide) (by decide) (by decide) (by decide) (by decide) (by decide)
      have e27 : w_34 27 = w 27 := hF34.1 27 (by decide) (by decide) (by decide) (by decide) (by decide) (by decide)
      have e15 : w_34 15 = w 15 := hF34.1 15 (by decide) (by decide) (by decide) (by decide) (by decide) (by decide)
      have e19 : w_34 19 = w 19 := hF34.1 19 (by decide) (by decide) (by decide) (by decide) (by decide) (by decide)
      have hrs : rsX w_34 p h (w_34 41 4) = rsX w p h (w_34 41 4) := by unfold rsX; rw [e7, e8, e5, e24, e27, e15, e19]
      obtain ⟨J, eJ⟩ : ∃ J, J = jdF (fcX w p h (w 0 10)) LN := ⟨_, rfl⟩
      rw [← eJ] at hJ34
      have j1 : w_34 41 4 = J.1 := by rw [← hJ34]
      have j2 : w_34 41 5 = J.2.1 := by rw [← hJ34]
      have j3 : w_34 41 6 = J.2.2.1 := by rw [← hJ34]
      have j4 : w_34 41 7 = J.2.2.2 := by rw [← hJ34]
      refine s_iload_n dX11_runs_37 3 rfl ?_
      rcases (show (q < 0 ∨ 4 < q) ∨ q = 0 ∨ q = 1 ∨ q = 2 ∨ q = 3 ∨ q = 4 from by omega) with c_38 | c_38 | c_38 | c_38 | c_38 | c_38
      · refine s_tableOut 114 dX11_runs_38 c_38 (by decide) ?_
        refine s_iconst dX11_runs_114 (by decide) (n_iret dX11_runs_115 hR rfl ?_)
        refine ⟨_, rfl, Or.inl ⟨by omega, hF34, ?_⟩⟩
        rw [← eJ]
        unfold rnV
        first
        | (rw [if_pos (show q = 0 by omega), hrs, j1]; done)
        | (rw [if_neg (show ¬ q = 0 by omega), if_pos (show q = 1 by omega)]; exact j1)
        | (rw [if_neg (show ¬ q = 0 by omega), if_neg (show ¬ q = 1 by omega), if_pos (show q = 2 by omega)]; exact j2)
        | (rw [if_neg (show ¬ q = 0 by omega), if_neg (show ¬ q = 1 by omega), if_neg (show ¬ q = 2 by omega), if_pos (show q = 3 by omega)]; exact j3)
        | (rw [if_neg (show ¬ q = 0 by omega), if_neg (show ¬ q = 1 by omega), if_neg (show ¬ q = 2 by omega), if_neg (show ¬ q = 3 by omega), if_pos (show q = 4 by omega)]; exact j4)
        | (rw [if_neg (show ¬ q = 0 by omega), if_neg (show ¬ q = 1 by omega), if_neg (show ¬ q = 2 by omega), if_neg (show ¬ q = 3 by omega), if_neg (show ¬ q = 4 by omega)])
      · refine s_tableIn 72 0 dX11_runs_38 (by rw [c_38]; rfl) (by decide) rfl (by decide) ?_
        refine s_aload_n dX11_runs_72 0 rfl rfl (n_getc (q := 41) 0 4 51 dX11_runs_73 cf_X11 ff_X11_44 rfl sh_0 rfl (by decide) rfl (by decide) (s_iload_n dX11_runs_76 1 rfl (s_iload_n dX11_runs_77 2 rfl (n_invV (as := [(0, p), (0, h)]) dX11_runs_78 kv_X2_reason ml_X11_192 (c_X_reason p h w_34 ⟨by omega, by omega⟩ ⟨by omega, by omega⟩ (by rw [e7]; exact hpi p (by omega) (by omega)) (by rw [e15]; exact hset)) (by decide) 41 cf_X2 rfl sh_41 rfl rfl rfl (Nat.le_of_ble_eq_true rfl) (n_iret dX11_runs_81 hR rfl ?_)))))
        refine ⟨_, rfl, Or.inl ⟨by omega, hF34, ?_⟩⟩
        rw [← eJ]
        unfold rnV
        first
        | (rw [if_pos (show q = 0 by omega), hrs, j1]; done)
        | (rw [if_neg (show ¬ q = 0 by omega), if_pos (show q = 1 by omega)]; exact j1)
        | (rw [if_neg (show ¬ q = 0 by omega), if_neg (show ¬ q = 1 by omega), if_pos (show q = 2 by omega)]; exact j2)
        | (rw [if_neg (show ¬ q = 0 by omega), if_neg (show ¬ q = 1 by omega), if_neg (show ¬ q = 2 by omega), if_pos (show q = 3 by omega)]; exact j3)
        | (rw [if_neg (show ¬ q = 0 by omega), if_neg (show ¬ q = 1 by omega), if_neg (show ¬ q = 2 by omega), if_neg (show ¬ q = 3 by omega), if_pos (show q = 4 by omega)]; exact j4)
        | (rw [if_neg (show ¬ q = 0 by omega), if_neg (show ¬ q = 1 by omega), if_neg (show ¬ q = 2 by omega), if_neg (show ¬ q = 3 by omega), if_neg (show ¬ q = 4 by omega)])
      · refine s_tableIn 82 1 dX11_runs_38 (by rw [c_38]; rfl) (by decide) rfl (by decide) ?_
        refine s_aload_n dX11_runs_82 0 rfl rfl (n_getc (q := 41) 0 4 51 dX11_runs_83 cf_X11 ff_X11_44 rfl sh_0 rfl (by decide) rfl (by decide) (n_getf 41 4 0 dX11_runs_86 cf_X2 ff_X11_195 rfl sh_41 rfl (by decide) (v := (w_34 41 4)) rfl (n_iret dX11_runs_89 hR rfl ?_)))
        refine ⟨_, rfl, Or.inl ⟨by omega, hF34, ?_⟩⟩
        rw [← eJ]
        unfold rnV
        first
        | (rw [if_pos (show q = 0 by omega), hrs, j1]; done)
        | (rw [if_neg (show ¬ q = 0 by omega), if_pos (show q = 1 by omega)]; exact j1)
        | (rw [if_neg (show ¬ q = 0 by omega), if_neg (show ¬ q = 1 by omega), if_pos (show q = 2 by omega)]; exact j2)
        | (rw [if_neg (show ¬ q = 0 by omega), if_neg (show ¬ q = 1 by omega), if_neg (show ¬ q = 2 by omega), if_pos (show q = 3 by omega)]; exact j3)
        | (rw [if_neg (show ¬ q = 0 by omega), if_neg (show ¬ q = 1 by omega), if_neg (show ¬ q = 2 by omega), if_neg (show ¬ q = 3 by omega), if_pos (show q = 4 by omega)]; exact j4)
        | (rw [if_neg (show ¬ q = 0 by omega), if_neg (show ¬ q = 1 by omega), if_neg (show ¬ q = 2 by omega), if_neg (show ¬ q = 3 by omega), if_neg (show ¬ q = 4 by omega)])
      · refine s_tableIn 90 2 dX11_runs_38 (by rw [c_38]; rfl) (by decide) rfl (by decide) ?_
        refine s_aload_n dX11_runs_90 0 rfl rfl (n_getc (q := 41) 0 4 51 dX11_runs_91 cf_X11 ff_X11_44 rfl sh_0 rfl (by decide) rfl (by decide) (n_getf 41 5 0 dX11_runs_94 cf_X2 ff_X11_198 rfl sh_41 rfl (by decide) (v := (w_34 41 5)) rfl (n_iret dX11_runs_97 hR rfl ?_)))
        refine ⟨_, rfl, Or.inl ⟨by omega, hF34, ?_⟩⟩
        rw [← eJ]
        unfold rnV
        first
        | (rw [if_pos (show q = 0 by omega), hrs, j1]; done)
        | (rw [if_neg (show ¬ q = 0 by omega), if_pos (show q = 1 by omega)]; exact j1)
        | (rw [if_neg (show ¬ q = 0 by omega), if_neg (show ¬ q = 1 by omega), if_pos (show q = 2 by omega)]; exact j2)
        | (rw [if_neg (show ¬ q = 0 by omega), if_neg (show ¬ q = 1 by omega), if_neg (show ¬ q = 2 by omega), if_pos (show q = 3 by omega)]; exact j3)
        | (rw [if_neg (show ¬ q = 0 by omega), if_neg (show ¬ q = 1 by omega), if_neg (show ¬ q = 2 by omega), if_neg (show ¬ q = 3 by omega), if_pos (show q = 4 by omega)]; exact j4)
        | (rw [if_neg (show ¬ q = 0 by omega), if_neg (show ¬ q = 1 by omega), if_neg (show ¬ q = 2 by omega), if_neg (show ¬ q = 3 by omega), if_neg (show ¬ q = 4 by omega)])
      · refine s_tableIn 98 3 dX11_runs_38 (by rw [c_38]; rfl) (by decide) rfl (by decide) ?_
        refine s_aload_n dX11_runs_98 0 rfl rfl (n_getc (q := 41) 0 4 51 dX11_runs_99 cf_X11 ff_X11_44 rfl sh_0 rfl (by decide) rfl (by decide) (n_getf 41 6 0 dX11_runs_102 cf_X2 ff_X11_201 rfl sh_41 rfl (by decide) (v := (w_34 41 6)) rfl (n_iret dX11_runs_105 hR rfl ?_)))
        refine ⟨_, rfl, Or.inl ⟨by omega, hF34, ?_⟩⟩
        rw [← eJ]
        unfold rnV
        first
        | (rw [if_pos (show q = 0 by omega), hrs, j1]; done)
        | (rw [if_neg (show ¬ q = 0 by omega), if_pos (show q = 1 by omega)]; exact j1)
        | (rw [if_neg (show ¬ q = 0 by omega), if_neg (show ¬ q = 1 by omega), if_pos (show q = 2 by omega)]; exact j2)
        | (rw [if_neg (show ¬ q = 0 by omega), if_neg (show ¬ q = 1 by omega), if_neg (show ¬ q = 2 by omega), if_pos (show q = 3 by omega)]; exact j3)
        | (rw [if_neg (show ¬ q = 0 by omega), if_neg (show ¬ q = 1 by omega), if_neg (show ¬ q = 2 by omega), if_neg (show ¬ q = 3 by omega), if_pos (show q = 4 by omega)]; exact j4)
        | (rw [if_neg (show ¬ q = 0 by omega), if_neg (show ¬ q = 1 by omega), if_neg (show ¬ q = 2 by omega), if_neg (show ¬ q = 3 by omega), if_neg (show ¬ q = 4 by omega)])
      · refine s_tableIn 106 4 dX11_runs_38 (by rw [c_38]; rfl) (by decide) rfl (by decide) ?_
        refine s_aload_n dX11_runs_106 0 rfl rfl (n_getc (q := 41) 0 4 51 dX11_runs_107 cf_X11 ff_X11_44 rfl sh_0 rfl (by decide) rfl (by decide) (n_getf 41 7 0 dX11_runs_110 cf_X2 ff_X11_204 rfl sh_41 rfl (by decide) (v := (w_34 41 7)) rfl (n_iret dX11_runs_113 hR rfl ?_)))
        refine ⟨_, rfl, Or.inl ⟨by omega, hF34, ?_⟩⟩
        rw [← eJ]
        unfold rnV
        first
        | (rw [if_pos (show q = 0 by omega), hrs, j1]; done)
        | (rw [if_neg (show ¬ q = 0 by omega), if_pos (show q = 1 by omega)]; exact j1)
        | (rw [if_neg (show ¬ q = 0 by omega), if_neg (show ¬ q = 1 by omega), if_pos (show q = 2 by omega)]; exact j2)
        | (rw [if_neg (show ¬ q = 0 by omega), if_neg (show ¬ q = 1 by omega), if_neg (show ¬ q = 2 by omega), if_pos (show q = 3 by omega)]; exact j3)
        | (rw [if_neg (show ¬ q = 0 by omega), if_neg (show ¬ q = 1 by omega), if_neg (show ¬ q = 2 by omega), if_neg (show ¬ q = 3 by omega), if_pos (show q = 4 by omega)]; exact j4)
        | (rw [if_neg (show ¬ q = 0 by omega), if_neg (show ¬ q = 1 by omega), if_neg (show ¬ q = 2 by omega), if_neg (show ¬ q = 3 by omega), if_neg (show ¬ q = 4 by omega)])
    · skip
      refine s_iconst dX11_runs_22 (by decide) (n_iret dX11_runs_23 hR rfl ?_)
      exact ⟨_, rfl, Or.inr ⟨by omega, rfl, rfl⟩⟩
