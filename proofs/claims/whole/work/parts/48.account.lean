/-! ACCOUNT AND SPREAD, the class. -/
def prOk (w : Wd) (h : Int) : Prop := 0 ≤ w 25 h ∧ w 25 h < w 1 9
def prOkd (w : Wd) (h : Int) : Decidable (prOk w h) := by unfold prOk; infer_instance
def seOk (w : Wd) (h : Int) : Prop := 0 ≤ w 24 h ∧ w 24 h < w 15 15
/-- what a hall has behind a week -/
def acC (w : Wd) (h : Int) : Int := w 20 h + (w 21 h * w 18 h - 3 * w 19 h) - (if 0 ≤ w 24 h ∧ w 24 h < w 15 15 then w 28 (w 24 h) else 0) - (if 0 ≤ w 25 h ∧ w 25 h < w 1 9 then 9 * mxL 0 (w 85 h - w 19 h) else 0) - (if w 82 h = 1 ∧ (0 ≤ w 25 h ∧ w 25 h < w 1 9) then w 84 h else 0)
theorem wu_up {v : Wd} {k : Nat} {j x : Int} : wu v k j x k = updF (v k) j x := by funext i; rw [wu_at]; rfl
theorem updF2 {f : Int → Int} {j x y : Int} : updF (updF f j x) j y = updF f j y := by
  funext i
  unfold updF
  by_cases e : i = j
  · rw [if_pos e, if_pos e]
  · rw [if_neg e, if_neg e, if_neg e]

set_option maxRecDepth 100000 in
set_option maxHeartbeats 4000000 in
theorem c_X_account (h : Int) (w : Wd) (hh : 0 ≤ h ∧ h < 16) (hn1 : w 1 9 ≤ 30) (hset : w 15 15 ≤ 20) (hlk : 0 ≤ w 21 h ∧ w 21 h ≤ 6993) (hpr : 1 ≤ w 18 h ∧ w 18 h ≤ 99) (hba : 0 ≤ w 19 h ∧ w 19 h ≤ 40) (hal : 0 ≤ w 23 h ∧ w 23 h ≤ 1400000) (hco : -1000000000000 ≤ w 20 h ∧ w 20 h ≤ 1000000000000) (hhi : ∀ j, 0 ≤ j → j < w 15 15 → 0 ≤ w 28 j ∧ w 28 j ≤ 99) (hfe : 0 ≤ w 84 h ∧ w 84 h ≤ 299997) (hke : w 85 h ≤ 40 ∧ -2147483000 ≤ w 85 h) (hru : w 82 h = 0 ∨ w 82 h = 1) (hwe : ∀ j, 0 ≤ j → j < w 1 9 → 0 ≤ w 8 j ∧ w 8 j ≤ 1000) : CallN 2 mX0_account [(2, 59), (0, h)] w (RUQ (fun w1 => (∀ c, c ≠ 8 → c ≠ 20 → c ≠ 22 → c ≠ 23 → w1 c = w c) ∧ w1 22 = updF (w 22) h (w 21 h * w 18 h) ∧ w1 23 = updF (w 23) h (w 23 h + w 21 h) ∧ w1 20 = updF (w 20) h (acC w h) ∧ w1 8 = (if w 82 h = 1 ∧ (0 ≤ w 25 h ∧ w 25 h < w 1 9) then updF (w 8) (w 25 h) (w 8 (w 25 h) + 1) else w 8))) := by
  refine CallN.intro (by decide +kernel) (Nat.le_of_ble_eq_true rfl) (fun ρ hR => ?_)
  show AtN mX0_account 2 ρ 0 [(0, (2, 59)), (1, (0, h))] [] w
  have hmul := mul_bd (x := w 21 h) (y := w 18 h) (X := 6993) (Y := 99) hlk ⟨by omega, hpr.2⟩
  have hmx : 0 ≤ mxL 0 (w 85 h - w 19 h) ∧ mxL 0 (w 85 h - w 19 h) ≤ 40 := by unfold mxL; split <;> omega
  refine s_aload_n dX0_account_0 0 rfl rfl (n_getc (q := 15) 59 1 25 dX0_account_1 cf_X0 ff_X0_55 rfl sh_59 rfl (by decide) rfl (by decide) (n_getc (q := 25) 15 9 35 dX0_account_4 cf_X3 ff_X0_71 rfl sh_15 rfl (by decide) rfl (by decide) (s_iload_n dX0_account_7 1 rfl (n_iald 25 dX0_account_8 rfl sh_25 (by decide) ⟨(by omega), (by omega)⟩ (v := (w 25 h)) rfl (s_istore_n (ls' := [(0, (2, 59)), (1, (0, h)), (2, (0, (w 25 h)))]) dX0_account_9 (Nat.le_of_ble_eq_true rfl) rfl (s_aload_n dX0_account_10 0 rfl rfl (n_getc (q := 15) 59 1 25 dX0_account_11 cf_X0 ff_X0_55 rfl sh_59 rfl (by decide) rfl (by decide) (n_getc (q := 24) 15 8 34 dX0_account_14 cf_X3 ff_X0_149 rfl sh_15 rfl (by decide) rfl (by decide) (s_iload_n dX0_account_17 1 rfl ?_)))))))))
  refine n_iald 24 dX0_account_18 rfl sh_24 (by decide) ⟨(by omega), (by omega)⟩ (v := (w 24 h)) rfl (s_istore_n (ls' := [(0, (2, 59)), (1, (0, h)), (2, (0, (w 25 h))), (3, (0, (w 24 h)))]) dX0_account_19 (Nat.le_of_ble_eq_true rfl) rfl (s_aload_n dX0_account_20 0 rfl rfl (n_getc (q := 15) 59 1 25 dX0_account_21 cf_X0 ff_X0_55 rfl sh_59 rfl (by decide) rfl (by decide) (n_getc (q := 21) 15 5 31 dX0_account_24 cf_X3 ff_X0_118 rfl sh_15 rfl (by decide) rfl (by decide) (s_iload_n dX0_account_27 1 rfl (n_iald 21 dX0_account_28 rfl sh_21 (by decide) ⟨(by omega), (by omega)⟩ (v := (w 21 h)) rfl (s_istore (ls' := [(0, (2, 59)), (1, (0, h)), (2, (0, (w 25 h))), (3, (0, (w 24 h))), (4, (0, (w 21 h)))]) dX0_account_29 (Nat.le_of_ble_eq_true rfl) rfl (s_aload_n dX0_account_31 0 rfl rfl (n_getc (q := 15) 59 1 25 dX0_account_32 cf_X0 ff_X0_55 rfl sh_59 rfl (by decide) rfl (by decide) ?_)))))))))
  refine n_getc (q := 22) 15 6 32 dX0_account_35 cf_X3 ff_X0_152 rfl sh_15 rfl (by decide) rfl (by decide) (s_iload_n dX0_account_38 1 rfl (s_iload dX0_account_39 4 rfl (s_aload_n dX0_account_41 0 rfl rfl (n_getc (q := 15) 59 1 25 dX0_account_42 cf_X0 ff_X0_55 rfl sh_59 rfl (by decide) rfl (by decide) (n_getc (q := 18) 15 2 28 dX0_account_45 cf_X3 ff_X0_100 rfl sh_15 rfl (by decide) rfl (by decide) (s_iload_n dX0_account_48 1 rfl (n_iald 18 dX0_account_49 rfl sh_18 (by decide) ⟨(by omega), (by omega)⟩ (v := (w 18 h)) rfl (n_mul (z := ((w 21 h) * (w 18 h))) dX0_account_50 (wr_id (by omega) (by omega)) (s_iastore 22 dX0_account_51 rfl sh_22 (by decide) ⟨(by omega), (by omega)⟩ ?_)))))))))
  refine s_aload_n dX0_account_52 0 rfl rfl (n_getc (q := 15) 59 1 25 dX0_account_53 cf_X0 ff_X0_55 rfl sh_59 rfl (by decide) rfl (by decide) (n_getc (q := 23) 15 7 33 dX0_account_56 cf_X3 ff_X0_155 rfl sh_15 rfl (by decide) rfl (by decide) (s_iload_n dX0_account_59 1 rfl (s_dup2 dX0_account_60 (show (0 : Nat) ≠ 1 by decide) (show (2 : Nat) ≠ 1 by decide) (n_iald 23 dX0_account_61 rfl sh_23 (by decide) ⟨(by omega), (by omega)⟩ (v := (w 23 h)) rfl (s_iload dX0_account_62 4 rfl (n_add (z := ((w 23 h) + (w 21 h))) dX0_account_64 (wr_id (by omega) (by omega)) (s_iastore 23 dX0_account_65 rfl sh_23 (by decide) ⟨(by omega), (by omega)⟩ (s_aload_n dX0_account_66 0 rfl rfl ?_)))))))))
  refine n_getc (q := 15) 59 1 25 dX0_account_67 cf_X0 ff_X0_55 rfl sh_59 rfl (by decide) rfl (by decide) (n_getc (q := 20) 15 4 30 dX0_account_70 cf_X3 ff_X0_158 rfl sh_15 rfl (by decide) rfl (by decide) (s_iload_n dX0_account_73 1 rfl (s_dup2 dX0_account_74 (show (0 : Nat) ≠ 1 by decide) (show (2 : Nat) ≠ 1 by decide) (n_lald 20 dX0_account_75 rfl sh_20 (by decide) ⟨(by omega), (by omega)⟩ (v := (w 20 h)) rfl (s_aload_n dX0_account_76 0 rfl rfl (n_getc (q := 15) 59 1 25 dX0_account_77 cf_X0 ff_X0_55 rfl sh_59 rfl (by decide) rfl (by decide) (n_getc (q := 22) 15 6 32 dX0_account_80 cf_X3 ff_X0_152 rfl sh_15 rfl (by decide) rfl (by decide) (s_iload_n dX0_account_83 1 rfl (n_iald 22 dX0_account_84 rfl sh_22 (by decide) ⟨(by omega), (by omega)⟩ (v := ((w 21 h) * (w 18 h))) (by simp [wu]) ?_)))))))))
  refine s_iconst dX0_account_85 (by decide) (s_aload_n dX0_account_86 0 rfl rfl (n_getc (q := 15) 59 1 25 dX0_account_87 cf_X0 ff_X0_55 rfl sh_59 rfl (by decide) rfl (by decide) (n_getc (q := 19) 15 3 29 dX0_account_90 cf_X3 ff_X0_162 rfl sh_15 rfl (by decide) rfl (by decide) (s_iload_n dX0_account_93 1 rfl (n_iald 19 dX0_account_94 rfl sh_19 (by decide) ⟨(by omega), (by omega)⟩ (v := (w 19 h)) rfl (n_mul (z := (3 * (w 19 h))) dX0_account_95 (wr_id (by omega) (by omega)) (n_sub (z := (((w 21 h) * (w 18 h)) - (3 * (w 19 h)))) dX0_account_96 (wr_id (by omega) (by omega)) (s_i2l dX0_account_97 (n_ladd (z := ((w 20 h) + (((w 21 h) * (w 18 h)) - (3 * (w 19 h))))) dX0_account_98 (wrL_id (by omega) (by omega)) ?_)))))))))
  refine s_lastore 20 dX0_account_99 rfl sh_20 (by decide) ⟨(by omega), (by omega)⟩ (s_aload_n dX0_account_100 0 rfl rfl (n_getc (q := 15) 59 1 25 dX0_account_101 cf_X0 ff_X0_55 rfl sh_59 rfl (by decide) rfl (by decide) (s_iload_n dX0_account_104 3 rfl (n_invV (as := [(0, (w 24 h))]) dX0_account_105 kv_X3_hasSet ml_X0_165 (show CallN 1 mX3_hasSet [(2, 15), (0, w 24 h)] (wu (wu (wu w 22 h ((w 21 h) * (w 18 h))) 23 h ((w 23 h) + (w 21 h))) 20 h ((w 20 h) + (((w 21 h) * (w 18 h)) - (3 * (w 19 h))))) (RV (0, bi (0 ≤ w 24 h ∧ w 24 h < w 15 15)) (wu (wu (wu w 22 h ((w 21 h) * (w 18 h))) 23 h ((w 23 h) + (w 21 h))) 20 h ((w 20 h) + (((w 21 h) * (w 18 h)) - (3 * (w 19 h)))))) from c_X_hasSet (w 24 h) (wu (wu (wu w 22 h ((w 21 h) * (w 18 h))) 23 h ((w 23 h) + (w 21 h))) 20 h ((w 20 h) + (((w 21 h) * (w 18 h)) - (3 * (w 19 h)))))) (by decide) 15 cf_X3 rfl sh_15 rfl rfl rfl (Nat.le_of_ble_eq_true rfl) (n_ifeq_b 133 dX0_account_108 (by decide) (fun c_108 => ?_) (fun c_108 => ?_))))))
  · skip
    refine s_aload_n dX0_account_133 0 rfl rfl (n_getc (q := 1) 59 0 11 dX0_account_134 cf_X0 ff_X0_51 rfl sh_59 rfl (by decide) rfl (by decide) (s_iload_n dX0_account_137 2 rfl (n_invV (as := [(0, (w 25 h))]) dX0_account_138 kv_X5_hasPrint ml_X0_76 (show CallN 1 mX5_hasPrint [(2, 1), (0, w 25 h)] (wu (wu (wu w 22 h ((w 21 h) * (w 18 h))) 23 h ((w 23 h) + (w 21 h))) 20 h ((w 20 h) + (((w 21 h) * (w 18 h)) - (3 * (w 19 h))))) (RV (0, bi (0 ≤ w 25 h ∧ w 25 h < w 1 9)) (wu (wu (wu w 22 h ((w 21 h) * (w 18 h))) 23 h ((w 23 h) + (w 21 h))) 20 h ((w 20 h) + (((w 21 h) * (w 18 h)) - (3 * (w 19 h)))))) from c_X_hasPrint (w 25 h) (wu (wu (wu w 22 h ((w 21 h) * (w 18 h))) 23 h ((w 23 h) + (w 21 h))) 20 h ((w 20 h) + (((w 21 h) * (w 18 h)) - (3 * (w 19 h)))))) (by decide) 1 cf_X5 rfl sh_1 rfl rfl rfl (Nat.le_of_ble_eq_true rfl) (n_ifeq_b 180 dX0_account_141 (by decide) (fun c_141 => ?_) (fun c_141 => ?_)))))
    · skip
      refine s_aload_n dX0_account_180 0 rfl rfl (n_getc (q := 82) 59 10 92 dX0_account_181 cf_X0 ff_X0_32 rfl sh_59 rfl (by decide) rfl (by decide) (s_iload_n dX0_account_184 1 rfl (n_bald 82 dX0_account_185 rfl sh_82 (by decide) ⟨(by omega), (by omega)⟩ (v := (w 82 h)) rfl (s_if_eq 232 dX0_account_186 (by decide) (fun c_186 => ?_) (fun c_186 => ?_)))))
      · skip
        refine n_ret dX0_account_232 hR rfl ?_
        refine ⟨rfl, fun c c1 c2 c3 c4 => ?_, ?_, ?_, ?_, ?_⟩
        · repeat (first | rw [wu_ne c1] | rw [wu_ne c2] | rw [wu_ne c3] | rw [wu_ne c4])
        · funext i
          show (if i = h then _ else w 22 i) = updF (w 22) h _ i
          rfl
        · funext i
          show (if i = h then _ else w 23 i) = updF (w 23) h _ i
          rfl
        · funext i
          unfold updF
          by_cases e : i = h
          · rw [e, if_pos rfl]
            unfold acC
            rw [wu_same]
            (repeat' split) <;> (first | omega | (exfalso; omega))
          · rw [if_neg e]
            show (if i = h then _ else w 20 i) = w 20 i
            rw [if_neg e]
        · rw [if_neg (by omega)]
          rfl
      · skip
        refine s_aload_n dX0_account_189 0 rfl rfl (n_getc (q := 1) 59 0 11 dX0_account_190 cf_X0 ff_X0_51 rfl sh_59 rfl (by decide) rfl (by decide) (s_iload_n dX0_account_193 2 rfl (n_invV (as := [(0, (w 25 h))]) dX0_account_194 kv_X5_hasPrint ml_X0_76 (show CallN 1 mX5_hasPrint [(2, 1), (0, w 25 h)] (wu (wu (wu w 22 h ((w 21 h) * (w 18 h))) 23 h ((w 23 h) + (w 21 h))) 20 h ((w 20 h) + (((w 21 h) * (w 18 h)) - (3 * (w 19 h))))) (RV (0, bi (0 ≤ w 25 h ∧ w 25 h < w 1 9)) (wu (wu (wu w 22 h ((w 21 h) * (w 18 h))) 23 h ((w 23 h) + (w 21 h))) 20 h ((w 20 h) + (((w 21 h) * (w 18 h)) - (3 * (w 19 h)))))) from c_X_hasPrint (w 25 h) (wu (wu (wu w 22 h ((w 21 h) * (w 18 h))) 23 h ((w 23 h) + (w 21 h))) 20 h ((w 20 h) + (((w 21 h) * (w 18 h)) - (3 * (w 19 h)))))) (by decide) 1 cf_X5 rfl sh_1 rfl rfl rfl (Nat.le_of_ble_eq_true rfl) (n_ifeq_b 232 dX0_account_197 (by decide) (fun c_197 => ?_) (fun c_197 => ?_)))))
        · skip
          refine n_ret dX0_account_232 hR rfl ?_
          refine ⟨rfl, fun c c1 c2 c3 c4 => ?_, ?_, ?_, ?_, ?_⟩
          · repeat (first | rw [wu_ne c1] | rw [wu_ne c2] | rw [wu_ne c3] | rw [wu_ne c4])
          · funext i
            show (if i = h then _ else w 22 i) = updF (w 22) h _ i
            rfl
          · funext i
            show (if i = h then _ else w 23 i) = updF (w 23) h _ i
            rfl
          · funext i
            unfold updF
            by_cases e : i = h
            · rw [e, if_pos rfl]
              unfold acC
              rw [wu_same]
              (repeat' split) <;> (first | omega | (exfalso; omega))
            · rw [if_neg e]
              show (if i = h then _ else w 20 i) = w 20 i
              rw [if_neg e]
          · rw [if_neg (by omega)]
            rfl
        · skip
          refine s_aload_n dX0_account_200 0 rfl rfl (n_getc (q := 15) 59 1 25 dX0_account_201 cf_X0 ff_X0_55 rfl sh_59 rfl (by decide) rfl (by decide) (n_getc (q := 20) 15 4 30 dX0_account_204 cf_X3 ff_X0_158 rfl sh_15 rfl (by decide) rfl (by decide) (s_iload_n dX0_account_207 1 rfl (s_dup2 dX0_account_208 (show (0 : Nat) ≠ 1 by decide) (show (2 : Nat) ≠ 1 by decide) (n_lald 20 dX0_account_209 rfl sh_20 (by decide) ⟨(by omega), (by omega)⟩ (v := ((w 20 h) + (((w 21 h) * (w 18 h)) - (3 * (w 19 h))))) (by simp [wu]) (s_aload_n dX0_account_210 0 rfl rfl (n_getc (q := 84) 59 12 94 dX0_account_211 cf_X0 ff_X0_39 rfl sh_59 rfl (by decide) rfl (by decide) (s_iload_n dX0_account_214 1 rfl (n_iald 84 dX0_account_215 rfl sh_84 (by decide) ⟨(by omega), (by omega)⟩ (v := (w 84 h)) rfl ?_)))))))))
          refine s_i2l dX0_account_216 (n_lsub (z := (((w 20 h) + (((w 21 h) * (w 18 h)) - (3 * (w 19 h)))) - (w 84 h))) dX0_account_217 (wrL_id (by omega) (by omega)) (s_lastore 20 dX0_account_218 rfl sh_20 (by decide) ⟨(by omega), (by omega)⟩ ?_))
          have hwe9 := hwe (w 25 h) (by omega) (by omega)
          refine s_aload_n dX0_account_219 0 rfl rfl (n_getc (q := 1) 59 0 11 dX0_account_220 cf_X0 ff_X0_51 rfl sh_59 rfl (by decide) rfl (by decide) (n_getc (q := 8) 1 7 18 dX0_account_223 cf_X5 ff_X0_174 rfl sh_1 rfl (by decide) rfl (by decide) (s_iload_n dX0_account_226 2 rfl (s_dup2 dX0_account_227 (show (0 : Nat) ≠ 1 by decide) (show (2 : Nat) ≠ 1 by decide) (n_iald 8 dX0_account_228 rfl sh_8 (by decide) ⟨(by omega), (by omega)⟩ (v := (w 8 (w 25 h))) rfl (s_iconst dX0_account_229 (by decide) (n_add (z := ((w 8 (w 25 h)) + 1)) dX0_account_230 (wr_id (by omega) (by omega)) (s_iastore 8 dX0_account_231 rfl sh_8 (by decide) ⟨(by omega), (by omega)⟩ (n_ret dX0_account_232 hR rfl ?_)))))))))
          refine ⟨rfl, fun c c1 c2 c3 c4 => ?_, ?_, ?_, ?_, ?_⟩
          · repeat (first | rw [wu_ne c1] | rw [wu_ne c2] | rw [wu_ne c3] | rw [wu_ne c4])
          · funext i
            show (if i = h then _ else w 22 i) = updF (w 22) h _ i
            rfl
          · funext i
            show (if i = h then _ else w 23 i) = updF (w 23) h _ i
            rfl
          · funext i
            unfold updF
            by_cases e : i = h
            · rw [e, if_pos rfl]
              unfold acC
              rw [wu_ne (show (20 : Nat) ≠ 8 by decide), wu_same]
              (repeat' split) <;> (first | omega | (exfalso; omega))
            · rw [if_neg e]
              show (if i = h then _ else if i = h then _ else w 20 i) = w 20 i
              rw [if_neg e]; rw [if_neg e]
          · rw [if_pos (by omega)]
            exact wu_up
    · skip
      refine s_aload_n dX0_account_144 0 rfl rfl (n_getc (q := 15) 59 1 25 dX0_account_145 cf_X0 ff_X0_55 rfl sh_59 rfl (by decide) rfl (by decide) (n_getc (q := 20) 15 4 30 dX0_account_148 cf_X3 ff_X0_158 rfl sh_15 rfl (by decide) rfl (by decide) (s_iload_n dX0_account_151 1 rfl (s_dup2 dX0_account_152 (show (0 : Nat) ≠ 1 by decide) (show (2 : Nat) ≠ 1 by decide) (n_lald 20 dX0_account_153 rfl sh_20 (by decide) ⟨(by omega), (by omega)⟩ (v := ((w 20 h) + (((w 21 h) * (w 18 h)) - (3 * (w 19 h))))) (by simp [wu]) (s_bipush dX0_account_154 (by decide) (s_iconst dX0_account_156 (by decide) (s_aload_n dX0_account_157 0 rfl rfl (n_getc (q := 85) 59 13 95 dX0_account_158 cf_X0 ff_X0_42 rfl sh_59 rfl (by decide) rfl (by decide) ?_)))))))))
      refine s_iload_n dX0_account_161 1 rfl (n_iald 85 dX0_account_162 rfl sh_85 (by decide) ⟨(by omega), (by omega)⟩ (v := (w 85 h)) rfl (s_aload_n dX0_account_163 0 rfl rfl (n_getc (q := 15) 59 1 25 dX0_account_164 cf_X0 ff_X0_55 rfl sh_59 rfl (by decide) rfl (by decide) (n_getc (q := 19) 15 3 29 dX0_account_167 cf_X3 ff_X0_162 rfl sh_15 rfl (by decide) rfl (by decide) (s_iload_n dX0_account_170 1 rfl (n_iald 19 dX0_account_171 rfl sh_19 (by decide) ⟨(by omega), (by omega)⟩ (v := (w 19 h)) rfl (n_sub (z := ((w 85 h) - (w 19 h))) dX0_account_172 (wr_id (by omega) (by omega)) (n_invS (as := [(0, 0), (0, ((w 85 h) - (w 19 h)))]) dX0_account_173 kv_J9_max_7cf53 ml_X0_171 (j_maxI 0 ((w 85 h) - (w 19 h)) (wu (wu (wu w 22 h ((w 21 h) * (w 18 h))) 23 h ((w 23 h) + (w 21 h))) 20 h ((w 20 h) + (((w 21 h) * (w 18 h)) - (3 * (w 19 h)))))) (by decide) rfl rfl (Nat.le_of_ble_eq_true rfl) (n_mul (z := (9 * (mxL 0 ((w 85 h) - (w 19 h))))) dX0_account_176 (wr_id (by omega) (by omega)) ?_)))))))))
      refine s_i2l dX0_account_177 (n_lsub (z := (((w 20 h) + (((w 21 h) * (w 18 h)) - (3 * (w 19 h)))) - (9 * (mxL 0 ((w 85 h) - (w 19 h)))))) dX0_account_178 (wrL_id (by omega) (by omega)) (s_lastore 20 dX0_account_179 rfl sh_20 (by decide) ⟨(by omega), (by omega)⟩ (s_aload_n dX0_account_180 0 rfl rfl (n_getc (q := 82) 59 10 92 dX0_account_181 cf_X0 ff_X0_32 rfl sh_59 rfl (by decide) rfl (by decide) (s_iload_n dX0_account_184 1 rfl (n_bald 82 dX0_account_185 rfl sh_82 (by decide) ⟨(by omega), (by omega)⟩ (v := (w 82 h)) rfl (s_if_eq 232 dX0_account_186 (by decide) (fun c_186 => ?_) (fun c_186 => ?_))))))))
      · skip
        refine n_ret dX0_account_232 hR rfl ?_
        refine ⟨rfl, fun c c1 c2 c3 c4 => ?_, ?_, ?_, ?_, ?_⟩
        · repeat (first | rw [wu_ne c1] | rw [wu_ne c2] | rw [wu_ne c3] | rw [wu_ne c4])
        · funext i
          show (if i = h then _ else w 22 i) = updF (w 22) h _ i
          rfl
        · funext i
          show (if i = h then _ else w 23 i) = updF (w 23) h _ i
          rfl
        · funext i
          unfold updF
          by_cases e : i = h
          · rw [e, if_pos rfl]
            unfold acC
            rw [wu_same]
            (repeat' split) <;> (first | omega | (exfalso; omega))
          · rw [if_neg e]
            show (if i = h then _ else if i = h then _ else w 20 i) = w 20 i
            rw [if_neg e]; rw [if_neg e]
        · rw [if_neg (by omega)]
          rfl
      · skip
        refine s_aload_n dX0_account_189 0 rfl rfl (n_getc (q := 1) 59 0 11 dX0_account_190 cf_X0 ff_X0_51 rfl sh_59 rfl (by decide) rfl (by decide) (s_iload_n dX0_account_193 2 rfl (n_invV (as := [(0, (w 25 h))]) dX0_account_194 kv_X5_hasPrint ml_X0_76 (show CallN 1 mX5_hasPrint [(2, 1), (0, w 25 h)] (wu (wu (wu (wu w 22 h ((w 21 h) * (w 18 h))) 23 h ((w 23 h) + (w 21 h))) 20 h ((w 20 h) + (((w 21 h) * (w 18 h)) - (3 * (w 19 h))))) 20 h (((w 20 h) + (((w 21 h) * (w 18 h)) - (3 * (w 19 h)))) - (9 * (mxL 0 ((w 85 h) - (w 19 h)))))) (RV (0, bi (0 ≤ w 25 h ∧ w 25 h < w 1 9)) (wu (wu (wu (wu w 22 h ((w 21 h) * (w 18 h))) 23 h ((w 23 h) + (w 21 h))) 20 h ((w 20 h) + (((w 21 h) * (w 18 h)) - (3 * (w 19 h))))) 20 h (((w 20 h) + (((w 21 h) * (w 18 h)) - (3 * (w 19 h)))) - (9 * (mxL 0 ((w 85 h) - (w 19 h))))))) from c_X_hasPrint (w 25 h) (wu (wu (wu (wu w 22 h ((w 21 h) * (w 18 h))) 23 h ((w 23 h) + (w 21 h))) 20 h ((w 20 h) + (((w 21 h) * (w 18 h)) - (3 * (w 19 h))))) 20 h (((w 20 h) + (((w 21 h) * (w 18 h)) - (3 * (w 19 h)))) - (9 * (mxL 0 ((w 85 h) - (w 19 h))))))) (by decide) 1 cf_X5 rfl sh_1 rfl rfl rfl (Nat.le_of_ble_eq_true rfl) (n_ifeq_b 232 dX0_account_197 (by decide) (fun c_197 => ?_) (fun c_197 => ?_)))))
        · skip
          refine n_ret dX0_account_232 hR rfl ?_
          refine ⟨rfl, fun c c1 c2 c3 c4 => ?_, ?_, ?_, ?_, ?_⟩
          · repeat (first | rw [wu_ne c1] | rw [wu_ne c2] | rw [wu_ne c3] | rw [wu_ne c4])
          · funext i
            show (if i = h then _ else w 22 i) = updF (w 22) h _ i
            rfl
          · funext i
            show (if i = h then _ else w 23 i) = updF (w 23) h _ i
            rfl
          · funext i
            unfold updF
            by_cases e : i = h
            · rw [e, if_pos rfl]
              unfold acC
              rw [wu_same]
              (repeat' split) <;> (first | omega | (exfalso; omega))
            · rw [if_neg e]
              show (if i = h then _ else if i = h then _ else w 20 i) = w 20 i
              rw [if_neg e]; rw [if_neg e]
          · rw [if_neg (by omega)]
            rfl
        · skip
          refine s_aload_n dX0_account_200 0 rfl rfl (n_getc (q := 15) 59 1 25 dX0_account_201 cf_X0 ff_X0_55 rfl sh_59 rfl (by decide) rfl (by decide) (n_getc (q := 20) 15 4 30 dX0_account_204 cf_X3 ff_X0_158 rfl sh_15 rfl (by decide) rfl (by decide) (s_iload_n dX0_account_207 1 rfl (s_dup2 dX0_account_208 (show (0 : Nat) ≠ 1 by decide) (show (2 : Nat) ≠ 1 by decide) (n_lald 20 dX0_account_209 rfl sh_20 (by decide) ⟨(by omega), (by omega)⟩ (v := (((w 20 h) + (((w 21 h) * (w 18 h)) - (3 * (w 19 h)))) - (9 * (mxL 0 ((w 85 h) - (w 19 h)))))) (by simp [wu]) (s_aload_n dX0_account_210 0 rfl rfl (n_getc (q := 84) 59 12 94 dX0_account_211 cf_X0 ff_X0_39 rfl sh_59 rfl (by decide) rfl (by decide) (s_iload_n dX0_account_214 1 rfl (n_iald 84 dX0_account_215 rfl sh_84 (by decide) ⟨(by omega), (by omega)⟩ (v := (w 84 h)) rfl ?_)))))))))
          refine s_i2l dX0_account_216 (n_lsub (z := ((((w 20 h) + (((w 21 h) * (w 18 h)) - (3 * (w 19 h)))) - (9 * (mxL 0 ((w 85 h) - (w 19 h))))) - (w 84 h))) dX0_account_217 (wrL_id (by omega) (by omega)) (s_lastore 20 dX0_account_218 rfl sh_20 (by decide) ⟨(by omega), (by omega)⟩ ?_))
          have hwe9 := hwe (w 25 h) (by omega) (by omega)
          refine s_aload_n dX0_account_219 0 rfl rfl (n_getc (q := 1) 59 0 11 dX0_account_220 cf_X0 ff_X0_51 rfl sh_59 rfl (by decide) rfl (by decide) (n_getc (q := 8) 1 7 18 dX0_account_223 cf_X5 ff_X0_174 rfl sh_1 rfl (by decide) rfl (by decide) (s_iload_n dX0_account_226 2 rfl (s_dup2 dX0_account_227 (show (0 : Nat) ≠ 1 by decide) (show (2 : Nat) ≠ 1 by decide) (n_iald 8 dX0_account_228 rfl sh_8 (by decide) ⟨(by omega), (by omega)⟩ (v := (w 8 (w 25 h))) rfl (s_iconst dX0_account_229 (by decide) (n_add (z := ((w 8 (w 25 h)) + 1)) dX0_account_230 (wr_id (by omega) (by omega)) (s_iastore 8 dX0_account_231 rfl sh_8 (by decide) ⟨(by omega), (by omega)⟩ (n_ret dX0_account_232 hR rfl ?_)))))))))
          refine ⟨rfl, fun c c1 c2 c3 c4 => ?_, ?_, ?_, ?_, ?_⟩
          · repeat (first | rw [wu_ne c1] | rw [wu_ne c2] | rw [wu_ne c3] | rw [wu_ne c4])
          · funext i
            show (if i = h then _ else w 22 i) = updF (w 22) h _ i
            rfl
          · funext i
            show (if i = h then _ else w 23 i) = updF (w 23) h _ i
            rfl
          · funext i
            unfold updF
            by_cases e : i = h
            · rw [e, if_pos rfl]
              unfold acC
              rw [wu_ne (show (20 : Nat) ≠ 8 by decide), wu_same]
              (repeat' split) <;> (first | omega | (exfalso; omega))
            · rw [if_neg e]
              show (if i = h then _ else if i = h then _ else if i = h then _ else w 20 i) = w 20 i
              rw [if_neg e]; rw [if_neg e]; rw [if_neg e]
          · rw [if_pos (by omega)]
            exact wu_up
  · skip
    have hhi9 := hhi (w 24 h) (by omega) (by omega)
    refine s_aload_n dX0_account_111 0 rfl rfl (n_getc (q := 15) 59 1 25 dX0_account_112 cf_X0 ff_X0_55 rfl sh_59 rfl (by decide) rfl (by decide) (n_getc (q := 20) 15 4 30 dX0_account_115 cf_X3 ff_X0_158 rfl sh_15 rfl (by decide) rfl (by decide) (s_iload_n dX0_account_118 1 rfl (s_dup2 dX0_account_119 (show (0 : Nat) ≠ 1 by decide) (show (2 : Nat) ≠ 1 by decide) (n_lald 20 dX0_account_120 rfl sh_20 (by decide) ⟨(by omega), (by omega)⟩ (v := ((w 20 h) + (((w 21 h) * (w 18 h)) - (3 * (w 19 h))))) (by simp [wu]) (s_aload_n dX0_account_121 0 rfl rfl (n_getc (q := 15) 59 1 25 dX0_account_122 cf_X0 ff_X0_55 rfl sh_59 rfl (by decide) rfl (by decide) (n_getc (q := 28) 15 13 38 dX0_account_125 cf_X3 ff_X0_168 rfl sh_15 rfl (by decide) rfl (by decide) (s_iload_n dX0_account_128 3 rfl ?_)))))))))
    refine n_iald 28 dX0_account_129 rfl sh_28 (by decide) ⟨(by omega), (by omega)⟩ (v := (w 28 (w 24 h))) rfl (s_i2l dX0_account_130 (n_lsub (z := (((w 20 h) + (((w 21 h) * (w 18 h)) - (3 * (w 19 h)))) - (w 28 (w 24 h)))) dX0_account_131 (wrL_id (by omega) (by omega)) (s_lastore 20 dX0_account_132 rfl sh_20 (by decide) ⟨(by omega), (by omega)⟩ (s_aload_n dX0_account_133 0 rfl rfl (n_getc (q := 1) 59 0 11 dX0_account_134 cf_X0 ff_X0_51 rfl sh_59 rfl (by decide) rfl (by decide) (s_iload_n dX0_account_137 2 rfl (n_invV (as := [(0, (w 25 h))]) dX0_account_138 kv_X5_hasPrint ml_X0_76 (show CallN 1 mX5_hasPrint [(2, 1), (0, w 25 h)] (wu (wu (wu (wu w 22 h ((w 21 h) * (w 18 h))) 23 h ((w 23 h) + (w 21 h))) 20 h ((w 20 h) + (((w 21 h) * (w 18 h)) - (3 * (w 19 h))))) 20 h (((w 20 h) + (((w 21 h) * (w 18 h)) - (3 * (w 19 h)))) - (w 28 (w 24 h)))) (RV (0, bi (0 ≤ w 25 h ∧ w 25 h < w 1 9)) (wu (wu (wu (wu w 22 h ((w 21 h) * (w 18 h))) 23 h ((w 23 h) + (w 21 h))) 20 h ((w 20 h) + (((w 21 h) * (w 18 h)) - (3 * (w 19 h))))) 20 h (((w 20 h) + (((w 21 h) * (w 18 h)) - (3 * (w 19 h)))) - (w 28 (w 24 h))))) from c_X_hasPrint (w 25 h) (wu (wu (wu (wu w 22 h ((w 21 h) * (w 18 h))) 23 h ((w 23 h) + (w 21 h))) 20 h ((w 20 h) + (((w 21 h) * (w 18 h)) - (3 * (w 19 h))))) 20 h (((w 20 h) + (((w 21 h) * (w 18 h)) - (3 * (w 19 h)))) - (w 28 (w 24 h))))) (by decide) 1 cf_X5 rfl sh_1 rfl rfl rfl (Nat.le_of_ble_eq_true rfl) (n_ifeq_b 180 dX0_account_141 (by decide) (fun c_141 => ?_) (fun c_141 => ?_)))))))))
    · skip
      refine s_aload_n dX0_account_180 0 rfl rfl (n_getc (q := 82) 59 10 92 dX0_account_181 cf_X0 ff_X0_32 rfl sh_59 rfl (by decide) rfl (by decide) (s_iload_n dX0_account_184 1 rfl (n_bald 82 dX0_account_185 rfl sh_82 (by decide) ⟨(by omega), (by omega)⟩ (v := (w 82 h)) rfl (s_if_eq 232 dX0_account_186 (by decide) (fun c_186 => ?_) (fun c_186 => ?_)))))
      · skip
        refine n_ret dX0_account_232 hR rfl ?_
        refine ⟨rfl, fun c c1 c2 c3 c4 => ?_, ?_, ?_, ?_, ?_⟩
        · repeat (first | rw [wu_ne c1] | rw [wu_ne c2] | rw [wu_ne c3] | rw [wu_ne c4])
        · funext i
          show (if i = h then _ else w 22 i) = updF (w 22) h _ i
          rfl
        · funext i
          show (if i = h then _ else w 23 i) = updF (w 23) h _ i
          rfl
        · funext i
          unfold updF
          by_cases e : i = h
          · rw [e, if_pos rfl]
            unfold acC
            rw [wu_same]
            (repeat' split) <;> (first | omega | (exfalso; omega))
          · rw [if_neg e]
            show (if i = h then _ else if i = h then _ else w 20 i) = w 20 i
            rw [if_neg e]; rw [if_neg e]
        · rw [if_neg (by omega)]
          rfl
      · skip
        refine s_aload_n dX0_account_189 0 rfl rfl (n_getc (q := 1) 59 0 11 dX0_account_190 cf_X0 ff_X0_51 rfl sh_59 rfl (by decide) rfl (by decide) (s_iload_n dX0_account_193 2 rfl (n_invV (as := [(0, (w 25 h))]) dX0_account_194 kv_X5_hasPrint ml_X0_76 (show CallN 1 mX5_hasPrint [(2, 1), (0, w 25 h)] (wu (wu (wu (wu w 22 h ((w 21 h) * (w 18 h))) 23 h ((w 23 h) + (w 21 h))) 20 h ((w 20 h) + (((w 21 h) * (w 18 h)) - (3 * (w 19 h))))) 20 h (((w 20 h) + (((w 21 h) * (w 18 h)) - (3 * (w 19 h)))) - (w 28 (w 24 h)))) (RV (0, bi (0 ≤ w 25 h ∧ w 25 h < w 1 9)) (wu (wu (wu (wu w 22 h ((w 21 h) * (w 18 h))) 23 h ((w 23 h) + (w 21 h))) 20 h ((w 20 h) + (((w 21 h) * (w 18 h)) - (3 * (w 19 h))))) 20 h (((w 20 h) + (((w 21 h) * (w 18 h)) - (3 * (w 19 h)))) - (w 28 (w 24 h))))) from c_X_hasPrint (w 25 h) (wu (wu (wu (wu w 22 h ((w 21 h) * (w 18 h))) 23 h ((w 23 h) + (w 21 h))) 20 h ((w 20 h) + (((w 21 h) * (w 18 h)) - (3 * (w 19 h))))) 20 h (((w 20 h) + (((w 21 h) * (w 18 h)) - (3 * (w 19 h)))) - (w 28 (w 24 h))))) (by decide) 1 cf_X5 rfl sh_1 rfl rfl rfl (Nat.le_of_ble_eq_true rfl) (n_ifeq_b 232 dX0_account_197 (by decide) (fun c_197 => ?_) (fun c_197 => ?_)))))
        · skip
          refine n_ret dX0_account_232 hR rfl ?_
          refine ⟨rfl, fun c c1 c2 c3 c4 => ?_, ?_, ?_, ?_, ?_⟩
          · repeat (first | rw [wu_ne c1] | rw [wu_ne c2] | rw [wu_ne c3] | rw [wu_ne c4])
          · funext i
            show (if i = h then _ else w 22 i) = updF (w 22) h _ i
            rfl
          · funext i
            show (if i = h then _ else w 23 i) = updF (w 23) h _ i
            rfl
          · funext i
            unfold updF
            by_cases e : i = h
            · rw [e, if_pos rfl]
              unfold acC
              rw [wu_same]
              (repeat' split) <;> (first | omega | (exfalso; omega))
            · rw [if_neg e]
              show (if i = h then _ else if i = h then _ else w 20 i) = w 20 i
              rw [if_neg e]; rw [if_neg e]
          · rw [if_neg (by omega)]
            rfl
        · skip
          refine s_aload_n dX0_account_200 0 rfl rfl (n_getc (q := 15) 59 1 25 dX0_account_201 cf_X0 ff_X0_55 rfl sh_59 rfl (by decide) rfl (by decide) (n_getc (q := 20) 15 4 30 dX0_account_204 cf_X3 ff_X0_158 rfl sh_15 rfl (by decide) rfl (by decide) (s_iload_n dX0_account_207 1 rfl (s_dup2 dX0_account_208 (show (0 : Nat) ≠ 1 by decide) (show (2 : Nat) ≠ 1 by decide) (n_lald 20 dX0_account_209 rfl sh_20 (by decide) ⟨(by omega), (by omega)⟩ (v := (((w 20 h) + (((w 21 h) * (w 18 h)) - (3 * (w 19 h)))) - (w 28 (w 24 h)))) (by simp [wu]) (s_aload_n dX0_account_210 0 rfl rfl (n_getc (q := 84) 59 12 94 dX0_account_211 cf_X0 ff_X0_39 rfl sh_59 rfl (by decide) rfl (by decide) (s_iload_n dX0_account_214 1 rfl (n_iald 84 dX0_account_215 rfl sh_84 (by decide) ⟨(by omega), (by omega)⟩ (v := (w 84 h)) rfl ?_)))))))))
          refine s_i2l dX0_account_216 (n_lsub (z := ((((w 20 h) + (((w 21 h) * (w 18 h)) - (3 * (w 19 h)))) - (w 28 (w 24 h))) - (w 84 h))) dX0_account_217 (wrL_id (by omega) (by omega)) (s_lastore 20 dX0_account_218 rfl sh_20 (by decide) ⟨(by omega), (by omega)⟩ ?_))
          have hwe9 := hwe (w 25 h) (by omega) (by omega)
          refine s_aload_n dX0_account_219 0 rfl rfl (n_getc (q := 1) 59 0 11 dX0_account_220 cf_X0 ff_X0_51 rfl sh_59 rfl (by decide) rfl (by decide) (n_getc (q := 8) 1 7 18 dX0_account_223 cf_X5 ff_X0_174 rfl sh_1 rfl (by decide) rfl (by decide) (s_iload_n dX0_account_226 2 rfl (s_dup2 dX0_account_227 (show (0 : Nat) ≠ 1 by decide) (show (2 : Nat) ≠ 1 by decide) (n_iald 8 dX0_account_228 rfl sh_8 (by decide) ⟨(by omega), (by omega)⟩ (v := (w 8 (w 25 h))) rfl (s_iconst dX0_account_229 (by decide) (n_add (z := ((w 8 (w 25 h)) + 1)) dX0_account_230 (wr_id (by omega) (by omega)) (s_iastore 8 dX0_account_231 rfl sh_8 (by decide) ⟨(by omega), (by omega)⟩ (n_ret dX0_account_232 hR rfl ?_)))))))))
          refine ⟨rfl, fun c c1 c2 c3 c4 => ?_, ?_, ?_, ?_, ?_⟩
          · repeat (first | rw [wu_ne c1] | rw [wu_ne c2] | rw [wu_ne c3] | rw [wu_ne c4])
          · funext i
            show (if i = h then _ else w 22 i) = updF (w 22) h _ i
            rfl
          · funext i
            show (if i = h then _ else w 23 i) = updF (w 23) h _ i
            rfl
          · funext i
            unfold updF
            by_cases e : i = h
            · rw [e, if_pos rfl]
              unfold acC
              rw [wu_ne (show (20 : Nat) ≠ 8 by decide), wu_same]
              (repeat' split) <;> (first | omega | (exfalso; omega))
            · rw [if_neg e]
              show (if i = h then _ else if i = h then _ else if i = h then _ else w 20 i) = w 20 i
              rw [if_neg e]; rw [if_neg e]; rw [if_neg e]
          · rw [if_pos (by omega)]
            exact wu_up
    · skip
      refine s_aload_n dX0_account_144 0 rfl rfl (n_getc (q := 15) 59 1 25 dX0_account_145 cf_X0 ff_X0_55 rfl sh_59 rfl (by decide) rfl (by decide) (n_getc (q := 20) 15 4 30 dX0_account_148 cf_X3 ff_X0_158 rfl sh_15 rfl (by decide) rfl (by decide) (s_iload_n dX0_account_151 1 rfl (s_dup2 dX0_account_152 (show (0 : Nat) ≠ 1 by decide) (show (2 : Nat) ≠ 1 by decide) (n_lald 20 dX0_account_153 rfl sh_20 (by decide) ⟨(by omega), (by omega)⟩ (v := (((w 20 h) + (((w 21 h) * (w 18 h)) - (3 * (w 19 h)))) - (w 28 (w 24 h)))) (by simp [wu]) (s_bipush dX0_account_154 (by decide) (s_iconst dX0_account_156 (by decide) (s_aload_n dX0_account_157 0 rfl rfl (n_getc (q := 85) 59 13 95 dX0_account_158 cf_X0 ff_X0_42 rfl sh_59 rfl (by decide) rfl (by decide) ?_)))))))))
      refine s_iload_n dX0_account_161 1 rfl (n_iald 85 dX0_account_162 rfl sh_85 (by decide) ⟨(by omega), (by omega)⟩ (v := (w 85 h)) rfl (s_aload_n dX0_account_163 0 rfl rfl (n_getc (q := 15) 59 1 25 dX0_account_164 cf_X0 ff_X0_55 rfl sh_59 rfl (by decide) rfl (by decide) (n_getc (q := 19) 15 3 29 dX0_account_167 cf_X3 ff_X0_162 rfl sh_15 rfl (by decide) rfl (by decide) (s_iload_n dX0_account_170 1 rfl (n_iald 19 dX0_account_171 rfl sh_19 (by decide) ⟨(by omega), (by omega)⟩ (v := (w 19 h)) rfl (n_sub (z := ((w 85 h) - (w 19 h))) dX0_account_172 (wr_id (by omega) (by omega)) (n_invS (as := [(0, 0), (0, ((w 85 h) - (w 19 h)))]) dX0_account_173 kv_J9_max_7cf53 ml_X0_171 (j_maxI 0 ((w 85 h) - (w 19 h)) (wu (wu (wu (wu w 22 h ((w 21 h) * (w 18 h))) 23 h ((w 23 h) + (w 21 h))) 20 h ((w 20 h) + (((w 21 h) * (w 18 h)) - (3 * (w 19 h))))) 20 h (((w 20 h) + (((w 21 h) * (w 18 h)) - (3 * (w 19 h)))) - (w 28 (w 24 h))))) (by decide) rfl rfl (Nat.le_of_ble_eq_true rfl) (n_mul (z := (9 * (mxL 0 ((w 85 h) - (w 19 h))))) dX0_account_176 (wr_id (by omega) (by omega)) ?_)))))))))
      refine s_i2l dX0_account_177 (n_lsub (z := ((((w 20 h) + (((w 21 h) * (w 18 h)) - (3 * (w 19 h)))) - (w 28 (w 24 h))) - (9 * (mxL 0 ((w 85 h) - (w 19 h)))))) dX0_account_178 (wrL_id (by omega) (by omega)) (s_lastore 20 dX0_account_179 rfl sh_20 (by decide) ⟨(by omega), (by omega)⟩ (s_aload_n dX0_account_180 0 rfl rfl (n_getc (q := 82) 59 10 92 dX0_account_181 cf_X0 ff_X0_32 rfl sh_59 rfl (by decide) rfl (by decide) (s_iload_n dX0_account_184 1 rfl (n_bald 82 dX0_account_185 rfl sh_82 (by decide) ⟨(by omega), (by omega)⟩ (v := (w 82 h)) rfl (s_if_eq 232 dX0_account_186 (by decide) (fun c_186 => ?_) (fun c_186 => ?_))))))))
      · skip
        refine n_ret dX0_account_232 hR rfl ?_
        refine ⟨rfl, fun c c1 c2 c3 c4 => ?_, ?_, ?_, ?_, ?_⟩
        · repeat (first | rw [wu_ne c1] | rw [wu_ne c2] | rw [wu_ne c3] | rw [wu_ne c4])
        · funext i
          show (if i = h then _ else w 22 i) = updF (w 22) h _ i
          rfl
        · funext i
          show (if i = h then _ else w 23 i) = updF (w 23) h _ i
          rfl
        · funext i
          unfold updF
          by_cases e : i = h
          · rw [e, if_pos rfl]
            unfold acC
            rw [wu_same]
            (repeat' split) <;> (first | omega | (exfalso; omega))
          · rw [if_neg e]
            show (if i = h then _ else if i = h then _ else if i = h then _ else w 20 i) = w 20 i
            rw [if_neg e]; rw [if_neg e]; rw [if_neg e]
        · rw [if_neg (by omega)]
          rfl
      · skip
        refine s_aload_n dX0_account_189 0 rfl rfl (n_getc (q := 1) 59 0 11 dX0_account_190 cf_X0 ff_X0_51 rfl sh_59 rfl (by decide) rfl (by decide) (s_iload_n dX0_account_193 2 rfl (n_invV (as := [(0, (w 25 h))]) dX0_account_194 kv_X5_hasPrint ml_X0_76 (show CallN 1 mX5_hasPrint [(2, 1), (0, w 25 h)] (wu (wu (wu (wu (wu w 22 h ((w 21 h) * (w 18 h))) 23 h ((w 23 h) + (w 21 h))) 20 h ((w 20 h) + (((w 21 h) * (w 18 h)) - (3 * (w 19 h))))) 20 h (((w 20 h) + (((w 21 h) * (w 18 h)) - (3 * (w 19 h)))) - (w 28 (w 24 h)))) 20 h ((((w 20 h) + (((w 21 h) * (w 18 h)) - (3 * (w 19 h)))) - (w 28 (w 24 h))) - (9 * (mxL 0 ((w 85 h) - (w 19 h)))))) (RV (0, bi (0 ≤ w 25 h ∧ w 25 h < w 1 9)) (wu (wu (wu (wu (wu w 22 h ((w 21 h) * (w 18 h))) 23 h ((w 23 h) + (w 21 h))) 20 h ((w 20 h) + (((w 21 h) * (w 18 h)) - (3 * (w 19 h))))) 20 h (((w 20 h) + (((w 21 h) * (w 18 h)) - (3 * (w 19 h)))) - (w 28 (w 24 h)))) 20 h ((((w 20 h) + (((w 21 h) * (w 18 h)) - (3 * (w 19 h)))) - (w 28 (w 24 h))) - (9 * (mxL 0 ((w 85 h) - (w 19 h))))))) from c_X_hasPrint (w 25 h) (wu (wu (wu (wu (wu w 22 h ((w 21 h) * (w 18 h))) 23 h ((w 23 h) + (w 21 h))) 20 h ((w 20 h) + (((w 21 h) * (w 18 h)) - (3 * (w 19 h))))) 20 h (((w 20 h) + (((w 21 h) * (w 18 h)) - (3 * (w 19 h)))) - (w 28 (w 24 h)))) 20 h ((((w 20 h) + (((w 21 h) * (w 18 h)) - (3 * (w 19 h)))) - (w 28 (w 24 h))) - (9 * (mxL 0 ((w 85 h) - (w 19 h))))))) (by decide) 1 cf_X5 rfl sh_1 rfl rfl rfl (Nat.le_of_ble_eq_true rfl) (n_ifeq_b 232 dX0_account_197 (by decide) (fun c_197 => ?_) (fun c_197 => ?_)))))
        · skip
          refine n_ret dX0_account_232 hR rfl ?_
          refine ⟨rfl, fun c c1 c2 c3 c4 => ?_, ?_, ?_, ?_, ?_⟩
          · repeat (first | rw [wu_ne c1] | rw [wu_ne c2] | rw [wu_ne c3] | rw [wu_ne c4])
          · funext i
            show (if i = h then _ else w 22 i) = updF (w 22) h _ i
            rfl
          · funext i
            show (if i = h then _ else w 23 i) = updF (w 23) h _ i
            rfl
          · funext i
            unfold updF
            by_cases e : i = h
            · rw [e, if_pos rfl]
              unfold acC
              rw [wu_same]
              (repeat' split) <;> (first | omega | (exfalso; omega))
            · rw [if_neg e]
              show (if i = h then _ else if i = h then _ else if i = h then _ else w 20 i) = w 20 i
              rw [if_neg e]; rw [if_neg e]; rw [if_neg e]
          · rw [if_neg (by omega)]
            rfl
        · skip
          refine s_aload_n dX0_account_200 0 rfl rfl (n_getc (q := 15) 59 1 25 dX0_account_201 cf_X0 ff_X0_55 rfl sh_59 rfl (by decide) rfl (by decide) (n_getc (q := 20) 15 4 30 dX0_account_204 cf_X3 ff_X0_158 rfl sh_15 rfl (by decide) rfl (by decide) (s_iload_n dX0_account_207 1 rfl (s_dup2 dX0_account_208 (show (0 : Nat) ≠ 1 by decide) (show (2 : Nat) ≠ 1 by decide) (n_lald 20 dX0_account_209 rfl sh_20 (by decide) ⟨(by omega), (by omega)⟩ (v := ((((w 20 h) + (((w 21 h) * (w 18 h)) - (3 * (w 19 h)))) - (w 28 (w 24 h))) - (9 * (mxL 0 ((w 85 h) - (w 19 h)))))) (by simp [wu]) (s_aload_n dX0_account_210 0 rfl rfl (n_getc (q := 84) 59 12 94 dX0_account_211 cf_X0 ff_X0_39 rfl sh_59 rfl (by decide) rfl (by decide) (s_iload_n dX0_account_214 1 rfl (n_iald 84 dX0_account_215 rfl sh_84 (by decide) ⟨(by omega), (by omega)⟩ (v := (w 84 h)) rfl ?_)))))))))
          refine s_i2l dX0_account_216 (n_lsub (z := (((((w 20 h) + (((w 21 h) * (w 18 h)) - (3 * (w 19 h)))) - (w 28 (w 24 h))) - (9 * (mxL 0 ((w 85 h) - (w 19 h))))) - (w 84 h))) dX0_account_217 (wrL_id (by omega) (by omega)) (s_lastore 20 dX0_account_218 rfl sh_20 (by decide) ⟨(by omega), (by omega)⟩ ?_))
          have hwe9 := hwe (w 25 h) (by omega) (by omega)
          refine s_aload_n dX0_account_219 0 rfl rfl (n_getc (q := 1) 59 0 11 dX0_account_220 cf_X0 ff_X0_51 rfl sh_59 rfl (by decide) rfl (by decide) (n_getc (q := 8) 1 7 18 dX0_account_223 cf_X5 ff_X0_174 rfl sh_1 rfl (by decide) rfl (by decide) (s_iload_n dX0_account_226 2 rfl (s_dup2 dX0_account_227 (show (0 : Nat) ≠ 1 by decide) (show (2 : Nat) ≠ 1 by decide) (n_iald 8 dX0_account_228 rfl sh_8 (by decide) ⟨(by omega), (by omega)⟩ (v := (w 8 (w 25 h))) rfl (s_iconst dX0_account_229 (by decide) (n_add (z := ((w 8 (w 25 h)) + 1)) dX0_account_230 (wr_id (by omega) (by omega)) (s_iastore 8 dX0_account_231 rfl sh_8 (by decide) ⟨(by omega), (by omega)⟩ (n_ret dX0_account_232 hR rfl ?_)))))))))
          refine ⟨rfl, fun c c1 c2 c3 c4 => ?_, ?_, ?_, ?_, ?_⟩
          · repeat (first | rw [wu_ne c1] | rw [wu_ne c2] | rw [wu_ne c3] | rw [wu_ne c4])
          · funext i
            show (if i = h then _ else w 22 i) = updF (w 22) h _ i
            rfl
          · funext i
            show (if i = h then _ else w 23 i) = updF (w 23) h _ i
            rfl
          · funext i
            unfold updF
            by_cases e : i = h
            · rw [e, if_pos rfl]
              unfold acC
              rw [wu_ne (show (20 : Nat) ≠ 8 by decide), wu_same]
              (repeat' split) <;> (first | omega | (exfalso; omega))
            · rw [if_neg e]
              show (if i = h then _ else if i = h then _ else if i = h then _ else if i = h then _ else w 20 i) = w 20 i
              rw [if_neg e]; rw [if_neg e]; rw [if_neg e]; rw [if_neg e]
          · rw [if_pos (by omega)]
            exact wu_up
