/-! WORTH. -/
/-- what holds of the print in a hall for the week, the class: it runs, it is off, fee, keep -/
def jX (w : Wd) (LN : Int → List Lin) (h now : Int) : Jd := jdF (fcX w (w 25 h) h now) LN
def offXw (w : Wd) (p k : Int) : Int := offX (w 5 (w 7 p)) (w 10) (w 14) (w 12) (w 11) (w 13) (w 1 15) p k
def ruX (w : Wd) (LN : Int → List Lin) (h now : Int) : Int := if 0 ≤ w 25 h ∧ w 25 h < w 1 9 then (if rsX w (w 25 h) h (jX w LN h now).1 = 0 then 1 else 0) else 0
def ofX (w : Wd) (h now : Int) : Int := if 0 ≤ w 25 h ∧ w 25 h < w 1 9 then (if offXw w (w 25 h) now = -1 then 0 else 1) else 0
def feX (w : Wd) (LN : Int → List Lin) (h now : Int) : Int := if 0 ≤ w 25 h ∧ w 25 h < w 1 9 then (jX w LN h now).2.2.1 else 0
def keX (w : Wd) (LN : Int → List Lin) (h now : Int) : Int := if 0 ≤ w 25 h ∧ w 25 h < w 1 9 then (jX w LN h now).2.2.2 else 0
/-- inspecting writes only here -/
def FrI (w v : Wd) : Prop := (∀ c, c ≠ 41 → c ≠ 43 → c ≠ 40 → c ≠ 48 → c ≠ 53 → c ≠ 58 → c ≠ 82 → c ≠ 83 → c ≠ 84 → c ≠ 85 → v c = w c) ∧ ∀ j : Int, (j < 4 ∨ 7 < j) → v 41 j = w 41 j
theorem FrI.rf {w : Wd} : FrI w w := ⟨fun _ _ _ _ _ _ _ _ _ _ _ => rfl, fun _ _ => rfl⟩
theorem FrI.tr {w v u : Wd} (h : FrI w v) (h2 : FrI v u) : FrI w u := ⟨fun c a b d e f g i j k l => (h2.1 c a b d e f g i j k l).trans (h.1 c a b d e f g i j k l), fun j hj => (h2.2 j hj).trans (h.2 j hj)⟩
theorem FrI.u {w v : Wd} {c : Nat} {j x : Int} (h : FrI w v) (hc : c = 82 ∨ c = 83 ∨ c = 84 ∨ c = 85) : FrI w (wu v c j x) :=
  ⟨fun a b d e f g i k l m n => by rw [wu_ne (by omega)]; exact h.1 a b d e f g i k l m n, fun k hk => by rw [wu_ne (by omega)]; exact h.2 k hk⟩
theorem FrI.g {w v u : Wd} (h : FrI w v) (h2 : FrG3 v u) : FrI w u := ⟨fun c a b d e f g i j k l => (h2.1 c a b d e f g).trans (h.1 c a b d e f g i j k l), fun j hj => (h2.2 j hj).trans (h.2 j hj)⟩
theorem SCL.i {w v : Wd} {s : Int → Nat} {LN : Int → List Lin} (h : SCL w s LN) (hf : FrI w v) : SCL v s LN := by
  -- cells of scripts are among those that stay
  have e0 : ∀ f : Int, 0 ≤ f → f < 3 → ∀ k : Nat, k ≤ 3 → v (s f + k) = w (s f + k) := fun f a b k hk => by
    have hs := (h.1 f a b).1
    exact hf.1 _ (by rcases hs with z | z | z | z <;> omega) (by rcases hs with z | z | z | z <;> omega) (by rcases hs with z | z | z | z <;> omega) (by rcases hs with z | z | z | z <;> omega) (by rcases hs with z | z | z | z <;> omega) (by rcases hs with z | z | z | z <;> omega) (by rcases hs with z | z | z | z <;> omega) (by rcases hs with z | z | z | z <;> omega) (by rcases hs with z | z | z | z <;> omega) (by rcases hs with z | z | z | z <;> omega)
  refine ⟨fun f a b => ?_, fun f a b => ?_⟩
  · have e1 : v (s f) = w (s f) := e0 f a b 0 (by decide)
    rw [e1, hf.1 42 (by decide) (by decide) (by decide) (by decide) (by decide) (by decide) (by decide) (by decide) (by decide) (by decide)]
    exact h.1 f a b
  · have e1 : v (s f) = w (s f) := e0 f a b 0 (by decide)
    rw [e1]
    refine ⟨(h.2 f a b).1, fun i hi => ⟨?_, ((h.2 f a b).2 i hi).2⟩⟩
    have := ((h.2 f a b).2 i hi).1
    unfold lnX at this ⊢
    rw [e0 f a b 1 (by decide), e0 f a b 2 (by decide), e0 f a b 3 (by decide), e1]
    exact this
/-- what the class needs to inspect -/
def InX (w : Wd) (s : Int → Nat) (LN : Int → List Lin) : Prop := SCL w s LN ∧ w 1 9 ≤ 30 ∧ w 15 15 ≤ 20 ∧ (∀ j, 0 ≤ j → j < w 1 9 → 0 ≤ w 7 j ∧ w 7 j < 12) ∧ EVB (w 11) (w 13) (w 1 15) ∧ ∀ j, 0 ≤ j → j < w 1 15 → 0 ≤ w 12 j ∧ w 12 j ≤ 9999

set_option maxRecDepth 100000 in
theorem c_X_inspect (h now : Int) (w : Wd) (s : Int → Nat) (LN : Int → List Lin) (hh : 0 ≤ h ∧ h < 16) (hI : InX w s LN) : CallN 6 mX0_inspect [(2, 59), (0, h), (0, now)] w (RUQ (fun w1 => FrI w w1 ∧ ∀ j, w1 82 j = (if j = h then ruX w LN h now else w 82 j) ∧ w1 83 j = (if j = h then ofX w h now else w 83 j) ∧ w1 84 j = (if j = h then feX w LN h now else w 84 j) ∧ w1 85 j = (if j = h then keX w LN h now else w 85 j))) := by
  refine CallN.intro (by decide +kernel) (Nat.le_of_ble_eq_true rfl) (fun ρ hR => ?_)
  show AtN mX0_inspect 6 ρ 0 [(0, (2, 59)), (1, (0, h)), (2, (0, now))] [] w
  refine s_aload_n dX0_inspect_0 0 rfl rfl (n_getc (q := 15) 59 1 25 dX0_inspect_1 cf_X0 ff_X0_55 rfl sh_59 rfl (by decide) rfl (by decide) (n_getc (q := 25) 15 9 35 dX0_inspect_4 cf_X3 ff_X0_71 rfl sh_15 rfl (by decide) rfl (by decide) (s_iload_n dX0_inspect_7 1 rfl (n_iald 25 dX0_inspect_8 rfl sh_25 (by decide) ⟨(by omega), (by omega)⟩ (v := (w 25 h)) rfl (s_istore_n (ls' := [(0, (2, 59)), (1, (0, h)), (2, (0, now)), (3, (0, (w 25 h)))]) dX0_inspect_9 (Nat.le_of_ble_eq_true rfl) rfl (s_aload_n dX0_inspect_10 0 rfl rfl (n_getc (q := 82) 59 10 92 dX0_inspect_11 cf_X0 ff_X0_32 rfl sh_59 rfl (by decide) rfl (by decide) (s_iload_n dX0_inspect_14 1 rfl (s_iconst dX0_inspect_15 (by decide) ?_)))))))))
  refine s_bastore 82 dX0_inspect_16 rfl sh_82 (by decide) ⟨(by omega), (by omega)⟩ (by first | exact Or.inl rfl | exact Or.inr rfl | exact bi_01 _ | omega) (s_aload_n dX0_inspect_17 0 rfl rfl (n_getc (q := 83) 59 11 93 dX0_inspect_18 cf_X0 ff_X0_36 rfl sh_59 rfl (by decide) rfl (by decide) (s_iload_n dX0_inspect_21 1 rfl (s_iconst dX0_inspect_22 (by decide) (s_bastore 83 dX0_inspect_23 rfl sh_83 (by decide) ⟨(by omega), (by omega)⟩ (by first | exact Or.inl rfl | exact Or.inr rfl | exact bi_01 _ | omega) (s_aload_n dX0_inspect_24 0 rfl rfl (n_getc (q := 84) 59 12 94 dX0_inspect_25 cf_X0 ff_X0_39 rfl sh_59 rfl (by decide) rfl (by decide) (s_iload_n dX0_inspect_28 1 rfl (s_iconst dX0_inspect_29 (by decide) ?_)))))))))
  refine s_iastore 84 dX0_inspect_30 rfl sh_84 (by decide) ⟨(by omega), (by omega)⟩ (s_aload_n dX0_inspect_31 0 rfl rfl (n_getc (q := 85) 59 13 95 dX0_inspect_32 cf_X0 ff_X0_42 rfl sh_59 rfl (by decide) rfl (by decide) (s_iload_n dX0_inspect_35 1 rfl (s_iconst dX0_inspect_36 (by decide) (s_iastore 85 dX0_inspect_37 rfl sh_85 (by decide) ⟨(by omega), (by omega)⟩ (s_aload_n dX0_inspect_38 0 rfl rfl (n_getc (q := 1) 59 0 11 dX0_inspect_39 cf_X0 ff_X0_51 rfl sh_59 rfl (by decide) rfl (by decide) (s_iload_n dX0_inspect_42 3 rfl (n_invV (as := [(0, (w 25 h))]) dX0_inspect_43 kv_X5_hasPrint ml_X0_76 (show CallN 1 mX5_hasPrint [(2, 1), (0, w 25 h)] (wu (wu (wu (wu w 82 h 0) 83 h 0) 84 h 0) 85 h 0) (RV (0, bi (0 ≤ w 25 h ∧ w 25 h < w 1 9)) (wu (wu (wu (wu w 82 h 0) 83 h 0) 84 h 0) 85 h 0)) from c_X_hasPrint (w 25 h) (wu (wu (wu (wu w 82 h 0) 83 h 0) 84 h 0) 85 h 0)) (by decide) 1 cf_X5 rfl sh_1 rfl rfl rfl (Nat.le_of_ble_eq_true rfl) ?_)))))))))
  refine n_ifeq_b 132 dX0_inspect_46 (by decide) (fun c_46 => ?_) (fun c_46 => ?_)
  · skip
    refine n_ret dX0_inspect_132 hR rfl ?_
    refine ⟨rfl, (((FrI.rf.u (by decide)).u (by decide)).u (by decide)).u (by decide), fun j => ⟨?_, ?_, ?_, ?_⟩⟩
    · show (if j = h then 0 else w 82 j) = _; unfold ruX; rw [if_neg (show ¬ (0 ≤ w 25 h ∧ w 25 h < w 1 9) by omega)]
    · show (if j = h then 0 else w 83 j) = _; unfold ofX; rw [if_neg (show ¬ (0 ≤ w 25 h ∧ w 25 h < w 1 9) by omega)]
    · show (if j = h then 0 else w 84 j) = _; unfold feX; rw [if_neg (show ¬ (0 ≤ w 25 h ∧ w 25 h < w 1 9) by omega)]
    · show (if j = h then 0 else w 85 j) = _; unfold keX; rw [if_neg (show ¬ (0 ≤ w 25 h ∧ w 25 h < w 1 9) by omega)]
  · skip
    have hp30 := hI.2.1
    have hf9 : FrI w (wu (wu (wu (wu w 82 h 0) 83 h 0) 84 h 0) 85 h 0) := (((FrI.rf.u (by decide)).u (by decide)).u (by decide)).u (by decide)
    refine s_aload_n dX0_inspect_49 0 rfl rfl (n_getc (q := 41) 59 2 51 dX0_inspect_50 cf_X0 ff_X0_59 rfl sh_59 rfl (by decide) rfl (by decide) (s_iload_n dX0_inspect_53 3 rfl (s_iload_n dX0_inspect_54 1 rfl (s_iload_n dX0_inspect_55 2 rfl (n_invV' (as := [(0, (w 25 h)), (0, h), (0, now)]) dX0_inspect_56 kv_X2_judge ml_X0_82 (c_X_judge (w 25 h) h now (wu (wu (wu (wu w 82 h 0) 83 h 0) 84 h 0) 85 h 0) s LN (hI.1.i hf9) ⟨by omega, by omega⟩ hh (hI.2.2.2.1 (w 25 h) (by omega) (by omega)) hI.2.2.1) (by decide) 41 cf_X2 rfl sh_41 rfl rfl rfl (Nat.le_of_ble_eq_true rfl) ?_)))))
    rintro r_56 w_56 ⟨rfl, hF56, hJ56⟩
    have hf56 := hf9.g hF56
    have eJ : jdF (fcX (wu (wu (wu (wu w 82 h 0) 83 h 0) 84 h 0) 85 h 0) (w 25 h) h now) LN = jX w LN h now := rfl
    rw [eJ] at hJ56
    have j1 : w_56 41 4 = (jX w LN h now).1 := by rw [← hJ56]
    have j3 : w_56 41 6 = (jX w LN h now).2.2.1 := by rw [← hJ56]
    have j4 : w_56 41 7 = (jX w LN h now).2.2.2 := by rw [← hJ56]
    have k : ∀ c, c = 7 ∨ c = 8 ∨ c = 5 ∨ c = 24 ∨ c = 27 ∨ c = 15 ∨ c = 19 ∨ c = 10 ∨ c = 14 ∨ c = 12 ∨ c = 11 ∨ c = 13 ∨ c = 1 → w_56 c = w c := fun c hc => hf56.1 c (by omega) (by omega) (by omega) (by omega) (by omega) (by omega) (by omega) (by omega) (by omega) (by omega)
    have e82 : ∀ j, j ≠ h → w_56 82 j = w 82 j := fun j hj => by rw [hF56.1 82 (by decide) (by decide) (by decide) (by decide) (by decide) (by decide)]; show (if j = h then _ else _) = _; exact if_neg hj
    have e83 : ∀ j, j ≠ h → w_56 83 j = w 83 j := fun j hj => by rw [hF56.1 83 (by decide) (by decide) (by decide) (by decide) (by decide) (by decide)]; show (if j = h then _ else _) = _; exact if_neg hj
    have e84 : ∀ j, j ≠ h → w_56 84 j = w 84 j := fun j hj => by rw [hF56.1 84 (by decide) (by decide) (by decide) (by decide) (by decide) (by decide)]; show (if j = h then _ else _) = _; exact if_neg hj
    have e85 : ∀ j, j ≠ h → w_56 85 j = w 85 j := fun j hj => by rw [hF56.1 85 (by decide) (by decide) (by decide) (by decide) (by decide) (by decide)]; show (if j = h then _ else _) = _; exact if_neg hj
    have ers : rsX w_56 (w 25 h) h (w_56 41 4) = rsX w (w 25 h) h (jX w LN h now).1 := by unfold rsX; rw [k 7 (by omega), k 8 (by omega), k 5 (by omega), k 24 (by omega), k 27 (by omega), k 15 (by omega), k 19 (by omega), j1]
    refine s_aload_n dX0_inspect_59 0 rfl rfl (n_getc (q := 82) 59 10 92 dX0_inspect_60 cf_X0 ff_X0_32 rfl sh_59 rfl (by decide) rfl (by decide) (s_iload_n dX0_inspect_63 1 rfl (s_aload_n dX0_inspect_64 0 rfl rfl (n_getc (q := 41) 59 2 51 dX0_inspect_65 cf_X0 ff_X0_59 rfl sh_59 rfl (by decide) rfl (by decide) (s_iload_n dX0_inspect_68 3 rfl (s_iload_n dX0_inspect_69 1 rfl (n_invV (as := [(0, (w 25 h)), (0, h)]) dX0_inspect_70 kv_X2_reason ml_X0_88 (show CallN 3 mX2_reason [(2, 41), (0, w 25 h), (0, h)] w_56 (RV (0, rsX w (w 25 h) h (jX w LN h now).1) w_56) from (by rw [← ers]; exact c_X_reason (w 25 h) h w_56 ⟨by omega, by omega⟩ hh (by rw [k 7 (by omega)]; exact hI.2.2.2.1 (w 25 h) (by omega) (by omega)) (by rw [k 15 (by omega)]; exact hI.2.2.1))) (by decide) 41 cf_X2 rfl sh_41 rfl rfl rfl (Nat.le_of_ble_eq_true rfl) (s_if_ne 80 dX0_inspect_73 (by decide) (fun c_73 => ?_) (fun c_73 => ?_)))))))))
    · skip
      refine s_iconst dX0_inspect_80 (by decide) (s_bastore 82 dX0_inspect_81 rfl sh_82 (by decide) ⟨(by omega), (by omega)⟩ (by first | exact Or.inl rfl | exact Or.inr rfl | exact bi_01 _ | omega) (s_aload_n dX0_inspect_82 0 rfl rfl (n_getc (q := 83) 59 11 93 dX0_inspect_83 cf_X0 ff_X0_36 rfl sh_59 rfl (by decide) rfl (by decide) (s_iload_n dX0_inspect_86 1 rfl (s_aload_n dX0_inspect_87 0 rfl rfl (n_getc (q := 1) 59 0 11 dX0_inspect_88 cf_X0 ff_X0_51 rfl sh_59 rfl (by decide) rfl (by decide) (s_iload_n dX0_inspect_91 3 rfl (s_iload_n dX0_inspect_92 2 rfl (n_invV (as := [(0, (w 25 h)), (0, now)]) dX0_inspect_93 kv_X5_firstOff ml_X0_92 (show CallN 3 mX5_firstOff [(2, 1), (0, w 25 h), (0, now)] (wu w_56 82 h 0) (RV (0, offXw w (w 25 h) now) (wu w_56 82 h 0)) from (by
      have hz := c_X_firstOff (w 25 h) now (wu w_56 82 h 0) ⟨by omega, by omega⟩ (by show 0 ≤ w_56 7 (w 25 h) ∧ w_56 7 (w 25 h) < 12; rw [k 7 (by omega)]; exact hI.2.2.2.1 (w 25 h) (by omega) (by omega)) (by show EVB (w_56 11) (w_56 13) (w_56 1 15); rw [k 11 (by omega), k 13 (by omega), k 1 (by omega)]; exact hI.2.2.2.2.1) (by show ∀ j, 0 ≤ j → j < w_56 1 15 → 0 ≤ w_56 12 j ∧ w_56 12 j ≤ 9999; rw [k 12 (by omega), k 1 (by omega)]; exact hI.2.2.2.2.2)
      have he : offX (w_56 5 (w_56 7 (w 25 h))) (w_56 10) (w_56 14) (w_56 12) (w_56 11) (w_56 13) (w_56 1 15) (w 25 h) now = offXw w (w 25 h) now := by unfold offXw; rw [k 5 (by omega), k 7 (by omega), k 10 (by omega), k 14 (by omega), k 12 (by omega), k 11 (by omega), k 13 (by omega), k 1 (by omega)]
      rw [← he]
      exact hz)) (by decide) 1 cf_X5 rfl sh_1 rfl rfl rfl (Nat.le_of_ble_eq_true rfl) ?_)))))))))
      refine s_iconst dX0_inspect_96 (by decide) (s_icmp_eq 104 dX0_inspect_97 (by decide) (fun c_97 => ?_) (fun c_97 => ?_))
      · skip
        refine s_iconst dX0_inspect_104 (by decide) (s_bastore 83 dX0_inspect_105 rfl sh_83 (by decide) ⟨(by omega), (by omega)⟩ (by first | exact Or.inl rfl | exact Or.inr rfl | exact bi_01 _ | omega) (s_aload_n dX0_inspect_106 0 rfl rfl (n_getc (q := 84) 59 12 94 dX0_inspect_107 cf_X0 ff_X0_39 rfl sh_59 rfl (by decide) rfl (by decide) (s_iload_n dX0_inspect_110 1 rfl (s_aload_n dX0_inspect_111 0 rfl rfl (n_getc (q := 41) 59 2 51 dX0_inspect_112 cf_X0 ff_X0_59 rfl sh_59 rfl (by decide) rfl (by decide) (n_getf 41 6 0 dX0_inspect_115 cf_X2 ff_X0_95 rfl sh_41 rfl (by decide) (v := (w_56 41 6)) rfl (s_iastore 84 dX0_inspect_118 rfl sh_84 (by decide) ⟨(by omega), (by omega)⟩ (s_aload_n dX0_inspect_119 0 rfl rfl ?_)))))))))
        refine n_getc (q := 85) 59 13 95 dX0_inspect_120 cf_X0 ff_X0_42 rfl sh_59 rfl (by decide) rfl (by decide) (s_iload_n dX0_inspect_123 1 rfl (s_aload_n dX0_inspect_124 0 rfl rfl (n_getc (q := 41) 59 2 51 dX0_inspect_125 cf_X0 ff_X0_59 rfl sh_59 rfl (by decide) rfl (by decide) (n_getf 41 7 0 dX0_inspect_128 cf_X2 ff_X0_97 rfl sh_41 rfl (by decide) (v := (w_56 41 7)) rfl (s_iastore 85 dX0_inspect_131 rfl sh_85 (by decide) ⟨(by omega), (by omega)⟩ (n_ret dX0_inspect_132 hR rfl ?_))))))
        refine ⟨rfl, (((hf56.u (by decide)).u (by decide)).u (by decide)).u (by decide), fun j => ⟨?_, ?_, ?_, ?_⟩⟩
        · show (if j = h then 0 else w_56 82 j) = _
          by_cases e9 : j = h
          · rw [if_pos e9, if_pos e9]; unfold ruX; rw [if_pos (show 0 ≤ w 25 h ∧ w 25 h < w 1 9 by omega)]; first | exact (if_pos (by omega)).symm | exact (if_neg (by omega)).symm
          · rw [if_neg e9, if_neg e9]; exact e82 j e9
        · show (if j = h then 0 else w_56 83 j) = _
          by_cases e9 : j = h
          · rw [if_pos e9, if_pos e9]; unfold ofX; rw [if_pos (show 0 ≤ w 25 h ∧ w 25 h < w 1 9 by omega)]; first | exact (if_pos (by omega)).symm | exact (if_neg (by omega)).symm
          · rw [if_neg e9, if_neg e9]; exact e83 j e9
        · show (if j = h then w_56 41 6 else w_56 84 j) = _
          by_cases e9 : j = h
          · rw [if_pos e9, if_pos e9, j3]; unfold feX; rw [if_pos (show 0 ≤ w 25 h ∧ w 25 h < w 1 9 by omega)]
          · rw [if_neg e9, if_neg e9]; exact e84 j e9
        · show (if j = h then w_56 41 7 else w_56 85 j) = _
          by_cases e9 : j = h
          · rw [if_pos e9, if_pos e9, j4]; unfold keX; rw [if_pos (show 0 ≤ w 25 h ∧ w 25 h < w 1 9 by omega)]
          · rw [if_neg e9, if_neg e9]; exact e85 j e9
      · skip
        refine s_iconst dX0_inspect_100 (by decide) (s_goto 105 dX0_inspect_101 (by decide) (s_bastore 83 dX0_inspect_105 rfl sh_83 (by decide) ⟨(by omega), (by omega)⟩ (by first | exact Or.inl rfl | exact Or.inr rfl | exact bi_01 _ | omega) (s_aload_n dX0_inspect_106 0 rfl rfl (n_getc (q := 84) 59 12 94 dX0_inspect_107 cf_X0 ff_X0_39 rfl sh_59 rfl (by decide) rfl (by decide) (s_iload_n dX0_inspect_110 1 rfl (s_aload_n dX0_inspect_111 0 rfl rfl (n_getc (q := 41) 59 2 51 dX0_inspect_112 cf_X0 ff_X0_59 rfl sh_59 rfl (by decide) rfl (by decide) (n_getf 41 6 0 dX0_inspect_115 cf_X2 ff_X0_95 rfl sh_41 rfl (by decide) (v := (w_56 41 6)) rfl (s_iastore 84 dX0_inspect_118 rfl sh_84 (by decide) ⟨(by omega), (by omega)⟩ ?_)))))))))
        refine s_aload_n dX0_inspect_119 0 rfl rfl (n_getc (q := 85) 59 13 95 dX0_inspect_120 cf_X0 ff_X0_42 rfl sh_59 rfl (by decide) rfl (by decide) (s_iload_n dX0_inspect_123 1 rfl (s_aload_n dX0_inspect_124 0 rfl rfl (n_getc (q := 41) 59 2 51 dX0_inspect_125 cf_X0 ff_X0_59 rfl sh_59 rfl (by decide) rfl (by decide) (n_getf 41 7 0 dX0_inspect_128 cf_X2 ff_X0_97 rfl sh_41 rfl (by decide) (v := (w_56 41 7)) rfl (s_iastore 85 dX0_inspect_131 rfl sh_85 (by decide) ⟨(by omega), (by omega)⟩ (n_ret dX0_inspect_132 hR rfl ?_)))))))
        refine ⟨rfl, (((hf56.u (by decide)).u (by decide)).u (by decide)).u (by decide), fun j => ⟨?_, ?_, ?_, ?_⟩⟩
        · show (if j = h then 0 else w_56 82 j) = _
          by_cases e9 : j = h
          · rw [if_pos e9, if_pos e9]; unfold ruX; rw [if_pos (show 0 ≤ w 25 h ∧ w 25 h < w 1 9 by omega)]; first | exact (if_pos (by omega)).symm | exact (if_neg (by omega)).symm
          · rw [if_neg e9, if_neg e9]; exact e82 j e9
        · show (if j = h then 1 else w_56 83 j) = _
          by_cases e9 : j = h
          · rw [if_pos e9, if_pos e9]; unfold ofX; rw [if_pos (show 0 ≤ w 25 h ∧ w 25 h < w 1 9 by omega)]; first | exact (if_pos (by omega)).symm | exact (if_neg (by omega)).symm
          · rw [if_neg e9, if_neg e9]; exact e83 j e9
        · show (if j = h then w_56 41 6 else w_56 84 j) = _
          by_cases e9 : j = h
          · rw [if_pos e9, if_pos e9, j3]; unfold feX; rw [if_pos (show 0 ≤ w 25 h ∧ w 25 h < w 1 9 by omega)]
          · rw [if_neg e9, if_neg e9]; exact e84 j e9
        · show (if j = h then w_56 41 7 else w_56 85 j) = _
          by_cases e9 : j = h
          · rw [if_pos e9, if_pos e9, j4]; unfold keX; rw [if_pos (show 0 ≤ w 25 h ∧ w 25 h < w 1 9 by omega)]
          · rw [if_neg e9, if_neg e9]; exact e85 j e9
    · skip
      refine s_iconst dX0_inspect_76 (by decide) (s_goto 81 dX0_inspect_77 (by decide) (s_bastore 82 dX0_inspect_81 rfl sh_82 (by decide) ⟨(by omega), (by omega)⟩ (by first | exact Or.inl rfl | exact Or.inr rfl | exact bi_01 _ | omega) (s_aload_n dX0_inspect_82 0 rfl rfl (n_getc (q := 83) 59 11 93 dX0_inspect_83 cf_X0 ff_X0_36 rfl sh_59 rfl (by decide) rfl (by decide) (s_iload_n dX0_inspect_86 1 rfl (s_aload_n dX0_inspect_87 0 rfl rfl (n_getc (q := 1) 59 0 11 dX0_inspect_88 cf_X0 ff_X0_51 rfl sh_59 rfl (by decide) rfl (by decide) (s_iload_n dX0_inspect_91 3 rfl (s_iload_n dX0_inspect_92 2 rfl ?_)))))))))
      refine n_invV (as := [(0, (w 25 h)), (0, now)]) dX0_inspect_93 kv_X5_firstOff ml_X0_92 (show CallN 3 mX5_firstOff [(2, 1), (0, w 25 h), (0, now)] (wu w_56 82 h 1) (RV (0, offXw w (w 25 h) now) (wu w_56 82 h 1)) from (by
      have hz := c_X_firstOff (w 25 h) now (wu w_56 82 h 1) ⟨by omega, by omega⟩ (by show 0 ≤ w_56 7 (w 25 h) ∧ w_56 7 (w 25 h) < 12; rw [k 7 (by omega)]; exact hI.2.2.2.1 (w 25 h) (by omega) (by omega)) (by show EVB (w_56 11) (w_56 13) (w_56 1 15); rw [k 11 (by omega), k 13 (by omega), k 1 (by omega)]; exact hI.2.2.2.2.1) (by show ∀ j, 0 ≤ j → j < w_56 1 15 → 0 ≤ w_56 12 j ∧ w_56 12 j ≤ 9999; rw [k 12 (by omega), k 1 (by omega)]; exact hI.2.2.2.2.2)
      have he : offX (w_56 5 (w_56 7 (w 25 h))) (w_56 10) (w_56 14) (w_56 12) (w_56 11) (w_56 13) (w_56 1 15) (w 25 h) now = offXw w (w 25 h) now := by unfold offXw; rw [k 5 (by omega), k 7 (by omega), k 10 (by omega), k 14 (by omega), k 12 (by omega), k 11 (by omega), k 13 (by omega), k 1 (by omega)]
      rw [← he]
      exact hz)) (by decide) 1 cf_X5 rfl sh_1 rfl rfl rfl (Nat.le_of_ble_eq_true rfl) (s_iconst dX0_inspect_96 (by decide) (s_icmp_eq 104 dX0_inspect_97 (by decide) (fun c_97 => ?_) (fun c_97 => ?_)))
      · skip
        refine s_iconst dX0_inspect_104 (by decide) (s_bastore 83 dX0_inspect_105 rfl sh_83 (by decide) ⟨(by omega), (by omega)⟩ (by first | exact Or.inl rfl | exact Or.inr rfl | exact bi_01 _ | omega) (s_aload_n dX0_inspect_106 0 rfl rfl (n_getc (q := 84) 59 12 94 dX0_inspect_107 cf_X0 ff_X0_39 rfl sh_59 rfl (by decide) rfl (by decide) (s_iload_n dX0_inspect_110 1 rfl (s_aload_n dX0_inspect_111 0 rfl rfl (n_getc (q := 41) 59 2 51 dX0_inspect_112 cf_X0 ff_X0_59 rfl sh_59 rfl (by decide) rfl (by decide) (n_getf 41 6 0 dX0_inspect_115 cf_X2 ff_X0_95 rfl sh_41 rfl (by decide) (v := (w_56 41 6)) rfl (s_iastore 84 dX0_inspect_118 rfl sh_84 (by decide) ⟨(by omega), (by omega)⟩ (s_aload_n dX0_inspect_119 0 rfl rfl ?_)))))))))
        refine n_getc (q := 85) 59 13 95 dX0_inspect_120 cf_X0 ff_X0_42 rfl sh_59 rfl (by decide) rfl (by decide) (s_iload_n dX0_inspect_123 1 rfl (s_aload_n dX0_inspect_124 0 rfl rfl (n_getc (q := 41) 59 2 51 dX0_inspect_125 cf_X0 ff_X0_59 rfl sh_59 rfl (by decide) rfl (by decide) (n_getf 41 7 0 dX0_inspect_128 cf_X2 ff_X0_97 rfl sh_41 rfl (by decide) (v := (w_56 41 7)) rfl (s_iastore 85 dX0_inspect_131 rfl sh_85 (by decide) ⟨(by omega), (by omega)⟩ (n_ret dX0_inspect_132 hR rfl ?_))))))
        refine ⟨rfl, (((hf56.u (by decide)).u (by decide)).u (by decide)).u (by decide), fun j => ⟨?_, ?_, ?_, ?_⟩⟩
        · show (if j = h then 1 else w_56 82 j) = _
          by_cases e9 : j = h
          · rw [if_pos e9, if_pos e9]; unfold ruX; rw [if_pos (show 0 ≤ w 25 h ∧ w 25 h < w 1 9 by omega)]; first | exact (if_pos (by omega)).symm | exact (if_neg (by omega)).symm
          · rw [if_neg e9, if_neg e9]; exact e82 j e9
        · show (if j = h then 0 else w_56 83 j) = _
          by_cases e9 : j = h
          · rw [if_pos e9, if_pos e9]; unfold ofX; rw [if_pos (show 0 ≤ w 25 h ∧ w 25 h < w 1 9 by omega)]; first | exact (if_pos (by omega)).symm | exact (if_neg (by omega)).symm
          · rw [if_neg e9, if_neg e9]; exact e83 j e9
        · show (if j = h then w_56 41 6 else w_56 84 j) = _
          by_cases e9 : j = h
          · rw [if_pos e9, if_pos e9, j3]; unfold feX; rw [if_pos (show 0 ≤ w 25 h ∧ w 25 h < w 1 9 by omega)]
          · rw [if_neg e9, if_neg e9]; exact e84 j e9
        · show (if j = h then w_56 41 7 else w_56 85 j) = _
          by_cases e9 : j = h
          · rw [if_pos e9, if_pos e9, j4]; unfold keX; rw [if_pos (show 0 ≤ w 25 h ∧ w 25 h < w 1 9 by omega)]
          · rw [if_neg e9, if_neg e9]; exact e85 j e9
      · skip
        refine s_iconst dX0_inspect_100 (by decide) (s_goto 105 dX0_inspect_101 (by decide) (s_bastore 83 dX0_inspect_105 rfl sh_83 (by decide) ⟨(by omega), (by omega)⟩ (by first | exact Or.inl rfl | exact Or.inr rfl | exact bi_01 _ | omega) (s_aload_n dX0_inspect_106 0 rfl rfl (n_getc (q := 84) 59 12 94 dX0_inspect_107 cf_X0 ff_X0_39 rfl sh_59 rfl (by decide) rfl (by decide) (s_iload_n dX0_inspect_110 1 rfl (s_aload_n dX0_inspect_111 0 rfl rfl (n_getc (q := 41) 59 2 51 dX0_inspect_112 cf_X0 ff_X0_59 rfl sh_59 rfl (by decide) rfl (by decide) (n_getf 41 6 0 dX0_inspect_115 cf_X2 ff_X0_95 rfl sh_41 rfl (by decide) (v := (w_56 41 6)) rfl (s_iastore 84 dX0_inspect_118 rfl sh_84 (by decide) ⟨(by omega), (by omega)⟩ ?_)))))))))
        refine s_aload_n dX0_inspect_119 0 rfl rfl (n_getc (q := 85) 59 13 95 dX0_inspect_120 cf_X0 ff_X0_42 rfl sh_59 rfl (by decide) rfl (by decide) (s_iload_n dX0_inspect_123 1 rfl (s_aload_n dX0_inspect_124 0 rfl rfl (n_getc (q := 41) 59 2 51 dX0_inspect_125 cf_X0 ff_X0_59 rfl sh_59 rfl (by decide) rfl (by decide) (n_getf 41 7 0 dX0_inspect_128 cf_X2 ff_X0_97 rfl sh_41 rfl (by decide) (v := (w_56 41 7)) rfl (s_iastore 85 dX0_inspect_131 rfl sh_85 (by decide) ⟨(by omega), (by omega)⟩ (n_ret dX0_inspect_132 hR rfl ?_)))))))
        refine ⟨rfl, (((hf56.u (by decide)).u (by decide)).u (by decide)).u (by decide), fun j => ⟨?_, ?_, ?_, ?_⟩⟩
        · show (if j = h then 1 else w_56 82 j) = _
          by_cases e9 : j = h
          · rw [if_pos e9, if_pos e9]; unfold ruX; rw [if_pos (show 0 ≤ w 25 h ∧ w 25 h < w 1 9 by omega)]; first | exact (if_pos (by omega)).symm | exact (if_neg (by omega)).symm
          · rw [if_neg e9, if_neg e9]; exact e82 j e9
        · show (if j = h then 1 else w_56 83 j) = _
          by_cases e9 : j = h
          · rw [if_pos e9, if_pos e9]; unfold ofX; rw [if_pos (show 0 ≤ w 25 h ∧ w 25 h < w 1 9 by omega)]; first | exact (if_pos (by omega)).symm | exact (if_neg (by omega)).symm
          · rw [if_neg e9, if_neg e9]; exact e83 j e9
        · show (if j = h then w_56 41 6 else w_56 84 j) = _
          by_cases e9 : j = h
          · rw [if_pos e9, if_pos e9, j3]; unfold feX; rw [if_pos (show 0 ≤ w 25 h ∧ w 25 h < w 1 9 by omega)]
          · rw [if_neg e9, if_neg e9]; exact e84 j e9
        · show (if j = h then w_56 41 7 else w_56 85 j) = _
          by_cases e9 : j = h
          · rw [if_pos e9, if_pos e9, j4]; unfold keX; rw [if_pos (show 0 ≤ w 25 h ∧ w 25 h < w 1 9 by omega)]
          · rw [if_neg e9, if_neg e9]; exact e85 j e9

def woX (w : Wd) (c h : Int) : Int := if (w 82 h = 1 ∧ w 60 c = w 16 h ∧ w 18 h ≤ w 64 c) ∧ (0 ≤ w 25 h ∧ w 25 h < w 1 9) then w (66 + Int.toNat c) (w 7 (w 25 h)) + (if w 3 (w 7 (w 25 h)) = w 61 c then 4 else if w 3 (w 7 (w 25 h)) = 5 then 2 else 0) + (if w 4 (w 7 (w 25 h)) = w 62 c then 3 else 0) - (if w 83 h = 1 then 4 else 0) else -99
set_option maxRecDepth 100000 in
theorem c_X_worthOf (c h : Int) (w : Wd) (hc : 0 ≤ c ∧ c < 16) (hh : 0 ≤ h ∧ h < 16) (hn1 : w 1 9 ≤ 30) (hpi : ∀ j, 0 ≤ j → j < w 1 9 → 0 ≤ w 7 j ∧ w 7 j < 12) (hhd : ∀ j, 0 ≤ j → j < 12 → -3 ≤ w (66 + Int.toNat c) j ∧ w (66 + Int.toNat c) j ≤ 3) (hb : (w 82 h = 0 ∨ w 82 h = 1) ∧ (w 83 h = 0 ∨ w 83 h = 1)) : CallN 2 mX0_worthOf [(2, 59), (0, c), (0, h)] w (RV (0, woX w c h) w) := by
  refine CallN.intro (by decide +kernel) (Nat.le_of_ble_eq_true rfl) (fun ρ hR => ?_)
  show AtN mX0_worthOf 2 ρ 0 [(0, (2, 59)), (1, (0, c)), (2, (0, h))] [] w
  refine s_aload_n dX0_worthOf_0 0 rfl rfl (n_getc (q := 15) 59 1 25 dX0_worthOf_1 cf_X0 ff_X0_55 rfl sh_59 rfl (by decide) rfl (by decide) (n_getc (q := 25) 15 9 35 dX0_worthOf_4 cf_X3 ff_X0_71 rfl sh_15 rfl (by decide) rfl (by decide) (s_iload_n dX0_worthOf_7 2 rfl (n_iald 25 dX0_worthOf_8 rfl sh_25 (by decide) ⟨(by omega), (by omega)⟩ (v := (w 25 h)) rfl (s_istore_n (ls' := [(0, (2, 59)), (1, (0, c)), (2, (0, h)), (3, (0, (w 25 h)))]) dX0_worthOf_9 (Nat.le_of_ble_eq_true rfl) rfl (s_aload_n dX0_worthOf_10 0 rfl rfl (n_getc (q := 82) 59 10 92 dX0_worthOf_11 cf_X0 ff_X0_32 rfl sh_59 rfl (by decide) rfl (by decide) (s_iload_n dX0_worthOf_14 2 rfl (n_bald 82 dX0_worthOf_15 rfl sh_82 (by decide) ⟨(by omega), (by omega)⟩ (v := (w 82 h)) rfl ?_)))))))))
  refine s_if_eq 59 dX0_worthOf_16 (by decide) (fun c_16 => ?_) (fun c_16 => ?_)
  · skip
    refine s_iconst dX0_worthOf_59 (by decide) (s_istore (ls' := [(0, (2, 59)), (1, (0, c)), (2, (0, h)), (3, (0, (w 25 h))), (4, (0, 0))]) dX0_worthOf_60 (Nat.le_of_ble_eq_true rfl) rfl (s_iload dX0_worthOf_62 4 rfl (s_if_eq 78 dX0_worthOf_64 (by decide) (kf := fun c => absurd c (by decide)) (kt := fun _ => s_bipush dX0_worthOf_78 (by decide) (n_iret dX0_worthOf_80 hR rfl ?_)))))
    refine ⟨congrArg (fun z => some ((0 : Nat), z)) ?_, rfl⟩
    unfold woX
    first
    | (rw [if_neg (by omega)]; done)
    | (rw [if_pos (by omega)]
       (repeat' split) <;> omega)
  · skip
    refine s_aload_n dX0_worthOf_19 0 rfl rfl (n_getc (q := 60) 59 3 70 dX0_worthOf_20 cf_X0 ff_X0_9 rfl sh_59 rfl (by decide) rfl (by decide) (s_iload_n dX0_worthOf_23 1 rfl (n_iald 60 dX0_worthOf_24 rfl sh_60 (by decide) ⟨(by omega), (by omega)⟩ (v := (w 60 c)) rfl (s_aload_n dX0_worthOf_25 0 rfl rfl (n_getc (q := 15) 59 1 25 dX0_worthOf_26 cf_X0 ff_X0_55 rfl sh_59 rfl (by decide) rfl (by decide) (n_getc (q := 16) 15 0 26 dX0_worthOf_29 cf_X3 ff_X0_99 rfl sh_15 rfl (by decide) rfl (by decide) (s_iload_n dX0_worthOf_32 2 rfl (n_iald 16 dX0_worthOf_33 rfl sh_16 (by decide) ⟨(by omega), (by omega)⟩ (v := (w 16 h)) rfl (s_icmp_ne 59 dX0_worthOf_34 (by decide) (fun c_34 => ?_) (fun c_34 => ?_))))))))))
    · skip
      refine s_iconst dX0_worthOf_59 (by decide) (s_istore (ls' := [(0, (2, 59)), (1, (0, c)), (2, (0, h)), (3, (0, (w 25 h))), (4, (0, 0))]) dX0_worthOf_60 (Nat.le_of_ble_eq_true rfl) rfl (s_iload dX0_worthOf_62 4 rfl (s_if_eq 78 dX0_worthOf_64 (by decide) (kf := fun c => absurd c (by decide)) (kt := fun _ => s_bipush dX0_worthOf_78 (by decide) (n_iret dX0_worthOf_80 hR rfl ?_)))))
      refine ⟨congrArg (fun z => some ((0 : Nat), z)) ?_, rfl⟩
      unfold woX
      first
      | (rw [if_neg (by omega)]; done)
      | (rw [if_pos (by omega)]
         (repeat' split) <;> omega)
    · skip
      refine s_aload_n dX0_worthOf_37 0 rfl rfl (n_getc (q := 64) 59 7 74 dX0_worthOf_38 cf_X0 ff_X0_24 rfl sh_59 rfl (by decide) rfl (by decide) (s_iload_n dX0_worthOf_41 1 rfl (n_iald 64 dX0_worthOf_42 rfl sh_64 (by decide) ⟨(by omega), (by omega)⟩ (v := (w 64 c)) rfl (s_aload_n dX0_worthOf_43 0 rfl rfl (n_getc (q := 15) 59 1 25 dX0_worthOf_44 cf_X0 ff_X0_55 rfl sh_59 rfl (by decide) rfl (by decide) (n_getc (q := 18) 15 2 28 dX0_worthOf_47 cf_X3 ff_X0_100 rfl sh_15 rfl (by decide) rfl (by decide) (s_iload_n dX0_worthOf_50 2 rfl (n_iald 18 dX0_worthOf_51 rfl sh_18 (by decide) ⟨(by omega), (by omega)⟩ (v := (w 18 h)) rfl (s_icmp_lt 59 dX0_worthOf_52 (by decide) (fun c_52 => ?_) (fun c_52 => ?_))))))))))
      · skip
        refine s_iconst dX0_worthOf_59 (by decide) (s_istore (ls' := [(0, (2, 59)), (1, (0, c)), (2, (0, h)), (3, (0, (w 25 h))), (4, (0, 0))]) dX0_worthOf_60 (Nat.le_of_ble_eq_true rfl) rfl (s_iload dX0_worthOf_62 4 rfl (s_if_eq 78 dX0_worthOf_64 (by decide) (kf := fun c => absurd c (by decide)) (kt := fun _ => s_bipush dX0_worthOf_78 (by decide) (n_iret dX0_worthOf_80 hR rfl ?_)))))
        refine ⟨congrArg (fun z => some ((0 : Nat), z)) ?_, rfl⟩
        unfold woX
        first
        | (rw [if_neg (by omega)]; done)
        | (rw [if_pos (by omega)]
           (repeat' split) <;> omega)
      · skip
        refine s_iconst dX0_worthOf_55 (by decide) (s_goto 60 dX0_worthOf_56 (by decide) (s_istore (ls' := [(0, (2, 59)), (1, (0, c)), (2, (0, h)), (3, (0, (w 25 h))), (4, (0, 1))]) dX0_worthOf_60 (Nat.le_of_ble_eq_true rfl) rfl (s_iload dX0_worthOf_62 4 rfl (s_if_eq 78 dX0_worthOf_64 (by decide) (kt := fun c => absurd c (by decide)) (kf := fun _ => s_aload_n dX0_worthOf_67 0 rfl rfl (n_getc (q := 1) 59 0 11 dX0_worthOf_68 cf_X0 ff_X0_51 rfl sh_59 rfl (by decide) rfl (by decide) (s_iload_n dX0_worthOf_71 3 rfl (n_invV (as := [(0, (w 25 h))]) dX0_worthOf_72 kv_X5_hasPrint ml_X0_76 (c_X_hasPrint (w 25 h) w) (by decide) 1 cf_X5 rfl sh_1 rfl rfl rfl (Nat.le_of_ble_eq_true rfl) (n_ifne_b 81 dX0_worthOf_75 (by decide) (fun c_75 => ?_) (fun c_75 => ?_))))))))))
        · skip
          have hpp := hpi (w 25 h) (by omega) (by omega)
          have hh9 := hhd (w 7 (w 25 h)) (by omega) (by omega)
          refine s_aload_n dX0_worthOf_81 0 rfl rfl (n_getc (q := 1) 59 0 11 dX0_worthOf_82 cf_X0 ff_X0_51 rfl sh_59 rfl (by decide) rfl (by decide) (n_getc (q := 7) 1 6 17 dX0_worthOf_85 cf_X5 ff_X0_103 rfl sh_1 rfl (by decide) rfl (by decide) (s_iload_n dX0_worthOf_88 3 rfl (n_iald 7 dX0_worthOf_89 rfl sh_7 (by decide) ⟨(by omega), (by omega)⟩ (v := (w 7 (w 25 h))) rfl (s_istore (ls' := [(0, (2, 59)), (1, (0, c)), (2, (0, h)), (3, (0, (w 25 h))), (4, (0, 1)), (5, (0, (w 7 (w 25 h))))]) dX0_worthOf_90 (Nat.le_of_ble_eq_true rfl) rfl (s_aload_n dX0_worthOf_92 0 rfl rfl (n_getc (q := 65) 59 8 75 dX0_worthOf_93 cf_X0 ff_X0_29 rfl sh_59 rfl (by decide) rfl (by decide) (s_iload_n dX0_worthOf_96 1 rfl (s_aaload6 65 dX0_worthOf_97 rfl sh_65 (by decide) ⟨(by omega), (by omega)⟩ ?_)))))))))
          refine s_iload dX0_worthOf_98 5 rfl (n_iald (66 + Int.toNat c) dX0_worthOf_100 rfl (rowsh_66 _ (by omega)) (by decide) ⟨(by omega), (by omega)⟩ (v := (w (66 + Int.toNat c) (w 7 (w 25 h)))) rfl (s_istore (ls' := [(0, (2, 59)), (1, (0, c)), (2, (0, h)), (3, (0, (w 25 h))), (4, (0, 1)), (5, (0, (w 7 (w 25 h)))), (6, (0, (w (66 + Int.toNat c) (w 7 (w 25 h)))))]) dX0_worthOf_101 (Nat.le_of_ble_eq_true rfl) rfl (s_aload_n dX0_worthOf_103 0 rfl rfl (n_getc (q := 1) 59 0 11 dX0_worthOf_104 cf_X0 ff_X0_51 rfl sh_59 rfl (by decide) rfl (by decide) (n_getc (q := 3) 1 1 13 dX0_worthOf_107 cf_X5 ff_X0_106 rfl sh_1 rfl (by decide) rfl (by decide) (s_iload dX0_worthOf_110 5 rfl (n_iald 3 dX0_worthOf_112 rfl sh_3 (by decide) ⟨(by omega), (by omega)⟩ (v := (w 3 (w 7 (w 25 h)))) rfl (s_aload_n dX0_worthOf_113 0 rfl rfl (n_getc (q := 61) 59 4 71 dX0_worthOf_114 cf_X0 ff_X0_15 rfl sh_59 rfl (by decide) rfl (by decide) ?_)))))))))
          refine s_iload_n dX0_worthOf_117 1 rfl (n_iald 61 dX0_worthOf_118 rfl sh_61 (by decide) ⟨(by omega), (by omega)⟩ (v := (w 61 c)) rfl (s_icmp_ne 128 dX0_worthOf_119 (by decide) (fun c_119 => ?_) (fun c_119 => ?_)))
          · skip
            refine s_aload_n dX0_worthOf_128 0 rfl rfl (n_getc (q := 1) 59 0 11 dX0_worthOf_129 cf_X0 ff_X0_51 rfl sh_59 rfl (by decide) rfl (by decide) (n_getc (q := 3) 1 1 13 dX0_worthOf_132 cf_X5 ff_X0_106 rfl sh_1 rfl (by decide) rfl (by decide) (s_iload dX0_worthOf_135 5 rfl (n_iald 3 dX0_worthOf_137 rfl sh_3 (by decide) ⟨(by omega), (by omega)⟩ (v := (w 3 (w 7 (w 25 h)))) rfl (s_iconst dX0_worthOf_138 (by decide) (s_icmp_ne 145 dX0_worthOf_139 (by decide) (fun c_139 => ?_) (fun c_139 => ?_)))))))
            · skip
              refine s_aload_n dX0_worthOf_145 0 rfl rfl (n_getc (q := 1) 59 0 11 dX0_worthOf_146 cf_X0 ff_X0_51 rfl sh_59 rfl (by decide) rfl (by decide) (n_getc (q := 4) 1 2 14 dX0_worthOf_149 cf_X5 ff_X0_107 rfl sh_1 rfl (by decide) rfl (by decide) (s_iload dX0_worthOf_152 5 rfl (n_iald 4 dX0_worthOf_154 rfl sh_4 (by decide) ⟨(by omega), (by omega)⟩ (v := (w 4 (w 7 (w 25 h)))) rfl (s_aload_n dX0_worthOf_155 0 rfl rfl (n_getc (q := 62) 59 5 72 dX0_worthOf_156 cf_X0 ff_X0_18 rfl sh_59 rfl (by decide) rfl (by decide) (s_iload_n dX0_worthOf_159 1 rfl (n_iald 62 dX0_worthOf_160 rfl sh_62 (by decide) ⟨(by omega), (by omega)⟩ (v := (w 62 c)) rfl (s_icmp_ne 167 dX0_worthOf_161 (by decide) (fun c_161 => ?_) (fun c_161 => ?_))))))))))
              · skip
                refine s_aload_n dX0_worthOf_167 0 rfl rfl (n_getc (q := 83) 59 11 93 dX0_worthOf_168 cf_X0 ff_X0_36 rfl sh_59 rfl (by decide) rfl (by decide) (s_iload_n dX0_worthOf_171 2 rfl (n_bald 83 dX0_worthOf_172 rfl sh_83 (by decide) ⟨(by omega), (by omega)⟩ (v := (w 83 h)) rfl (s_if_eq 183 dX0_worthOf_173 (by decide) (fun c_173 => ?_) (fun c_173 => ?_)))))
                · skip
                  refine s_iload dX0_worthOf_183 6 rfl (n_iret dX0_worthOf_185 hR rfl ?_)
                  refine ⟨congrArg (fun z => some ((0 : Nat), z)) ?_, rfl⟩
                  unfold woX
                  first
                  | (rw [if_neg (by omega)]; done)
                  | (rw [if_pos (by omega)]
                     (repeat' split) <;> omega)
                · skip
                  refine s_iload dX0_worthOf_176 6 rfl (s_iconst dX0_worthOf_178 (by decide) (n_sub (z := ((w (66 + Int.toNat c) (w 7 (w 25 h))) - 4)) dX0_worthOf_179 (wr_id (by omega) (by omega)) (s_goto 185 dX0_worthOf_180 (by decide) (n_iret dX0_worthOf_185 hR rfl ?_))))
                  refine ⟨congrArg (fun z => some ((0 : Nat), z)) ?_, rfl⟩
                  unfold woX
                  first
                  | (rw [if_neg (by omega)]; done)
                  | (rw [if_pos (by omega)]
                     (repeat' split) <;> omega)
              · skip
                refine s_iinc (z := ((w (66 + Int.toNat c) (w 7 (w 25 h))) + 3)) (ls' := [(0, (2, 59)), (1, (0, c)), (2, (0, h)), (3, (0, (w 25 h))), (4, (0, 1)), (5, (0, (w 7 (w 25 h)))), (6, (0, ((w (66 + Int.toNat c) (w 7 (w 25 h))) + 3)))]) dX0_worthOf_164 6 rfl (Nat.le_of_ble_eq_true rfl) (wr_id (by omega) (by omega)) rfl (s_aload_n dX0_worthOf_167 0 rfl rfl (n_getc (q := 83) 59 11 93 dX0_worthOf_168 cf_X0 ff_X0_36 rfl sh_59 rfl (by decide) rfl (by decide) (s_iload_n dX0_worthOf_171 2 rfl (n_bald 83 dX0_worthOf_172 rfl sh_83 (by decide) ⟨(by omega), (by omega)⟩ (v := (w 83 h)) rfl (s_if_eq 183 dX0_worthOf_173 (by decide) (fun c_173 => ?_) (fun c_173 => ?_))))))
                · skip
                  refine s_iload dX0_worthOf_183 6 rfl (n_iret dX0_worthOf_185 hR rfl ?_)
                  refine ⟨congrArg (fun z => some ((0 : Nat), z)) ?_, rfl⟩
                  unfold woX
                  first
                  | (rw [if_neg (by omega)]; done)
                  | (rw [if_pos (by omega)]
                     (repeat' split) <;> omega)
                · skip
                  refine s_iload dX0_worthOf_176 6 rfl (s_iconst dX0_worthOf_178 (by decide) (n_sub (z := (((w (66 + Int.toNat c) (w 7 (w 25 h))) + 3) - 4)) dX0_worthOf_179 (wr_id (by omega) (by omega)) (s_goto 185 dX0_worthOf_180 (by decide) (n_iret dX0_worthOf_185 hR rfl ?_))))
                  refine ⟨congrArg (fun z => some ((0 : Nat), z)) ?_, rfl⟩
                  unfold woX
                  first
                  | (rw [if_neg (by omega)]; done)
                  | (rw [if_pos (by omega)]
                     (repeat' split) <;> omega)
            · skip
              refine s_iinc (z := ((w (66 + Int.toNat c) (w 7 (w 25 h))) + 2)) (ls' := [(0, (2, 59)), (1, (0, c)), (2, (0, h)), (3, (0, (w 25 h))), (4, (0, 1)), (5, (0, (w 7 (w 25 h)))), (6, (0, ((w (66 + Int.toNat c) (w 7 (w 25 h))) + 2)))]) dX0_worthOf_142 6 rfl (Nat.le_of_ble_eq_true rfl) (wr_id (by omega) (by omega)) rfl (s_aload_n dX0_worthOf_145 0 rfl rfl (n_getc (q := 1) 59 0 11 dX0_worthOf_146 cf_X0 ff_X0_51 rfl sh_59 rfl (by decide) rfl (by decide) (n_getc (q := 4) 1 2 14 dX0_worthOf_149 cf_X5 ff_X0_107 rfl sh_1 rfl (by decide) rfl (by decide) (s_iload dX0_worthOf_152 5 rfl (n_iald 4 dX0_worthOf_154 rfl sh_4 (by decide) ⟨(by omega), (by omega)⟩ (v := (w 4 (w 7 (w 25 h)))) rfl (s_aload_n dX0_worthOf_155 0 rfl rfl (n_getc (q := 62) 59 5 72 dX0_worthOf_156 cf_X0 ff_X0_18 rfl sh_59 rfl (by decide) rfl (by decide) (s_iload_n dX0_worthOf_159 1 rfl (n_iald 62 dX0_worthOf_160 rfl sh_62 (by decide) ⟨(by omega), (by omega)⟩ (v := (w 62 c)) rfl ?_)))))))))
              refine s_icmp_ne 167 dX0_worthOf_161 (by decide) (fun c_161 => ?_) (fun c_161 => ?_)
              · skip
                refine s_aload_n dX0_worthOf_167 0 rfl rfl (n_getc (q := 83) 59 11 93 dX0_worthOf_168 cf_X0 ff_X0_36 rfl sh_59 rfl (by decide) rfl (by decide) (s_iload_n dX0_worthOf_171 2 rfl (n_bald 83 dX0_worthOf_172 rfl sh_83 (by decide) ⟨(by omega), (by omega)⟩ (v := (w 83 h)) rfl (s_if_eq 183 dX0_worthOf_173 (by decide) (fun c_173 => ?_) (fun c_173 => ?_)))))
                · skip
                  refine s_iload dX0_worthOf_183 6 rfl (n_iret dX0_worthOf_185 hR rfl ?_)
                  refine ⟨congrArg (fun z => some ((0 : Nat), z)) ?_, rfl⟩
                  unfold woX
                  first
                  | (rw [if_neg (by omega)]; done)
                  | (rw [if_pos (by omega)]
                     (repeat' split) <;> omega)
                · skip
                  refine s_iload dX0_worthOf_176 6 rfl (s_iconst dX0_worthOf_178 (by decide) (n_sub (z := (((w (66 + Int.toNat c) (w 7 (w 25 h))) + 2) - 4)) dX0_worthOf_179 (wr_id (by omega) (by omega)) (s_goto 185 dX0_worthOf_180 (by decide) (n_iret dX0_worthOf_185 hR rfl ?_))))
                  refine ⟨congrArg (fun z => some ((0 : Nat), z)) ?_, rfl⟩
                  unfold woX
                  first
                  | (rw [if_neg (by omega)]; done)
                  | (rw [if_pos (by omega)]
                     (repeat' split) <;> omega)
              · skip
                refine s_iinc (z := (((w (66 + Int.toNat c) (w 7 (w 25 h))) + 2) + 3)) (ls' := [(0, (2, 59)), (1, (0, c)), (2, (0, h)), (3, (0, (w 25 h))), (4, (0, 1)), (5, (0, (w 7 (w 25 h)))), (6, (0, (((w (66 + Int.toNat c) (w 7 (w 25 h))) + 2) + 3)))]) dX0_worthOf_164 6 rfl (Nat.le_of_ble_eq_true rfl) (wr_id (by omega) (by omega)) rfl (s_aload_n dX0_worthOf_167 0 rfl rfl (n_getc (q := 83) 59 11 93 dX0_worthOf_168 cf_X0 ff_X0_36 rfl sh_59 rfl (by decide) rfl (by decide) (s_iload_n dX0_worthOf_171 2 rfl (n_bald 83 dX0_worthOf_172 rfl sh_83 (by decide) ⟨(by omega), (by omega)⟩ (v := (w 83 h)) rfl (s_if_eq 183 dX0_worthOf_173 (by decide) (fun c_173 => ?_) (fun c_173 => ?_))))))
                · skip
                  refine s_iload dX0_worthOf_183 6 rfl (n_iret dX0_worthOf_185 hR rfl ?_)
                  refine ⟨congrArg (fun z => some ((0 : Nat), z)) ?_, rfl⟩
                  unfold woX
                  first
                  | (rw [if_neg (by omega)]; done)
                  | (rw [if_pos (by omega)]
                     (repeat' split) <;> omega)
                · skip
                  refine s_iload dX0_worthOf_176 6 rfl (s_iconst dX0_worthOf_178 (by decide) (n_sub (z := ((((w (66 + Int.toNat c) (w 7 (w 25 h))) + 2) + 3) - 4)) dX0_worthOf_179 (wr_id (by omega) (by omega)) (s_goto 185 dX0_worthOf_180 (by decide) (n_iret dX0_worthOf_185 hR rfl ?_))))
                  refine ⟨congrArg (fun z => some ((0 : Nat), z)) ?_, rfl⟩
                  unfold woX
                  first
                  | (rw [if_neg (by omega)]; done)
                  | (rw [if_pos (by omega)]
                     (repeat' split) <;> omega)
          · skip
            refine s_iinc (z := ((w (66 + Int.toNat c) (w 7 (w 25 h))) + 4)) (ls' := [(0, (2, 59)), (1, (0, c)), (2, (0, h)), (3, (0, (w 25 h))), (4, (0, 1)), (5, (0, (w 7 (w 25 h)))), (6, (0, ((w (66 + Int.toNat c) (w 7 (w 25 h))) + 4)))]) dX0_worthOf_122 6 rfl (Nat.le_of_ble_eq_true rfl) (wr_id (by omega) (by omega)) rfl (s_goto 145 dX0_worthOf_125 (by decide) (s_aload_n dX0_worthOf_145 0 rfl rfl (n_getc (q := 1) 59 0 11 dX0_worthOf_146 cf_X0 ff_X0_51 rfl sh_59 rfl (by decide) rfl (by decide) (n_getc (q := 4) 1 2 14 dX0_worthOf_149 cf_X5 ff_X0_107 rfl sh_1 rfl (by decide) rfl (by decide) (s_iload dX0_worthOf_152 5 rfl (n_iald 4 dX0_worthOf_154 rfl sh_4 (by decide) ⟨(by omega), (by omega)⟩ (v := (w 4 (w 7 (w 25 h)))) rfl (s_aload_n dX0_worthOf_155 0 rfl rfl (n_getc (q := 62) 59 5 72 dX0_worthOf_156 cf_X0 ff_X0_18 rfl sh_59 rfl (by decide) rfl (by decide) (s_iload_n dX0_worthOf_159 1 rfl ?_)))))))))
            refine n_iald 62 dX0_worthOf_160 rfl sh_62 (by decide) ⟨(by omega), (by omega)⟩ (v := (w 62 c)) rfl (s_icmp_ne 167 dX0_worthOf_161 (by decide) (fun c_161 => ?_) (fun c_161 => ?_))
            · skip
              refine s_aload_n dX0_worthOf_167 0 rfl rfl (n_getc (q := 83) 59 11 93 dX0_worthOf_168 cf_X0 ff_X0_36 rfl sh_59 rfl (by decide) rfl (by decide) (s_iload_n dX0_worthOf_171 2 rfl (n_bald 83 dX0_worthOf_172 rfl sh_83 (by decide) ⟨(by omega), (by omega)⟩ (v := (w 83 h)) rfl (s_if_eq 183 dX0_worthOf_173 (by decide) (fun c_173 => ?_) (fun c_173 => ?_)))))
              · skip
                refine s_iload dX0_worthOf_183 6 rfl (n_iret dX0_worthOf_185 hR rfl ?_)
                refine ⟨congrArg (fun z => some ((0 : Nat), z)) ?_, rfl⟩
                unfold woX
                first
                | (rw [if_neg (by omega)]; done)
                | (rw [if_pos (by omega)]
                   (repeat' split) <;> omega)
              · skip
                refine s_iload dX0_worthOf_176 6 rfl (s_iconst dX0_worthOf_178 (by decide) (n_sub (z := (((w (66 + Int.toNat c) (w 7 (w 25 h))) + 4) - 4)) dX0_worthOf_179 (wr_id (by omega) (by omega)) (s_goto 185 dX0_worthOf_180 (by decide) (n_iret dX0_worthOf_185 hR rfl ?_))))
                refine ⟨congrArg (fun z => some ((0 : Nat), z)) ?_, rfl⟩
                unfold woX
                first
                | (rw [if_neg (by omega)]; done)
                | (rw [if_pos (by omega)]
                   (repeat' split) <;> omega)
            · skip
              refine s_iinc (z := (((w (66 + Int.toNat c) (w 7 (w 25 h))) + 4) + 3)) (ls' := [(0, (2, 59)), (1, (0, c)), (2, (0, h)), (3, (0, (w 25 h))), (4, (0, 1)), (5, (0, (w 7 (w 25 h)))), (6, (0, (((w (66 + Int.toNat c) (w 7 (w 25 h))) + 4) + 3)))]) dX0_worthOf_164 6 rfl (Nat.le_of_ble_eq_true rfl) (wr_id (by omega) (by omega)) rfl (s_aload_n dX0_worthOf_167 0 rfl rfl (n_getc (q := 83) 59 11 93 dX0_worthOf_168 cf_X0 ff_X0_36 rfl sh_59 rfl (by decide) rfl (by decide) (s_iload_n dX0_worthOf_171 2 rfl (n_bald 83 dX0_worthOf_172 rfl sh_83 (by decide) ⟨(by omega), (by omega)⟩ (v := (w 83 h)) rfl (s_if_eq 183 dX0_worthOf_173 (by decide) (fun c_173 => ?_) (fun c_173 => ?_))))))
              · skip
                refine s_iload dX0_worthOf_183 6 rfl (n_iret dX0_worthOf_185 hR rfl ?_)
                refine ⟨congrArg (fun z => some ((0 : Nat), z)) ?_, rfl⟩
                unfold woX
                first
                | (rw [if_neg (by omega)]; done)
                | (rw [if_pos (by omega)]
                   (repeat' split) <;> omega)
              · skip
                refine s_iload dX0_worthOf_176 6 rfl (s_iconst dX0_worthOf_178 (by decide) (n_sub (z := ((((w (66 + Int.toNat c) (w 7 (w 25 h))) + 4) + 3) - 4)) dX0_worthOf_179 (wr_id (by omega) (by omega)) (s_goto 185 dX0_worthOf_180 (by decide) (n_iret dX0_worthOf_185 hR rfl ?_))))
                refine ⟨congrArg (fun z => some ((0 : Nat), z)) ?_, rfl⟩
                unfold woX
                first
                | (rw [if_neg (by omega)]; done)
                | (rw [if_pos (by omega)]
                   (repeat' split) <;> omega)
        · skip
          refine s_bipush dX0_worthOf_78 (by decide) (n_iret dX0_worthOf_80 hR rfl ?_)
          refine ⟨congrArg (fun z => some ((0 : Nat), z)) ?_, rfl⟩
          unfold woX
          first
          | (rw [if_neg (by omega)]; done)
          | (rw [if_pos (by omega)]
             (repeat' split) <;> omega)
