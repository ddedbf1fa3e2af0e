/-! JUDGING, THE CLASS. -/
def soI (F : Int → Int) (q : Lin) : Int := if q.2.2 = [] ∨ vaL F q.2.2 = 1 then 1 else 0
theorem SoQ_I {F : Int → Int} {q : Lin} {z : Int} (h : SoQ F q z) : z = soI F q := by
  unfold soI
  rcases h with ⟨a, b⟩ | ⟨a, b⟩
  · rw [if_pos (show q.2.2 = [] ∨ vaL F q.2.2 = 1 from a)]; exact b
  · rw [if_neg (show ¬ (q.2.2 = [] ∨ vaL F q.2.2 = 1) from a)]; exact b
/-- which firm bars, its line, the fee, the keep -/
abbrev Jd := Int × Int × Int × Int
def jd1 (F : Int → Int) (f i : Int) (q : Lin) (S : Jd) : Jd := if soI F q = 1 then (if q.1 = 0 then (if S.1 = -1 then (f, i, S.2.2.1, S.2.2.2) else S) else if q.1 = 1 then (S.1, S.2.1, mxL S.2.2.1 (vaL F q.2.1), S.2.2.2) else (S.1, S.2.1, S.2.2.1, mxL S.2.2.2 (vaL F q.2.1))) else S
def lnD (L : List Lin) (i : Nat) : Lin := L.getD i (0, [], [])
def jdL (F : Int → Int) (f : Int) (L : List Lin) : Nat → Jd → Jd
  | 0, S => S
  | n + 1, S => jd1 F f n (lnD L n) (jdL F f L n S)
theorem jdL_s {F : Int → Int} {f i : Int} {L : List Lin} {S : Jd} (h : 0 ≤ i) : jdL F f L (i + 1).toNat S = jd1 F f i (lnD L i.toNat) (jdL F f L i.toNat S) := by rw [toN_s h, jdL, toN_c h]
/-- all firms -/
def jdA (F : Int → Int) (LN : Int → List Lin) : Nat → Jd
  | 0 => (-1, -1, 0, 0)
  | n + 1 => ((jdL F n (LN n) (LN n).length ((jdA F LN n).1, (jdA F LN n).2.1, 0, (jdA F LN n).2.2.2)).1, (jdL F n (LN n) (LN n).length ((jdA F LN n).1, (jdA F LN n).2.1, 0, (jdA F LN n).2.2.2)).2.1, (jdA F LN n).2.2.1 + mnL (jdL F n (LN n) (LN n).length ((jdA F LN n).1, (jdA F LN n).2.1, 0, (jdA F LN n).2.2.2)).2.2.1 99999, (jdL F n (LN n) (LN n).length ((jdA F LN n).1, (jdA F LN n).2.1, 0, (jdA F LN n).2.2.2)).2.2.2)
theorem mxL_ge (a b : Int) : a ≤ mxL a b := by unfold mxL; split <;> omega
theorem jd1_m {F : Int → Int} {f i : Int} {q : Lin} {S : Jd} : S.2.2.1 ≤ (jd1 F f i q S).2.2.1 := by
  unfold jd1
  split
  · split
    · split <;> exact Int.le_refl _
    · split
      · exact mxL_ge _ _
      · exact Int.le_refl _
  · exact Int.le_refl _
theorem jdL_m {F : Int → Int} {f : Int} {L : List Lin} {S : Jd} : ∀ n : Nat, S.2.2.1 ≤ (jdL F f L n S).2.2.1
  | 0 => Int.le_refl _
  | n + 1 => by rw [jdL]; exact Int.le_trans (jdL_m n) jd1_m
theorem jdA_fee {F : Int → Int} {LN : Int → List Lin} : ∀ n : Nat, 0 ≤ (jdA F LN n).2.2.1 ∧ (jdA F LN n).2.2.1 ≤ 99999 * n
  | 0 => by simp [jdA]
  | n + 1 => by
    have ih := jdA_fee (F := F) (LN := LN) n
    have hm := jdL_m (F := F) (f := n) (L := LN n) (S := ((jdA F LN n).1, (jdA F LN n).2.1, 0, (jdA F LN n).2.2.2)) (LN n).length
    rw [jdA]
    dsimp only at hm ⊢
    unfold mnL
    split <;> omega
theorem jd1_no {F : Int → Int} {f i : Int} {q : Lin} {S : Jd} (h : soI F q = 0) : jd1 F f i q S = S := by unfold jd1; rw [if_neg (by omega)]
theorem jd1_bar {F : Int → Int} {f i a b c d : Int} {q : Lin} (h : soI F q = 1) (hk : q.1 = 0) : jd1 F f i q (a, b, c, d) = if a = -1 then (f, i, c, d) else (a, b, c, d) := by unfold jd1; rw [if_pos h, if_pos hk]
theorem jd1_fee {F : Int → Int} {f i a b c d : Int} {q : Lin} (h : soI F q = 1) (hk : q.1 = 1) : jd1 F f i q (a, b, c, d) = (a, b, mxL c (vaL F q.2.1), d) := by unfold jd1; rw [if_pos h, if_neg (by omega), if_pos hk]
theorem jd1_keep {F : Int → Int} {f i a b c d : Int} {q : Lin} (h : soI F q = 1) (hk : q.1 = 2) : jd1 F f i q (a, b, c, d) = (a, b, c, mxL d (vaL F q.2.1)) := by unfold jd1; rw [if_pos h, if_neg (by omega), if_neg (by omega)]
/-- only the fields 4 to 7 of Firms and the scripts' stacks are otherwise -/
def FrJ (w v : Wd) : Prop := (∀ c, c ≠ 41 → c ≠ 40 → c ≠ 48 → c ≠ 53 → c ≠ 58 → v c = w c) ∧ ∀ j : Int, (j < 4 ∨ 7 < j) → v 41 j = w 41 j
theorem FrJ.rf {w : Wd} : FrJ w w := ⟨fun _ _ _ _ _ _ => rfl, fun _ _ => rfl⟩
theorem FrJ.tr {w v u : Wd} (h : FrJ w v) (h2 : FrJ v u) : FrJ w u := ⟨fun c a b d e f => (h2.1 c a b d e f).trans (h.1 c a b d e f), fun j hj => (h2.2 j hj).trans (h.2 j hj)⟩
theorem FrJ.st {w v u : Wd} {s : Nat} (hs : IsSc s) (h : FrJ w v) (h2 : ∀ c, c ≠ s + 4 → u c = v c) : FrJ w u :=
  ⟨fun c a b d e f => by rw [h2 c (by rcases hs with z | z | z | z <;> omega)]; exact h.1 c a b d e f, fun j hj => by rw [h2 41 (by rcases hs with z | z | z | z <;> omega)]; exact h.2 j hj⟩
theorem FrJ.u1 {w v : Wd} {j x : Int} (h : FrJ w v) (hj : 4 ≤ j ∧ j ≤ 7) : FrJ w (wu v 41 j x) := ⟨fun c a b d e f => by rw [wu_ne a]; exact h.1 c a b d e f, fun k hk => by rw [wu_at, if_neg (by omega)]; exact h.2 k hk⟩
/-- the firms' scripts hold these lines -/
def SCL (w : Wd) (s : Int → Nat) (LN : Int → List Lin) : Prop := SCS w s ∧ ∀ f : Int, 0 ≤ f → f < 3 → w (s f) 4 = (LN f).length ∧ ∀ i : Nat, i < (LN f).length → lnX w (s f) i (LN f).length (lnD (LN f) i) ∧ okLin (lnD (LN f) i)
theorem lnX_fr {w v : Wd} {s : Nat} {i n : Int} {q : Lin} (hs : IsSc s) (hf : FrJ w v) (h : lnX w s i n q) : lnX v s i n q := by
  have e : ∀ k : Nat, k ≤ 3 → v (s + k) = w (s + k) := fun k hk => hf.1 (s + k) (by rcases hs with z | z | z | z <;> omega) (by rcases hs with z | z | z | z <;> omega) (by rcases hs with z | z | z | z <;> omega) (by rcases hs with z | z | z | z <;> omega) (by rcases hs with z | z | z | z <;> omega)
  unfold lnX at h ⊢
  have e0 : v s = w s := e 0 (by decide)
  rw [e 1 (by decide), e 2 (by decide), e 3 (by decide), e0]
  exact h
theorem SCL.fr {w v : Wd} {s : Int → Nat} {LN : Int → List Lin} (h : SCL w s LN) (hf : FrJ w v) : SCL v s LN := by
  have e : ∀ f : Int, 0 ≤ f → f < 3 → v (s f) = w (s f) := fun f a b => hf.1 (s f) (by rcases (h.1 f a b).1 with z | z | z | z <;> omega) (by rcases (h.1 f a b).1 with z | z | z | z <;> omega) (by rcases (h.1 f a b).1 with z | z | z | z <;> omega) (by rcases (h.1 f a b).1 with z | z | z | z <;> omega) (by rcases (h.1 f a b).1 with z | z | z | z <;> omega)
  refine ⟨fun f a b => ?_, fun f a b => ?_⟩
  · rw [e f a b, hf.1 42 (by decide) (by decide) (by decide) (by decide) (by decide)]
    exact h.1 f a b
  · rw [e f a b]
    exact ⟨(h.2 f a b).1, fun i hi => ⟨lnX_fr (h.1 f a b).1 hf ((h.2 f a b).2 i hi).1, ((h.2 f a b).2 i hi).2⟩⟩

set_option maxRecDepth 100000 in
theorem c_X_bar (f i : Int) (w : Wd) : CallN 1 mX2_bar [(2, 41), (0, f), (0, i)] w (RUQ (fun w1 => w1 = if w 41 4 = -1 then wu (wu w 41 4 f) 41 5 i else w)) := by
  refine CallN.intro (by decide +kernel) (Nat.le_of_ble_eq_true rfl) (fun ρ hR => ?_)
  show AtN mX2_bar 1 ρ 0 [(0, (2, 41)), (1, (0, f)), (2, (0, i))] [] w
  refine s_aload_n dX2_bar_0 0 rfl rfl (n_getf 41 4 0 dX2_bar_1 cf_X2 ff_X2_38 rfl sh_41 rfl (by decide) (v := (w 41 4)) rfl (s_iconst dX2_bar_4 (by decide) (s_icmp_ne 18 dX2_bar_5 (by decide) (fun c_5 => ?_) (fun c_5 => ?_))))
  · skip
    refine n_ret dX2_bar_18 hR rfl ?_
    refine ⟨rfl, ?_⟩
    rw [if_neg (by omega)]
  · skip
    refine s_aload_n dX2_bar_8 0 rfl rfl (s_iload_n dX2_bar_9 1 rfl (n_putf 41 4 4 dX2_bar_10 cf_X2 ff_X2_38 rfl rfl sh_41 rfl rfl rfl (s_aload_n dX2_bar_13 0 rfl rfl (s_iload_n dX2_bar_14 2 rfl (n_putf 41 5 5 dX2_bar_15 cf_X2 ff_X2_41 rfl rfl sh_41 rfl rfl rfl (n_ret dX2_bar_18 hR rfl ?_))))))
    refine ⟨rfl, ?_⟩
    rw [if_pos (by omega)]

set_option maxRecDepth 100000 in
theorem c_X_ask (f : Int) (w : Wd) (F : Int → Int) (s : Int → Nat) (LN : Int → List Lin) (hf : 0 ≤ f ∧ f < 3) (hs : SCL w s LN) (hG : ∀ j, 0 ≤ j → j ≤ 9 → w 43 j = F (j + 1)) : CallN 4 mX2_ask [(2, 41), (0, f)] w (RQ (fun z w1 => FrJ w w1 ∧ w1 41 6 = w 41 6 ∧ (w1 41 4, w1 41 5, z, w1 41 7) = jdL F f (LN f) (LN f).length (w 41 4, w 41 5, 0, w 41 7))) := by
  refine CallN.intro (by decide +kernel) (Nat.le_of_ble_eq_true rfl) (fun ρ hR => ?_)
  show AtN mX2_ask 4 ρ 0 [(0, (2, 41)), (1, (0, f))] [] w
  have hsc := (hs.1 f hf.1 hf.2).1
  have hx9 := (hs.1 f hf.1 hf.2).2.2
  have L_12 : ∀ (fu : Nat) (m : Int) (i : Int) (v9 : Wd), 0 ≤ i ∧ i ≤ (LN f).length → FrJ w v9 → v9 41 6 = w 41 6 → (v9 41 4, v9 41 5, m, v9 41 7) = jdL F f (LN f) i.toNat (w 41 4, w 41 5, 0, w 41 7) → (((LN f).length : Int) - i).toNat < fu → AtN mX2_ask 4 ρ 12 [(0, (2, 41)), (1, (0, f)), (2, (2, (((s f) : Nat) : Int))), (3, (0, m)), (4, (0, i))] [] v9 := by
    intro fu
    induction fu with
    | zero => intro m i v9 hi hf9 h6 hJ hm; exact absurd hm (Nat.not_lt_zero _)
    | succ fu ih =>
      intro m i v9 hi hf9 h6 hJ hm
      have hs9 := hs.fr hf9
      have q4 := (hs9.2 f hf.1 hf.2).1
      have q20 := (hs9.1 f hf.1 hf.2).2.2
      refine s_iload dX2_ask_12 4 rfl (s_aload_n dX2_ask_14 2 rfl (refb_nat (s f)) (n_getf (s f) 4 0 dX2_ask_15 cf_X6 ff_X2_30 rfl (shS hsc) rfl (by decide) (v := (v9 (s f) 4)) rfl (s_icmp_ge 115 dX2_ask_18 (by decide) (fun c_18 => ?_) (fun c_18 => ?_))))
      · skip
        refine s_iload_n dX2_ask_115 3 rfl (n_iret dX2_ask_116 hR rfl ?_)
        have e9 : i = (LN f).length := by omega
        rw [e9] at hJ
        exact ⟨_, rfl, hf9, h6, hJ⟩
      · skip
        have q5 := (hs9.2 f hf.1 hf.2).2 i.toNat (by omega)
        have hG9 : ∀ j, 0 ≤ j → j ≤ 9 → v9 43 j = F (j + 1) := fun j a b => by rw [hf9.1 43 (by decide) (by decide) (by decide) (by decide) (by decide)]; exact hG j a b
        refine s_aload_n dX2_ask_21 2 rfl (refb_nat (s f)) (s_iload dX2_ask_22 4 rfl (s_aload_n dX2_ask_24 0 rfl rfl (n_getc (q := 43) 41 3 53 dX2_ask_25 cf_X2 ff_X2_17 rfl sh_41 rfl (by decide) rfl (by decide) (n_invV' (as := [(0, i), (2, 43)]) dX2_ask_28 kv_X6_isSo ml_X2_102 (c_X_isSo i (LN f).length (lnD (LN f) i.toNat) F (s f) hsc v9 q4 (by omega) (by have := q5.1; rwa [toN_c hi.1] at this) q5.2 hG9) (by decide) (s f) cf_X6 rfl (shS hsc) rfl rfl rfl (Nat.le_of_ble_eq_true rfl) ?_))))
        rintro r_28 w_28 ⟨z_28, rfl, hw28, hso, hva⟩
        show AtN _ _ ρ _ _ [(0, z_28)] w_28
        have e41 : w_28 41 = v9 41 := hw28 41 (by rcases hsc with z | z | z | z <;> omega)
        have hz28 := SoQ_I hso
        have h01 := SoQ_01 hso
        have hkd : w_28 (s f + 2) i = 256 + (lnD (LN f) i.toNat).1 := by
          rw [hw28 (s f + 2) (by omega)]
          obtain ⟨a, b0, b1, b2, b3, b4, b5, b6⟩ := q5.1
          rw [toN_c hi.1] at b6
          exact b6
        have hk02 := q5.2.1
        have hf28 : FrJ w w_28 := hf9.st hsc hw28
        have h628 : w_28 41 6 = w 41 6 := by rw [e41]; exact h6
        refine s_if_ne 37 dX2_ask_31 (by decide) (fun c_31 => ?_) (fun c_31 => ?_)
        · skip
          refine s_aload_n dX2_ask_37 2 rfl (refb_nat (s f)) (n_getc (q := ((((s f) + 2) : Nat) : Int)) (s f) 2 1002 dX2_ask_38 cf_X6 ff_X2_106 rfl (shS hsc) rfl (by decide) rfl (sc_lt hsc 2 (by decide)) (s_iload dX2_ask_41 4 rfl (n_iald ((s f) + 2) dX2_ask_43 rfl (shS2 hsc) (by decide) ⟨(by omega), (by omega)⟩ (v := (w_28 ((s f) + 2) i)) rfl ?_)))
          rcases (show ((w_28 ((s f) + 2) i) ≠ 257 ∧ (w_28 ((s f) + 2) i) ≠ 258) ∨ (w_28 ((s f) + 2) i) = 257 ∨ (w_28 ((s f) + 2) i) = 258 from by omega) with c_44 | c_44 | c_44
          · refine s_lookup (off := 58) 102 dX2_ask_44 (by decide) (by show Op.lookupswitch.offset [(257, 28), (258, 40)] 58 (w_28 ((s f) + 2) i) = _; rw [Op.lookupswitch.offset_cons, if_neg (by omega), Op.lookupswitch.offset_cons, if_neg (by omega), Op.lookupswitch.offset_nil]) (by decide) ?_
            refine s_aload_n dX2_ask_102 0 rfl rfl (s_iload_n dX2_ask_103 1 rfl (s_iload dX2_ask_104 4 rfl (n_invV' (as := [(0, f), (0, i)]) dX2_ask_106 kv_X2_bar ml_X2_116 (c_X_bar f i w_28) (by decide) 41 cf_X2 rfl sh_41 rfl rfl rfl (Nat.le_of_ble_eq_true rfl) ?_)))
            rintro r_106 w_106 ⟨rfl, hz_106⟩
            refine s_iinc (z := (i + 1)) (ls' := [(0, (2, 41)), (1, (0, f)), (2, (2, (((s f) : Nat) : Int))), (3, (0, m)), (4, (0, (i + 1)))]) dX2_ask_109 4 rfl (Nat.le_of_ble_eq_true rfl) (wr_id (by omega) (by omega)) rfl (s_goto 12 dX2_ask_112 (by decide) ?_)
            exact ih m (i + 1) w_106 (by omega) (by rw [hz_106]; split; exact (hf28.u1 (by decide)).u1 (by decide); exact hf28) (by rw [hz_106]; split; exact h628; exact h628) (by rw [jdL_s hi.1, ← hJ, jd1_bar (by omega) (by omega), hz_106, ← e41]; by_cases c9 : w_28 41 4 = -1; (rw [if_pos c9, if_pos c9]; rfl); (rw [if_neg c9, if_neg c9])) (by omega)
          · refine s_lookup (off := 28) 72 dX2_ask_44 (by decide) (by rw [c_44] <;> rfl) (by decide) ?_
            refine s_iload_n dX2_ask_72 3 rfl (s_aload_n dX2_ask_73 2 rfl (refb_nat (s f)) (n_invV (as := []) dX2_ask_74 kv_X6_value ml_X2_109 (c_X_value (s f) hsc w_28) (by decide) (s f) cf_X6 rfl (shS hsc) rfl rfl rfl (Nat.le_of_ble_eq_true rfl) (n_invS (as := [(0, m), (0, (w_28 (s f + 4) 0))]) dX2_ask_77 kv_J9_max_7cf53 ml_X2_113 (j_maxI m (w_28 (s f + 4) 0) w_28) (by decide) rfl rfl (Nat.le_of_ble_eq_true rfl) (s_istore_n (ls' := [(0, (2, 41)), (1, (0, f)), (2, (2, (((s f) : Nat) : Int))), (3, (0, (mxL m (w_28 (s f + 4) 0)))), (4, (0, i))]) dX2_ask_80 (Nat.le_of_ble_eq_true rfl) rfl (s_goto 109 dX2_ask_81 (by decide) (s_iinc (z := (i + 1)) (ls' := [(0, (2, 41)), (1, (0, f)), (2, (2, (((s f) : Nat) : Int))), (3, (0, (mxL m (w_28 (s f + 4) 0)))), (4, (0, (i + 1)))]) dX2_ask_109 4 rfl (Nat.le_of_ble_eq_true rfl) (wr_id (by omega) (by omega)) rfl (s_goto 12 dX2_ask_112 (by decide) ?_)))))))
            exact ih (mxL m (w_28 (s f + 4) 0)) (i + 1) w_28 (by omega) hf28 h628 (by rw [jdL_s hi.1, ← hJ, jd1_fee (by omega) (by omega), hva (by omega), e41]) (by omega)
          · refine s_lookup (off := 40) 84 dX2_ask_44 (by decide) (by rw [c_44] <;> rfl) (by decide) ?_
            refine s_aload_n dX2_ask_84 0 rfl rfl (s_aload_n dX2_ask_85 0 rfl rfl (n_getf 41 7 0 dX2_ask_86 cf_X2 ff_X2_47 rfl sh_41 rfl (by decide) (v := (w_28 41 7)) rfl (s_aload_n dX2_ask_89 2 rfl (refb_nat (s f)) (n_invV (as := []) dX2_ask_90 kv_X6_value ml_X2_109 (c_X_value (s f) hsc w_28) (by decide) (s f) cf_X6 rfl (shS hsc) rfl rfl rfl (Nat.le_of_ble_eq_true rfl) (n_invS (as := [(0, (w_28 41 7)), (0, (w_28 (s f + 4) 0))]) dX2_ask_93 kv_J9_max_7cf53 ml_X2_113 (j_maxI (w_28 41 7) (w_28 (s f + 4) 0) w_28) (by decide) rfl rfl (Nat.le_of_ble_eq_true rfl) (n_putf 41 7 7 dX2_ask_96 cf_X2 ff_X2_47 rfl rfl sh_41 rfl rfl rfl (s_goto 109 dX2_ask_99 (by decide) (s_iinc (z := (i + 1)) (ls' := [(0, (2, 41)), (1, (0, f)), (2, (2, (((s f) : Nat) : Int))), (3, (0, m)), (4, (0, (i + 1)))]) dX2_ask_109 4 rfl (Nat.le_of_ble_eq_true rfl) (wr_id (by omega) (by omega)) rfl (s_goto 12 dX2_ask_112 (by decide) ?_)))))))))
            exact ih m (i + 1) (wu w_28 41 7 (mxL (w_28 41 7) (w_28 (s f + 4) 0))) (by omega) (hf28.u1 (by decide)) h628 (by rw [jdL_s hi.1, ← hJ, jd1_keep (by omega) (by omega), wu_same, hva (by omega), e41]; show (w_28 41 4, w_28 41 5, m, _) = _; rw [e41]) (by omega)
        · skip
          refine s_goto 109 dX2_ask_34 (by decide) (s_iinc (z := (i + 1)) (ls' := [(0, (2, 41)), (1, (0, f)), (2, (2, (((s f) : Nat) : Int))), (3, (0, m)), (4, (0, (i + 1)))]) dX2_ask_109 4 rfl (Nat.le_of_ble_eq_true rfl) (wr_id (by omega) (by omega)) rfl (s_goto 12 dX2_ask_112 (by decide) ?_))
          exact ih m (i + 1) w_28 (by omega) hf28 h628 (by rw [jdL_s hi.1, ← hJ, jd1_no (by omega), e41]) (by omega)
  refine s_aload_n dX2_ask_0 0 rfl rfl (n_getc (q := 42) 41 2 52 dX2_ask_1 cf_X2 ff_X2_11 rfl sh_41 rfl (by decide) rfl (by decide) (s_iload_n dX2_ask_4 1 rfl ?_))
  refine n_aald5 42 dX2_ask_5 rfl sh_42 (by decide) ⟨by omega, by omega⟩ (hs.1 f hf.1 hf.2).2.1 ?_
  refine s_astore_n (ls' := [(0, (2, 41)), (1, (0, f)), (2, (2, (((s f) : Nat) : Int)))]) dX2_ask_6 (Nat.le_of_ble_eq_true rfl) (refb_nat (s f)) rfl (s_iconst dX2_ask_7 (by decide) (s_istore_n (ls' := [(0, (2, 41)), (1, (0, f)), (2, (2, (((s f) : Nat) : Int))), (3, (0, 0))]) dX2_ask_8 (Nat.le_of_ble_eq_true rfl) rfl (s_iconst dX2_ask_9 (by decide) (s_istore (ls' := [(0, (2, 41)), (1, (0, f)), (2, (2, (((s f) : Nat) : Int))), (3, (0, 0)), (4, (0, 0))]) dX2_ask_10 (Nat.le_of_ble_eq_true rfl) rfl ?_))))
  exact L_12 _ 0 0 w (by omega) FrJ.rf rfl rfl (Nat.lt_succ_self _)
