/-! LINES, ASKED. -/
/-- line i of firm f stands in the reference's tables -/
def lnM (w : Wd) (f i : Int) (q : Lin) : Prop := ∃ a : Int, 0 ≤ a ∧ w 171 (21 * f + i) = a ∧ w 172 (20 * f + i) = a + q.2.1.length ∧ w 171 (21 * f + i + 1) = a + q.2.1.length + q.2.2.length ∧ a + q.2.1.length + q.2.2.length ≤ 610 ∧ stA w f a q.2.1 ∧ stA w f (a + q.2.1.length) q.2.2 ∧ w 170 (20 * f + i) = q.1
/-- line i of n stands in the script s of the class -/
def lnX (w : Wd) (s : Nat) (i n : Int) (q : Lin) : Prop := ∃ a : Int, 0 ≤ a ∧ w (s + 3) i = a ∧ a + (cdL q).length ≤ 640 ∧ (∀ j : Nat, j < (cdL q).length → w (s + 1) (a + j) = (cdL q).getD j 0) ∧ (i + 1 < n → w (s + 3) (i + 1) = a + (cdL q).length) ∧ (i + 1 = n → w s 1 = a + (cdL q).length) ∧ w (s + 2) i = 256 + q.1
theorem okL_600 {L : List Stq} {h h' : Nat} (hh : okL 40 L h h') : okL 600 L h h' := okL_le (by decide) L hh
def SoQ (F : Int → Int) (q : Lin) (z : Int) : Prop := (soL F q ∧ z = 1) ∨ (¬ soL F q ∧ z = 0)
theorem SoQ_01 {F : Int → Int} {q : Lin} {z : Int} (h : SoQ F q z) : z = 0 ∨ z = 1 := by
  rcases h with h | h
  · exact Or.inr h.2
  · exact Or.inl h.2

set_option maxRecDepth 100000 in
theorem c_M_isSo (f i : Int) (q : Lin) (w : Wd) (hf : 0 ≤ f ∧ f < 3) (hi : 0 ≤ i ∧ i < 20) (hq : lnM w f i q) (ho : okLin q) : CallN 3 mX12_isSo [(2, 141), (0, f), (0, i)] w (RQ (fun z w1 => (∀ c, c ≠ 179 → w1 c = w c) ∧ SoQ (w 180) q z)) := by
  refine CallN.intro (by decide +kernel) (Nat.le_of_ble_eq_true rfl) (fun ρ hR => ?_)
  show AtN mX12_isSo 3 ρ 0 [(0, (2, 141)), (1, (0, f)), (2, (0, i))] [] w
  obtain ⟨a, a0, a1, a2, a3, a4, a5, a6, a7⟩ := hq
  have o1 := ho.1
  refine s_aload_n dX12_isSo_0 0 rfl rfl (n_getc (q := 172) 141 40 182 dX12_isSo_1 cf_X12 ff_X12_101 rfl sh_141 rfl (by decide) rfl (by decide) (s_bipush dX12_isSo_4 (by decide) (s_iload_n dX12_isSo_6 1 rfl (n_mul (z := (20 * f)) dX12_isSo_7 (wr_id (by omega) (by omega)) (s_iload_n dX12_isSo_8 2 rfl (n_add (z := ((20 * f) + i)) dX12_isSo_9 (wr_id (by omega) (by omega)) (n_iald 172 dX12_isSo_10 rfl sh_172 (by decide) ⟨(by omega), (by omega)⟩ (v := (w 172 ((20 * f) + i))) rfl (s_istore_n (ls' := [(0, (2, 141)), (1, (0, f)), (2, (0, i)), (3, (0, (w 172 ((20 * f) + i))))]) dX12_isSo_11 (Nat.le_of_ble_eq_true rfl) rfl (s_aload_n dX12_isSo_12 0 rfl rfl ?_)))))))))
  refine n_getc (q := 171) 141 39 181 dX12_isSo_13 cf_X12 ff_X12_98 rfl sh_141 rfl (by decide) rfl (by decide) (s_bipush dX12_isSo_16 (by decide) (s_iload_n dX12_isSo_18 1 rfl (n_mul (z := (21 * f)) dX12_isSo_19 (wr_id (by omega) (by omega)) (s_iload_n dX12_isSo_20 2 rfl (n_add (z := ((21 * f) + i)) dX12_isSo_21 (wr_id (by omega) (by omega)) (s_iconst dX12_isSo_22 (by decide) (n_add (z := (((21 * f) + i) + 1)) dX12_isSo_23 (wr_id (by omega) (by omega)) (n_iald 171 dX12_isSo_24 rfl sh_171 (by decide) ⟨(by omega), (by omega)⟩ (v := (w 171 (((21 * f) + i) + 1))) rfl (s_istore (ls' := [(0, (2, 141)), (1, (0, f)), (2, (0, i)), (3, (0, (w 172 ((20 * f) + i)))), (4, (0, (w 171 (((21 * f) + i) + 1))))]) dX12_isSo_25 (Nat.le_of_ble_eq_true rfl) rfl ?_)))))))))
  refine s_iload_n dX12_isSo_27 3 rfl (s_iload dX12_isSo_28 4 rfl (s_icmp_eq 45 dX12_isSo_30 (by decide) (fun c_30 => ?_) (fun c_30 => ?_)))
  · skip
    refine s_iconst dX12_isSo_45 (by decide) (s_goto 50 dX12_isSo_46 (by decide) (n_zret dX12_isSo_50 hR rfl (by first | exact Or.inl rfl | exact Or.inr rfl | exact bi_01 _ | omega) ?_))
    refine ⟨_, rfl, fun _ _ => rfl, Or.inl ⟨Or.inl (List.length_eq_zero_iff.mp (by omega)), rfl⟩⟩
  · skip
    have hC : q.2.2 ≠ [] := fun z => by rw [z] at a3; simp only [List.length_nil] at a3; omega
    refine s_aload_n dX12_isSo_33 0 rfl rfl (s_iload_n dX12_isSo_34 1 rfl (s_iload_n dX12_isSo_35 3 rfl (s_iload dX12_isSo_36 4 rfl (n_invV' (as := [(0, f), (0, (w 172 ((20 * f) + i))), (0, (w 171 (((21 * f) + i) + 1)))]) dX12_isSo_38 kv_X12_comesTo ml_X12_402 (c_M_comesTo f (w 172 ((20 * f) + i)) (w 171 (((21 * f) + i) + 1)) q.2.2 w hf (by omega) (by omega) (by omega) (by rw [a2]; exact a6) (okL_600 (ho.2.2.2 hC).1)) (by decide) 141 cf_X12 rfl sh_141 rfl rfl rfl (Nat.le_of_ble_eq_true rfl) ?_))))
    rintro r_38 w_38 ⟨z_38, rfl, hw, hz⟩
    show AtN _ _ ρ _ _ [(0, z_38)] w_38
    refine s_iconst dX12_isSo_41 (by decide) (s_icmp_ne 49 dX12_isSo_42 (by decide) (fun c_42 => ?_) (fun c_42 => ?_))
    · skip
      refine s_iconst dX12_isSo_49 (by decide) (n_zret dX12_isSo_50 hR rfl (by first | exact Or.inl rfl | exact Or.inr rfl | exact bi_01 _ | omega) ?_)
      refine ⟨_, rfl, hw, Or.inr ⟨fun z => z.elim hC (fun z2 => by omega), rfl⟩⟩
    · skip
      refine s_iconst dX12_isSo_45 (by decide) (s_goto 50 dX12_isSo_46 (by decide) (n_zret dX12_isSo_50 hR rfl (by first | exact Or.inl rfl | exact Or.inr rfl | exact bi_01 _ | omega) ?_))
      refine ⟨_, rfl, hw, Or.inl ⟨Or.inr (by omega), rfl⟩⟩

set_option maxRecDepth 100000 in
theorem c_M_numberOf (f i : Int) (q : Lin) (w : Wd) (hf : 0 ≤ f ∧ f < 3) (hi : 0 ≤ i ∧ i < 20) (hq : lnM w f i q) (ho : okLin q) (hk : q.1 ≠ 0) : CallN 3 mX12_numberOf [(2, 141), (0, f), (0, i)] w (RQ (fun z w1 => (∀ c, c ≠ 179 → w1 c = w c) ∧ z = vaL (w 180) q.2.1)) := by
  refine CallN.intro (by decide +kernel) (Nat.le_of_ble_eq_true rfl) (fun ρ hR => ?_)
  show AtN mX12_numberOf 3 ρ 0 [(0, (2, 141)), (1, (0, f)), (2, (0, i))] [] w
  obtain ⟨a, a0, a1, a2, a3, a4, a5, a6, a7⟩ := hq
  have o1 := ho.1
  refine s_aload_n dX12_numberOf_0 0 rfl rfl (s_iload_n dX12_numberOf_1 1 rfl (s_aload_n dX12_numberOf_2 0 rfl rfl (n_getc (q := 171) 141 39 181 dX12_numberOf_3 cf_X12 ff_X12_98 rfl sh_141 rfl (by decide) rfl (by decide) (s_bipush dX12_numberOf_6 (by decide) (s_iload_n dX12_numberOf_8 1 rfl (n_mul (z := (21 * f)) dX12_numberOf_9 (wr_id (by omega) (by omega)) (s_iload_n dX12_numberOf_10 2 rfl (n_add (z := ((21 * f) + i)) dX12_numberOf_11 (wr_id (by omega) (by omega)) (n_iald 171 dX12_numberOf_12 rfl sh_171 (by decide) ⟨(by omega), (by omega)⟩ (v := (w 171 ((21 * f) + i))) rfl ?_)))))))))
  refine s_aload_n dX12_numberOf_13 0 rfl rfl (n_getc (q := 172) 141 40 182 dX12_numberOf_14 cf_X12 ff_X12_101 rfl sh_141 rfl (by decide) rfl (by decide) (s_bipush dX12_numberOf_17 (by decide) (s_iload_n dX12_numberOf_19 1 rfl (n_mul (z := (20 * f)) dX12_numberOf_20 (wr_id (by omega) (by omega)) (s_iload_n dX12_numberOf_21 2 rfl (n_add (z := ((20 * f) + i)) dX12_numberOf_22 (wr_id (by omega) (by omega)) (n_iald 172 dX12_numberOf_23 rfl sh_172 (by decide) ⟨(by omega), (by omega)⟩ (v := (w 172 ((20 * f) + i))) rfl (n_invV' (as := [(0, f), (0, (w 171 ((21 * f) + i))), (0, (w 172 ((20 * f) + i)))]) dX12_numberOf_24 kv_X12_comesTo ml_X12_402 (c_M_comesTo f (w 171 ((21 * f) + i)) (w 172 ((20 * f) + i)) q.2.1 w hf (by omega) (by omega) (by omega) (by rw [a1]; exact a5) (okL_600 (ho.2.2.1 hk))) (by decide) 141 cf_X12 rfl sh_141 rfl rfl rfl (Nat.le_of_ble_eq_true rfl) ?_))))))))
  rintro r_24 w_24 ⟨z_24, rfl, hw, hz⟩
  show AtN _ _ ρ _ _ [(0, z_24)] w_24
  refine n_iret dX12_numberOf_27 hR rfl ?_
  exact ⟨_, rfl, hw, hz⟩

set_option maxRecDepth 100000 in
set_option maxHeartbeats 2000000 in
theorem c_X_isSo (i n : Int) (q : Lin) (F : Int → Int) (s : Nat) (hs : IsSc s) (w : Wd) (hn : w s 4 = n) (hi : 0 ≤ i ∧ i < n ∧ n ≤ 20) (hq : lnX w s i n q) (ho : okLin q) (hG : ∀ j, 0 ≤ j → j ≤ 9 → w 43 j = F (j + 1)) : CallN 3 mX6_isSo [(2, ((s : Nat) : Int)), (0, i), (2, 43)] w (RQ (fun z w1 => (∀ c, c ≠ s + 4 → w1 c = w c) ∧ SoQ F q z ∧ (q.1 ≠ 0 → w1 (s + 4) 0 = vaL F q.2.1))) := by
  refine CallN.intro (by decide +kernel) (Nat.le_of_ble_eq_true rfl) (fun ρ hR => ?_)
  show AtN mX6_isSo 3 ρ 0 [(0, (2, ((s : Nat) : Int))), (1, (0, i)), (2, (2, 43))] [] w
  obtain ⟨a, a0, a1, a2, a3, a4, a5, a6⟩ := hq
  obtain ⟨vv, cc, x1, x2, x3, hOk⟩ := cdL_ev hG ho
  have L_37 : ∀ (fu : Nat) (to : Int) (hi9 : Int) (j : Int) (v9 : Wd) (R : List Int) (st : List Int), to = j + R.length → 0 ≤ j → to ≤ 640 → (∀ c, c ≠ s + 4 → v9 c = w c) → (∀ k : Nat, k < R.length → w (s + 1) (j + k) = R.getD k 0) → okX R st.length → xvL (w 43) R st = xvL (w 43) (cdL q) [] → hi9 = st.length → PIL v9 (s + 4) st → st.length ≤ 64 → R.length < fu → AtN mX6_isSo 3 ρ 37 [(0, (2, ((s : Nat) : Int))), (2, (2, 43)), (3, (0, to)), (4, (0, hi9)), (5, (0, j))] [] v9 := by
    intro fu
    induction fu with
    | zero => intro to hi9 j v9 R st hto hj h64 hw hRR hO hE ht hP hst hm; exact absurd hm (Nat.not_lt_zero _)
    | succ fu ih =>
      intro to hi9 j v9 R st hto hj h64 hw hRR hO hE ht hP hst hm
      refine s_iload dX6_isSo_37 4 rfl (s_iload_n dX6_isSo_39 2 rfl (s_icmp_ge 186 dX6_isSo_40 (by decide) (fun c_40 => ?_) (fun c_40 => ?_)))
      · skip
        refine s_aload_n dX6_isSo_186 0 rfl (refb_nat s) (n_getc (q := (((s + 4) : Nat) : Int)) s 5 1004 dX6_isSo_187 cf_X6 ff_X6_21 rfl (shS hs) rfl (by decide) rfl (sc_lt hs 4 (by decide)) (s_iconst dX6_isSo_190 (by decide) (n_iald (s + 4) dX6_isSo_191 rfl (shS4 hs) (by decide) (by decide) (v := (v9 (s + 4) 1)) rfl (s_if_eq 199 dX6_isSo_192 (by decide) (fun c_192 => ?_) (fun c_192 => ?_)))))
        · skip
          refine s_iconst dX6_isSo_199 (by decide) (n_zret dX6_isSo_200 hR rfl (by first | exact Or.inl rfl | exact Or.inr rfl | exact bi_01 _ | omega) ?_)
          have eR : R = [] := by
            cases R with
            | nil => rfl
            | cons p R1 => exfalso; simp only [List.length_cons] at hto; omega
          subst eR
          have e5 : st = [cc, vv] := by rw [← x1]; exact hE
          subst e5
          have htp : v9 (s + 4) 1 = cc := PIL_top (n := 1) hP rfl
          have htq : v9 (s + 4) 0 = vv := PIL_top (n := 0) (PIL_low hP) rfl
          refine ⟨_, rfl, hw, ?_, fun z => by rw [htq]; exact x3 z⟩
          first
          | exact Or.inl ⟨x2.mp (by omega), rfl⟩
          | exact Or.inr ⟨fun z => absurd (x2.mpr z) (by omega), rfl⟩
        · skip
          refine s_iconst dX6_isSo_195 (by decide) (s_goto 200 dX6_isSo_196 (by decide) (n_zret dX6_isSo_200 hR rfl (by first | exact Or.inl rfl | exact Or.inr rfl | exact bi_01 _ | omega) ?_))
          have eR : R = [] := by
            cases R with
            | nil => rfl
            | cons p R1 => exfalso; simp only [List.length_cons] at hto; omega
          subst eR
          have e5 : st = [cc, vv] := by rw [← x1]; exact hE
          subst e5
          have htp : v9 (s + 4) 1 = cc := PIL_top (n := 1) hP rfl
          have htq : v9 (s + 4) 0 = vv := PIL_top (n := 0) (PIL_low hP) rfl
          refine ⟨_, rfl, hw, ?_, fun z => by rw [htq]; exact x3 z⟩
          first
          | exact Or.inl ⟨x2.mp (by omega), rfl⟩
          | exact Or.inr ⟨fun z => absurd (x2.mpr z) (by omega), rfl⟩
      · skip
        obtain ⟨p, R1, eR⟩ : ∃ p R1, R = p :: R1 := by
          cases R with
          | nil => exfalso; simp only [List.length_nil] at hto; omega
          | cons p R1 => exact ⟨_, _, rfl⟩
        subst eR
        have hto2 := hto
        simp only [List.length_cons] at hto2
        have hp9 : v9 (s + 1) j = p := by
          rw [hw (s + 1) (by omega)]
          have := hRR 0 (by simp)
          rw [show j + ((0 : Nat) : Int) = j by omega] at this
          exact this
        have hR1 : ∀ k : Nat, k < R1.length → w (s + 1) (j + 1 + k) = R1.getD k 0 := fun k hk => by
          have := hRR (k + 1) (by simp; exact hk)
          rw [show j + ((k + 1 : Nat) : Int) = j + 1 + k by omega] at this
          exact this
        have hO2 := hO
        rw [okX] at hO2
        have hF : v9 43 = w 43 := hw 43 (by have := sc_lt hs 4 (by decide); rcases hs with e | e | e | e <;> omega)
        refine s_aload_n dX6_isSo_43 0 rfl (refb_nat s) (n_getc (q := (((s + 1) : Nat) : Int)) s 0 1001 dX6_isSo_44 cf_X6 ff_X6_11 rfl (shS hs) rfl (by decide) rfl (sc_lt hs 1 (by decide)) (s_iload dX6_isSo_47 4 rfl (n_iald (s + 1) dX6_isSo_49 rfl (shS1 hs) (by decide) ⟨(by omega), (by omega)⟩ (v := (v9 (s + 1) j)) rfl (s_istore (ls' := [(0, (2, ((s : Nat) : Int))), (2, (2, 43)), (3, (0, to)), (4, (0, hi9)), (5, (0, j)), (6, (0, (v9 (s + 1) j)))]) dX6_isSo_50 (Nat.le_of_ble_eq_true rfl) rfl (s_iload dX6_isSo_52 5 rfl (s_sipush dX6_isSo_54 (by decide) (s_icmp_lt 105 dX6_isSo_57 (by decide) (fun c_57 => ?_) (fun c_57 => ?_))))))))
        · skip
          refine s_iload dX6_isSo_105 5 rfl (s_sipush dX6_isSo_107 (by decide) (s_icmp_ne 141 dX6_isSo_110 (by decide) (fun c_110 => ?_) (fun c_110 => ?_)))
          · skip
            refine s_iload dX6_isSo_141 3 rfl (s_iconst dX6_isSo_143 (by decide) (s_icmp_le 180 dX6_isSo_144 (by decide) (fun c_144 => ?_) (fun c_144 => ?_)))
            · skip
              exfalso
              rw [if_neg (by omega), if_neg (by omega)] at hO2
              omega
            · skip
              rw [if_neg (by omega), if_neg (by omega)] at hO2
              obtain ⟨y9, x9, r9, es⟩ : ∃ y9 x9 r9, st = y9 :: x9 :: r9 := by
                match st, hO2 with
                | y9 :: x9 :: r9, _ => exact ⟨_, _, _, rfl⟩
                | [x9], h => have := h.1.2; simp at this
                | [], h => have := h.1.2; simp at this
              subst es
              have hst2 := hst
              simp only [List.length_cons] at ht hst2
              have htp := PIL_top (n := hi9 + -1) hP (by simp only [List.length_cons]; omega)
              have htq := PIL_top (n := hi9 + -1 - 1) (PIL_low hP) (by omega)
              refine s_iinc (z := (hi9 + (-1))) (ls' := [(0, (2, ((s : Nat) : Int))), (2, (2, 43)), (3, (0, to)), (4, (0, (hi9 + (-1)))), (5, (0, j)), (6, (0, (v9 (s + 1) j)))]) dX6_isSo_147 3 rfl (Nat.le_of_ble_eq_true rfl) (wr_id (by omega) (by omega)) rfl (s_aload_n dX6_isSo_150 0 rfl (refb_nat s) (n_getc (q := (((s + 4) : Nat) : Int)) s 5 1004 dX6_isSo_151 cf_X6 ff_X6_21 rfl (shS hs) rfl (by decide) rfl (sc_lt hs 4 (by decide)) (s_iload dX6_isSo_154 3 rfl (s_iconst dX6_isSo_156 (by decide) (n_sub (z := ((hi9 + (-1)) - 1)) dX6_isSo_157 (wr_id (by omega) (by omega)) (s_iload dX6_isSo_158 5 rfl (s_aload_n dX6_isSo_160 0 rfl (refb_nat s) (n_getc (q := (((s + 4) : Nat) : Int)) s 5 1004 dX6_isSo_161 cf_X6 ff_X6_21 rfl (shS hs) rfl (by decide) rfl (sc_lt hs 4 (by decide)) (s_iload dX6_isSo_164 3 rfl ?_)))))))))
              refine s_iconst dX6_isSo_166 (by decide) (n_sub (z := ((hi9 + (-1)) - 1)) dX6_isSo_167 (wr_id (by omega) (by omega)) (n_iald (s + 4) dX6_isSo_168 rfl (shS4 hs) (by decide) ⟨(by omega), (by omega)⟩ (v := (v9 (s + 4) ((hi9 + (-1)) - 1))) rfl (s_aload_n dX6_isSo_169 0 rfl (refb_nat s) (n_getc (q := (((s + 4) : Nat) : Int)) s 5 1004 dX6_isSo_170 cf_X6 ff_X6_21 rfl (shS hs) rfl (by decide) rfl (sc_lt hs 4 (by decide)) (s_iload dX6_isSo_173 3 rfl (n_iald (s + 4) dX6_isSo_175 rfl (shS4 hs) (by decide) ⟨(by omega), (by omega)⟩ (v := (v9 (s + 4) (hi9 + (-1)))) rfl (n_invS (as := [(0, (v9 (s + 1) j)), (0, (v9 (s + 4) ((hi9 + (-1)) - 1))), (0, (v9 (s + 4) (hi9 + (-1))))]) dX6_isSo_176 kv_X6_join ml_X6_31 (c_X_join (v9 (s + 1) j) (v9 (s + 4) ((hi9 + (-1)) - 1)) (v9 (s + 4) (hi9 + (-1))) v9) (by decide) rfl rfl (Nat.le_of_ble_eq_true rfl) ?_)))))))
              have e1 : xv1 (w 43) p (y9 :: x9 :: r9) = ((jnX (v9 (s + 1) j) (v9 (s + 4) ((hi9 + (-1)) - 1)) (v9 (s + 4) (hi9 + (-1))))) :: r9 := by
                unfold xv1
                rw [if_neg (by omega), if_neg (by omega)]
                show jnX p x9 y9 :: r9 = _
                rw [htp, htq, hp9]
              have hO3 : okX R1 (xv1 (w 43) p (y9 :: x9 :: r9)).length := by rw [e1]; exact hO2.2
              have hP1 := PIL_set (x := (jnX (v9 (s + 1) j) (v9 (s + 4) ((hi9 + (-1)) - 1)) (v9 (s + 4) (hi9 + (-1))))) (n := hi9 + -1 - 1) (PIL_low (PIL_low hP)) (by omega)
              refine s_iastore (s + 4) dX6_isSo_179 rfl (shS4 hs) (by decide) ⟨(by omega), (by omega)⟩ (s_iinc (z := (j + 1)) (ls' := [(0, (2, ((s : Nat) : Int))), (2, (2, 43)), (3, (0, to)), (4, (0, (hi9 + (-1)))), (5, (0, (j + 1))), (6, (0, (v9 (s + 1) j)))]) dX6_isSo_180 4 rfl (Nat.le_of_ble_eq_true rfl) (wr_id (by omega) (by omega)) rfl (s_goto 37 dX6_isSo_183 (by decide) ?_))
              exact At.keep (ls' := [(0, (2, ((s : Nat) : Int))), (2, (2, 43)), (3, (0, to)), (4, (0, (hi9 + (-1)))), (5, (0, (j + 1)))]) [0, 1, 2, 3, 4] rfl (ih to (hi9 + (-1)) (j + 1) (wu v9 (s + 4) ((hi9 + (-1)) - 1) (jnX (v9 (s + 1) j) (v9 (s + 4) ((hi9 + (-1)) - 1)) (v9 (s + 4) (hi9 + (-1))))) R1 (xv1 (w 43) p (y9 :: x9 :: r9)) (by simp only [List.length_cons] at hto; omega) (by omega) (by omega) (fun c a => by rw [wu_ne a]; exact hw c a) hR1 hO3 hE (by rw [e1]; simp only [List.length_cons]; omega) (by rw [e1]; exact hP1) (by rw [e1]; simp only [List.length_cons]; omega) (by simp only [List.length_cons] at hm; omega))
          · skip
            refine s_iload dX6_isSo_113 3 rfl (s_if_le 141 dX6_isSo_115 (by decide) (fun c_115 => ?_) (fun c_115 => ?_))
            · skip
              exfalso
              rw [if_neg (by omega), if_pos (by omega)] at hO2
              omega
            · skip
              rw [if_neg (by omega), if_pos (by omega)] at hO2
              obtain ⟨x9, r9, es⟩ : ∃ x9 r9, st = x9 :: r9 := by
                cases st with
                | nil => exfalso; have := hO2.1; simp at this
                | cons x9 r9 => exact ⟨_, _, rfl⟩
              subst es
              have hst2 := hst
              simp only [List.length_cons] at ht hst2
              have htp := PIL_top (n := hi9 - 1) hP (by omega)
              refine s_aload_n dX6_isSo_118 0 rfl (refb_nat s) (n_getc (q := (((s + 4) : Nat) : Int)) s 5 1004 dX6_isSo_119 cf_X6 ff_X6_21 rfl (shS hs) rfl (by decide) rfl (sc_lt hs 4 (by decide)) (s_iload dX6_isSo_122 3 rfl (s_iconst dX6_isSo_124 (by decide) (n_sub (z := (hi9 - 1)) dX6_isSo_125 (wr_id (by omega) (by omega)) (s_iconst dX6_isSo_126 (by decide) (s_aload_n dX6_isSo_127 0 rfl (refb_nat s) (n_getc (q := (((s + 4) : Nat) : Int)) s 5 1004 dX6_isSo_128 cf_X6 ff_X6_21 rfl (shS hs) rfl (by decide) rfl (sc_lt hs 4 (by decide)) (s_iload dX6_isSo_131 3 rfl (s_iconst dX6_isSo_133 (by decide) ?_)))))))))
              refine n_sub (z := (hi9 - 1)) dX6_isSo_134 (wr_id (by omega) (by omega)) (n_iald (s + 4) dX6_isSo_135 rfl (shS4 hs) (by decide) ⟨(by omega), (by omega)⟩ (v := (v9 (s + 4) (hi9 - 1))) rfl (n_sub (z := (wr (1 - (v9 (s + 4) (hi9 - 1))))) dX6_isSo_136 rfl ?_))
              have e1 : xv1 (w 43) p (x9 :: r9) = ((wr (1 - (v9 (s + 4) (hi9 - 1))))) :: r9 := by
                unfold xv1
                rw [if_neg (by omega), if_pos ⟨by omega, by simp⟩, htp]
              have hO3 : okX R1 (xv1 (w 43) p (x9 :: r9)).length := by rw [e1]; exact hO2.2
              have hP1 := PIL_set (x := (wr (1 - (v9 (s + 4) (hi9 - 1))))) (n := hi9 - 1) (PIL_low hP) (by omega)
              refine s_iastore (s + 4) dX6_isSo_137 rfl (shS4 hs) (by decide) ⟨(by omega), (by omega)⟩ (s_goto 180 dX6_isSo_138 (by decide) (s_iinc (z := (j + 1)) (ls' := [(0, (2, ((s : Nat) : Int))), (2, (2, 43)), (3, (0, to)), (4, (0, hi9)), (5, (0, (j + 1))), (6, (0, (v9 (s + 1) j)))]) dX6_isSo_180 4 rfl (Nat.le_of_ble_eq_true rfl) (wr_id (by omega) (by omega)) rfl (s_goto 37 dX6_isSo_183 (by decide) ?_)))
              exact At.keep (ls' := [(0, (2, ((s : Nat) : Int))), (2, (2, 43)), (3, (0, to)), (4, (0, hi9)), (5, (0, (j + 1)))]) [0, 1, 2, 3, 4] rfl (ih to hi9 (j + 1) (wu v9 (s + 4) (hi9 - 1) (wr (1 - (v9 (s + 4) (hi9 - 1))))) R1 (xv1 (w 43) p (x9 :: r9)) (by simp only [List.length_cons] at hto; omega) (by omega) (by omega) (fun c a => by rw [wu_ne a]; exact hw c a) hR1 hO3 hE (by rw [e1]; simp only [List.length_cons]; omega) (by rw [e1]; exact hP1) (by rw [e1]; simp only [List.length_cons]; omega) (by simp only [List.length_cons] at hm; omega))
        · skip
          rw [if_pos (by omega)] at hO2
          refine s_iload dX6_isSo_60 3 rfl (s_bipush dX6_isSo_62 (by decide) (s_icmp_ge 105 dX6_isSo_64 (by decide) (fun c_64 => ?_) (fun c_64 => ?_)))
          · skip
            exfalso
            omega
          · skip
            refine s_aload_n dX6_isSo_67 0 rfl (refb_nat s) (n_getc (q := (((s + 4) : Nat) : Int)) s 5 1004 dX6_isSo_68 cf_X6 ff_X6_21 rfl (shS hs) rfl (by decide) rfl (sc_lt hs 4 (by decide)) (s_iload dX6_isSo_71 3 rfl (s_iload dX6_isSo_73 5 rfl (s_sipush dX6_isSo_75 (by decide) (s_icmp_lt 90 dX6_isSo_78 (by decide) (fun c_78 => ?_) (fun c_78 => ?_))))))
            · skip
              refine s_aload_n dX6_isSo_90 1 rfl rfl (s_iload dX6_isSo_91 5 rfl (s_sipush dX6_isSo_93 (by decide) (n_sub (z := ((v9 (s + 1) j) - 263)) dX6_isSo_96 (wr_id (by omega) (by omega)) (n_iald 43 dX6_isSo_97 rfl sh_43 (by decide) ⟨(by omega), (by omega)⟩ (v := (v9 43 ((v9 (s + 1) j) - 263))) rfl ?_))))
              have e1 : xv1 (w 43) p st = ((v9 43 ((v9 (s + 1) j) - 263))) :: st := by
                unfold xv1
                rw [if_pos (by omega)]
                first
                | (rw [if_pos (by omega), hp9]; done)
                | (rw [if_neg (by omega), hp9, hF]; done)
              have hO3 : okX R1 (xv1 (w 43) p st).length := by rw [e1]; exact hO2.2
              have hP1 := PIL_push (x := (v9 43 ((v9 (s + 1) j) - 263))) hP ht
              refine s_iastore (s + 4) dX6_isSo_98 rfl (shS4 hs) (by decide) ⟨(by omega), (by omega)⟩ (s_iinc (z := (hi9 + 1)) (ls' := [(0, (2, ((s : Nat) : Int))), (2, (2, 43)), (3, (0, to)), (4, (0, (hi9 + 1))), (5, (0, j)), (6, (0, (v9 (s + 1) j)))]) dX6_isSo_99 3 rfl (Nat.le_of_ble_eq_true rfl) (wr_id (by omega) (by omega)) rfl (s_goto 180 dX6_isSo_102 (by decide) (s_iinc (z := (j + 1)) (ls' := [(0, (2, ((s : Nat) : Int))), (2, (2, 43)), (3, (0, to)), (4, (0, (hi9 + 1))), (5, (0, (j + 1))), (6, (0, (v9 (s + 1) j)))]) dX6_isSo_180 4 rfl (Nat.le_of_ble_eq_true rfl) (wr_id (by omega) (by omega)) rfl (s_goto 37 dX6_isSo_183 (by decide) ?_))))
              exact At.keep (ls' := [(0, (2, ((s : Nat) : Int))), (2, (2, 43)), (3, (0, to)), (4, (0, (hi9 + 1))), (5, (0, (j + 1)))]) [0, 1, 2, 3, 4] rfl (ih to (hi9 + 1) (j + 1) (wu v9 (s + 4) hi9 (v9 43 ((v9 (s + 1) j) - 263))) R1 (xv1 (w 43) p st) (by simp only [List.length_cons] at hto; omega) (by omega) (by omega) (fun c a => by rw [wu_ne a]; exact hw c a) hR1 hO3 hE (by rw [e1]; simp only [List.length_cons]; omega) (by rw [e1]; exact hP1) (by rw [e1]; simp only [List.length_cons]; omega) (by simp only [List.length_cons] at hm; omega))
            · skip
              refine s_iload dX6_isSo_81 5 rfl (s_sipush dX6_isSo_83 (by decide) (n_sub (z := ((v9 (s + 1) j) - 1000)) dX6_isSo_86 (wr_id (by omega) (by omega)) (s_goto 98 dX6_isSo_87 (by decide) ?_)))
              have e1 : xv1 (w 43) p st = (((v9 (s + 1) j) - 1000)) :: st := by
                unfold xv1
                rw [if_pos (by omega)]
                first
                | (rw [if_pos (by omega), hp9]; done)
                | (rw [if_neg (by omega), hp9, hF]; done)
              have hO3 : okX R1 (xv1 (w 43) p st).length := by rw [e1]; exact hO2.2
              have hP1 := PIL_push (x := ((v9 (s + 1) j) - 1000)) hP ht
              refine s_iastore (s + 4) dX6_isSo_98 rfl (shS4 hs) (by decide) ⟨(by omega), (by omega)⟩ (s_iinc (z := (hi9 + 1)) (ls' := [(0, (2, ((s : Nat) : Int))), (2, (2, 43)), (3, (0, to)), (4, (0, (hi9 + 1))), (5, (0, j)), (6, (0, (v9 (s + 1) j)))]) dX6_isSo_99 3 rfl (Nat.le_of_ble_eq_true rfl) (wr_id (by omega) (by omega)) rfl (s_goto 180 dX6_isSo_102 (by decide) (s_iinc (z := (j + 1)) (ls' := [(0, (2, ((s : Nat) : Int))), (2, (2, 43)), (3, (0, to)), (4, (0, (hi9 + 1))), (5, (0, (j + 1))), (6, (0, (v9 (s + 1) j)))]) dX6_isSo_180 4 rfl (Nat.le_of_ble_eq_true rfl) (wr_id (by omega) (by omega)) rfl (s_goto 37 dX6_isSo_183 (by decide) ?_))))
              exact At.keep (ls' := [(0, (2, ((s : Nat) : Int))), (2, (2, 43)), (3, (0, to)), (4, (0, (hi9 + 1))), (5, (0, (j + 1)))]) [0, 1, 2, 3, 4] rfl (ih to (hi9 + 1) (j + 1) (wu v9 (s + 4) hi9 ((v9 (s + 1) j) - 1000)) R1 (xv1 (w 43) p st) (by simp only [List.length_cons] at hto; omega) (by omega) (by omega) (fun c a => by rw [wu_ne a]; exact hw c a) hR1 hO3 hE (by rw [e1]; simp only [List.length_cons]; omega) (by rw [e1]; exact hP1) (by rw [e1]; simp only [List.length_cons]; omega) (by simp only [List.length_cons] at hm; omega))
  refine s_iload_n dX6_isSo_0 1 rfl (s_iconst dX6_isSo_1 (by decide) (n_add (z := (i + 1)) dX6_isSo_2 (wr_id (by omega) (by omega)) (s_aload_n dX6_isSo_3 0 rfl (refb_nat s) (n_getf s 4 0 dX6_isSo_4 cf_X6 ff_X6_28 rfl (shS hs) rfl (by decide) (v := (w s 4)) rfl (s_icmp_ge 21 dX6_isSo_7 (by decide) (fun c_7 => ?_) (fun c_7 => ?_))))))
  · skip
    refine s_aload_n dX6_isSo_21 0 rfl (refb_nat s) (n_getf s 1 0 dX6_isSo_22 cf_X6 ff_X6_24 rfl (shS hs) rfl (by decide) (v := (w s 1)) rfl (s_istore_n (ls' := [(0, (2, ((s : Nat) : Int))), (1, (0, i)), (2, (2, 43)), (3, (0, (w s 1)))]) dX6_isSo_25 (Nat.le_of_ble_eq_true rfl) rfl (s_iconst dX6_isSo_26 (by decide) (s_istore (ls' := [(0, (2, ((s : Nat) : Int))), (1, (0, i)), (2, (2, 43)), (3, (0, (w s 1))), (4, (0, 0))]) dX6_isSo_27 (Nat.le_of_ble_eq_true rfl) rfl (s_aload_n dX6_isSo_29 0 rfl (refb_nat s) (n_getc (q := (((s + 3) : Nat) : Int)) s 3 1003 dX6_isSo_30 cf_X6 ff_X6_18 rfl (shS hs) rfl (by decide) rfl (sc_lt hs 3 (by decide)) (s_iload_n dX6_isSo_33 1 rfl (n_iald (s + 3) dX6_isSo_34 rfl (shS3 hs) (by decide) ⟨(by omega), (by omega)⟩ (v := (w (s + 3) i)) rfl (s_istore (ls' := [(0, (2, ((s : Nat) : Int))), (1, (0, i)), (2, (2, 43)), (3, (0, (w s 1))), (4, (0, 0)), (5, (0, (w (s + 3) i)))]) dX6_isSo_35 (Nat.le_of_ble_eq_true rfl) rfl ?_)))))))))
    exact At.keep (ls' := [(0, (2, ((s : Nat) : Int))), (2, (2, 43)), (3, (0, (w s 1))), (4, (0, 0)), (5, (0, (w (s + 3) i)))]) [0, 2, 3, 4, 5] rfl (L_37 _ (w s 1) 0 (w (s + 3) i) w (cdL q) ([]) (by omega) (by omega) (by omega) (fun _ _ => rfl) (fun k hk => by rw [a1]; exact a3 k hk) hOk rfl rfl PIL_nil (by simp) (Nat.lt_succ_self _))
  · skip
    refine s_aload_n dX6_isSo_10 0 rfl (refb_nat s) (n_getc (q := (((s + 3) : Nat) : Int)) s 3 1003 dX6_isSo_11 cf_X6 ff_X6_18 rfl (shS hs) rfl (by decide) rfl (sc_lt hs 3 (by decide)) (s_iload_n dX6_isSo_14 1 rfl (s_iconst dX6_isSo_15 (by decide) (n_add (z := (i + 1)) dX6_isSo_16 (wr_id (by omega) (by omega)) (n_iald (s + 3) dX6_isSo_17 rfl (shS3 hs) (by decide) ⟨(by omega), (by omega)⟩ (v := (w (s + 3) (i + 1))) rfl (s_goto 25 dX6_isSo_18 (by decide) (s_istore_n (ls' := [(0, (2, ((s : Nat) : Int))), (1, (0, i)), (2, (2, 43)), (3, (0, (w (s + 3) (i + 1))))]) dX6_isSo_25 (Nat.le_of_ble_eq_true rfl) rfl (s_iconst dX6_isSo_26 (by decide) (s_istore (ls' := [(0, (2, ((s : Nat) : Int))), (1, (0, i)), (2, (2, 43)), (3, (0, (w (s + 3) (i + 1)))), (4, (0, 0))]) dX6_isSo_27 (Nat.le_of_ble_eq_true rfl) rfl ?_)))))))))
    refine s_aload_n dX6_isSo_29 0 rfl (refb_nat s) (n_getc (q := (((s + 3) : Nat) : Int)) s 3 1003 dX6_isSo_30 cf_X6 ff_X6_18 rfl (shS hs) rfl (by decide) rfl (sc_lt hs 3 (by decide)) (s_iload_n dX6_isSo_33 1 rfl (n_iald (s + 3) dX6_isSo_34 rfl (shS3 hs) (by decide) ⟨(by omega), (by omega)⟩ (v := (w (s + 3) i)) rfl (s_istore (ls' := [(0, (2, ((s : Nat) : Int))), (1, (0, i)), (2, (2, 43)), (3, (0, (w (s + 3) (i + 1)))), (4, (0, 0)), (5, (0, (w (s + 3) i)))]) dX6_isSo_35 (Nat.le_of_ble_eq_true rfl) rfl ?_))))
    exact At.keep (ls' := [(0, (2, ((s : Nat) : Int))), (2, (2, 43)), (3, (0, (w (s + 3) (i + 1)))), (4, (0, 0)), (5, (0, (w (s + 3) i)))]) [0, 2, 3, 4, 5] rfl (L_37 _ (w (s + 3) (i + 1)) 0 (w (s + 3) i) w (cdL q) ([]) (by omega) (by omega) (by omega) (fun _ _ => rfl) (fun k hk => by rw [a1]; exact a3 k hk) hOk rfl rfl PIL_nil (by simp) (Nat.lt_succ_self _))

set_option maxRecDepth 100000 in
theorem c_X_value (s : Nat) (hs : IsSc s) (w : Wd) : CallN 1 mX6_value [(2, ((s : Nat) : Int))] w (RV (0, w (s + 4) 0) w) := by
  refine CallN.intro (by decide +kernel) (Nat.le_of_ble_eq_true rfl) (fun ρ hR => ?_)
  show AtN mX6_value 1 ρ 0 [(0, (2, ((s : Nat) : Int)))] [] w
  refine s_aload_n dX6_value_0 0 rfl (refb_nat s) (n_getc (q := (((s + 4) : Nat) : Int)) s 5 1004 dX6_value_1 cf_X6 ff_X6_21 rfl (shS hs) rfl (by decide) rfl (sc_lt hs 4 (by decide)) (s_iconst dX6_value_4 (by decide) (n_iald (s + 4) dX6_value_5 rfl (shS4 hs) (by decide) (by decide) (v := (w (s + 4) 0)) rfl (n_iret dX6_value_6 hR rfl ?_))))
  exact ⟨rfl, rfl⟩
