/-! STAGE, THE REFERENCE, WALKED. -/
/-- only cells 194 to 196 and 200, fields 82 and 85 of the reference are otherwise -/
def FrG (w v : Wd) : Prop := (∀ c, c ≠ 194 → c ≠ 141 → v c = w c) ∧ ∀ j, j ≠ 82 → v 141 j = w 141 j
theorem FrG.rf {w : Wd} : FrG w w := ⟨fun _ _ _ => rfl, fun _ _ => rfl⟩

set_option maxRecDepth 100000 in
theorem c_M_gathers (S n : Int) (w : Wd) (hS : 0 ≤ S ∧ S < 65536) (hn : 0 ≤ n ∧ n ≤ 16) (hc : cdP (mbP S) n.toNat ≤ 9) : CallN 1 mX12_gathers [(2, 141), (0, S), (0, n)] w (RUQ (fun w1 => FrG w w1 ∧ GA w1 S n.toNat)) := by
  refine CallN.intro (by decide +kernel) (Nat.le_of_ble_eq_true rfl) (fun ρ hR => ?_)
  show AtN mX12_gathers 1 ρ 0 [(0, (2, 141)), (1, (0, S)), (2, (0, n))] [] w
  have L_7 : ∀ (fu : Nat) (i : Int) (v9 : Wd), 0 ≤ i ∧ i ≤ n → FrG w v9 → v9 141 82 = ((cdP (mbP S) i.toNat : Nat) : Int) → (∀ j : Nat, j < i.toNat → mbP S j = true → v9 194 ((cdP (mbP S) j : Nat) : Int) = j) → (n - i).toNat < fu → AtN mX12_gathers 1 ρ 7 [(0, (2, 141)), (1, (0, S)), (2, (0, n)), (3, (0, i))] [] v9 := by
    intro fu
    induction fu with
    | zero => intro i v9 hi hf hk he hm; exact absurd hm (Nat.not_lt_zero _)
    | succ fu ih =>
      intro i v9 hi hf hk he hm
      have b01 := bt01 S i
      refine s_iload_n dX12_gathers_7 3 rfl (s_iload_n dX12_gathers_8 2 rfl (s_icmp_ge 49 dX12_gathers_9 (by decide) (fun c_9 => ?_) (fun c_9 => ?_)))
      · skip
        refine n_ret dX12_gathers_49 hR rfl ?_
        have e9 : i = n := by omega
        rw [e9] at hk he
        exact ⟨rfl, hf, hk, he⟩
      · skip
        have hm : bt S i = 1 ↔ mbP S i.toNat = true := mbP_bt hS.1 hS.2 hi.1 (by omega)
        have hlt : mbP S i.toNat = true → cdP (mbP S) i.toNat < cdP (mbP S) n.toNat := fun q => cdP_lt (by omega) q
        refine s_iload_n dX12_gathers_12 1 rfl (s_iload_n dX12_gathers_13 3 rfl (s_ishr dX12_gathers_14 (s_iconst dX12_gathers_15 (by decide) (n_bt dX12_gathers_16 (s_if_ne 23 dX12_gathers_17 (by decide) (fun c_17 => ?_) (fun c_17 => ?_))))))
        · skip
          have hlt2 := hlt (hm.mp (by omega))
          refine s_aload_n dX12_gathers_23 0 rfl rfl (n_getc (q := 194) 141 79 204 dX12_gathers_24 cf_X12 ff_X12_172 rfl sh_141 rfl (by decide) rfl (by decide) (s_aload_n dX12_gathers_27 0 rfl rfl (n_getf 141 82 0 dX12_gathers_28 cf_X12 ff_X12_457 rfl sh_141 rfl (by decide) (v := (v9 141 82)) rfl (s_iload_n dX12_gathers_31 3 rfl (s_iastore 194 dX12_gathers_32 rfl sh_194 (by decide) ⟨(by omega), (by omega)⟩ (s_aload_n dX12_gathers_33 0 rfl rfl (s_dup dX12_gathers_34 (show (2 : Nat) ≠ 1 by decide) (n_getf 141 82 0 dX12_gathers_35 cf_X12 ff_X12_457 rfl sh_141 rfl (by decide) (v := (v9 141 82)) rfl (s_iconst dX12_gathers_38 (by decide) ?_)))))))))
          refine n_add (z := ((v9 141 82) + 1)) dX12_gathers_39 (wr_id (by omega) (by omega)) (n_putf 141 82 82 dX12_gathers_40 cf_X12 ff_X12_457 rfl rfl sh_141 rfl rfl rfl (s_iinc (z := (i + 1)) (ls' := [(0, (2, 141)), (1, (0, S)), (2, (0, n)), (3, (0, (i + 1)))]) dX12_gathers_43 3 rfl (Nat.le_of_ble_eq_true rfl) (wr_id (by omega) (by omega)) rfl (s_goto 7 dX12_gathers_46 (by decide) ?_)))
          exact ih (i + 1) (wu (wu v9 194 (v9 141 82) i) 141 82 ((v9 141 82) + 1)) (by omega) ⟨fun c c1 c2 => by rw [wu_ne c2, wu_ne c1]; exact hf.1 c c1 c2, fun j hj => by rw [wu_at, if_neg hj, wu_ne (by decide)]; exact hf.2 j hj⟩ (by rw [toN_s hi.1, cdP, if_pos (hm.mp (by omega)), wu_same]; omega) (fun j hj hp => by rw [wu_ne (by decide), hk, wu_at]; by_cases e : j = i.toNat; (subst e; rw [if_pos rfl]; omega); (rw [if_neg (by have := cdP_lt (P := mbP S) (a := j) (b := i.toNat) (by omega) hp; omega)]; exact he j (by omega) hp)) (by omega)
        · skip
          refine s_goto 43 dX12_gathers_20 (by decide) (s_iinc (z := (i + 1)) (ls' := [(0, (2, 141)), (1, (0, S)), (2, (0, n)), (3, (0, (i + 1)))]) dX12_gathers_43 3 rfl (Nat.le_of_ble_eq_true rfl) (wr_id (by omega) (by omega)) rfl (s_goto 7 dX12_gathers_46 (by decide) ?_))
          exact ih (i + 1) v9 (by omega) hf (by rw [toN_s hi.1, cdP, if_neg (fun q => by have := hm.mpr q; omega)]; exact hk) (fun j hj hp => by by_cases e : j = i.toNat; (subst e; have := hm.mpr hp; omega); exact he j (by omega) hp) (by omega)
  refine s_aload_n dX12_gathers_0 0 rfl rfl (s_iconst dX12_gathers_1 (by decide) (n_putf 141 82 82 dX12_gathers_2 cf_X12 ff_X12_457 rfl rfl sh_141 rfl rfl rfl (s_iconst dX12_gathers_5 (by decide) (s_istore_n (ls' := [(0, (2, 141)), (1, (0, S)), (2, (0, n)), (3, (0, 0))]) dX12_gathers_6 (Nat.le_of_ble_eq_true rfl) rfl ?_))))
  exact L_7 _ 0 (wu w 141 82 0) (by omega) ⟨fun c _ c2 => wu_ne c2, fun j hj => by rw [wu_at, if_neg hj]⟩ rfl (fun j hj => absurd hj (by omega)) (Nat.lt_succ_self _)

set_option maxRecDepth 100000 in
theorem c_M_costs (i k : Int) (w : Wd) (n : Nat) (S : Int) (hn : n ≤ 9) (hg : GA w S n) (hm : w 141 82 ≤ 9) (hi : i = 9 ∨ (0 ≤ i ∧ i < w 141 82)) (hk : 0 ≤ k ∧ k < w 141 82) (hc : ∀ a b, 0 ≤ a → a < 9 → 0 ≤ b → b < 9 → 0 ≤ gM w a b ∧ gM w a b ≤ 9) (hN : ∀ k : Int, 0 ≤ k → k < n → 0 ≤ w 192 k ∧ w 192 k ≤ 20) : CallN 1 mX12_costs [(2, 141), (0, i), (0, k)] w (RV (0, coM w i k) w) := by
  refine CallN.intro (by decide +kernel) (Nat.le_of_ble_eq_true rfl) (fun ρ hR => ?_)
  show AtN mX12_costs 1 ρ 0 [(0, (2, 141)), (1, (0, i)), (2, (0, k))] [] w
  obtain ⟨j, j1, j2, j3, j4⟩ := GA_e hg hk.1 hk.2
  have hNj := hN j (by omega) (by omega)
  rw [← j4] at hNj
  refine s_aload_n dX12_costs_0 0 rfl rfl (n_getc (q := 192) 141 77 202 dX12_costs_1 cf_X12 ff_X12_166 rfl sh_141 rfl (by decide) rfl (by decide) (s_aload_n dX12_costs_4 0 rfl rfl (n_getc (q := 194) 141 79 204 dX12_costs_5 cf_X12 ff_X12_172 rfl sh_141 rfl (by decide) rfl (by decide) (s_iload_n dX12_costs_8 2 rfl (n_iald 194 dX12_costs_9 rfl sh_194 (by decide) ⟨(by omega), (by omega)⟩ (v := (w 194 k)) rfl (n_iald 192 dX12_costs_10 rfl sh_192 (by decide) ⟨(by omega), (by omega)⟩ (v := (w 192 (w 194 k))) rfl (s_iload_n dX12_costs_11 1 rfl (s_bipush dX12_costs_12 (by decide) (s_icmp_ne 21 dX12_costs_14 (by decide) (fun c_14 => ?_) (fun c_14 => ?_))))))))))
  · skip
    obtain ⟨j5, p1, p2, p3, p4⟩ := GA_e hg (k := i) (by omega) (by omega)
    have hcj := hc (w 194 i) (w 194 k) (by omega) (by omega) (by omega) (by omega)
    unfold gM at hcj
    refine s_aload_n dX12_costs_21 0 rfl rfl (n_getc (q := 193) 141 78 203 dX12_costs_22 cf_X12 ff_X12_169 rfl sh_141 rfl (by decide) rfl (by decide) (s_bipush dX12_costs_25 (by decide) (s_aload_n dX12_costs_27 0 rfl rfl (n_getc (q := 194) 141 79 204 dX12_costs_28 cf_X12 ff_X12_172 rfl sh_141 rfl (by decide) rfl (by decide) (s_iload_n dX12_costs_31 1 rfl (n_iald 194 dX12_costs_32 rfl sh_194 (by decide) ⟨(by omega), (by omega)⟩ (v := (w 194 i)) rfl (n_mul (z := (9 * (w 194 i))) dX12_costs_33 (wr_id (by omega) (by omega)) (s_aload_n dX12_costs_34 0 rfl rfl (n_getc (q := 194) 141 79 204 dX12_costs_35 cf_X12 ff_X12_172 rfl sh_141 rfl (by decide) rfl (by decide) ?_)))))))))
    refine s_iload_n dX12_costs_38 2 rfl (n_iald 194 dX12_costs_39 rfl sh_194 (by decide) ⟨(by omega), (by omega)⟩ (v := (w 194 k)) rfl (n_add (z := ((9 * (w 194 i)) + (w 194 k))) dX12_costs_40 (wr_id (by omega) (by omega)) (n_iald 193 dX12_costs_41 rfl sh_193 (by decide) ⟨(by omega), (by omega)⟩ (v := (w 193 ((9 * (w 194 i)) + (w 194 k)))) rfl (n_add (z := ((w 192 (w 194 k)) + (w 193 ((9 * (w 194 i)) + (w 194 k))))) dX12_costs_42 (wr_id (by omega) (by omega)) (n_iret dX12_costs_43 hR rfl ?_)))))
    refine ⟨congrArg (fun z => some ((0 : Nat), z)) ?_, rfl⟩
    unfold coM
    first
    | (rw [if_pos (show i = 9 by omega)]; done)
    | (rw [if_neg (show ¬ i = 9 by omega)]; done)
  · skip
    refine s_iconst dX12_costs_17 (by decide) (s_goto 42 dX12_costs_18 (by decide) (n_add (z := ((w 192 (w 194 k)) + 0)) dX12_costs_42 (wr_id (by omega) (by omega)) (n_iret dX12_costs_43 hR rfl ?_)))
    refine ⟨congrArg (fun z => some ((0 : Nat), z)) ?_, rfl⟩
    unfold coM
    first
    | (rw [if_pos (show i = 9 by omega)]; done)
    | (rw [if_neg (show ¬ i = 9 by omega)]; done)

/-- what the loops of stage keep: members, the tables of costs -/
def KM9 (w v : Wd) (n : Nat) (S : Int) : Prop := (∀ c, c ≠ 194 → c ≠ 195 → c ≠ 196 → c ≠ 141 → v c = w c) ∧ (∀ j, j ≠ 82 → v 141 j = w 141 j) ∧ GA v S n
theorem KM9.u5 {w v : Wd} {n : Nat} {S j x : Int} (h : KM9 w v n S) : KM9 w (wu v 195 j x) n S :=
  ⟨fun c c1 c2 c3 c4 => by rw [wu_ne c2]; exact h.1 c c1 c2 c3 c4, fun j hj => by rw [wu_ne (by decide)]; exact h.2.1 j hj, by rw [wu_ne (by decide)]; exact h.2.2.1, fun j a b => by rw [wu_ne (by decide)]; exact h.2.2.2 j a b⟩
theorem KM9.u6 {w v : Wd} {n : Nat} {S j x : Int} (h : KM9 w v n S) : KM9 w (wu v 196 j x) n S :=
  ⟨fun c c1 c2 c3 c4 => by rw [wu_ne c3]; exact h.1 c c1 c2 c3 c4, fun j hj => by rw [wu_ne (by decide)]; exact h.2.1 j hj, by rw [wu_ne (by decide)]; exact h.2.2.1, fun j a b => by rw [wu_ne (by decide)]; exact h.2.2.2 j a b⟩
def MinB (v : Wd) (e s i b k : Int) : Prop := b = (if s = e - 1 then 0 else 99999) ∨ ∃ k1, 0 ≤ k1 ∧ k1 < k ∧ mbP s k1.toNat = false ∧ b = valM v s i k1
theorem VM_u {v : Wd} {n : Nat} {S s i a x : Int} : VM (wu v 195 a x) n S s i = VM v n S s i := rfl
theorem VM_u6 {v : Wd} {n : Nat} {S s i a x : Int} : VM (wu v 196 a x) n S s i = VM v n S s i := rfl

set_option maxRecDepth 100000 in
theorem m_stage (S q : Int) (w : Wd) (hn : 0 ≤ w 141 7 ∧ w 141 7 ≤ 9) (hc : ∀ a b, 0 ≤ a → a < 9 → 0 ≤ b → b < 9 → 0 ≤ w 193 (9 * a + b) ∧ w 193 (9 * a + b) ≤ 9) (hN : ∀ k, 0 ≤ k → k < w 141 7 → 0 ≤ w 192 k ∧ w 192 k ≤ 20) : CallN 3 mX12_stage [(2, 141), (0, S), (0, q)] w (RQ (fun z w1 => ((∀ c, c ≠ 194 → c ≠ 195 → c ≠ 196 → c ≠ 141 → w1 c = w c) ∧ ∀ j, j ≠ 82 → w1 141 j = w 141 j) ∧ z = stV (gM w) (w 192) (w 141 7) S q)) := by
  refine CallN.intro (by decide +kernel) (Nat.le_of_ble_eq_true rfl) (fun ρ hR => ?_)
  show AtN mX12_stage 3 ρ 0 [(0, (2, 141)), (1, (0, S)), (2, (0, q))] [] w
  have hpw := ishl1_pow hn.1 (show w 141 7 ≤ 16 by omega)
  have hqb := ishl1_bd hn.1 (show w 141 7 ≤ 16 by omega)
  have hpb := ppI_bd S
  have L_114 : ∀ (fu : Nat) (e : Int) (s : Int) (i : Int) (b : Int) (k : Int) (v9 : Wd), (1 ≤ S ∧ S < ishl 1 (w 141 7)) ∧ (0 ≤ q ∧ q ≤ ppI S) → KM9 w v9 (w 141 7).toNat S → e = ishl 1 (v9 141 82) → 0 ≤ s ∧ s < e → 0 ≤ i ∧ i ≤ 9 → i = 9 ∨ (0 ≤ i ∧ i < v9 141 82 ∧ mbP s i.toNat = true) → TBM v9 (w 141 7).toNat S s → 0 ≤ k ∧ k ≤ v9 141 82 → (∀ k1, 0 ≤ k1 → k1 < k → mbP s k1.toNat = false → b ≤ valM v9 s i k1) → MinB v9 e s i b k → (∀ v : Wd, v = wu v9 195 (10 * s + i) (VM v9 (w 141 7).toNat S s i) → AtN mX12_stage 3 ρ 215 [(0, (2, 141)), (1, (0, S)), (2, (0, q)), (3, (0, e)), (4, (0, s)), (5, (0, i))] [] v) → (v9 141 82 - k).toNat < fu → AtN mX12_stage 3 ρ 114 [(0, (2, 141)), (1, (0, S)), (2, (0, q)), (3, (0, e)), (4, (0, s)), (5, (0, i)), (6, (0, b)), (7, (0, k))] [] v9 := by
    intro fu
    induction fu with
    | zero => intro e s i b k v9 hok hk he hs hi hii hT hkk hA hB hK hm; exact absurd hm (Nat.not_lt_zero _)
    | succ fu ih =>
      intro e s i b k v9 hok hk he hs hi hii hT hkk hA hB hK hm
      have hn9 : (w 141 7).toNat ≤ 9 := by omega
      have hg9 := hk.2.2
      have hm9 : v9 141 82 ≤ 9 := by rw [hg9.1]; have := cdP_le (mbP S) (w 141 7).toNat; omega
      have hm0 : 0 ≤ v9 141 82 := by rw [hg9.1]; omega
      have hc9 : ∀ a b, 0 ≤ a → a < 9 → 0 ≤ b → b < 9 → 0 ≤ gM v9 a b ∧ gM v9 a b ≤ 9 := fun a b a1 a2 a3 a4 => by unfold gM; rw [hk.1 193 (by decide) (by decide) (by decide) (by decide)]; exact hc a b a1 a2 a3 a4
      have hN9 : ∀ k : Int, 0 ≤ k → k < ((w 141 7).toNat : Nat) → 0 ≤ v9 192 k ∧ v9 192 k ≤ 20 := fun k a b => by rw [hk.1 192 (by decide) (by decide) (by decide) (by decide)]; exact hN k a (by omega)
      have hqa := ishl1_pow hm0 (show v9 141 82 ≤ 16 by omega)
      have hqb := ishl1_bd hm0 (show v9 141 82 ≤ 16 by omega)
      have hq5 : ishl 1 (v9 141 82) ≤ 512 := by
        have e5 : ((2 ^ (v9 141 82).toNat : Nat) : Int) = 2 ^ (v9 141 82).toNat := by simp
        have e6 : 2 ^ (v9 141 82).toNat ≤ 2 ^ 9 := Nat.pow_le_pow_right (by omega) (by omega)
        omega
      have hmb : bt s k = 1 ↔ mbP s k.toNat = true := mbP_bt (by omega) (by omega) hkk.1 (by omega)
      have hmbf : ¬ bt s k = 1 → mbP s k.toNat = false := fun z => Bool.eq_false_iff.mpr (fun y => z (hmb.mpr y))
      have b01 := bt01 s k
      refine s_iload dX12_stage_114 7 rfl (s_aload_n dX12_stage_116 0 rfl rfl (n_getf 141 82 0 dX12_stage_117 cf_X12 ff_X12_457 rfl sh_141 rfl (by decide) (v := (v9 141 82)) rfl (s_icmp_ge 200 dX12_stage_120 (by decide) (fun c_120 => ?_) (fun c_120 => ?_))))
      · skip
        have e5 : k = v9 141 82 := by omega
        rw [e5] at hA hB
        have hmin := M_min (i := i) hn9 hg9 hm9 hc9 hN9 hT (by omega) (by omega) hA (by rw [← he]; exact hB)
        have hbb := VVg_bd (i := eM v9 i) (P := LfP (mbP S) s) hn9 hc9
        have hbn := niP_bd (Q := LfP (mbP S) s) (w 141 7).toNat hN9
        refine At.keep (ls' := [(0, (2, 141)), (1, (0, S)), (2, (0, q)), (3, (0, e)), (4, (0, s)), (5, (0, i)), (6, (0, b))]) [0, 1, 2, 3, 4, 5, 6] rfl ?_
        refine s_aload_n dX12_stage_200 0 rfl rfl (n_getc (q := 195) 141 80 205 dX12_stage_201 cf_X12 ff_X12_175 rfl sh_141 rfl (by decide) rfl (by decide) (s_bipush dX12_stage_204 (by decide) (s_iload dX12_stage_206 4 rfl (n_mul (z := (10 * s)) dX12_stage_208 (wr_id (by omega) (by omega)) (s_iload dX12_stage_209 5 rfl (n_add (z := ((10 * s) + i)) dX12_stage_211 (wr_id (by omega) (by omega)) (s_iload dX12_stage_212 6 rfl (s_iastore 195 dX12_stage_214 rfl sh_195 (by decide) ⟨(by omega), (by omega)⟩ ?_))))))))
        refine At.keep (ls' := [(0, (2, 141)), (1, (0, S)), (2, (0, q)), (3, (0, e)), (4, (0, s)), (5, (0, i))]) [0, 1, 2, 3, 4, 5] rfl (hK _ (by rw [← hmin]))
      · skip
        refine s_iload dX12_stage_123 4 rfl (s_iload dX12_stage_125 7 rfl (s_ishr dX12_stage_127 (s_iconst dX12_stage_128 (by decide) (n_bt dX12_stage_129 (s_if_ne 194 dX12_stage_130 (by decide) (fun c_130 => ?_) (fun c_130 => ?_))))))
        · skip
          refine s_iinc (z := (k + 1)) (ls' := [(0, (2, 141)), (1, (0, S)), (2, (0, q)), (3, (0, e)), (4, (0, s)), (5, (0, i)), (6, (0, b)), (7, (0, (k + 1)))]) dX12_stage_194 7 rfl (Nat.le_of_ble_eq_true rfl) (wr_id (by omega) (by omega)) rfl (s_goto 114 dX12_stage_197 (by decide) ?_)
          exact ih e s i b (k + 1) v9 (by omega) hk he (by omega) (by omega) hii hT (by omega) (fun k1 a b1 c => by by_cases e5 : k1 = k; (subst e5; first | (have := hmb.mp (by omega); rw [this] at c; cases c) | (unfold valM; omega)); exact hA k1 a (by omega) c) (Or.elim hB Or.inl (fun ⟨k1, a, b1, c⟩ => Or.inr ⟨k1, a, by omega, c⟩)) hK (by omega)
        · skip
          have hf9 := hmbf (by omega)
          obtain ⟨l, l1, l2, l3, l4, l5, l6, l7⟩ := ior_mb (s := s) (k := k) (by omega) (by omega) (by omega) (by omega)
          have l8 : (l : Int) < ishl 1 (v9 141 82) := by rw [hqa]; exact l7 _ (by rw [← hqa]; omega) (by omega)
          have hii2 : i = 9 ∨ (0 ≤ i ∧ i < v9 141 82) := by omega
          obtain ⟨j, y1, y2, y3, y4, y5⟩ := valM_eq hn9 hg9 hm9 hT (by omega) hii2 (show 0 ≤ k ∧ k < v9 141 82 by omega) hf9
          have y6 := VVg_bd (i := tJ j) (P := rmP (LfP (mbP S) s) j) hn9 hc9
          have y7 := niP_bd (Q := LfP (mbP S) s) (w 141 7).toNat hN9
          have y8 : valM v9 s i k = v9 195 (10 * ior s (ishl 1 k) + k) + coM v9 i k := rfl
          have y9 := hT (l : Int) k (l4 hf9) l8 (Or.inr ⟨by omega, by omega, l5⟩)
          rw [← l1] at y9 l2 l3 l8
          have ya := VVg_bd (i := eM v9 k) (P := LfP (mbP S) (ior s (ishl 1 k))) hn9 hc9
          have yb := niP_bd (Q := LfP (mbP S) (ior s (ishl 1 k))) (w 141 7).toNat hN9
          unfold VM at y9
          obtain ⟨z1, z2, z3, z4, z5⟩ := GA_e hg9 (k := k) (by omega) (by omega)
          have yc : 0 ≤ coM v9 i k ∧ coM v9 i k ≤ 100 := by
            have := hN9 (v9 194 k) (by omega) (by omega)
            unfold coM
            rcases hii2 with e5 | e5
            · rw [if_pos e5]; omega
            · obtain ⟨u1, u2, u3, u4, u5⟩ := GA_e hg9 (k := i) (by omega) (by omega)
              have := hc9 (v9 194 i) (v9 194 k) (by omega) (by omega) (by omega) (by omega)
              unfold gM at this
              rw [if_neg (by omega)]
              omega
          refine s_aload_n dX12_stage_133 0 rfl rfl (n_getc (q := 195) 141 80 205 dX12_stage_134 cf_X12 ff_X12_175 rfl sh_141 rfl (by decide) rfl (by decide) (s_bipush dX12_stage_137 (by decide) (s_iload dX12_stage_139 4 rfl (s_iconst dX12_stage_141 (by decide) (s_iload dX12_stage_142 7 rfl (s_ishl dX12_stage_144 (s_ior dX12_stage_145 (n_mul (z := (10 * (ior s (ishl 1 k)))) dX12_stage_146 (wr_id (by omega) (by omega)) (s_iload dX12_stage_147 7 rfl ?_)))))))))
          refine n_add (z := ((10 * (ior s (ishl 1 k))) + k)) dX12_stage_149 (wr_id (by omega) (by omega)) (n_iald 195 dX12_stage_150 rfl sh_195 (by decide) ⟨(by omega), (by omega)⟩ (v := (v9 195 ((10 * (ior s (ishl 1 k))) + k))) rfl (s_aload_n dX12_stage_151 0 rfl rfl (s_iload dX12_stage_152 5 rfl (s_iload dX12_stage_154 7 rfl (n_invV (as := [(0, i), (0, k)]) dX12_stage_156 kv_X12_costs ml_X12_466 (c_M_costs i k v9 (w 141 7).toNat S hn9 hg9 hm9 (by omega) (by omega) hc9 hN9) (by decide) 141 cf_X12 rfl sh_141 rfl rfl rfl (Nat.le_of_ble_eq_true rfl) (n_add (z := ((v9 195 ((10 * (ior s (ishl 1 k))) + k)) + (coM v9 i k))) dX12_stage_159 (wr_id (by omega) (by omega)) (s_iload dX12_stage_160 6 rfl (s_icmp_ge 194 dX12_stage_162 (by decide) (fun c_162 => ?_) (fun c_162 => ?_)))))))))
          · skip
            refine s_iinc (z := (k + 1)) (ls' := [(0, (2, 141)), (1, (0, S)), (2, (0, q)), (3, (0, e)), (4, (0, s)), (5, (0, i)), (6, (0, b)), (7, (0, (k + 1)))]) dX12_stage_194 7 rfl (Nat.le_of_ble_eq_true rfl) (wr_id (by omega) (by omega)) rfl (s_goto 114 dX12_stage_197 (by decide) ?_)
            exact ih e s i b (k + 1) v9 (by omega) hk he (by omega) (by omega) hii hT (by omega) (fun k1 a b1 c => by by_cases e5 : k1 = k; (subst e5; first | (have := hmb.mp (by omega); rw [this] at c; cases c) | (unfold valM; omega)); exact hA k1 a (by omega) c) (Or.elim hB Or.inl (fun ⟨k1, a, b1, c⟩ => Or.inr ⟨k1, a, by omega, c⟩)) hK (by omega)
          · skip
            refine s_aload_n dX12_stage_165 0 rfl rfl (n_getc (q := 195) 141 80 205 dX12_stage_166 cf_X12 ff_X12_175 rfl sh_141 rfl (by decide) rfl (by decide) (s_bipush dX12_stage_169 (by decide) (s_iload dX12_stage_171 4 rfl (s_iconst dX12_stage_173 (by decide) (s_iload dX12_stage_174 7 rfl (s_ishl dX12_stage_176 (s_ior dX12_stage_177 (n_mul (z := (10 * (ior s (ishl 1 k)))) dX12_stage_178 (wr_id (by omega) (by omega)) (s_iload dX12_stage_179 7 rfl ?_)))))))))
            refine n_add (z := ((10 * (ior s (ishl 1 k))) + k)) dX12_stage_181 (wr_id (by omega) (by omega)) (n_iald 195 dX12_stage_182 rfl sh_195 (by decide) ⟨(by omega), (by omega)⟩ (v := (v9 195 ((10 * (ior s (ishl 1 k))) + k))) rfl (s_aload_n dX12_stage_183 0 rfl rfl (s_iload dX12_stage_184 5 rfl (s_iload dX12_stage_186 7 rfl (n_invV (as := [(0, i), (0, k)]) dX12_stage_188 kv_X12_costs ml_X12_466 (c_M_costs i k v9 (w 141 7).toNat S hn9 hg9 hm9 (by omega) (by omega) hc9 hN9) (by decide) 141 cf_X12 rfl sh_141 rfl rfl rfl (Nat.le_of_ble_eq_true rfl) (n_add (z := ((v9 195 ((10 * (ior s (ishl 1 k))) + k)) + (coM v9 i k))) dX12_stage_191 (wr_id (by omega) (by omega)) (s_istore (ls' := [(0, (2, 141)), (1, (0, S)), (2, (0, q)), (3, (0, e)), (4, (0, s)), (5, (0, i)), (6, (0, ((v9 195 ((10 * (ior s (ishl 1 k))) + k)) + (coM v9 i k)))), (7, (0, k))]) dX12_stage_192 (Nat.le_of_ble_eq_true rfl) rfl (s_iinc (z := (k + 1)) (ls' := [(0, (2, 141)), (1, (0, S)), (2, (0, q)), (3, (0, e)), (4, (0, s)), (5, (0, i)), (6, (0, ((v9 195 ((10 * (ior s (ishl 1 k))) + k)) + (coM v9 i k)))), (7, (0, (k + 1)))]) dX12_stage_194 7 rfl (Nat.le_of_ble_eq_true rfl) (wr_id (by omega) (by omega)) rfl (s_goto 114 dX12_stage_197 (by decide) ?_)))))))))
            exact ih e s i ((v9 195 ((10 * (ior s (ishl 1 k))) + k)) + (coM v9 i k)) (k + 1) v9 (by omega) hk he (by omega) (by omega) hii hT (by omega) (fun k1 a b1 c => by by_cases e5 : k1 = k; (subst e5; exact Int.le_refl _); (have := hA k1 a (by omega) c; show valM v9 s i k ≤ _; unfold valM at *; omega)) (Or.inr ⟨k, hkk.1, by omega, hmbf (by omega), rfl⟩) hK (by omega)
  have L_58 : ∀ (fu : Nat) (e : Int) (s : Int) (i : Int) (v9 : Wd), (1 ≤ S ∧ S < ishl 1 (w 141 7)) ∧ (0 ≤ q ∧ q ≤ ppI S) → KM9 w v9 (w 141 7).toNat S → e = ishl 1 (v9 141 82) → 0 ≤ s ∧ s < e → 0 ≤ i ∧ i ≤ 10 → TBM v9 (w 141 7).toNat S s → (∀ i1, 0 ≤ i1 → i1 < i → (i1 = 9 ∨ (0 ≤ i1 ∧ i1 < v9 141 82 ∧ mbP s i1.toNat = true)) → v9 195 (10 * s + i1) = VM v9 (w 141 7).toNat S s i1) → (∀ v : Wd, KM9 w v (w 141 7).toNat S → e = ishl 1 (v 141 82) → TBM v (w 141 7).toNat S (s - 1) → AtN mX12_stage 3 ρ 221 [(0, (2, 141)), (1, (0, S)), (2, (0, q)), (3, (0, e)), (4, (0, s))] [] v) → (10 - i).toNat < fu → AtN mX12_stage 3 ρ 58 [(0, (2, 141)), (1, (0, S)), (2, (0, q)), (3, (0, e)), (4, (0, s)), (5, (0, i))] [] v9 := by
    intro fu
    induction fu with
    | zero => intro e s i v9 hok hk he hs hi hT hI hK hm; exact absurd hm (Nat.not_lt_zero _)
    | succ fu ih =>
      intro e s i v9 hok hk he hs hi hT hI hK hm
      have hg7 := hk.2.2
      have hm7 : v9 141 82 ≤ 9 := by rw [hg7.1]; have := cdP_le (mbP S) (w 141 7).toNat; omega
      have hm0 : 0 ≤ v9 141 82 := by rw [hg7.1]; omega
      have hqb := ishl1_bd hm0 (show v9 141 82 ≤ 16 by omega)
      have hmi : i < 9 → (bt s i = 1 ↔ mbP s i.toNat = true) := fun _ => mbP_bt (by omega) (by omega) hi.1 (by omega)
      have b01 := bt01 s i
      refine s_iload dX12_stage_58 5 rfl (s_bipush dX12_stage_60 (by decide) (s_icmp_gt 221 dX12_stage_62 (by decide) (fun c_62 => ?_) (fun c_62 => ?_)))
      · skip
        refine At.keep (ls' := [(0, (2, 141)), (1, (0, S)), (2, (0, q)), (3, (0, e)), (4, (0, s))]) [0, 1, 2, 3, 4] rfl (hK v9 hk he (fun s1 i1 a b c => ?_))
        by_cases e5 : s1 = s
        · subst e5
          exact hI i1 (by omega) (by omega) c
        · exact hT s1 i1 (by omega) b c
      · skip
        refine s_iload dX12_stage_65 5 rfl (s_bipush dX12_stage_67 (by decide) (s_icmp_ge 94 dX12_stage_69 (by decide) (fun c_69 => ?_) (fun c_69 => ?_)))
        · skip
          refine s_iload dX12_stage_94 4 rfl (s_iload_n dX12_stage_96 3 rfl (s_iconst dX12_stage_97 (by decide) (n_sub (z := (e - 1)) dX12_stage_98 (wr_id (by omega) (by omega)) (s_icmp_ne 106 dX12_stage_99 (by decide) (fun c_99 => ?_) (fun c_99 => ?_)))))
          · skip
            refine s_ldcw (z := 99999) dX12_stage_106 kc_X12_422 rfl (s_istore (ls' := [(0, (2, 141)), (1, (0, S)), (2, (0, q)), (3, (0, e)), (4, (0, s)), (5, (0, i)), (6, (0, 99999))]) dX12_stage_109 (Nat.le_of_ble_eq_true rfl) rfl (s_iconst dX12_stage_111 (by decide) (s_istore (ls' := [(0, (2, 141)), (1, (0, S)), (2, (0, q)), (3, (0, e)), (4, (0, s)), (5, (0, i)), (6, (0, 99999)), (7, (0, 0))]) dX12_stage_112 (Nat.le_of_ble_eq_true rfl) rfl ?_)))
            exact L_114 _ e s i 99999 0 v9 (by omega) hk he (by omega) (by omega) (by first | exact Or.inl (by omega) | exact Or.inr ⟨by omega, by omega, hmi.mp (by omega)⟩) hT (by omega) (fun k1 a b => absurd b (by omega)) (Or.inl (by first | exact (if_pos (by omega)).symm | exact (if_neg (by omega)).symm)) (fun v ev => by
  subst ev
  refine s_iinc (z := (i + 1)) (ls' := [(0, (2, 141)), (1, (0, S)), (2, (0, q)), (3, (0, e)), (4, (0, s)), (5, (0, (i + 1)))]) dX12_stage_215 5 rfl (Nat.le_of_ble_eq_true rfl) (wr_id (by omega) (by omega)) rfl (s_goto 58 dX12_stage_218 (by decide) (ih e s (i + 1) _ hok hk.u5 (by rw [wu_ne (by decide)]; exact he) hs (by omega) (fun s1 i1 a b c => ?_) (fun i1 a b c => ?_) hK (by omega)))
  · rw [wu_at, if_neg (by omega)]
    exact hT s1 i1 a (by rw [wu_ne (by decide)] at b; exact b) (by rw [wu_ne (by decide)] at c; exact c)
  · rw [wu_at]
    by_cases e5 : i1 = i
    · subst e5; rw [if_pos rfl]; rfl
    · rw [if_neg (by omega)]
      exact hI i1 a (by omega) (by rw [wu_ne (by decide)] at c; exact c)) (Nat.lt_succ_self _)
          · skip
            refine s_iconst dX12_stage_102 (by decide) (s_goto 109 dX12_stage_103 (by decide) (s_istore (ls' := [(0, (2, 141)), (1, (0, S)), (2, (0, q)), (3, (0, e)), (4, (0, s)), (5, (0, i)), (6, (0, 0))]) dX12_stage_109 (Nat.le_of_ble_eq_true rfl) rfl (s_iconst dX12_stage_111 (by decide) (s_istore (ls' := [(0, (2, 141)), (1, (0, S)), (2, (0, q)), (3, (0, e)), (4, (0, s)), (5, (0, i)), (6, (0, 0)), (7, (0, 0))]) dX12_stage_112 (Nat.le_of_ble_eq_true rfl) rfl ?_))))
            exact L_114 _ e s i 0 0 v9 (by omega) hk he (by omega) (by omega) (by first | exact Or.inl (by omega) | exact Or.inr ⟨by omega, by omega, hmi.mp (by omega)⟩) hT (by omega) (fun k1 a b => absurd b (by omega)) (Or.inl (by first | exact (if_pos (by omega)).symm | exact (if_neg (by omega)).symm)) (fun v ev => by
  subst ev
  refine s_iinc (z := (i + 1)) (ls' := [(0, (2, 141)), (1, (0, S)), (2, (0, q)), (3, (0, e)), (4, (0, s)), (5, (0, (i + 1)))]) dX12_stage_215 5 rfl (Nat.le_of_ble_eq_true rfl) (wr_id (by omega) (by omega)) rfl (s_goto 58 dX12_stage_218 (by decide) (ih e s (i + 1) _ hok hk.u5 (by rw [wu_ne (by decide)]; exact he) hs (by omega) (fun s1 i1 a b c => ?_) (fun i1 a b c => ?_) hK (by omega)))
  · rw [wu_at, if_neg (by omega)]
    exact hT s1 i1 a (by rw [wu_ne (by decide)] at b; exact b) (by rw [wu_ne (by decide)] at c; exact c)
  · rw [wu_at]
    by_cases e5 : i1 = i
    · subst e5; rw [if_pos rfl]; rfl
    · rw [if_neg (by omega)]
      exact hI i1 a (by omega) (by rw [wu_ne (by decide)] at c; exact c)) (Nat.lt_succ_self _)
        · skip
          refine s_iload dX12_stage_72 5 rfl (s_aload_n dX12_stage_74 0 rfl rfl (n_getf 141 82 0 dX12_stage_75 cf_X12 ff_X12_457 rfl sh_141 rfl (by decide) (v := (v9 141 82)) rfl (s_icmp_ge 215 dX12_stage_78 (by decide) (fun c_78 => ?_) (fun c_78 => ?_))))
          · skip
            refine s_iinc (z := (i + 1)) (ls' := [(0, (2, 141)), (1, (0, S)), (2, (0, q)), (3, (0, e)), (4, (0, s)), (5, (0, (i + 1)))]) dX12_stage_215 5 rfl (Nat.le_of_ble_eq_true rfl) (wr_id (by omega) (by omega)) rfl (s_goto 58 dX12_stage_218 (by decide) (ih e s (i + 1) v9 hok hk he hs (by omega) hT (fun i1 a b c => ?_) hK (by omega)))
            by_cases e5 : i1 = i
            · subst e5
              exfalso
              rcases c with c | ⟨c1, c2, c3⟩
              · omega
              · first
                | omega
                | (have := hmi.mpr c3; omega)
            · exact hI i1 a (by omega) c
          · skip
            replace hmi := hmi (by omega)
            refine s_iload dX12_stage_81 4 rfl (s_iload dX12_stage_83 5 rfl (s_ishr dX12_stage_85 (s_iconst dX12_stage_86 (by decide) (n_bt dX12_stage_87 (s_if_ne 94 dX12_stage_88 (by decide) (fun c_88 => ?_) (fun c_88 => ?_))))))
            · skip
              refine s_iload dX12_stage_94 4 rfl (s_iload_n dX12_stage_96 3 rfl (s_iconst dX12_stage_97 (by decide) (n_sub (z := (e - 1)) dX12_stage_98 (wr_id (by omega) (by omega)) (s_icmp_ne 106 dX12_stage_99 (by decide) (fun c_99 => ?_) (fun c_99 => ?_)))))
              · skip
                refine s_ldcw (z := 99999) dX12_stage_106 kc_X12_422 rfl (s_istore (ls' := [(0, (2, 141)), (1, (0, S)), (2, (0, q)), (3, (0, e)), (4, (0, s)), (5, (0, i)), (6, (0, 99999))]) dX12_stage_109 (Nat.le_of_ble_eq_true rfl) rfl (s_iconst dX12_stage_111 (by decide) (s_istore (ls' := [(0, (2, 141)), (1, (0, S)), (2, (0, q)), (3, (0, e)), (4, (0, s)), (5, (0, i)), (6, (0, 99999)), (7, (0, 0))]) dX12_stage_112 (Nat.le_of_ble_eq_true rfl) rfl ?_)))
                exact L_114 _ e s i 99999 0 v9 (by omega) hk he (by omega) (by omega) (by first | exact Or.inl (by omega) | exact Or.inr ⟨by omega, by omega, hmi.mp (by omega)⟩) hT (by omega) (fun k1 a b => absurd b (by omega)) (Or.inl (by first | exact (if_pos (by omega)).symm | exact (if_neg (by omega)).symm)) (fun v ev => by
  subst ev
  refine s_iinc (z := (i + 1)) (ls' := [(0, (2, 141)), (1, (0, S)), (2, (0, q)), (3, (0, e)), (4, (0, s)), (5, (0, (i + 1)))]) dX12_stage_215 5 rfl (Nat.le_of_ble_eq_true rfl) (wr_id (by omega) (by omega)) rfl (s_goto 58 dX12_stage_218 (by decide) (ih e s (i + 1) _ hok hk.u5 (by rw [wu_ne (by decide)]; exact he) hs (by omega) (fun s1 i1 a b c => ?_) (fun i1 a b c => ?_) hK (by omega)))
  · rw [wu_at, if_neg (by omega)]
    exact hT s1 i1 a (by rw [wu_ne (by decide)] at b; exact b) (by rw [wu_ne (by decide)] at c; exact c)
  · rw [wu_at]
    by_cases e5 : i1 = i
    · subst e5; rw [if_pos rfl]; rfl
    · rw [if_neg (by omega)]
      exact hI i1 a (by omega) (by rw [wu_ne (by decide)] at c; exact c)) (Nat.lt_succ_self _)
              · skip
                refine s_iconst dX12_stage_102 (by decide) (s_goto 109 dX12_stage_103 (by decide) (s_istore (ls' := [(0, (2, 141)), (1, (0, S)), (2, (0, q)), (3, (0, e)), (4, (0, s)), (5, (0, i)), (6, (0, 0))]) dX12_stage_109 (Nat.le_of_ble_eq_true rfl) rfl (s_iconst dX12_stage_111 (by decide) (s_istore (ls' := [(0, (2, 141)), (1, (0, S)), (2, (0, q)), (3, (0, e)), (4, (0, s)), (5, (0, i)), (6, (0, 0)), (7, (0, 0))]) dX12_stage_112 (Nat.le_of_ble_eq_true rfl) rfl ?_))))
                exact L_114 _ e s i 0 0 v9 (by omega) hk he (by omega) (by omega) (by first | exact Or.inl (by omega) | exact Or.inr ⟨by omega, by omega, hmi.mp (by omega)⟩) hT (by omega) (fun k1 a b => absurd b (by omega)) (Or.inl (by first | exact (if_pos (by omega)).symm | exact (if_neg (by omega)).symm)) (fun v ev => by
  subst ev
  refine s_iinc (z := (i + 1)) (ls' := [(0, (2, 141)), (1, (0, S)), (2, (0, q)), (3, (0, e)), (4, (0, s)), (5, (0, (i + 1)))]) dX12_stage_215 5 rfl (Nat.le_of_ble_eq_true rfl) (wr_id (by omega) (by omega)) rfl (s_goto 58 dX12_stage_218 (by decide) (ih e s (i + 1) _ hok hk.u5 (by rw [wu_ne (by decide)]; exact he) hs (by omega) (fun s1 i1 a b c => ?_) (fun i1 a b c => ?_) hK (by omega)))
  · rw [wu_at, if_neg (by omega)]
    exact hT s1 i1 a (by rw [wu_ne (by decide)] at b; exact b) (by rw [wu_ne (by decide)] at c; exact c)
  · rw [wu_at]
    by_cases e5 : i1 = i
    · subst e5; rw [if_pos rfl]; rfl
    · rw [if_neg (by omega)]
      exact hI i1 a (by omega) (by rw [wu_ne (by decide)] at c; exact c)) (Nat.lt_succ_self _)
            · skip
              refine s_goto 215 dX12_stage_91 (by decide) ?_
              refine s_iinc (z := (i + 1)) (ls' := [(0, (2, 141)), (1, (0, S)), (2, (0, q)), (3, (0, e)), (4, (0, s)), (5, (0, (i + 1)))]) dX12_stage_215 5 rfl (Nat.le_of_ble_eq_true rfl) (wr_id (by omega) (by omega)) rfl (s_goto 58 dX12_stage_218 (by decide) (ih e s (i + 1) v9 hok hk he hs (by omega) hT (fun i1 a b c => ?_) hK (by omega)))
              by_cases e5 : i1 = i
              · subst e5
                exfalso
                rcases c with c | ⟨c1, c2, c3⟩
                · omega
                · first
                  | omega
                  | (have := hmi.mpr c3; omega)
              · exact hI i1 a (by omega) c
  have L_249 : ∀ (fu : Nat) (s : Int) (i : Int) (r : Int) (k : Int) (v9 : Wd) (kb : Int), (1 ≤ S ∧ S < ishl 1 (w 141 7)) ∧ (0 ≤ q ∧ q ≤ ppI S) → KM9 w v9 (w 141 7).toNat S → TBM v9 (w 141 7).toNat S (-1) → 0 ≤ s ∧ s < ishl 1 (v9 141 82) → 0 ≤ r ∧ r < v9 141 82 → i = 9 ∨ (0 ≤ i ∧ i < v9 141 82 ∧ mbP s i.toNat = true) → 0 ≤ k ∧ k ≤ kb → kb < v9 141 82 → mbP s kb.toNat = false → valM v9 s i kb = v9 195 (10 * s + i) → (∀ k, 0 ≤ k → k < kb → mbP s k.toNat = false → valM v9 s i k ≠ v9 195 (10 * s + i)) → (AtN mX12_stage 3 ρ 309 [(0, (2, 141)), (1, (0, S)), (2, (0, q)), (4, (0, s)), (5, (0, i)), (6, (0, r)), (7, (0, kb))] [] v9) → (kb - k).toNat < fu → AtN mX12_stage 3 ρ 249 [(0, (2, 141)), (1, (0, S)), (2, (0, q)), (4, (0, s)), (5, (0, i)), (6, (0, r)), (7, (0, k))] [] v9 := by
    intro fu
    induction fu with
    | zero => intro s i r k v9 kb hok hk hT hs hr hii hkk hkb hz1 hz2 hz3 hK hm; exact absurd hm (Nat.not_lt_zero _)
    | succ fu ih =>
      intro s i r k v9 kb hok hk hT hs hr hii hkk hkb hz1 hz2 hz3 hK hm
      have hn9 : (w 141 7).toNat ≤ 9 := by omega
      have hg9 := hk.2.2
      have hm9 : v9 141 82 ≤ 9 := by rw [hg9.1]; have := cdP_le (mbP S) (w 141 7).toNat; omega
      have hm0 : 0 ≤ v9 141 82 := by rw [hg9.1]; omega
      have hc9 : ∀ a b, 0 ≤ a → a < 9 → 0 ≤ b → b < 9 → 0 ≤ gM v9 a b ∧ gM v9 a b ≤ 9 := fun a b a1 a2 a3 a4 => by unfold gM; rw [hk.1 193 (by decide) (by decide) (by decide) (by decide)]; exact hc a b a1 a2 a3 a4
      have hN9 : ∀ k : Int, 0 ≤ k → k < ((w 141 7).toNat : Nat) → 0 ≤ v9 192 k ∧ v9 192 k ≤ 20 := fun k a b => by rw [hk.1 192 (by decide) (by decide) (by decide) (by decide)]; exact hN k a (by omega)
      have hqa := ishl1_pow hm0 (show v9 141 82 ≤ 16 by omega)
      have hqb := ishl1_bd hm0 (show v9 141 82 ≤ 16 by omega)
      have hq5 : ishl 1 (v9 141 82) ≤ 512 := by
        have e5 : ((2 ^ (v9 141 82).toNat : Nat) : Int) = 2 ^ (v9 141 82).toNat := by simp
        have e6 : 2 ^ (v9 141 82).toNat ≤ 2 ^ 9 := Nat.pow_le_pow_right (by omega) (by omega)
        omega
      have hmb : bt s k = 1 ↔ mbP s k.toNat = true := mbP_bt (by omega) (by omega) hkk.1 (by omega)
      have hmbf : ¬ bt s k = 1 → mbP s k.toNat = false := fun z => Bool.eq_false_iff.mpr (fun y => z (hmb.mpr y))
      have b01 := bt01 s k
      have hz5 := fun q => hz3 k hkk.1 q
      have hz6 : k = kb → ¬ bt s k = 1 := fun z y => by rw [z] at hmb y; rw [hmb.mp y] at hz1; cases hz1
      have hz7 : k = kb → valM v9 s i k = v9 195 (10 * s + i) := fun z => by rw [z]; exact hz2
      refine s_iload dX12_stage_249 3 rfl (s_iload dX12_stage_251 6 rfl (s_ishr dX12_stage_253 (s_iconst dX12_stage_254 (by decide) (n_bt dX12_stage_255 (s_iconst dX12_stage_256 (by decide) (s_icmp_eq 303 dX12_stage_257 (by decide) (fun c_257 => ?_) (fun c_257 => ?_)))))))
      · skip
        refine s_iinc (z := (k + 1)) (ls' := [(0, (2, 141)), (1, (0, S)), (2, (0, q)), (4, (0, s)), (5, (0, i)), (6, (0, r)), (7, (0, (k + 1)))]) dX12_stage_303 6 rfl (Nat.le_of_ble_eq_true rfl) (wr_id (by omega) (by omega)) rfl (s_goto 249 dX12_stage_306 (by decide) ?_)
        exact ih s i r (k + 1) v9 kb (by omega) hk hT (by omega) (by omega) hii (by rcases (show k = kb ∨ k < kb from by omega) with z9 | z9; (have z8 := hz6 z9; first | omega | (have z7 := hz7 z9; unfold valM at z7; omega)); omega) hkb hz1 hz2 hz3 hK (by first | omega | (rcases (show k = kb ∨ k < kb from by omega) with z9 | z9; (have z8 := hz6 z9; first | omega | (have z7 := hz7 z9; unfold valM at z7; omega)); omega))
      · skip
        have hT0 : TBM v9 (w 141 7).toNat S s := fun a b c d e => hT a b (by omega) d e
        have hf9 := hmbf (by omega)
        obtain ⟨l, l1, l2, l3, l4, l5, l6, l7⟩ := ior_mb (s := s) (k := k) (by omega) (by omega) (by omega) (by omega)
        have l8 : (l : Int) < ishl 1 (v9 141 82) := by rw [hqa]; exact l7 _ (by rw [← hqa]; omega) (by omega)
        have hii2 : i = 9 ∨ (0 ≤ i ∧ i < v9 141 82) := by rcases hii with e5 | e5; exact Or.inl e5; exact Or.inr ⟨e5.1, e5.2.1⟩
        obtain ⟨j, y1, y2, y3, y4, y5⟩ := valM_eq hn9 hg9 hm9 hT0 (by omega) hii2 (show 0 ≤ k ∧ k < v9 141 82 by omega) hf9
        have y6 := VVg_bd (i := tJ j) (P := rmP (LfP (mbP S) s) j) hn9 hc9
        have y7 := niP_bd (Q := LfP (mbP S) s) (w 141 7).toNat hN9
        have y8 : valM v9 s i k = v9 195 (10 * ior s (ishl 1 k) + k) + coM v9 i k := rfl
        have y9 := hT0 (l : Int) k (l4 hf9) l8 (Or.inr ⟨by omega, by omega, l5⟩)
        rw [← l1] at y9 l2 l3 l8
        have ya := VVg_bd (i := eM v9 k) (P := LfP (mbP S) (ior s (ishl 1 k))) hn9 hc9
        have yb := niP_bd (Q := LfP (mbP S) (ior s (ishl 1 k))) (w 141 7).toNat hN9
        unfold VM at y9
        obtain ⟨z1, z2, z3, z4, z5⟩ := GA_e hg9 (k := k) (by omega) (by omega)
        have yc : 0 ≤ coM v9 i k ∧ coM v9 i k ≤ 100 := by
          have := hN9 (v9 194 k) (by omega) (by omega)
          unfold coM
          rcases hii2 with e5 | e5
          · rw [if_pos e5]; omega
          · obtain ⟨u1, u2, u3, u4, u5⟩ := GA_e hg9 (k := i) (by omega) (by omega)
            have := hc9 (v9 194 i) (v9 194 k) (by omega) (by omega) (by omega) (by omega)
            unfold gM at this
            rw [if_neg (by omega)]
            omega
        refine s_aload_n dX12_stage_260 0 rfl rfl (n_getc (q := 195) 141 80 205 dX12_stage_261 cf_X12 ff_X12_175 rfl sh_141 rfl (by decide) rfl (by decide) (s_bipush dX12_stage_264 (by decide) (s_iload dX12_stage_266 3 rfl (s_iconst dX12_stage_268 (by decide) (s_iload dX12_stage_269 6 rfl (s_ishl dX12_stage_271 (s_ior dX12_stage_272 (n_mul (z := (10 * (ior s (ishl 1 k)))) dX12_stage_273 (wr_id (by omega) (by omega)) (s_iload dX12_stage_274 6 rfl ?_)))))))))
        refine n_add (z := ((10 * (ior s (ishl 1 k))) + k)) dX12_stage_276 (wr_id (by omega) (by omega)) (n_iald 195 dX12_stage_277 rfl sh_195 (by decide) ⟨(by omega), (by omega)⟩ (v := (v9 195 ((10 * (ior s (ishl 1 k))) + k))) rfl (s_aload_n dX12_stage_278 0 rfl rfl (s_iload dX12_stage_279 4 rfl (s_iload dX12_stage_281 6 rfl (n_invV (as := [(0, i), (0, k)]) dX12_stage_283 kv_X12_costs ml_X12_466 (c_M_costs i k v9 (w 141 7).toNat S hn9 hg9 hm9 (by omega) (by omega) hc9 hN9) (by decide) 141 cf_X12 rfl sh_141 rfl rfl rfl (Nat.le_of_ble_eq_true rfl) (n_add (z := ((v9 195 ((10 * (ior s (ishl 1 k))) + k)) + (coM v9 i k))) dX12_stage_286 (wr_id (by omega) (by omega)) (s_aload_n dX12_stage_287 0 rfl rfl (n_getc (q := 195) 141 80 205 dX12_stage_288 cf_X12 ff_X12_175 rfl sh_141 rfl (by decide) rfl (by decide) (s_bipush dX12_stage_291 (by decide) ?_)))))))))
        refine s_iload dX12_stage_293 3 rfl (n_mul (z := (10 * s)) dX12_stage_295 (wr_id (by omega) (by omega)) (s_iload dX12_stage_296 4 rfl (n_add (z := ((10 * s) + i)) dX12_stage_298 (wr_id (by omega) (by omega)) (n_iald 195 dX12_stage_299 rfl sh_195 (by decide) ⟨(by omega), (by omega)⟩ (v := (v9 195 ((10 * s) + i))) rfl (s_icmp_eq 309 dX12_stage_300 (by decide) (fun c_300 => ?_) (fun c_300 => ?_))))))
        · skip
          have ek : k = kb := by
            rcases (show k = kb ∨ k < kb from by omega) with z9 | z9
            · exact z9
            · have z8 := hz3 k hkk.1 z9 (hmbf (by omega))
              unfold valM at z8
              omega
          rw [ek]
          exact hK
        · skip
          refine s_iinc (z := (k + 1)) (ls' := [(0, (2, 141)), (1, (0, S)), (2, (0, q)), (4, (0, s)), (5, (0, i)), (6, (0, r)), (7, (0, (k + 1)))]) dX12_stage_303 6 rfl (Nat.le_of_ble_eq_true rfl) (wr_id (by omega) (by omega)) rfl (s_goto 249 dX12_stage_306 (by decide) ?_)
          exact ih s i r (k + 1) v9 kb (by omega) hk hT (by omega) (by omega) hii (by rcases (show k = kb ∨ k < kb from by omega) with z9 | z9; (have z8 := hz6 z9; first | omega | (have z7 := hz7 z9; unfold valM at z7; omega)); omega) hkb hz1 hz2 hz3 hK (by first | omega | (rcases (show k = kb ∨ k < kb from by omega) with z9 | z9; (have z8 := hz6 z9; first | omega | (have z7 := hz7 z9; unfold valM at z7; omega)); omega))
  have L_237 : ∀ (fu : Nat) (s : Int) (i : Int) (r : Int) (v9 : Wd), (1 ≤ S ∧ S < ishl 1 (w 141 7)) ∧ (0 ≤ q ∧ q ≤ ppI S) → KM9 w v9 (w 141 7).toNat S → TBM v9 (w 141 7).toNat S (-1) → 0 ≤ s ∧ s < ishl 1 (v9 141 82) → 0 ≤ r ∧ r ≤ v9 141 82 → i = 9 ∨ (0 ≤ i ∧ i < v9 141 82 ∧ mbP s i.toNat = true) → eM v9 i = (sqV (cSt (gM v9)) tJ (w 141 7).toNat (-1) (mbP S) r.toNat).2.1 → LfP (mbP S) s = (sqV (cSt (gM v9)) tJ (w 141 7).toNat (-1) (mbP S) r.toNat).2.2 → (∀ t, 0 ≤ t → t < r → v9 196 t = (sqV (cSt (gM v9)) tJ (w 141 7).toNat (-1) (mbP S) (t + 1).toNat).1) → (v9 141 82 - r).toNat < fu → AtN mX12_stage 3 ρ 237 [(0, (2, 141)), (1, (0, S)), (2, (0, q)), (4, (0, s)), (5, (0, i)), (6, (0, r))] [] v9 := by
    intro fu
    induction fu with
    | zero => intro s i r v9 hok hk hT hs hr hii h2 h3 h4 hm; exact absurd hm (Nat.not_lt_zero _)
    | succ fu ih =>
      intro s i r v9 hok hk hT hs hr hii h2 h3 h4 hm
      have hn9 : (w 141 7).toNat ≤ 9 := by omega
      have hg9 := hk.2.2
      have hm9 : v9 141 82 ≤ 9 := by rw [hg9.1]; have := cdP_le (mbP S) (w 141 7).toNat; omega
      have hm0 : 0 ≤ v9 141 82 := by rw [hg9.1]; omega
      have hc9 : ∀ a b, 0 ≤ a → a < 9 → 0 ≤ b → b < 9 → 0 ≤ gM v9 a b ∧ gM v9 a b ≤ 9 := fun a b a1 a2 a3 a4 => by unfold gM; rw [hk.1 193 (by decide) (by decide) (by decide) (by decide)]; exact hc a b a1 a2 a3 a4
      have hN9 : ∀ k : Int, 0 ≤ k → k < ((w 141 7).toNat : Nat) → 0 ≤ v9 192 k ∧ v9 192 k ≤ 20 := fun k a b => by rw [hk.1 192 (by decide) (by decide) (by decide) (by decide)]; exact hN k a (by omega)
      have hqa := ishl1_pow hm0 (show v9 141 82 ≤ 16 by omega)
      have hqb := ishl1_bd hm0 (show v9 141 82 ≤ 16 by omega)
      have hq5 : ishl 1 (v9 141 82) ≤ 512 := by
        have e5 : ((2 ^ (v9 141 82).toNat : Nat) : Int) = 2 ^ (v9 141 82).toNat := by simp
        have e6 : 2 ^ (v9 141 82).toNat ≤ 2 ^ 9 := Nat.pow_le_pow_right (by omega) (by omega)
        omega
      refine s_iload dX12_stage_237 5 rfl (s_aload_n dX12_stage_239 0 rfl rfl (n_getf 141 82 0 dX12_stage_240 cf_X12 ff_X12_457 rfl sh_141 rfl (by decide) (v := (v9 141 82)) rfl (s_icmp_ge 342 dX12_stage_243 (by decide) (fun c_243 => ?_) (fun c_243 => ?_))))
      · skip
        have hcc := cd_pp (s := S) (n := w 141 7) (by omega) (by omega) hn.1 (by rw [← hpw]; omega)
        have hcc2 := hg9.1
        refine s_iload_n dX12_stage_342 2 rfl (s_if_ne 356 dX12_stage_343 (by decide) (fun c_343 => ?_) (fun c_343 => ?_))
        · skip
          refine s_aload_n dX12_stage_356 0 rfl rfl (n_getc (q := 196) 141 81 206 dX12_stage_357 cf_X12 ff_X12_178 rfl sh_141 rfl (by decide) rfl (by decide) (s_iload_n dX12_stage_360 2 rfl (s_iconst dX12_stage_361 (by decide) (n_sub (z := (q - 1)) dX12_stage_362 (wr_id (by omega) (by omega)) (n_iald 196 dX12_stage_363 rfl sh_196 (by decide) ⟨(by omega), (by omega)⟩ (v := (v9 196 (q - 1))) rfl (n_iret dX12_stage_364 hR rfl ?_))))))
          refine ⟨_, rfl, ⟨hk.1, hk.2.1⟩, ?_⟩
          have eg : gM v9 = gM w := by unfold gM; rw [hk.1 193 (by decide) (by decide) (by decide) (by decide)]
          unfold stV
          rw [if_pos (by omega)]
          first
          | (rw [if_pos (show q = 0 by omega)]
             have hq1 := ishl1_bd hm0 (show v9 141 82 ≤ 16 by omega)
             have h9 := hT 0 9 (by omega) (by omega) (Or.inl rfl)
             unfold VM at h9
             rw [LfP_0, eg, hk.1 192 (by decide) (by decide) (by decide) (by decide), niP_wt (by omega) (by omega) _ (by omega)] at h9
             rw [show (10 * 0 + 9 : Int) = 9 from rfl] at h9
             rw [h9]
             rfl)
          | (rw [if_neg (show ¬ q = 0 by omega)]
             have h9 := h4 (q - 1) (by omega) (by omega)
             rw [show q - 1 + 1 = q by omega, eg] at h9
             exact h9)
        · skip
          refine s_aload_n dX12_stage_346 0 rfl rfl (n_getc (q := 195) 141 80 205 dX12_stage_347 cf_X12 ff_X12_175 rfl sh_141 rfl (by decide) rfl (by decide) (s_bipush dX12_stage_350 (by decide) (n_iald 195 dX12_stage_352 rfl sh_195 (by decide) (by decide) (v := (v9 195 9)) rfl (s_goto 364 dX12_stage_353 (by decide) (n_iret dX12_stage_364 hR rfl ?_)))))
          refine ⟨_, rfl, ⟨hk.1, hk.2.1⟩, ?_⟩
          have eg : gM v9 = gM w := by unfold gM; rw [hk.1 193 (by decide) (by decide) (by decide) (by decide)]
          unfold stV
          rw [if_pos (by omega)]
          first
          | (rw [if_pos (show q = 0 by omega)]
             have hq1 := ishl1_bd hm0 (show v9 141 82 ≤ 16 by omega)
             have h9 := hT 0 9 (by omega) (by omega) (Or.inl rfl)
             unfold VM at h9
             rw [LfP_0, eg, hk.1 192 (by decide) (by decide) (by decide) (by decide), niP_wt (by omega) (by omega) _ (by omega)] at h9
             rw [show (10 * 0 + 9 : Int) = 9 from rfl] at h9
             rw [h9]
             rfl)
          | (rw [if_neg (show ¬ q = 0 by omega)]
             have h9 := h4 (q - 1) (by omega) (by omega)
             rw [show q - 1 + 1 = q by omega, eg] at h9
             exact h9)
      · skip
        have hcd := sqV_cd (c := cSt (gM v9)) (t := tJ) (n := (w 141 7).toNat) (i := -1) (P := mbP S) r.toNat (by have := hg9.1; omega)
        rw [← h3] at hcd
        have hex : ∃ j, j < (w 141 7).toNat ∧ LfP (mbP S) s j = true := by
          rcases amN_spec (LfP (mbP S) s) (fun _ => 0) (w 141 7).toNat with ⟨-, q0⟩ | ⟨b, -, b2, b3, -⟩
          · rw [(cdP_0 _).mpr q0] at hcd; have := hg9.1; omega
          · exact ⟨b, b2, b3⟩
        obtain ⟨b, b1, kb, kb0, hkb, b4, hz1, hz2, hz3⟩ := M_first hn9 hg9 hm9 hT hs hii hex
        have hK : AtN mX12_stage 3 ρ 309 [(0, (2, 141)), (1, (0, S)), (2, (0, q)), (4, (0, s)), (5, (0, i)), (6, (0, r)), (7, (0, kb))] [] v9 := by
          obtain ⟨l, l1, l2, l3, l4, l5, l6, l7⟩ := ior_mb (s := s) (k := kb) (by omega) (by omega) (by omega) (by omega)
          obtain ⟨j, j1, j2, j3, j4⟩ := GA_e hg9 (k := kb) kb0 hkb
          have ejb : j = b := by omega
          subst ejb
          have hLr : LfP (mbP S) (l : Int) = rmP (LfP (mbP S) s) j := LfP_or j2 (by rw [show cdP (mbP S) j = kb.toNat by omega]; exact l5) (fun x hx => l6 x (by omega))
          have hs2 : 0 ≤ ior s (ishl 1 kb) ∧ ior s (ishl 1 kb) < ishl 1 (v9 141 82) := by
            rw [l1]
            refine ⟨by omega, ?_⟩
            rw [hqa]
            exact l7 _ (by rw [← hqa]; omega) (by omega)
          have hi2 : kb = 9 ∨ (0 ≤ kb ∧ kb < v9 141 82 ∧ mbP (ior s (ishl 1 kb)) kb.toNat = true) := Or.inr ⟨kb0, hkb, by rw [l1]; exact l5⟩
          have esq : (sqV (cSt (gM v9)) tJ (w 141 7).toNat (-1) (mbP S) (r + 1).toNat) = ((j : Int), (j : Int), rmP (LfP (mbP S) s) j) := by
            rw [toN_s hr.1, sqV, ← h2, ← h3, b1]
            rfl
          have h2n : eM v9 kb = (sqV (cSt (gM v9)) tJ (w 141 7).toNat (-1) (mbP S) (r + 1).toNat).2.1 := by
            rw [esq]
            unfold eM
            rw [if_neg (by omega)]
            exact j4
          have h3n : LfP (mbP S) (ior s (ishl 1 kb)) = (sqV (cSt (gM v9)) tJ (w 141 7).toNat (-1) (mbP S) (r + 1).toNat).2.2 := by rw [esq, l1]; exact hLr
          have h4n : ∀ t, 0 ≤ t → t < r + 1 → wu v9 196 r (v9 194 kb) 196 t = (sqV (cSt (gM v9)) tJ (w 141 7).toNat (-1) (mbP S) (t + 1).toNat).1 := fun t a b => by
            rw [wu_at]
            by_cases e5 : t = r
            · subst e5; rw [if_pos rfl, esq]; exact j4
            · rw [if_neg e5]; exact h4 t a (by omega)
          skip
          refine s_aload_n dX12_stage_309 0 rfl rfl (n_getc (q := 196) 141 81 206 dX12_stage_310 cf_X12 ff_X12_178 rfl sh_141 rfl (by decide) rfl (by decide) (s_iload dX12_stage_313 5 rfl (s_aload_n dX12_stage_315 0 rfl rfl (n_getc (q := 194) 141 79 204 dX12_stage_316 cf_X12 ff_X12_172 rfl sh_141 rfl (by decide) rfl (by decide) (s_iload dX12_stage_319 6 rfl (n_iald 194 dX12_stage_321 rfl sh_194 (by decide) ⟨(by omega), (by omega)⟩ (v := (v9 194 kb)) rfl (s_iastore 196 dX12_stage_322 rfl sh_196 (by decide) ⟨(by omega), (by omega)⟩ (s_iload dX12_stage_323 3 rfl (s_iconst dX12_stage_325 (by decide) ?_)))))))))
          refine s_iload dX12_stage_326 6 rfl (s_ishl dX12_stage_328 (s_ior dX12_stage_329 (s_istore (ls' := [(0, (2, 141)), (1, (0, S)), (2, (0, q)), (4, (0, (ior s (ishl 1 kb)))), (5, (0, i)), (6, (0, r)), (7, (0, kb))]) dX12_stage_330 (Nat.le_of_ble_eq_true rfl) rfl (s_iload dX12_stage_332 6 rfl (s_istore (ls' := [(0, (2, 141)), (1, (0, S)), (2, (0, q)), (4, (0, (ior s (ishl 1 kb)))), (5, (0, kb)), (6, (0, r)), (7, (0, kb))]) dX12_stage_334 (Nat.le_of_ble_eq_true rfl) rfl (s_iinc (z := (r + 1)) (ls' := [(0, (2, 141)), (1, (0, S)), (2, (0, q)), (4, (0, (ior s (ishl 1 kb)))), (5, (0, kb)), (6, (0, (r + 1))), (7, (0, kb))]) dX12_stage_336 5 rfl (Nat.le_of_ble_eq_true rfl) (wr_id (by omega) (by omega)) rfl (s_goto 237 dX12_stage_339 (by decide) ?_)))))))
          exact At.keep (ls' := [(0, (2, 141)), (1, (0, S)), (2, (0, q)), (4, (0, (ior s (ishl 1 kb)))), (5, (0, kb)), (6, (0, (r + 1)))]) [0, 1, 2, 3, 4, 5] rfl (ih (ior s (ishl 1 kb)) kb (r + 1) (wu v9 196 r (v9 194 kb)) (by omega) hk.u6 (fun s1 i1 a b c => hT s1 i1 a b c) hs2 (by rw [wu_ne (by decide)]; omega) hi2 h2n h3n h4n (by rw [wu_ne (by decide)]; omega))
        skip
        refine s_iconst dX12_stage_246 (by decide) (s_istore (ls' := [(0, (2, 141)), (1, (0, S)), (2, (0, q)), (4, (0, s)), (5, (0, i)), (6, (0, r)), (7, (0, 0))]) dX12_stage_247 (Nat.le_of_ble_eq_true rfl) rfl ?_)
        exact L_249 _ s i r 0 v9 kb (by omega) hk hT (by omega) (by omega) hii (by omega) hkb hz1 hz2 hz3 hK (Nat.lt_succ_self _)
  have L_50 : ∀ (fu : Nat) (e : Int) (s : Int) (v9 : Wd), (1 ≤ S ∧ S < ishl 1 (w 141 7)) ∧ (0 ≤ q ∧ q ≤ ppI S) → KM9 w v9 (w 141 7).toNat S → e = ishl 1 (v9 141 82) → -1 ≤ s ∧ s < e → TBM v9 (w 141 7).toNat S s → (s + 1).toNat < fu → AtN mX12_stage 3 ρ 50 [(0, (2, 141)), (1, (0, S)), (2, (0, q)), (3, (0, e)), (4, (0, s))] [] v9 := by
    intro fu
    induction fu with
    | zero => intro e s v9 hok hk he hs hT hm; exact absurd hm (Nat.not_lt_zero _)
    | succ fu ih =>
      intro e s v9 hok hk he hs hT hm
      have hg7 := hk.2.2
      have hm7 : v9 141 82 ≤ 9 := by rw [hg7.1]; have := cdP_le (mbP S) (w 141 7).toNat; omega
      have hm0 : 0 ≤ v9 141 82 := by rw [hg7.1]; omega
      have hqb9 := ishl1_bd hm0 (show v9 141 82 ≤ 16 by omega)
      refine s_iload dX12_stage_50 4 rfl (s_if_lt 227 dX12_stage_52 (by decide) (fun c_52 => ?_) (fun c_52 => ?_))
      · skip
        refine s_iconst dX12_stage_227 (by decide) (s_istore (ls' := [(0, (2, 141)), (1, (0, S)), (2, (0, q)), (3, (0, e)), (4, (0, 0))]) dX12_stage_228 (Nat.le_of_ble_eq_true rfl) rfl (s_bipush dX12_stage_230 (by decide) (s_istore (ls' := [(0, (2, 141)), (1, (0, S)), (2, (0, q)), (3, (0, e)), (4, (0, 0)), (5, (0, 9))]) dX12_stage_232 (Nat.le_of_ble_eq_true rfl) rfl (s_iconst dX12_stage_234 (by decide) (s_istore (ls' := [(0, (2, 141)), (1, (0, S)), (2, (0, q)), (3, (0, e)), (4, (0, 0)), (5, (0, 9)), (6, (0, 0))]) dX12_stage_235 (Nat.le_of_ble_eq_true rfl) rfl ?_)))))
        exact At.keep (ls' := [(0, (2, 141)), (1, (0, S)), (2, (0, q)), (4, (0, 0)), (5, (0, 9)), (6, (0, 0))]) [0, 1, 2, 4, 5, 6] rfl (L_237 _ 0 9 0 v9 (by omega) hk (by rw [show s = -1 by omega] at hT; exact hT) (by omega) (by omega) (Or.inl rfl) rfl LfP_0 (fun t a b => absurd b (by omega)) (Nat.lt_succ_self _))
      · skip
        refine s_iconst dX12_stage_55 (by decide) (s_istore (ls' := [(0, (2, 141)), (1, (0, S)), (2, (0, q)), (3, (0, e)), (4, (0, s)), (5, (0, 0))]) dX12_stage_56 (Nat.le_of_ble_eq_true rfl) rfl ?_)
        exact L_58 _ e s 0 v9 (by omega) hk he (by omega) (by omega) hT (fun i1 a b => absurd b (by omega)) (fun v f1 f2 f3 => s_iinc (z := (s + -1)) (ls' := [(0, (2, 141)), (1, (0, S)), (2, (0, q)), (3, (0, e)), (4, (0, (s + -1)))]) dX12_stage_221 4 rfl (Nat.le_of_ble_eq_true rfl) (wr_id (by omega) (by omega)) rfl (s_goto 50 dX12_stage_224 (by decide) (ih e (s + -1) v hok f1 f2 (by omega) (by rw [show s + -1 = s - 1 by omega]; exact f3) (by omega)))) (Nat.lt_succ_self _)
  refine s_iload_n dX12_stage_0 1 rfl (s_iconst dX12_stage_1 (by decide) (s_icmp_lt 27 dX12_stage_2 (by decide) (fun c_2 => ?_) (fun c_2 => ?_)))
  · skip
    refine s_iconst dX12_stage_27 (by decide) (n_iret dX12_stage_28 hR rfl ?_)
    exact ⟨_, rfl, ⟨fun _ _ _ _ _ => rfl, fun _ _ => rfl⟩, (if_neg (by omega)).symm⟩
  · skip
    refine s_iload_n dX12_stage_5 1 rfl (s_iconst dX12_stage_6 (by decide) (s_aload_n dX12_stage_7 0 rfl rfl (n_getf 141 7 0 dX12_stage_8 cf_X12 ff_X12_451 rfl sh_141 rfl (by decide) (v := (w 141 7)) rfl (s_ishl dX12_stage_11 (s_icmp_ge 27 dX12_stage_12 (by decide) (fun c_12 => ?_) (fun c_12 => ?_))))))
    · skip
      refine s_iconst dX12_stage_27 (by decide) (n_iret dX12_stage_28 hR rfl ?_)
      exact ⟨_, rfl, ⟨fun _ _ _ _ _ => rfl, fun _ _ => rfl⟩, (if_neg (by omega)).symm⟩
    · skip
      refine s_iload_n dX12_stage_15 2 rfl (s_iconst dX12_stage_16 (by decide) (s_iload_n dX12_stage_17 1 rfl (n_invS (as := [(0, S)]) dX12_stage_18 kv_X12_bits ml_X12_460 (c_M_bits S w) (by decide) rfl rfl (Nat.le_of_ble_eq_true rfl) (n_invS (as := [(0, q), (0, 0), (0, (ppI S))]) dX12_stage_21 kv_X12_isIn ml_X12_223 (c_isIn q 0 (ppI S) w) (by decide) rfl rfl (Nat.le_of_ble_eq_true rfl) (n_ifne_b 29 dX12_stage_24 (by decide) (fun c_24 => ?_) (fun c_24 => ?_))))))
      · skip
        have hcd9 : cdP (mbP S) (w 141 7).toNat ≤ 9 := by have := cdP_le (mbP S) (w 141 7).toNat; omega
        refine s_aload_n dX12_stage_29 0 rfl rfl (s_iload_n dX12_stage_30 1 rfl (s_aload_n dX12_stage_31 0 rfl rfl (n_getf 141 7 0 dX12_stage_32 cf_X12 ff_X12_451 rfl sh_141 rfl (by decide) (v := (w 141 7)) rfl (n_invV' (as := [(0, S), (0, (w 141 7))]) dX12_stage_35 kv_X12_gathers ml_X12_463 (c_M_gathers S (w 141 7) w (by omega) (by omega) hcd9) (by decide) 141 cf_X12 rfl sh_141 rfl rfl rfl (Nat.le_of_ble_eq_true rfl) ?_))))
        rintro r_35 w_35 ⟨rfl, hf, hg⟩
        have hk9 : KM9 w w_35 (w 141 7).toNat S := ⟨fun c c1 _ _ c4 => hf.1 c c1 c4, hf.2, hg⟩
        have hm7 : w_35 141 82 ≤ 9 := by rw [hg.1]; have := cdP_le (mbP S) (w 141 7).toNat; omega
        have hm0 : 0 ≤ w_35 141 82 := by rw [hg.1]; omega
        have hqb7 := ishl1_bd hm0 (show w_35 141 82 ≤ 16 by omega)
        refine s_iconst dX12_stage_38 (by decide) (s_aload_n dX12_stage_39 0 rfl rfl (n_getf 141 82 0 dX12_stage_40 cf_X12 ff_X12_457 rfl sh_141 rfl (by decide) (v := (w_35 141 82)) rfl (s_ishl dX12_stage_43 (s_istore_n (ls' := [(0, (2, 141)), (1, (0, S)), (2, (0, q)), (3, (0, (ishl 1 (w_35 141 82))))]) dX12_stage_44 (Nat.le_of_ble_eq_true rfl) rfl (s_iload_n dX12_stage_45 3 rfl (s_iconst dX12_stage_46 (by decide) (n_sub (z := ((ishl 1 (w_35 141 82)) - 1)) dX12_stage_47 (wr_id (by omega) (by omega)) (s_istore (ls' := [(0, (2, 141)), (1, (0, S)), (2, (0, q)), (3, (0, (ishl 1 (w_35 141 82)))), (4, (0, ((ishl 1 (w_35 141 82)) - 1)))]) dX12_stage_48 (Nat.le_of_ble_eq_true rfl) rfl ?_))))))))
        exact L_50 _ (ishl 1 (w_35 141 82)) ((ishl 1 (w_35 141 82)) - 1) w_35 (by omega) hk9 rfl (by omega) (fun s1 i1 a b => absurd b (by omega)) (Nat.lt_succ_self _)
      · skip
        refine s_iconst dX12_stage_27 (by decide) (n_iret dX12_stage_28 hR rfl ?_)
        exact ⟨_, rfl, ⟨fun _ _ _ _ _ => rfl, fun _ _ => rfl⟩, (if_neg (by omega)).symm⟩
