/-! WIRE, THE CLASS. -/
def abV (a : Int) : Int := if a < 0 then -a else a
theorem abV_D (a b : Int) : abV (a - b) = abD a b := by unfold abV abD; split <;> split <;> omega
def GXm (v : Wd) (S : Int) (n : Nat) : Prop := v 103 4 = ((cdP (mbP S) n : Nat) : Int) ∧ ∀ j : Nat, j < n → mbP S j = true → v 106 ((cdP (mbP S) j : Nat) : Int) = j
/-- the highest bit below n -/
def lasI (L : Int) : Nat → Int
  | 0 => 0
  | n + 1 => if bt L n = 1 then n else lasI L n
theorem lasI_s {L i : Int} (h : 0 ≤ i) : lasI L (i + 1).toNat = if bt L i = 1 then i else lasI L i.toNat := by rw [toN_s h, lasI, toN_c h]
theorem lasI_p {L : Int} : ∀ n : Nat, (0 ≤ lasI L n ∧ (lasI L n < n ∨ lasI L n = 0)) ∧ ((∃ k : Nat, k < n ∧ bt L k = 1) → lasI L n < n ∧ bt L (lasI L n) = 1)
  | 0 => ⟨⟨Int.le_refl _, Or.inr rfl⟩, fun ⟨k, hk, _⟩ => absurd hk (by omega)⟩
  | n + 1 => by
    have ih := lasI_p (L := L) n
    rw [lasI]
    by_cases c : bt L n = 1
    · rw [if_pos c]
      exact ⟨⟨by omega, by omega⟩, fun _ => ⟨by omega, c⟩⟩
    · rw [if_neg c]
      refine ⟨⟨ih.1.1, by have := ih.1.2; omega⟩, fun ⟨k, hk, hb⟩ => ?_⟩
      have hk2 : k < n := by
        rcases Nat.lt_or_ge k n with q | q
        · exact q
        · have e : k = n := by omega
          subst e; exact absurd hb c
      have := ih.2 ⟨k, hk2, hb⟩
      exact ⟨by omega, this.2⟩
/-- what the class works out for a place that goes first -/
def afX (w : Wd) (L t k : Int) : Int := (abD t (w 16 (w 106 k)) + w 104 (w 106 k)) * w 107 L + w 108 (iand L (ixor (ishl 1 k) (-1)) * 4 + w 16 (w 106 k))
/-- the tables of the sets of places below E -/
def TBW (u v : Wd) (e : Int → Int) (m : Nat) (E : Int) : Prop := ∀ L, 0 ≤ L → L < E → v 107 L = niP (fun k => u 105 (e k)) (mbP L) m ∧ ∀ t, 0 ≤ t → t < 4 → v 108 (L * 4 + t) = VV (cWi (u 16) (u 104) (u 105) e m) (tWi (u 16) e) m t (mbP L)
theorem TBW_0 {u v : Wd} {e : Int → Int} {m : Nat} (h0 : v 107 0 = 0) (h1 : ∀ t, 0 ≤ t → t < 4 → v 108 t = 0) : TBW u v e m 1 := fun L a b => by
  have e0 : L = 0 := by omega
  subst e0
  have hz : ∀ k, k < m → mbP 0 k = false := fun k _ => by unfold mbP; exact Nat.zero_testBit k
  rw [niP_0 m hz, h0]
  refine ⟨rfl, fun t c d => ?_⟩
  rw [VV_0 hz, show (0 : Int) * 4 + t = t by omega]
  exact h1 t c d
theorem bit_ex {L : Int} {m : Nat} (hL : 1 ≤ L) (hL2 : L < 2 ^ m) : ∃ k, k < m ∧ mbP L k = true := by
  cases hc : cdP (mbP L) m with
  | zero =>
    have h0 := (cdP_0 m).mp hc
    have : L = 0 := mbP_0 (by omega) (fun k => by
      cases hk : mbP L k with
      | false => rfl
      | true =>
        have := mbP_lt (by omega) hL2 hk
        rw [h0 k this] at hk; cases hk)
    omega
  | succ q =>
    rcases amN_spec (mbP L) (fun _ => 0) m with ⟨-, z⟩ | ⟨b, -, b2, b3, -⟩
    · rw [(cdP_0 m).mpr z] at hc; cases hc
    · exact ⟨b, b2, b3⟩
/-- the places of the world: members, towns, weeks, losses are u's -/
def MXw (u v : Wd) (e : Int → Int) (m : Nat) : Prop := v 103 4 = m ∧ (∀ k : Int, 0 ≤ k → k < m → v 106 k = e k) ∧ v 16 = u 16 ∧ v 104 = u 104 ∧ v 105 = u 105
theorem wiX_nx {u v : Wd} {e : Int → Int} {m : Nat} {L t : Int} (hW : WH (u 16) (u 104) (u 105) e m) (hM : MXw u v e m) (hL : 1 ≤ L) (hL2 : L < 2 ^ m) (hT : TBW u v e m L) (hl : v 107 L = niP (fun k => u 105 (e k)) (mbP L) m) (ht : 0 ≤ t ∧ t < 4) :
    (∀ j : Int, 0 ≤ j → j < m → mbP L j.toNat = true → 0 ≤ v 108 (iand L (ixor (ishl 1 j) (-1)) * 4 + v 16 (v 106 j)) ∧ v 108 (iand L (ixor (ishl 1 j) (-1)) * 4 + v 16 (v 106 j)) ≤ 971028) ∧ ∃ b : Nat, nxV (cWi (u 16) (u 104) (u 105) e m) (tWi (u 16) e) m t (mbP L) = b ∧ amN (mbP L) (fun k => afX v L t k) m = b ∧ b < m ∧ mbP L b = true ∧ afX v L t b = VV (cWi (u 16) (u 104) (u 105) e m) (tWi (u 16) e) m t (mbP L) := by
  have hm9 := hW.1
  have hp : ((2 ^ m : Nat) : Int) = 2 ^ m := by simp
  have hp2 : 2 ^ m ≤ 2 ^ 9 := Nat.pow_le_pow_right (by omega) (by omega)
  have hex := bit_ex hL hL2
  have hv : ∀ j : Nat, j < m → mbP L j = true → v 108 (iand L (ixor (ishl 1 j) (-1)) * 4 + v 16 (v 106 j)) = VV (cWi (u 16) (u 104) (u 105) e m) (tWi (u 16) e) m (tWi (u 16) e j) (rmP (mbP L) j) := fun j a c => by
    obtain ⟨l, l1, l2, l3, l4⟩ := mbP_clr (s := L) (j := (j : Int)) (by omega) (by omega) (by omega) (by omega)
    rw [show ((j : Int)).toNat = j from rfl] at l3 l4
    have hb := hW.2 j (by omega) (by omega)
    rw [l1, hM.2.1 j (by omega) (by omega), hM.2.2.1]
    have h2 := (hT (l : Int) (by omega) (l4 c)).2 (u 16 (e j)) (by omega) (by omega)
    rw [h2, l3]
    rfl
  refine ⟨fun j a b c => ?_, ?_⟩
  · have h3 := hv j.toNat (by omega) c
    rw [toN_c a] at h3
    rw [h3]
    exact VW_bd hW _ _
  obtain ⟨b, b1, b2, b3, b4, -⟩ := nxV_spec (c := cWi (u 16) (u 104) (u 105) e m) (t := tWi (u 16) e) (n := m) t (mbP L) hex
  have haf : ∀ k : Nat, k < m → mbP L k = true → afX v L t k = afV (cWi (u 16) (u 104) (u 105) e m) (tWi (u 16) e) m t (mbP L) k := fun k h1 h2 => by
    unfold afX
    rw [hv k h1 h2, hl, hM.2.1 k (by omega) (by omega), hM.2.2.1, hM.2.2.2.1]
    unfold afV cWi dW
    rw [if_pos (by omega)]
  refine ⟨b, b1, ?_, b2, b3, ?_⟩
  · rw [← b1]
    exact amN_c haf
  · rw [haf b b2 b3]
    exact b4.symm

set_option maxRecDepth 100000 in
theorem j_abs (a : Int) (w : Wd) (ha : -1000 ≤ a ∧ a ≤ 1000) : CallN 1 mJ9_abs_0f7a4 [(0, a)] w (RV (0, abV a) w) := by
  refine CallN.introF (by decide +kernel) (Nat.le_of_ble_eq_true rfl) (fun ρ hR => ?_)
  show AtN mJ9_abs_0f7a4 1 ρ 0 [(0, (0, a))] [] w
  refine s_iload_n dJ9_abs_0f7a4_0 0 rfl (s_if_ge 9 dJ9_abs_0f7a4_1 (by decide) (fun c_1 => ?_) (fun c_1 => ?_))
  · skip
    refine s_iload_n dJ9_abs_0f7a4_9 0 rfl (n_iret dJ9_abs_0f7a4_10 hR rfl ?_)
    refine ⟨congrArg (fun z => some ((0 : Nat), z)) ?_, rfl⟩
    unfold abV
    split <;> first | rfl | omega
  · skip
    refine s_iload_n dJ9_abs_0f7a4_4 0 rfl (n_neg (z := (-a)) dJ9_abs_0f7a4_5 (wr_id (by omega) (by omega)) (s_goto 10 dJ9_abs_0f7a4_6 (by decide) (n_iret dJ9_abs_0f7a4_10 hR rfl ?_)))
    refine ⟨congrArg (fun z => some ((0 : Nat), z)) ?_, rfl⟩
    unfold abV
    split <;> first | rfl | omega

set_option maxRecDepth 100000 in
theorem c_X_enlist (S : Int) (w : Wd) (hS : 0 ≤ S ∧ S < 65536) (hn : 0 ≤ w 15 10 ∧ w 15 10 ≤ 16) (hc : cdP (mbP S) (w 15 10).toNat ≤ 9) : CallN 2 mX10_enlist [(2, 103), (0, S)] w (RUQ (fun w1 => ((∀ c, c ≠ 103 → c ≠ 106 → w1 c = w c) ∧ ∀ j, j ≠ 4 → w1 103 j = w 103 j) ∧ GXm w1 S (w 15 10).toNat)) := by
  refine CallN.intro (by decide +kernel) (Nat.le_of_ble_eq_true rfl) (fun ρ hR => ?_)
  show AtN mX10_enlist 2 ρ 0 [(0, (2, 103)), (1, (0, S))] [] w
  have L_7 : ∀ (fu : Nat) (i : Int) (v9 : Wd), 0 ≤ i ∧ i ≤ w 15 10 → ((∀ c, c ≠ 103 → c ≠ 106 → v9 c = w c) ∧ ∀ j, j ≠ 4 → v9 103 j = w 103 j) → v9 103 4 = ((cdP (mbP S) i.toNat : Nat) : Int) → (∀ j : Nat, j < i.toNat → mbP S j = true → v9 106 ((cdP (mbP S) j : Nat) : Int) = j) → (w 15 10 - i).toNat < fu → AtN mX10_enlist 2 ρ 7 [(0, (2, 103)), (1, (0, S)), (2, (0, i))] [] v9 := by
    intro fu
    induction fu with
    | zero => intro i v9 hi hf hk he hm; exact absurd hm (Nat.not_lt_zero _)
    | succ fu ih =>
      intro i v9 hi hf hk he hm
      have b01 := bt01 S i
      have q15 : v9 15 10 = w 15 10 := by rw [hf.1 15 (by decide) (by decide)]
      refine s_iload_n dX10_enlist_7 2 rfl (s_aload_n dX10_enlist_8 0 rfl rfl (n_getc (q := 15) 103 0 25 dX10_enlist_9 cf_X10 ff_X10_27 rfl sh_103 rfl (by decide) rfl (by decide) (n_getf 15 10 0 dX10_enlist_12 cf_X3 ff_X10_41 rfl sh_15 rfl (by decide) (v := (v9 15 10)) rfl (s_icmp_ge 61 dX10_enlist_15 (by decide) (fun c_15 => ?_) (fun c_15 => ?_)))))
      · skip
        refine n_ret dX10_enlist_61 hR rfl ?_
        have e9 : i = w 15 10 := by omega
        rw [e9] at hk he
        exact ⟨rfl, hf, hk, he⟩
      · skip
        have hm : bt S i = 1 ↔ mbP S i.toNat = true := mbP_bt hS.1 hS.2 hi.1 (by omega)
        have hlt : mbP S i.toNat = true → cdP (mbP S) i.toNat < cdP (mbP S) (w 15 10).toNat := fun q => cdP_lt (by omega) q
        refine s_iload_n dX10_enlist_18 1 rfl (s_iload_n dX10_enlist_19 2 rfl (n_invT (as := [(0, S), (0, i)]) dX10_enlist_20 kv_X11_has ml_X10_68 (c_X_has S i v9) (by decide) rfl rfl (Nat.le_of_ble_eq_true rfl) (n_ifeq_b 55 dX10_enlist_23 (by decide) (fun c_23 => ?_) (fun c_23 => ?_))))
        · skip
          refine s_iinc (z := (i + 1)) (ls' := [(0, (2, 103)), (1, (0, S)), (2, (0, (i + 1)))]) dX10_enlist_55 2 rfl (Nat.le_of_ble_eq_true rfl) (wr_id (by omega) (by omega)) rfl (s_goto 7 dX10_enlist_58 (by decide) ?_)
          exact ih (i + 1) v9 (by omega) hf (by rw [toN_s hi.1, cdP, if_neg (fun q => by have := hm.mpr q; omega)]; exact hk) (fun j hj hp => by by_cases e : j = i.toNat; (subst e; have := hm.mpr hp; omega); exact he j (by omega) hp) (by omega)
        · skip
          have hlt2 := hlt (hm.mp (by omega))
          refine s_aload_n dX10_enlist_26 0 rfl rfl (n_getf 103 4 0 dX10_enlist_27 cf_X10 ff_X10_58 rfl sh_103 rfl (by decide) (v := (v9 103 4)) rfl (s_bipush dX10_enlist_30 (by decide) (s_icmp_ge 55 dX10_enlist_32 (by decide) (fun c_32 => ?_) (fun c_32 => ?_))))
          · skip
            exfalso
            omega
          · skip
            refine s_aload_n dX10_enlist_35 0 rfl rfl (n_getc (q := 106) 103 3 116 dX10_enlist_36 cf_X10 ff_X10_18 rfl sh_103 rfl (by decide) rfl (by decide) (s_aload_n dX10_enlist_39 0 rfl rfl (n_getf 103 4 0 dX10_enlist_40 cf_X10 ff_X10_58 rfl sh_103 rfl (by decide) (v := (v9 103 4)) rfl (s_iload_n dX10_enlist_43 2 rfl (s_iastore 106 dX10_enlist_44 rfl sh_106 (by decide) ⟨(by omega), (by omega)⟩ (s_aload_n dX10_enlist_45 0 rfl rfl (s_dup dX10_enlist_46 (show (2 : Nat) ≠ 1 by decide) (n_getf 103 4 0 dX10_enlist_47 cf_X10 ff_X10_58 rfl sh_103 rfl (by decide) (v := (v9 103 4)) rfl (s_iconst dX10_enlist_50 (by decide) ?_)))))))))
            refine n_add (z := ((v9 103 4) + 1)) dX10_enlist_51 (wr_id (by omega) (by omega)) (n_putf 103 4 4 dX10_enlist_52 cf_X10 ff_X10_58 rfl rfl sh_103 rfl rfl rfl (s_iinc (z := (i + 1)) (ls' := [(0, (2, 103)), (1, (0, S)), (2, (0, (i + 1)))]) dX10_enlist_55 2 rfl (Nat.le_of_ble_eq_true rfl) (wr_id (by omega) (by omega)) rfl (s_goto 7 dX10_enlist_58 (by decide) ?_)))
            exact ih (i + 1) (wu (wu v9 106 (v9 103 4) i) 103 4 ((v9 103 4) + 1)) (by omega) ⟨fun c c1 c2 => by rw [wu_ne c1, wu_ne c2]; exact hf.1 c c1 c2, fun j hj => by rw [wu_at, if_neg hj, wu_ne (by decide)]; exact hf.2 j hj⟩ (by rw [toN_s hi.1, cdP, if_pos (hm.mp (by omega)), wu_same]; omega) (fun j hj hp => by rw [wu_ne (by decide), hk, wu_at]; by_cases e : j = i.toNat; (subst e; rw [if_pos rfl]; omega); (rw [if_neg (by have := cdP_lt (P := mbP S) (a := j) (b := i.toNat) (by omega) hp; omega)]; exact he j (by omega) hp)) (by omega)
  refine s_aload_n dX10_enlist_0 0 rfl rfl (s_iconst dX10_enlist_1 (by decide) (n_putf 103 4 4 dX10_enlist_2 cf_X10 ff_X10_58 rfl rfl sh_103 rfl rfl rfl (s_iconst dX10_enlist_5 (by decide) (s_istore_n (ls' := [(0, (2, 103)), (1, (0, S)), (2, (0, 0))]) dX10_enlist_6 (Nat.le_of_ble_eq_true rfl) rfl ?_))))
  exact L_7 _ 0 (wu w 103 4 0) (by omega) ⟨fun c c1 c2 => wu_ne c1, fun j hj => by rw [wu_at, if_neg hj]⟩ rfl (fun j hj => absurd hj (by omega)) (Nat.lt_succ_self _)

set_option maxRecDepth 100000 in
theorem c_X_lastOf (L : Int) (w : Wd) (h : 0 ≤ w 103 4 ∧ w 103 4 ≤ 9) : CallN 2 mX10_lastOf [(2, 103), (0, L)] w (RV (0, lasI L (w 103 4).toNat) w) := by
  refine CallN.intro (by decide +kernel) (Nat.le_of_ble_eq_true rfl) (fun ρ hR => ?_)
  show AtN mX10_lastOf 2 ρ 0 [(0, (2, 103)), (1, (0, L))] [] w
  have L_4 : ∀ (fu : Nat) (i : Int) (a : Int), 0 ≤ i ∧ i ≤ w 103 4 → a = lasI L i.toNat → (w 103 4 - i).toNat < fu → AtN mX10_lastOf 2 ρ 4 [(0, (2, 103)), (1, (0, L)), (2, (0, a)), (3, (0, i))] [] w := by
    intro fu
    induction fu with
    | zero => intro i a hi ha hm; exact absurd hm (Nat.not_lt_zero _)
    | succ fu ih =>
      intro i a hi ha hm
      refine s_iload_n dX10_lastOf_4 3 rfl (s_aload_n dX10_lastOf_5 0 rfl rfl (n_getf 103 4 0 dX10_lastOf_6 cf_X10 ff_X10_58 rfl sh_103 rfl (by decide) (v := (w 103 4)) rfl (s_icmp_ge 28 dX10_lastOf_9 (by decide) (fun c_9 => ?_) (fun c_9 => ?_))))
      · skip
        refine s_iload_n dX10_lastOf_28 2 rfl (n_iret dX10_lastOf_29 hR rfl ?_)
        have e9 : i = w 103 4 := by omega
        rw [e9] at ha
        exact ⟨congrArg (fun z => some ((0 : Nat), z)) ha, rfl⟩
      · skip
        refine s_iload_n dX10_lastOf_12 1 rfl (s_iload_n dX10_lastOf_13 3 rfl (n_invT (as := [(0, L), (0, i)]) dX10_lastOf_14 kv_X11_has ml_X10_68 (c_X_has L i w) (by decide) rfl rfl (Nat.le_of_ble_eq_true rfl) (n_ifeq_b 22 dX10_lastOf_17 (by decide) (fun c_17 => ?_) (fun c_17 => ?_))))
        · skip
          refine s_iinc (z := (i + 1)) (ls' := [(0, (2, 103)), (1, (0, L)), (2, (0, a)), (3, (0, (i + 1)))]) dX10_lastOf_22 3 rfl (Nat.le_of_ble_eq_true rfl) (wr_id (by omega) (by omega)) rfl (s_goto 4 dX10_lastOf_25 (by decide) ?_)
          exact ih (i + 1) a (by omega) (by rw [lasI_s hi.1, ← ha]; first | exact (if_pos (by omega)).symm | exact (if_neg (by omega)).symm) (by omega)
        · skip
          refine s_iload_n dX10_lastOf_20 3 rfl (s_istore_n (ls' := [(0, (2, 103)), (1, (0, L)), (2, (0, i)), (3, (0, i))]) dX10_lastOf_21 (Nat.le_of_ble_eq_true rfl) rfl (s_iinc (z := (i + 1)) (ls' := [(0, (2, 103)), (1, (0, L)), (2, (0, i)), (3, (0, (i + 1)))]) dX10_lastOf_22 3 rfl (Nat.le_of_ble_eq_true rfl) (wr_id (by omega) (by omega)) rfl (s_goto 4 dX10_lastOf_25 (by decide) ?_)))
          exact ih (i + 1) i (by omega) (by rw [lasI_s hi.1, ← ha]; first | exact (if_pos (by omega)).symm | exact (if_neg (by omega)).symm) (by omega)
  refine s_iconst dX10_lastOf_0 (by decide) (s_istore_n (ls' := [(0, (2, 103)), (1, (0, L)), (2, (0, 0))]) dX10_lastOf_1 (Nat.le_of_ble_eq_true rfl) rfl (s_iconst dX10_lastOf_2 (by decide) (s_istore_n (ls' := [(0, (2, 103)), (1, (0, L)), (2, (0, 0)), (3, (0, 0))]) dX10_lastOf_3 (Nat.le_of_ble_eq_true rfl) rfl ?_)))
  exact L_4 _ 0 0 (by omega) rfl (Nat.lt_succ_self _)

set_option maxRecDepth 100000 in
theorem c_X_wiAfter (L t k : Int) (w : Wd) (hL : 0 ≤ L ∧ L < 512) (ht : 0 ≤ t ∧ t < 4) (hk : 0 ≤ k ∧ k < 9) (hp : (0 ≤ w 106 k ∧ w 106 k < 16) ∧ (0 ≤ w 16 (w 106 k) ∧ w 16 (w 106 k) ≤ 3) ∧ (1 ≤ w 104 (w 106 k) ∧ w 104 (w 106 k) ≤ 9)) (hl : 0 ≤ w 107 L ∧ w 107 L ≤ 8991) (hf : 0 ≤ w 108 (iand L (ixor (ishl 1 k) (-1)) * 4 + w 16 (w 106 k)) ∧ w 108 (iand L (ixor (ishl 1 k) (-1)) * 4 + w 16 (w 106 k)) ≤ 971028) : CallN 2 mX10_after [(2, 103), (0, L), (0, t), (0, k)] w (RV (0, afX w L t k) w) := by
  refine CallN.intro (by decide +kernel) (Nat.le_of_ble_eq_true rfl) (fun ρ hR => ?_)
  show AtN mX10_after 2 ρ 0 [(0, (2, 103)), (1, (0, L)), (2, (0, t)), (3, (0, k))] [] w
  obtain ⟨l, l1, l2, -, -⟩ := mbP_clr (s := L) (j := k) (by omega) (by omega) (by omega) (by omega)
  have l0 : 0 ≤ (l : Int) := by omega
  have hab : 0 ≤ abD t (w 16 (w 106 k)) ∧ abD t (w 16 (w 106 k)) ≤ 3 := by unfold abD; split <;> omega
  rw [← abV_D] at hab
  have hmu := mul_bd (x := abV (t - w 16 (w 106 k)) + w 104 (w 106 k)) (y := w 107 L) (X := 12) (Y := 8991) ⟨by omega, by omega⟩ hl
  refine s_aload_n dX10_after_0 0 rfl rfl (n_getc (q := 106) 103 3 116 dX10_after_1 cf_X10 ff_X10_18 rfl sh_103 rfl (by decide) rfl (by decide) (s_iload_n dX10_after_4 3 rfl (n_iald 106 dX10_after_5 rfl sh_106 (by decide) ⟨(by omega), (by omega)⟩ (v := (w 106 k)) rfl (s_istore (ls' := [(0, (2, 103)), (1, (0, L)), (2, (0, t)), (3, (0, k)), (4, (0, (w 106 k)))]) dX10_after_6 (Nat.le_of_ble_eq_true rfl) rfl (s_aload_n dX10_after_8 0 rfl rfl (n_getc (q := 15) 103 0 25 dX10_after_9 cf_X10 ff_X10_27 rfl sh_103 rfl (by decide) rfl (by decide) (n_getc (q := 16) 15 0 26 dX10_after_12 cf_X3 ff_X10_65 rfl sh_15 rfl (by decide) rfl (by decide) (s_iload dX10_after_15 4 rfl (n_iald 16 dX10_after_17 rfl sh_16 (by decide) ⟨(by omega), (by omega)⟩ (v := (w 16 (w 106 k))) rfl ?_)))))))))
  refine s_istore (ls' := [(0, (2, 103)), (1, (0, L)), (2, (0, t)), (3, (0, k)), (4, (0, (w 106 k))), (5, (0, (w 16 (w 106 k))))]) dX10_after_18 (Nat.le_of_ble_eq_true rfl) rfl (s_iload_n dX10_after_20 2 rfl (s_iload dX10_after_21 5 rfl (n_sub (z := (t - (w 16 (w 106 k)))) dX10_after_23 (wr_id (by omega) (by omega)) (n_invS (as := [(0, (t - (w 16 (w 106 k))))]) dX10_after_24 kv_J9_abs_0f7a4 ml_X10_79 (j_abs (t - (w 16 (w 106 k))) w (by omega)) (by decide) rfl rfl (Nat.le_of_ble_eq_true rfl) (s_aload_n dX10_after_27 0 rfl rfl (n_getc (q := 104) 103 1 114 dX10_after_28 cf_X10 ff_X10_9 rfl sh_103 rfl (by decide) rfl (by decide) (s_iload dX10_after_31 4 rfl (n_iald 104 dX10_after_33 rfl sh_104 (by decide) ⟨(by omega), (by omega)⟩ (v := (w 104 (w 106 k))) rfl (n_add (z := ((abV (t - (w 16 (w 106 k)))) + (w 104 (w 106 k)))) dX10_after_34 (wr_id (by omega) (by omega)) ?_)))))))))
  refine s_istore (ls' := [(0, (2, 103)), (1, (0, L)), (2, (0, t)), (3, (0, k)), (4, (0, (w 106 k))), (5, (0, (w 16 (w 106 k)))), (6, (0, ((abV (t - (w 16 (w 106 k)))) + (w 104 (w 106 k)))))]) dX10_after_35 (Nat.le_of_ble_eq_true rfl) rfl (s_iload dX10_after_37 6 rfl (s_aload_n dX10_after_39 0 rfl rfl (n_getc (q := 107) 103 5 117 dX10_after_40 cf_X10 ff_X10_21 rfl sh_103 rfl (by decide) rfl (by decide) (s_iload_n dX10_after_43 1 rfl (n_iald 107 dX10_after_44 rfl sh_107 (by decide) ⟨(by omega), (by omega)⟩ (v := (w 107 L)) rfl (n_mul (z := (((abV (t - (w 16 (w 106 k)))) + (w 104 (w 106 k))) * (w 107 L))) dX10_after_45 (wr_id (by omega) (by omega)) (s_aload_n dX10_after_46 0 rfl rfl (n_getc (q := 108) 103 6 118 dX10_after_47 cf_X10 ff_X10_24 rfl sh_103 rfl (by decide) rfl (by decide) (s_iload_n dX10_after_50 1 rfl ?_)))))))))
  refine s_iconst dX10_after_51 (by decide) (s_iload_n dX10_after_52 3 rfl (s_ishl dX10_after_53 (s_iconst dX10_after_54 (by decide) (s_ixor dX10_after_55 (s_iand dX10_after_56 (s_iconst dX10_after_57 (by decide) (n_mul (z := ((iand L (ixor (ishl 1 k) (-1))) * 4)) dX10_after_58 (wr_id (by omega) (by omega)) (s_iload dX10_after_59 5 rfl (n_add (z := (((iand L (ixor (ishl 1 k) (-1))) * 4) + (w 16 (w 106 k)))) dX10_after_61 (wr_id (by omega) (by omega)) ?_)))))))))
  refine n_iald 108 dX10_after_62 rfl sh_108 (by decide) ⟨(by omega), (by omega)⟩ (v := (w 108 (((iand L (ixor (ishl 1 k) (-1))) * 4) + (w 16 (w 106 k))))) rfl (n_add (z := ((((abV (t - (w 16 (w 106 k)))) + (w 104 (w 106 k))) * (w 107 L)) + (w 108 (((iand L (ixor (ishl 1 k) (-1))) * 4) + (w 16 (w 106 k)))))) dX10_after_63 (wr_id (by omega) (by omega)) (n_iret dX10_after_64 hR rfl ?_))
  refine ⟨congrArg (fun z => some ((0 : Nat), z)) ?_, rfl⟩
  unfold afX
  rw [← abV_D]

set_option maxRecDepth 100000 in
theorem c_X_wiNext (L t : Int) (w : Wd) (hL : 0 ≤ L ∧ L < 512) (ht : 0 ≤ t ∧ t < 4) (hn : 0 ≤ w 103 4 ∧ w 103 4 ≤ 9) (hp : ∀ k, 0 ≤ k → k < w 103 4 → (0 ≤ w 106 k ∧ w 106 k < 16) ∧ (0 ≤ w 16 (w 106 k) ∧ w 16 (w 106 k) ≤ 3) ∧ (1 ≤ w 104 (w 106 k) ∧ w 104 (w 106 k) ≤ 9)) (hl : 0 ≤ w 107 L ∧ w 107 L ≤ 8991) (hf : ∀ j, 0 ≤ j → j < w 103 4 → mbP L j.toNat = true → 0 ≤ w 108 (iand L (ixor (ishl 1 j) (-1)) * 4 + w 16 (w 106 j)) ∧ w 108 (iand L (ixor (ishl 1 j) (-1)) * 4 + w 16 (w 106 j)) ≤ 971028) : CallN 3 mX10_next [(2, 103), (0, L), (0, t)] w (RQ (fun z w1 => w1 = w ∧ z = amN (mbP L) (fun k : Nat => afX w L t k) (w 103 4).toNat)) := by
  refine CallN.intro (by decide +kernel) (Nat.le_of_ble_eq_true rfl) (fun ρ hR => ?_)
  show AtN mX10_next 3 ρ 0 [(0, (2, 103)), (1, (0, L)), (2, (0, t))] [] w
  have L_8 : ∀ (fu : Nat) (b : Int) (l : Int) (k : Int), 0 ≤ k ∧ k ≤ w 103 4 → b = amN (mbP L) (fun k : Nat => afX w L t k) k.toNat → (b ≠ -1 → l = (fun k : Nat => afX w L t k) b.toNat) → (w 103 4 - k).toNat < fu → AtN mX10_next 3 ρ 8 [(0, (2, 103)), (1, (0, L)), (2, (0, t)), (3, (0, b)), (4, (0, l)), (5, (0, k))] [] w := by
    intro fu
    induction fu with
    | zero => intro b l k hk hb hl2 hm; exact absurd hm (Nat.not_lt_zero _)
    | succ fu ih =>
      intro b l k hk hb hl2 hm
      have hm : bt L k = 1 ↔ mbP L k.toNat = true := mbP_bt hL.1 (by omega) hk.1 (by omega)
      have hF : afX w L t k = (fun k : Nat => afX w L t k) k.toNat := by show _ = afX w L t ((k.toNat : Nat) : Int); rw [toN_c hk.1]
      refine s_iload dX10_next_8 5 rfl (s_aload_n dX10_next_10 0 rfl rfl (n_getf 103 4 0 dX10_next_11 cf_X10 ff_X10_58 rfl sh_103 rfl (by decide) (v := (w 103 4)) rfl (s_icmp_ge 74 dX10_next_14 (by decide) (fun c_14 => ?_) (fun c_14 => ?_))))
      · skip
        refine s_iload_n dX10_next_74 3 rfl (n_iret dX10_next_75 hR rfl ?_)
        have e9 : k = w 103 4 := by omega
        rw [e9] at hb
        exact ⟨_, rfl, rfl, hb⟩
      · skip
        refine s_iload_n dX10_next_17 1 rfl (s_iload dX10_next_18 5 rfl (n_invT (as := [(0, L), (0, k)]) dX10_next_20 kv_X11_has ml_X10_68 (c_X_has L k w) (by decide) rfl rfl (Nat.le_of_ble_eq_true rfl) (n_ifeq_b 37 dX10_next_23 (by decide) (fun c_23 => ?_) (fun c_23 => ?_))))
        · skip
          refine s_iconst dX10_next_37 (by decide) (s_istore (ls' := [(0, (2, 103)), (1, (0, L)), (2, (0, t)), (3, (0, b)), (4, (0, l)), (5, (0, k)), (6, (0, 0))]) dX10_next_38 (Nat.le_of_ble_eq_true rfl) rfl (s_iload_n dX10_next_40 1 rfl (s_iload dX10_next_41 5 rfl (n_invT (as := [(0, L), (0, k)]) dX10_next_43 kv_X11_has ml_X10_68 (c_X_has L k w) (by decide) rfl rfl (Nat.le_of_ble_eq_true rfl) (n_ifeq_b 68 dX10_next_46 (by decide) (fun c_46 => ?_) (fun c_46 => ?_))))))
          · skip
            refine s_iinc (z := (k + 1)) (ls' := [(0, (2, 103)), (1, (0, L)), (2, (0, t)), (3, (0, b)), (4, (0, l)), (5, (0, (k + 1))), (6, (0, 0))]) dX10_next_68 5 rfl (Nat.le_of_ble_eq_true rfl) (wr_id (by omega) (by omega)) rfl (s_goto 8 dX10_next_71 (by decide) ?_)
            exact At.keep (ls' := [(0, (2, 103)), (1, (0, L)), (2, (0, t)), (3, (0, b)), (4, (0, l)), (5, (0, (k + 1)))]) [0, 1, 2, 3, 4, 5] rfl (ih b l (k + 1) (by omega) (by first | (exfalso; omega) | (rw [am_step (v := afX w L t k) hb hl2 (fun _ => hF) hm hk.1]; first | exact (if_pos (by omega)).symm | exact (if_neg (by omega)).symm)) (by first | (exfalso; omega) | exact hl2 | exact fun _ => hF) (by omega))
          · skip
            refine s_iload_n dX10_next_49 3 rfl (s_iconst dX10_next_50 (by decide) (s_icmp_eq 61 dX10_next_51 (by decide) (fun c_51 => ?_) (fun c_51 => ?_)))
            · skip
              refine s_iload dX10_next_61 5 rfl (s_istore_n (ls' := [(0, (2, 103)), (1, (0, L)), (2, (0, t)), (3, (0, k)), (4, (0, l)), (5, (0, k)), (6, (0, 0))]) dX10_next_63 (Nat.le_of_ble_eq_true rfl) rfl (s_iload dX10_next_64 6 rfl (s_istore (ls' := [(0, (2, 103)), (1, (0, L)), (2, (0, t)), (3, (0, k)), (4, (0, 0)), (5, (0, k)), (6, (0, 0))]) dX10_next_66 (Nat.le_of_ble_eq_true rfl) rfl (s_iinc (z := (k + 1)) (ls' := [(0, (2, 103)), (1, (0, L)), (2, (0, t)), (3, (0, k)), (4, (0, 0)), (5, (0, (k + 1))), (6, (0, 0))]) dX10_next_68 5 rfl (Nat.le_of_ble_eq_true rfl) (wr_id (by omega) (by omega)) rfl (s_goto 8 dX10_next_71 (by decide) ?_)))))
              exact At.keep (ls' := [(0, (2, 103)), (1, (0, L)), (2, (0, t)), (3, (0, k)), (4, (0, 0)), (5, (0, (k + 1)))]) [0, 1, 2, 3, 4, 5] rfl (ih k 0 (k + 1) (by omega) (by first | (exfalso; omega) | (rw [am_step (v := afX w L t k) hb hl2 (fun _ => hF) hm hk.1]; first | exact (if_pos (by omega)).symm | exact (if_neg (by omega)).symm)) (by first | (exfalso; omega) | exact hl2 | exact fun _ => hF) (by omega))
            · skip
              refine s_iload dX10_next_54 6 rfl (s_iload dX10_next_56 4 rfl (s_icmp_ge 68 dX10_next_58 (by decide) (fun c_58 => ?_) (fun c_58 => ?_)))
              · skip
                refine s_iinc (z := (k + 1)) (ls' := [(0, (2, 103)), (1, (0, L)), (2, (0, t)), (3, (0, b)), (4, (0, l)), (5, (0, (k + 1))), (6, (0, 0))]) dX10_next_68 5 rfl (Nat.le_of_ble_eq_true rfl) (wr_id (by omega) (by omega)) rfl (s_goto 8 dX10_next_71 (by decide) ?_)
                exact At.keep (ls' := [(0, (2, 103)), (1, (0, L)), (2, (0, t)), (3, (0, b)), (4, (0, l)), (5, (0, (k + 1)))]) [0, 1, 2, 3, 4, 5] rfl (ih b l (k + 1) (by omega) (by first | (exfalso; omega) | (rw [am_step (v := afX w L t k) hb hl2 (fun _ => hF) hm hk.1]; first | exact (if_pos (by omega)).symm | exact (if_neg (by omega)).symm)) (by first | (exfalso; omega) | exact hl2 | exact fun _ => hF) (by omega))
              · skip
                refine s_iload dX10_next_61 5 rfl (s_istore_n (ls' := [(0, (2, 103)), (1, (0, L)), (2, (0, t)), (3, (0, k)), (4, (0, l)), (5, (0, k)), (6, (0, 0))]) dX10_next_63 (Nat.le_of_ble_eq_true rfl) rfl (s_iload dX10_next_64 6 rfl (s_istore (ls' := [(0, (2, 103)), (1, (0, L)), (2, (0, t)), (3, (0, k)), (4, (0, 0)), (5, (0, k)), (6, (0, 0))]) dX10_next_66 (Nat.le_of_ble_eq_true rfl) rfl (s_iinc (z := (k + 1)) (ls' := [(0, (2, 103)), (1, (0, L)), (2, (0, t)), (3, (0, k)), (4, (0, 0)), (5, (0, (k + 1))), (6, (0, 0))]) dX10_next_68 5 rfl (Nat.le_of_ble_eq_true rfl) (wr_id (by omega) (by omega)) rfl (s_goto 8 dX10_next_71 (by decide) ?_)))))
                exact At.keep (ls' := [(0, (2, 103)), (1, (0, L)), (2, (0, t)), (3, (0, k)), (4, (0, 0)), (5, (0, (k + 1)))]) [0, 1, 2, 3, 4, 5] rfl (ih k 0 (k + 1) (by omega) (by first | (exfalso; omega) | (rw [am_step (v := afX w L t k) hb hl2 (fun _ => hF) hm hk.1]; first | exact (if_pos (by omega)).symm | exact (if_neg (by omega)).symm)) (by first | (exfalso; omega) | exact hl2 | exact fun _ => hF) (by omega))
        · skip
          refine s_aload_n dX10_next_26 0 rfl rfl (s_iload_n dX10_next_27 1 rfl (s_iload_n dX10_next_28 2 rfl (s_iload dX10_next_29 5 rfl (n_invV (as := [(0, L), (0, t), (0, k)]) dX10_next_31 kv_X10_after ml_X10_75 (c_X_wiAfter L t k w (by omega) (by omega) (by omega) (hp k hk.1 (by omega)) hl (hf k hk.1 (by omega) (hm.mp (by omega)))) (by decide) 103 cf_X10 rfl sh_103 rfl rfl rfl (Nat.le_of_ble_eq_true rfl) (s_goto 38 dX10_next_34 (by decide) (s_istore (ls' := [(0, (2, 103)), (1, (0, L)), (2, (0, t)), (3, (0, b)), (4, (0, l)), (5, (0, k)), (6, (0, (afX w L t k)))]) dX10_next_38 (Nat.le_of_ble_eq_true rfl) rfl (s_iload_n dX10_next_40 1 rfl (s_iload dX10_next_41 5 rfl (n_invT (as := [(0, L), (0, k)]) dX10_next_43 kv_X11_has ml_X10_68 (c_X_has L k w) (by decide) rfl rfl (Nat.le_of_ble_eq_true rfl) ?_)))))))))
          refine n_ifeq_b 68 dX10_next_46 (by decide) (fun c_46 => ?_) (fun c_46 => ?_)
          · skip
            refine s_iinc (z := (k + 1)) (ls' := [(0, (2, 103)), (1, (0, L)), (2, (0, t)), (3, (0, b)), (4, (0, l)), (5, (0, (k + 1))), (6, (0, (afX w L t k)))]) dX10_next_68 5 rfl (Nat.le_of_ble_eq_true rfl) (wr_id (by omega) (by omega)) rfl (s_goto 8 dX10_next_71 (by decide) ?_)
            exact At.keep (ls' := [(0, (2, 103)), (1, (0, L)), (2, (0, t)), (3, (0, b)), (4, (0, l)), (5, (0, (k + 1)))]) [0, 1, 2, 3, 4, 5] rfl (ih b l (k + 1) (by omega) (by first | (exfalso; omega) | (rw [am_step (v := afX w L t k) hb hl2 (fun _ => hF) hm hk.1]; first | exact (if_pos (by omega)).symm | exact (if_neg (by omega)).symm)) (by first | (exfalso; omega) | exact hl2 | exact fun _ => hF) (by omega))
          · skip
            refine s_iload_n dX10_next_49 3 rfl (s_iconst dX10_next_50 (by decide) (s_icmp_eq 61 dX10_next_51 (by decide) (fun c_51 => ?_) (fun c_51 => ?_)))
            · skip
              refine s_iload dX10_next_61 5 rfl (s_istore_n (ls' := [(0, (2, 103)), (1, (0, L)), (2, (0, t)), (3, (0, k)), (4, (0, l)), (5, (0, k)), (6, (0, (afX w L t k)))]) dX10_next_63 (Nat.le_of_ble_eq_true rfl) rfl (s_iload dX10_next_64 6 rfl (s_istore (ls' := [(0, (2, 103)), (1, (0, L)), (2, (0, t)), (3, (0, k)), (4, (0, (afX w L t k))), (5, (0, k)), (6, (0, (afX w L t k)))]) dX10_next_66 (Nat.le_of_ble_eq_true rfl) rfl (s_iinc (z := (k + 1)) (ls' := [(0, (2, 103)), (1, (0, L)), (2, (0, t)), (3, (0, k)), (4, (0, (afX w L t k))), (5, (0, (k + 1))), (6, (0, (afX w L t k)))]) dX10_next_68 5 rfl (Nat.le_of_ble_eq_true rfl) (wr_id (by omega) (by omega)) rfl (s_goto 8 dX10_next_71 (by decide) ?_)))))
              exact At.keep (ls' := [(0, (2, 103)), (1, (0, L)), (2, (0, t)), (3, (0, k)), (4, (0, (afX w L t k))), (5, (0, (k + 1)))]) [0, 1, 2, 3, 4, 5] rfl (ih k (afX w L t k) (k + 1) (by omega) (by first | (exfalso; omega) | (rw [am_step (v := afX w L t k) hb hl2 (fun _ => hF) hm hk.1]; first | exact (if_pos (by omega)).symm | exact (if_neg (by omega)).symm)) (by first | (exfalso; omega) | exact hl2 | exact fun _ => hF) (by omega))
            · skip
              refine s_iload dX10_next_54 6 rfl (s_iload dX10_next_56 4 rfl (s_icmp_ge 68 dX10_next_58 (by decide) (fun c_58 => ?_) (fun c_58 => ?_)))
              · skip
                refine s_iinc (z := (k + 1)) (ls' := [(0, (2, 103)), (1, (0, L)), (2, (0, t)), (3, (0, b)), (4, (0, l)), (5, (0, (k + 1))), (6, (0, (afX w L t k)))]) dX10_next_68 5 rfl (Nat.le_of_ble_eq_true rfl) (wr_id (by omega) (by omega)) rfl (s_goto 8 dX10_next_71 (by decide) ?_)
                exact At.keep (ls' := [(0, (2, 103)), (1, (0, L)), (2, (0, t)), (3, (0, b)), (4, (0, l)), (5, (0, (k + 1)))]) [0, 1, 2, 3, 4, 5] rfl (ih b l (k + 1) (by omega) (by first | (exfalso; omega) | (rw [am_step (v := afX w L t k) hb hl2 (fun _ => hF) hm hk.1]; first | exact (if_pos (by omega)).symm | exact (if_neg (by omega)).symm)) (by first | (exfalso; omega) | exact hl2 | exact fun _ => hF) (by omega))
              · skip
                refine s_iload dX10_next_61 5 rfl (s_istore_n (ls' := [(0, (2, 103)), (1, (0, L)), (2, (0, t)), (3, (0, k)), (4, (0, l)), (5, (0, k)), (6, (0, (afX w L t k)))]) dX10_next_63 (Nat.le_of_ble_eq_true rfl) rfl (s_iload dX10_next_64 6 rfl (s_istore (ls' := [(0, (2, 103)), (1, (0, L)), (2, (0, t)), (3, (0, k)), (4, (0, (afX w L t k))), (5, (0, k)), (6, (0, (afX w L t k)))]) dX10_next_66 (Nat.le_of_ble_eq_true rfl) rfl (s_iinc (z := (k + 1)) (ls' := [(0, (2, 103)), (1, (0, L)), (2, (0, t)), (3, (0, k)), (4, (0, (afX w L t k))), (5, (0, (k + 1))), (6, (0, (afX w L t k)))]) dX10_next_68 5 rfl (Nat.le_of_ble_eq_true rfl) (wr_id (by omega) (by omega)) rfl (s_goto 8 dX10_next_71 (by decide) ?_)))))
                exact At.keep (ls' := [(0, (2, 103)), (1, (0, L)), (2, (0, t)), (3, (0, k)), (4, (0, (afX w L t k))), (5, (0, (k + 1)))]) [0, 1, 2, 3, 4, 5] rfl (ih k (afX w L t k) (k + 1) (by omega) (by first | (exfalso; omega) | (rw [am_step (v := afX w L t k) hb hl2 (fun _ => hF) hm hk.1]; first | exact (if_pos (by omega)).symm | exact (if_neg (by omega)).symm)) (by first | (exfalso; omega) | exact hl2 | exact fun _ => hF) (by omega))
  refine s_iconst dX10_next_0 (by decide) (s_istore_n (ls' := [(0, (2, 103)), (1, (0, L)), (2, (0, t)), (3, (0, (-1)))]) dX10_next_1 (Nat.le_of_ble_eq_true rfl) rfl (s_iconst dX10_next_2 (by decide) (s_istore (ls' := [(0, (2, 103)), (1, (0, L)), (2, (0, t)), (3, (0, (-1))), (4, (0, 0))]) dX10_next_3 (Nat.le_of_ble_eq_true rfl) rfl (s_iconst dX10_next_5 (by decide) (s_istore (ls' := [(0, (2, 103)), (1, (0, L)), (2, (0, t)), (3, (0, (-1))), (4, (0, 0)), (5, (0, 0))]) dX10_next_6 (Nat.le_of_ble_eq_true rfl) rfl ?_)))))
  exact L_8 _ (-1) 0 0 (by omega) rfl (fun q => absurd rfl q) (Nat.lt_succ_self _)

set_option maxRecDepth 100000 in
theorem c_X_wiFill (w : Wd) (e : Int → Int) (m : Nat) (hm4 : w 103 4 = m) (he : ∀ k : Int, 0 ≤ k → k < m → w 106 k = e k) (hW : WH (w 16) (w 104) (w 105) e m) (h0 : w 107 0 = 0) (h1 : ∀ t, 0 ≤ t → t < 4 → w 108 t = 0) : CallN 4 mX10_fill [(2, 103)] w (RUQ (fun w1 => (∀ c, c ≠ 107 → c ≠ 108 → w1 c = w c) ∧ TBW w w1 e m (ishl 1 (m : Int)))) := by
  refine CallN.intro (by decide +kernel) (Nat.le_of_ble_eq_true rfl) (fun ρ hR => ?_)
  show AtN mX10_fill 4 ρ 0 [(0, (2, 103))] [] w
  have hq0 := (ishl1_bd (c := (m : Int)) (by omega) (by have := hW.1; omega)).1
  have hpw : ((2 ^ m : Nat) : Int) = 2 ^ m := by simp
  have hpw2 : 2 ^ m ≤ 2 ^ 9 := Nat.pow_le_pow_right (by omega) (by have := hW.1; omega)
  have hq1 : ishl 1 (m : Int) = 2 ^ m := ishl1_pow (by omega) (by have := hW.1; omega)
  have hq2 : ishl 1 (m : Int) ≤ 512 := by rw [hq1]; omega
  clear hpw hpw2
  have L_50 : ∀ (fu : Nat) (p : Int) (t : Int) (v9 : Wd), 1 ≤ p ∧ p < ishl 1 (m : Int) → 0 ≤ t ∧ t ≤ 4 → (∀ c, c ≠ 107 → c ≠ 108 → v9 c = w c) → TBW w v9 e m p → v9 107 p = niP (fun k => w 105 (e k)) (mbP p) m → (∀ t1, 0 ≤ t1 → t1 < t → v9 108 (p * 4 + t1) = VV (cWi (w 16) (w 104) (w 105) e m) (tWi (w 16) e) m t1 (mbP p)) → (∀ v : Wd, (∀ c, c ≠ 107 → c ≠ 108 → v c = w c) → TBW w v e m (p + 1) → AtN mX10_fill 4 ρ 83 [(0, (2, 103)), (1, (0, p))] [] v) → (4 - t).toNat < fu → AtN mX10_fill 4 ρ 50 [(0, (2, 103)), (1, (0, p)), (3, (0, t))] [] v9 := by
    intro fu
    induction fu with
    | zero => intro p t v9 hp1 ht hw hT hl hI hK hm; exact absurd hm (Nat.not_lt_zero _)
    | succ fu ih =>
      intro p t v9 hp1 ht hw hT hl hI hK hm
      have hM9 : MXw w v9 e m := ⟨by rw [hw 103 (by decide) (by decide)]; exact hm4, fun k a b => by rw [hw 106 (by decide) (by decide)]; exact he k a b, hw 16 (by decide) (by decide), hw 104 (by decide) (by decide), hw 105 (by decide) (by decide)⟩
      have hm9 := hW.1
      have q2 : v9 103 4 = (m : Int) := hM9.1
      have hqv : ishl 1 (v9 103 4) = ishl 1 (m : Int) := by rw [q2]
      have hn9 : 0 ≤ v9 103 4 ∧ v9 103 4 ≤ 9 := by omega
      have hp9 : ∀ k, 0 ≤ k → k < v9 103 4 → (0 ≤ v9 106 k ∧ v9 106 k < 16) ∧ (0 ≤ v9 16 (v9 106 k) ∧ v9 16 (v9 106 k) ≤ 3) ∧ (1 ≤ v9 104 (v9 106 k) ∧ v9 104 (v9 106 k) ≤ 9) := fun k a b => by rw [hM9.2.1 k a (by omega), hM9.2.2.1, hM9.2.2.2.1]; have := hW.2 k a (by omega); omega
      refine s_iload_n dX10_fill_50 2 rfl (s_iconst dX10_fill_51 (by decide) (s_icmp_ge 83 dX10_fill_52 (by decide) (fun c_52 => ?_) (fun c_52 => ?_)))
      · skip
        refine At.keep (ls' := [(0, (2, 103)), (1, (0, p))]) [0, 1] rfl (hK v9 hw (fun L a b => ?_))
        by_cases eq : L = p
        · subst eq
          exact ⟨hl, fun t1 c d => hI t1 c (by omega)⟩
        · exact hT L a (by omega)
      · skip
        refine s_aload_n dX10_fill_55 0 rfl rfl (n_getc (q := 108) 103 6 118 dX10_fill_56 cf_X10 ff_X10_24 rfl sh_103 rfl (by decide) rfl (by decide) (s_iload_n dX10_fill_59 1 rfl (s_iconst dX10_fill_60 (by decide) (n_mul (z := (p * 4)) dX10_fill_61 (wr_id (by omega) (by omega)) (s_iload_n dX10_fill_62 2 rfl (n_add (z := ((p * 4) + t)) dX10_fill_63 (wr_id (by omega) (by omega)) ?_))))))
        obtain ⟨hnx_70, b, b1, b2, b3, b4, b5⟩ := wiX_nx (t := t) hW hM9 (by omega) (by rw [← hq1]; omega) hT hl ⟨by omega, by omega⟩
        have hl9 : 0 ≤ v9 107 p ∧ v9 107 p ≤ 8991 := by rw [hl]; exact loW_bd hW _
        rw [← q2] at hnx_70
        refine s_aload_n dX10_fill_64 0 rfl rfl (s_iload_n dX10_fill_65 1 rfl (s_iload_n dX10_fill_66 2 rfl (s_aload_n dX10_fill_67 0 rfl rfl (s_iload_n dX10_fill_68 1 rfl (s_iload_n dX10_fill_69 2 rfl (n_invV' (as := [(0, p), (0, t)]) dX10_fill_70 kv_X10_next ml_X10_61 (c_X_wiNext p t v9 (by omega) (by omega) hn9 hp9 hl9 hnx_70) (by decide) 103 cf_X10 rfl sh_103 rfl rfl rfl (Nat.le_of_ble_eq_true rfl) ?_))))))
        rintro r_70 w_70 ⟨z_70, rfl, hw_70, hz_70⟩
        rw [hw_70]
        show AtN _ _ ρ _ _ [(0, z_70), (0, t), (0, p), (2, 103), (0, ((p * 4) + t)), (2, 108)] v9
        have hzb : z_70 = (b : Int) := hz_70.trans (by rw [q2]; exact b2)
        have hfb := hnx_70 (b : Int) (by omega) (by omega) b4
        have hpb := hp9 (b : Int) (by omega) (by omega)
        rw [← hzb] at hfb b5 hpb
        refine n_invV (as := [(0, p), (0, t), (0, z_70)]) dX10_fill_73 kv_X10_after ml_X10_75 (c_X_wiAfter p t z_70 v9 (by omega) (by omega) (by omega) hpb hl9 hfb) (by decide) 103 cf_X10 rfl sh_103 rfl rfl rfl (Nat.le_of_ble_eq_true rfl) (s_iastore 108 dX10_fill_76 rfl sh_108 (by decide) ⟨(by omega), (by omega)⟩ (s_iinc (z := (t + 1)) (ls' := [(0, (2, 103)), (1, (0, p)), (3, (0, (t + 1)))]) dX10_fill_77 2 rfl (Nat.le_of_ble_eq_true rfl) (wr_id (by omega) (by omega)) rfl (s_goto 50 dX10_fill_80 (by decide) ?_)))
        exact ih p (t + 1) (wu v9 108 ((p * 4) + t) (afX v9 p t z_70)) (by omega) (by omega) (fun c a b => by rw [wu_ne b]; exact hw c a b) (fun L a b => by rw [wu_ne (by decide)]; exact ⟨(hT L a b).1, fun t1 c d => by rw [wu_at, if_neg (by omega)]; exact (hT L a b).2 t1 c d⟩) (by rw [wu_ne (by decide)]; exact hl) (fun t1 a b => by by_cases e5 : t1 = t; (subst e5; rw [wu_same]; exact b5); (rw [wu_at, if_neg (by omega)]; exact hI t1 a (by omega))) hK (by omega)
  have L_2 : ∀ (fu : Nat) (p : Int) (v9 : Wd), 1 ≤ p ∧ p ≤ ishl 1 (m : Int) → (∀ c, c ≠ 107 → c ≠ 108 → v9 c = w c) → TBW w v9 e m p → (ishl 1 (m : Int) - p).toNat < fu → AtN mX10_fill 4 ρ 2 [(0, (2, 103)), (1, (0, p))] [] v9 := by
    intro fu
    induction fu with
    | zero => intro p v9 hp1 hw hT hm; exact absurd hm (Nat.not_lt_zero _)
    | succ fu ih =>
      intro p v9 hp1 hw hT hm
      have hM9 : MXw w v9 e m := ⟨by rw [hw 103 (by decide) (by decide)]; exact hm4, fun k a b => by rw [hw 106 (by decide) (by decide)]; exact he k a b, hw 16 (by decide) (by decide), hw 104 (by decide) (by decide), hw 105 (by decide) (by decide)⟩
      have hm9 := hW.1
      have q2 : v9 103 4 = (m : Int) := hM9.1
      have hqv : ishl 1 (v9 103 4) = ishl 1 (m : Int) := by rw [q2]
      have hn9 : 0 ≤ v9 103 4 ∧ v9 103 4 ≤ 9 := by omega
      have hp9 : ∀ k, 0 ≤ k → k < v9 103 4 → (0 ≤ v9 106 k ∧ v9 106 k < 16) ∧ (0 ≤ v9 16 (v9 106 k) ∧ v9 16 (v9 106 k) ≤ 3) ∧ (1 ≤ v9 104 (v9 106 k) ∧ v9 104 (v9 106 k) ≤ 9) := fun k a b => by rw [hM9.2.1 k a (by omega), hM9.2.2.1, hM9.2.2.2.1]; have := hW.2 k a (by omega); omega
      refine s_iload_n dX10_fill_2 1 rfl (s_iconst dX10_fill_3 (by decide) (s_aload_n dX10_fill_4 0 rfl rfl (n_getf 103 4 0 dX10_fill_5 cf_X10 ff_X10_58 rfl sh_103 rfl (by decide) (v := (v9 103 4)) rfl (s_ishl dX10_fill_8 (s_icmp_ge 89 dX10_fill_9 (by decide) (fun c_9 => ?_) (fun c_9 => ?_))))))
      · skip
        refine n_ret dX10_fill_89 hR rfl ?_
        have e9 : p = ishl 1 (m : Int) := by omega
        rw [e9] at hT
        exact ⟨rfl, hw, hT⟩
      · skip
        refine s_aload_n dX10_fill_12 0 rfl rfl (s_iload_n dX10_fill_13 1 rfl (n_invV (as := [(0, p)]) dX10_fill_14 kv_X10_lastOf ml_X10_72 (c_X_lastOf p v9 hn9) (by decide) 103 cf_X10 rfl sh_103 rfl rfl rfl (Nat.le_of_ble_eq_true rfl) ?_))
        have hex := bit_ex (L := p) (m := m) (by omega) (by rw [← hq1]; omega)
        obtain ⟨kx, k1, k2⟩ := hex
        have hbx := (mbP_bt (s := p) (j := (kx : Int)) (by omega) (by omega) (by omega) (by omega)).mpr k2
        obtain ⟨la1, la2⟩ := lasI_p (L := p) (v9 103 4).toNat
        have la3 := la2 ⟨kx, by omega, hbx⟩
        obtain ⟨x9, ex⟩ : ∃ x9, x9 = lasI p (v9 103 4).toNat := ⟨_, rfl⟩
        rw [← ex]
        rw [← ex] at la1 la3
        have hmx : mbP p x9.toNat = true := (mbP_bt (s := p) (j := x9) (by omega) (by omega) (by omega) (by omega)).mp la3.2
        obtain ⟨l0, el, hle, hmb, hlt⟩ := mbP_clr (s := p) (j := x9) (by omega) (by omega) (by omega) (by omega)
        have hlt2 := hlt hmx
        have hl0 : 0 ≤ (l0 : Int) := by omega
        have hpx := hp9 x9 (by omega) (by omega)
        have hTl := (hT (l0 : Int) hl0 (by omega)).1
        have hlb := loW_bd hW (mbP (l0 : Int))
        have hlb2 := loW_bd hW (mbP p)
        have hWx := hW.2 x9 (by omega) (by omega)
        have hex2 : v9 105 (v9 106 x9) = w 105 (e x9) := by rw [hM9.2.1 x9 (by omega) (by omega), hM9.2.2.2.2]
        rw [← el] at hTl hle hlt2 hl0 hlb
        have hni := (niP_rm (N := fun k => w 105 (e k)) hmx m).1 (by omega)
        rw [← hmb, toN_c (by omega)] at hni
        refine s_istore_n (ls' := [(0, (2, 103)), (1, (0, p)), (2, (0, x9))]) dX10_fill_17 (Nat.le_of_ble_eq_true rfl) rfl (s_aload_n dX10_fill_18 0 rfl rfl (n_getc (q := 107) 103 5 117 dX10_fill_19 cf_X10 ff_X10_21 rfl sh_103 rfl (by decide) rfl (by decide) (s_iload_n dX10_fill_22 1 rfl (s_aload_n dX10_fill_23 0 rfl rfl (n_getc (q := 107) 103 5 117 dX10_fill_24 cf_X10 ff_X10_21 rfl sh_103 rfl (by decide) rfl (by decide) (s_iload_n dX10_fill_27 1 rfl (s_iconst dX10_fill_28 (by decide) (s_iload_n dX10_fill_29 2 rfl (s_ishl dX10_fill_30 ?_)))))))))
        refine s_iconst dX10_fill_31 (by decide) (s_ixor dX10_fill_32 (s_iand dX10_fill_33 (n_iald 107 dX10_fill_34 rfl sh_107 (by decide) ⟨(by omega), (by omega)⟩ (v := (v9 107 (iand p (ixor (ishl 1 x9) (-1))))) rfl (s_aload_n dX10_fill_35 0 rfl rfl (n_getc (q := 105) 103 2 115 dX10_fill_36 cf_X10 ff_X10_15 rfl sh_103 rfl (by decide) rfl (by decide) (s_aload_n dX10_fill_39 0 rfl rfl (n_getc (q := 106) 103 3 116 dX10_fill_40 cf_X10 ff_X10_18 rfl sh_103 rfl (by decide) rfl (by decide) (s_iload_n dX10_fill_43 2 rfl (n_iald 106 dX10_fill_44 rfl sh_106 (by decide) ⟨(by omega), (by omega)⟩ (v := (v9 106 x9)) rfl ?_)))))))))
        refine n_iald 105 dX10_fill_45 rfl sh_105 (by decide) ⟨(by omega), (by omega)⟩ (v := (v9 105 (v9 106 x9))) rfl (n_add (z := ((v9 107 (iand p (ixor (ishl 1 x9) (-1)))) + (v9 105 (v9 106 x9)))) dX10_fill_46 (wr_id (by omega) (by omega)) (s_iastore 107 dX10_fill_47 rfl sh_107 (by decide) ⟨(by omega), (by omega)⟩ (s_iconst dX10_fill_48 (by decide) (s_istore_n (ls' := [(0, (2, 103)), (1, (0, p)), (2, (0, x9)), (3, (0, 0))]) dX10_fill_49 (Nat.le_of_ble_eq_true rfl) rfl ?_))))
        exact At.keep (ls' := [(0, (2, 103)), (1, (0, p)), (3, (0, 0))]) [0, 1, 3] rfl (L_50 _ p 0 (wu v9 107 p ((v9 107 (iand p (ixor (ishl 1 x9) (-1)))) + (v9 105 (v9 106 x9)))) (by omega) (by omega) (fun c a b => by rw [wu_ne a]; exact hw c a b) (fun L a b => by rw [wu_at, if_neg (by omega), wu_ne (by decide)]; exact hT L a b) (by rw [wu_same, hTl, hex2, el]; exact hni) (fun t1 a b => absurd b (by omega)) (fun v f1 f2 => s_iinc (z := (p + 1)) (ls' := [(0, (2, 103)), (1, (0, (p + 1)))]) dX10_fill_83 1 rfl (Nat.le_of_ble_eq_true rfl) (wr_id (by omega) (by omega)) rfl (s_goto 2 dX10_fill_86 (by decide) (ih (p + 1) v (by omega) f1 f2 (by omega)))) (Nat.lt_succ_self _))
  refine s_iconst dX10_fill_0 (by decide) (s_istore_n (ls' := [(0, (2, 103)), (1, (0, 1))]) dX10_fill_1 (Nat.le_of_ble_eq_true rfl) rfl ?_)
  exact L_2 _ 1 w (by omega) (fun _ _ _ => rfl) (TBW_0 h0 h1) (Nat.lt_succ_self _)

theorem GXm_e {v : Wd} {S : Int} {n : Nat} (h : GXm v S n) : ∀ k : Int, 0 ≤ k → k < ((cdP (mbP S) n : Nat) : Int) → v 106 k = nthP (mbP S) n (Int.toNat k) := fun k a b => by
  obtain ⟨j, j1, j2, j3⟩ := cdP_ex (P := mbP S) n k.toNat (by omega)
  have h2 := h.2 j j1 j2
  rw [j3, toN_c a] at h2
  rw [h2, ← j3, nthP_of j2 n j1]
def WH0 (tf wf lf : Int → Int) (n : Int) : Prop := ∀ h : Int, 0 ≤ h → h < n → (0 ≤ tf h ∧ tf h ≤ 3) ∧ (1 ≤ wf h ∧ wf h ≤ 9) ∧ (0 ≤ lf h ∧ lf h ≤ 999)
theorem WH_of {tf wf lf : Int → Int} {n S : Int} (hn : 0 ≤ n ∧ n ≤ 16) (h : WH0 tf wf lf n) (hm : cdP (mbP S) n.toNat ≤ 9) : WH tf wf lf (fun k => nthP (mbP S) n.toNat (Int.toNat k)) (cdP (mbP S) n.toNat) := ⟨hm, fun k a b => by
  have h1 := nthP_bd (P := mbP S) (n := n.toNat) (k := k.toNat) (by omega)
  have h2 := h (nthP (mbP S) n.toNat k.toNat) h1.1 (by omega)
  exact ⟨⟨h1.1, Int.lt_of_lt_of_le h1.2 (by omega)⟩, h2⟩⟩

set_option maxRecDepth 100000 in
theorem c_X_wiOrder (S q : Int) (w : Wd) (hn : 0 ≤ w 15 10 ∧ w 15 10 ≤ 16) (hw0 : WH0 (w 16) (w 104) (w 105) (w 15 10)) (h0 : w 107 0 = 0) (h1 : ∀ t, 0 ≤ t → t < 4 → w 108 t = 0) : CallN 5 mX10_order [(2, 103), (0, S), (0, q)] w (RQ (fun z w1 => ((∀ c, c ≠ 103 → c ≠ 106 → c ≠ 107 → c ≠ 108 → w1 c = w c) ∧ ∀ j, j ≠ 4 → w1 103 j = w 103 j) ∧ (w1 107 0 = 0 ∧ ∀ t, 0 ≤ t → t < 4 → w1 108 t = 0) ∧ z = wiV (w 16) (w 104) (w 105) (w 15 10) S q)) := by
  refine CallN.intro (by decide +kernel) (Nat.le_of_ble_eq_true rfl) (fun ρ hR => ?_)
  show AtN mX10_order 5 ρ 0 [(0, (2, 103)), (1, (0, S)), (2, (0, q))] [] w
  have qb := ishl1_bd hn.1 hn.2
  have qp := ishl1_pow hn.1 hn.2
  have hpb := ppI_bd S
  have L_97 : ∀ (fu : Nat) (L : Int) (t : Int) (x : Int) (i : Int) (v9 : Wd), ((1 ≤ S ∧ S ≤ ishl 1 (w 15 10) - 1) ∧ (0 ≤ q ∧ q ≤ ppI S) ∧ q ≠ 0) ∧ ppI S ≤ 9 ∧ (cdP (mbP S) (w 15 10).toNat) ≤ 9 → 0 ≤ i ∧ i ≤ q → ((∀ c, c ≠ 103 → c ≠ 106 → c ≠ 107 → c ≠ 108 → v9 c = w c) ∧ ∀ j, j ≠ 4 → v9 103 j = w 103 j) → MXw w v9 (fun k => nthP (mbP S) (w 15 10).toNat (Int.toNat k)) (cdP (mbP S) (w 15 10).toNat) → TBW w v9 (fun k => nthP (mbP S) (w 15 10).toNat (Int.toNat k)) (cdP (mbP S) (w 15 10).toNat) (ishl 1 ((cdP (mbP S) (w 15 10).toNat) : Int)) → (1 ≤ i → x = (fun k => nthP (mbP S) (w 15 10).toNat (Int.toNat k)) (sqV (cWi (w 16) (w 104) (w 105) (fun k => nthP (mbP S) (w 15 10).toNat (Int.toNat k)) (cdP (mbP S) (w 15 10).toNat)) (tWi (w 16) (fun k => nthP (mbP S) (w 15 10).toNat (Int.toNat k))) (cdP (mbP S) (w 15 10).toNat) 0 (UP (cdP (mbP S) (w 15 10).toNat) 0) i.toNat).1) → t = (sqV (cWi (w 16) (w 104) (w 105) (fun k => nthP (mbP S) (w 15 10).toNat (Int.toNat k)) (cdP (mbP S) (w 15 10).toNat)) (tWi (w 16) (fun k => nthP (mbP S) (w 15 10).toNat (Int.toNat k))) (cdP (mbP S) (w 15 10).toNat) 0 (UP (cdP (mbP S) (w 15 10).toNat) 0) i.toNat).2.1 → mbP L = (sqV (cWi (w 16) (w 104) (w 105) (fun k => nthP (mbP S) (w 15 10).toNat (Int.toNat k)) (cdP (mbP S) (w 15 10).toNat)) (tWi (w 16) (fun k => nthP (mbP S) (w 15 10).toNat (Int.toNat k))) (cdP (mbP S) (w 15 10).toNat) 0 (UP (cdP (mbP S) (w 15 10).toNat) 0) i.toNat).2.2 → 0 ≤ L ∧ L < ishl 1 ((cdP (mbP S) (w 15 10).toNat) : Int) → 0 ≤ t ∧ t < 4 → (q - i).toNat < fu → AtN mX10_order 5 ρ 97 [(0, (2, 103)), (1, (0, S)), (2, (0, q)), (4, (0, L)), (5, (0, t)), (6, (0, x)), (7, (0, i))] [] v9 := by
    intro fu
    induction fu with
    | zero => intro L t x i v9 hok hi hk hM hT g1 g2 g3 hL ht hm; exact absurd hm (Nat.not_lt_zero _)
    | succ fu ih =>
      intro L t x i v9 hok hi hk hM hT g1 g2 g3 hL ht hm
      have hqv : ishl 1 (v9 103 4) = ishl 1 ((cdP (mbP S) (w 15 10).toNat) : Int) := by rw [hM.1]
      have hm9 : (cdP (mbP S) (w 15 10).toNat) ≤ 9 := hok.2.2
      have hWH := WH_of hn hw0 hm9
      have q2 := hM.1
      have hn9 : 0 ≤ v9 103 4 ∧ v9 103 4 ≤ 9 := by omega
      have hp9 : ∀ k, 0 ≤ k → k < v9 103 4 → (0 ≤ v9 106 k ∧ v9 106 k < 16) ∧ (0 ≤ v9 16 (v9 106 k) ∧ v9 16 (v9 106 k) ≤ 3) ∧ (1 ≤ v9 104 (v9 106 k) ∧ v9 104 (v9 106 k) ≤ 9) := fun k a b => by rw [hM.2.1 k a (by omega), hM.2.2.1, hM.2.2.2.1]; have := hWH.2 k a (by omega); omega
      have hq1 : ishl 1 ((cdP (mbP S) (w 15 10).toNat) : Int) = 2 ^ (cdP (mbP S) (w 15 10).toNat) := ishl1_pow (by omega) (by omega)
      have hpw : ((2 ^ (cdP (mbP S) (w 15 10).toNat) : Nat) : Int) = 2 ^ (cdP (mbP S) (w 15 10).toNat) := by simp
      have hpw2 : 2 ^ (cdP (mbP S) (w 15 10).toNat) ≤ 2 ^ 9 := Nat.pow_le_pow_right (by omega) hm9
      have hq2 : ishl 1 ((cdP (mbP S) (w 15 10).toNat) : Int) ≤ 512 := by rw [hq1]; omega
      clear hpw hpw2
      refine s_iload dX10_order_97 6 rfl (s_iload_n dX10_order_99 2 rfl (s_icmp_ge 151 dX10_order_100 (by decide) (fun c_100 => ?_) (fun c_100 => ?_)))
      · skip
        refine s_iload dX10_order_151 5 rfl (n_iret dX10_order_153 hR rfl ?_)
        have e9 : i = q := by omega
        rw [e9] at g1
        have h8 := hT 0 (by decide) (by omega)
        refine ⟨_, rfl, hk, ⟨?_, fun t a b => ?_⟩, ?_⟩
        · rw [h8.1]; exact niP_0 _ (fun k _ => Nat.zero_testBit k)
        · have h7 := h8.2 t a b
          rw [show (0 : Int) * 4 + t = t by omega] at h7
          rw [h7]; exact VV_0 (fun k _ => Nat.zero_testBit k)
        · unfold wiV
          rw [if_pos (by omega), if_neg (show ¬ q = 0 by omega)]
          exact g1 (by omega)
      · skip
        have hcc := cd_pp (s := S) (n := w 15 10) (by omega) (by omega) hn.1 (by rw [← qp]; omega)
        have hcd := sqV_cd (c := cWi (w 16) (w 104) (w 105) (fun k => nthP (mbP S) (w 15 10).toNat (Int.toNat k)) (cdP (mbP S) (w 15 10).toNat)) (t := tWi (w 16) (fun k => nthP (mbP S) (w 15 10).toNat (Int.toNat k))) (n := (cdP (mbP S) (w 15 10).toNat)) (i := 0) (P := UP (cdP (mbP S) (w 15 10).toNat) 0) i.toNat (by rw [cdP_UP0 _ (Nat.le_refl _)]; omega)
        rw [← g3, cdP_UP0 _ (Nat.le_refl _)] at hcd
        have hLp : 1 ≤ L := by
          rcases (show L = 0 ∨ 1 ≤ L from by omega) with e | e
          · have h0 : cdP (mbP L) (cdP (mbP S) (w 15 10).toNat) = 0 := (cdP_0 _).mpr (fun k _ => by rw [e]; exact Nat.zero_testBit k)
            omega
          · exact e
        have hlL := (hT L (by omega) hL.2).1
        obtain ⟨hnx_108, b, b1, b2, b3, b4, b5⟩ := wiX_nx (t := t) hWH hM hLp (by rw [← hq1]; omega) (fun a1 a2 a3 => hT a1 a2 (by omega)) hlL ht
        have hl9 : 0 ≤ v9 107 L ∧ v9 107 L ≤ 8991 := by rw [hlL]; exact loW_bd hWH _
        rw [← q2] at hnx_108
        refine s_aload_n dX10_order_103 0 rfl rfl (s_iload dX10_order_104 3 rfl (s_iload dX10_order_106 4 rfl (n_invV' (as := [(0, L), (0, t)]) dX10_order_108 kv_X10_next ml_X10_61 (c_X_wiNext L t v9 (by omega) (by omega) hn9 hp9 hl9 hnx_108) (by decide) 103 cf_X10 rfl sh_103 rfl rfl rfl (Nat.le_of_ble_eq_true rfl) ?_)))
        rintro r_108 w_108 ⟨z_108, rfl, hw_108, hz_108⟩
        rw [hw_108]
        show AtN _ _ ρ _ _ [(0, z_108)] v9
        have hzb : z_108 = (b : Int) := hz_108.trans (by rw [q2]; exact b2)
        have hpz := hp9 z_108 (by omega) (by omega)
        refine s_istore (ls' := [(0, (2, 103)), (1, (0, S)), (2, (0, q)), (4, (0, L)), (5, (0, t)), (6, (0, x)), (7, (0, i)), (8, (0, z_108))]) dX10_order_111 (Nat.le_of_ble_eq_true rfl) rfl (s_aload_n dX10_order_113 0 rfl rfl (n_getc (q := 106) 103 3 116 dX10_order_114 cf_X10 ff_X10_18 rfl sh_103 rfl (by decide) rfl (by decide) (s_iload dX10_order_117 7 rfl (n_iald 106 dX10_order_119 rfl sh_106 (by decide) ⟨(by omega), (by omega)⟩ (v := (v9 106 z_108)) rfl (s_istore (ls' := [(0, (2, 103)), (1, (0, S)), (2, (0, q)), (4, (0, L)), (5, (0, t)), (6, (0, (v9 106 z_108))), (7, (0, i)), (8, (0, z_108))]) dX10_order_120 (Nat.le_of_ble_eq_true rfl) rfl (s_aload_n dX10_order_122 0 rfl rfl (n_getc (q := 15) 103 0 25 dX10_order_123 cf_X10 ff_X10_27 rfl sh_103 rfl (by decide) rfl (by decide) (n_getc (q := 16) 15 0 26 dX10_order_126 cf_X3 ff_X10_65 rfl sh_15 rfl (by decide) rfl (by decide) (s_iload dX10_order_129 5 rfl ?_)))))))))
        refine n_iald 16 dX10_order_131 rfl sh_16 (by decide) ⟨(by omega), (by omega)⟩ (v := (v9 16 (v9 106 z_108))) rfl (s_istore (ls' := [(0, (2, 103)), (1, (0, S)), (2, (0, q)), (4, (0, L)), (5, (0, (v9 16 (v9 106 z_108)))), (6, (0, (v9 106 z_108))), (7, (0, i)), (8, (0, z_108))]) dX10_order_132 (Nat.le_of_ble_eq_true rfl) rfl (s_iload dX10_order_134 3 rfl (s_iconst dX10_order_136 (by decide) (s_iload dX10_order_137 7 rfl (s_ishl dX10_order_139 (s_iconst dX10_order_140 (by decide) (s_ixor dX10_order_141 (s_iand dX10_order_142 (s_istore (ls' := [(0, (2, 103)), (1, (0, S)), (2, (0, q)), (4, (0, (iand L (ixor (ishl 1 z_108) (-1))))), (5, (0, (v9 16 (v9 106 z_108)))), (6, (0, (v9 106 z_108))), (7, (0, i)), (8, (0, z_108))]) dX10_order_143 (Nat.le_of_ble_eq_true rfl) rfl ?_)))))))))
        obtain ⟨l0, el, hle, hmb, hlt⟩ := mbP_clr (s := L) (j := z_108) (by omega) (by omega) (by omega) (by omega)
        obtain ⟨l9, e9⟩ : ∃ l9 : Int, l9 = (l0 : Int) := ⟨_, rfl⟩
        rw [← e9] at el hle hmb hlt
        rw [el]
        refine s_iinc (z := (i + 1)) (ls' := [(0, (2, 103)), (1, (0, S)), (2, (0, q)), (4, (0, l9)), (5, (0, (v9 16 (v9 106 z_108)))), (6, (0, (v9 106 z_108))), (7, (0, (i + 1))), (8, (0, z_108))]) dX10_order_145 6 rfl (Nat.le_of_ble_eq_true rfl) (wr_id (by omega) (by omega)) rfl (s_goto 97 dX10_order_148 (by decide) ?_)
        exact At.keep (ls' := [(0, (2, 103)), (1, (0, S)), (2, (0, q)), (4, (0, l9)), (5, (0, (v9 16 (v9 106 z_108)))), (6, (0, (v9 106 z_108))), (7, (0, (i + 1)))]) [0, 1, 2, 3, 4, 5, 6] rfl (ih l9 (v9 16 (v9 106 z_108)) (v9 106 z_108) (i + 1) v9 (by omega) (by omega) hk hM hT (fun _ => by rw [toN_s hi.1, sqV, ← g2, ← g3, b1, hzb]; exact hM.2.1 b (by omega) (by omega)) (by rw [toN_s hi.1, sqV, ← g2, ← g3, b1, hzb, hM.2.1 b (by omega) (by omega), hM.2.2.1]; rfl) (by rw [toN_s hi.1, sqV, ← g2, ← g3, b1, hmb, hzb] <;> rfl) (by omega) (by omega) (by omega))
  refine s_iload_n dX10_order_0 1 rfl (s_iconst dX10_order_1 (by decide) (s_iconst dX10_order_2 (by decide) (s_aload_n dX10_order_3 0 rfl rfl (n_getc (q := 15) 103 0 25 dX10_order_4 cf_X10 ff_X10_27 rfl sh_103 rfl (by decide) rfl (by decide) (n_getf 15 10 0 dX10_order_7 cf_X3 ff_X10_41 rfl sh_15 rfl (by decide) (v := (w 15 10)) rfl (s_ishl dX10_order_10 (s_iconst dX10_order_11 (by decide) (n_sub (z := ((ishl 1 (w 15 10)) - 1)) dX10_order_12 (wr_id (by omega) (by omega)) (n_invT (as := [(0, S), (0, 1), (0, ((ishl 1 (w 15 10)) - 1))]) dX10_order_13 kv_X11_within ml_X10_37 (c_within S 1 ((ishl 1 (w 15 10)) - 1) w) (by decide) rfl rfl (Nat.le_of_ble_eq_true rfl) ?_)))))))))
  refine n_ifeq_b 32 dX10_order_16 (by decide) (fun c_16 => ?_) (fun c_16 => ?_)
  · skip
    refine s_iconst dX10_order_32 (by decide) (s_istore_n (ls' := [(0, (2, 103)), (1, (0, S)), (2, (0, q)), (3, (0, 0))]) dX10_order_33 (Nat.le_of_ble_eq_true rfl) rfl (s_iload_n dX10_order_34 3 rfl (s_if_eq 50 dX10_order_35 (by decide) (kf := fun c => absurd c (by decide)) (kt := fun _ => s_iconst dX10_order_50 (by decide) (n_iret dX10_order_51 hR rfl ?_)))))
    exact ⟨_, rfl, ⟨fun _ _ _ _ _ => rfl, fun _ _ => rfl⟩, ⟨h0, h1⟩, (if_neg (by omega)).symm⟩
  · skip
    refine s_iload_n dX10_order_19 1 rfl (n_invS (as := [(0, S)]) dX10_order_20 kv_J6_bitCount_0f7a4 ml_X10_45 (j_bits S w (by omega) (by omega)) (by decide) rfl rfl (Nat.le_of_ble_eq_true rfl) (s_bipush dX10_order_23 (by decide) (s_icmp_gt 32 dX10_order_25 (by decide) (fun c_25 => ?_) (fun c_25 => ?_))))
    · skip
      refine s_iconst dX10_order_32 (by decide) (s_istore_n (ls' := [(0, (2, 103)), (1, (0, S)), (2, (0, q)), (3, (0, 0))]) dX10_order_33 (Nat.le_of_ble_eq_true rfl) rfl (s_iload_n dX10_order_34 3 rfl (s_if_eq 50 dX10_order_35 (by decide) (kf := fun c => absurd c (by decide)) (kt := fun _ => s_iconst dX10_order_50 (by decide) (n_iret dX10_order_51 hR rfl ?_)))))
      exact ⟨_, rfl, ⟨fun _ _ _ _ _ => rfl, fun _ _ => rfl⟩, ⟨h0, h1⟩, (if_neg (by omega)).symm⟩
    · skip
      refine s_iconst dX10_order_28 (by decide) (s_goto 33 dX10_order_29 (by decide) (s_istore_n (ls' := [(0, (2, 103)), (1, (0, S)), (2, (0, q)), (3, (0, 1))]) dX10_order_33 (Nat.le_of_ble_eq_true rfl) rfl (s_iload_n dX10_order_34 3 rfl (s_if_eq 50 dX10_order_35 (by decide) (kt := fun c => absurd c (by decide)) (kf := fun _ => s_iload_n dX10_order_38 2 rfl (s_iconst dX10_order_39 (by decide) (s_iload_n dX10_order_40 1 rfl (n_invS (as := [(0, S)]) dX10_order_41 kv_J6_bitCount_0f7a4 ml_X10_45 (j_bits S w (by omega) (by omega)) (by decide) rfl rfl (Nat.le_of_ble_eq_true rfl) (n_invT (as := [(0, q), (0, 0), (0, (ppI S))]) dX10_order_44 kv_X11_within ml_X10_37 (c_within q 0 (ppI S) w) (by decide) rfl rfl (Nat.le_of_ble_eq_true rfl) ?_)))))))))
      refine n_ifne_b 52 dX10_order_47 (by decide) (fun c_47 => ?_) (fun c_47 => ?_)
      · skip
        have hcc := cd_pp (s := S) (n := w 15 10) (by omega) (by omega) hn.1 (by rw [← qp]; omega)
        have hm9 : (cdP (mbP S) (w 15 10).toNat) ≤ 9 := by omega
        have hWH := WH_of hn hw0 hm9
        refine s_aload_n dX10_order_52 0 rfl rfl (s_iload_n dX10_order_53 1 rfl (n_invV' (as := [(0, S)]) dX10_order_54 kv_X10_enlist ml_X10_51 (c_X_enlist S w (by omega) hn hm9) (by decide) 103 cf_X10 rfl sh_103 rfl rfl rfl (Nat.le_of_ble_eq_true rfl) ?_))
        rintro r_54 w_54 ⟨rfl, hf, hG⟩
        refine s_aload_n dX10_order_57 0 rfl rfl (n_invV' (as := []) dX10_order_58 kv_X10_fill ml_X10_55 (c_X_wiFill w_54 (fun k => nthP (mbP S) (w 15 10).toNat (Int.toNat k)) (cdP (mbP S) (w 15 10).toNat) hG.1 (GXm_e hG) (by rw [hf.1 16 (by decide) (by decide), hf.1 104 (by decide) (by decide), hf.1 105 (by decide) (by decide)]; exact hWH) (by rw [hf.1 107 (by decide) (by decide)]; exact h0) (by rw [hf.1 108 (by decide) (by decide)]; exact h1)) (by decide) 103 cf_X10 rfl sh_103 rfl rfl rfl (Nat.le_of_ble_eq_true rfl) ?_)
        rintro r_58 w_58 ⟨rfl, hg, hT⟩
        have e16 : w_54 16 = w 16 := hf.1 16 (by decide) (by decide)
        have e104 : w_54 104 = w 104 := hf.1 104 (by decide) (by decide)
        have e105 : w_54 105 = w 105 := hf.1 105 (by decide) (by decide)
        have hk : (∀ c, c ≠ 103 → c ≠ 106 → c ≠ 107 → c ≠ 108 → w_58 c = w c) ∧ ∀ j, j ≠ 4 → w_58 103 j = w 103 j := ⟨fun c c1 c2 c3 c4 => by rw [hg c c3 c4]; exact hf.1 c c1 c2, fun j hj => by rw [hg 103 (by decide) (by decide)]; exact hf.2 j hj⟩
        unfold TBW at hT
        rw [e16, e104, e105] at hT
        have hM : MXw w w_58 (fun k => nthP (mbP S) (w 15 10).toNat (Int.toNat k)) (cdP (mbP S) (w 15 10).toNat) := ⟨by rw [hg 103 (by decide) (by decide)]; exact hG.1, fun k a b => by rw [hg 106 (by decide) (by decide)]; exact GXm_e hG k a b, by rw [hg 16 (by decide) (by decide)]; exact e16, by rw [hg 104 (by decide) (by decide)]; exact e104, by rw [hg 105 (by decide) (by decide)]; exact e105⟩
        have hqv : ishl 1 (w_58 103 4) = ishl 1 ((cdP (mbP S) (w 15 10).toNat) : Int) := by rw [hM.1]
        have hqe : ishl 1 ((cdP (mbP S) (w 15 10).toNat) : Int) = ((2 ^ (cdP (mbP S) (w 15 10).toNat) : Nat) : Int) := ishl1 _ (by omega)
        have hpw2 : 2 ^ (cdP (mbP S) (w 15 10).toNat) ≤ 2 ^ 9 := Nat.pow_le_pow_right (by omega) hm9
        have hpw3 : 1 ≤ 2 ^ (cdP (mbP S) (w 15 10).toNat) := Nat.one_le_two_pow
        have hle : ishl 1 (w_58 103 4) - 1 = ((2 ^ (cdP (mbP S) (w 15 10).toNat) - 1 : Nat) : Int) := by omega
        have hfull : mbP (ishl 1 (w_58 103 4) - 1) = UP (cdP (mbP S) (w 15 10).toNat) 0 := by rw [hle]; exact UP_full (by omega)
        refine s_iconst dX10_order_61 (by decide) (s_aload_n dX10_order_62 0 rfl rfl (n_getf 103 4 0 dX10_order_63 cf_X10 ff_X10_58 rfl sh_103 rfl (by decide) (v := (w_58 103 4)) rfl (s_ishl dX10_order_66 (s_iconst dX10_order_67 (by decide) (n_sub (z := ((ishl 1 (w_58 103 4)) - 1)) dX10_order_68 (wr_id (by omega) (by omega)) (s_istore (ls' := [(0, (2, 103)), (1, (0, S)), (2, (0, q)), (3, (0, 1)), (4, (0, ((ishl 1 (w_58 103 4)) - 1)))]) dX10_order_69 (Nat.le_of_ble_eq_true rfl) rfl (s_iconst dX10_order_71 (by decide) (s_istore (ls' := [(0, (2, 103)), (1, (0, S)), (2, (0, q)), (3, (0, 1)), (4, (0, ((ishl 1 (w_58 103 4)) - 1))), (5, (0, 0))]) dX10_order_72 (Nat.le_of_ble_eq_true rfl) rfl (s_iload_n dX10_order_74 2 rfl ?_)))))))))
        refine s_if_ne 91 dX10_order_75 (by decide) (fun c_75 => ?_) (fun c_75 => ?_)
        · skip
          refine s_iconst dX10_order_91 (by decide) (s_istore (ls' := [(0, (2, 103)), (1, (0, S)), (2, (0, q)), (3, (0, 1)), (4, (0, ((ishl 1 (w_58 103 4)) - 1))), (5, (0, 0)), (6, (0, (-1)))]) dX10_order_92 (Nat.le_of_ble_eq_true rfl) rfl (s_iconst dX10_order_94 (by decide) (s_istore (ls' := [(0, (2, 103)), (1, (0, S)), (2, (0, q)), (3, (0, 1)), (4, (0, ((ishl 1 (w_58 103 4)) - 1))), (5, (0, 0)), (6, (0, (-1))), (7, (0, 0))]) dX10_order_95 (Nat.le_of_ble_eq_true rfl) rfl ?_)))
          exact At.keep (ls' := [(0, (2, 103)), (1, (0, S)), (2, (0, q)), (4, (0, ((ishl 1 (w_58 103 4)) - 1))), (5, (0, 0)), (6, (0, (-1))), (7, (0, 0))]) [0, 1, 2, 4, 5, 6, 7] rfl (L_97 _ ((ishl 1 (w_58 103 4)) - 1) 0 (-1) 0 w_58 (by omega) (by omega) hk hM hT (fun z => absurd z (by decide)) rfl hfull (by omega) (by omega) (Nat.lt_succ_self _))
        · skip
          refine s_aload_n dX10_order_78 0 rfl rfl (n_getc (q := 108) 103 6 118 dX10_order_79 cf_X10 ff_X10_24 rfl sh_103 rfl (by decide) rfl (by decide) (s_iload dX10_order_82 4 rfl (s_iconst dX10_order_84 (by decide) (n_mul (z := (((ishl 1 (w_58 103 4)) - 1) * 4)) dX10_order_85 (wr_id (by omega) (by omega)) (s_iload dX10_order_86 5 rfl (n_add (z := ((((ishl 1 (w_58 103 4)) - 1) * 4) + 0)) dX10_order_88 (wr_id (by omega) (by omega)) (n_iald 108 dX10_order_89 rfl sh_108 (by decide) ⟨(by omega), (by omega)⟩ (v := (w_58 108 ((((ishl 1 (w_58 103 4)) - 1) * 4) + 0))) rfl (n_iret dX10_order_90 hR rfl ?_))))))))
          have h9 := (hT (ishl 1 (w_58 103 4) - 1) (by omega) (by omega)).2 0 (by decide) (by decide)
          rw [hfull] at h9
          have h8 := hT 0 (by decide) (by omega)
          refine ⟨_, rfl, hk, ⟨?_, fun t a b => ?_⟩, ?_⟩
          · rw [h8.1]; exact niP_0 _ (fun k _ => Nat.zero_testBit k)
          · have h7 := h8.2 t a b
            rw [show (0 : Int) * 4 + t = t by omega] at h7
            rw [h7]; exact VV_0 (fun k _ => Nat.zero_testBit k)
          · unfold wiV
            rw [if_pos (by omega), if_pos (show q = 0 by omega)]
            exact h9
      · skip
        refine s_iconst dX10_order_50 (by decide) (n_iret dX10_order_51 hR rfl ?_)
        exact ⟨_, rfl, ⟨fun _ _ _ _ _ => rfl, fun _ _ => rfl⟩, ⟨h0, h1⟩, (if_neg (by omega)).symm⟩

set_option maxRecDepth 100000 in
theorem x_wire (S q : Int) (w : Wd) (hn : 0 ≤ w 15 10 ∧ w 15 10 ≤ 16) (hw0 : WH0 (w 16) (w 104) (w 105) (w 15 10)) (h0 : w 107 0 = 0) (h1 : ∀ t, 0 ≤ t → t < 4 → w 108 t = 0) : CallN 6 mX11_wire [(2, 0), (0, S), (0, q)] w (RQ (fun z w1 => ((∀ c, c ≠ 103 → c ≠ 106 → c ≠ 107 → c ≠ 108 → w1 c = w c) ∧ ∀ j, j ≠ 4 → w1 103 j = w 103 j) ∧ (w1 107 0 = 0 ∧ ∀ t, 0 ≤ t → t < 4 → w1 108 t = 0) ∧ z = wiV (w 16) (w 104) (w 105) (w 15 10) S q)) := by
  refine CallN.intro (by decide +kernel) (Nat.le_of_ble_eq_true rfl) (fun ρ hR => ?_)
  show AtN mX11_wire 6 ρ 0 [(0, (2, 0)), (1, (0, S)), (2, (0, q))] [] w
  refine s_aload_n dX11_wire_0 0 rfl rfl (n_getc (q := 103) 0 7 113 dX11_wire_1 cf_X11 ff_X11_69 rfl sh_0 rfl (by decide) rfl (by decide) (s_iload_n dX11_wire_4 1 rfl (s_iload_n dX11_wire_5 2 rfl (n_invV' (as := [(0, S), (0, q)]) dX11_wire_6 kv_X10_order ml_X11_262 (c_X_wiOrder S q w hn hw0 h0 h1) (by decide) 103 cf_X10 rfl sh_103 rfl rfl rfl (Nat.le_of_ble_eq_true rfl) ?_))))
  rintro r_6 w_6 ⟨z_6, rfl, hz_6⟩
  show AtN _ _ ρ _ _ [(0, z_6)] w_6
  refine n_iret dX11_wire_9 hR rfl ?_
  exact ⟨_, rfl, hz_6⟩
