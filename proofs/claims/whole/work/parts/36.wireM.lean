/-! WIRE, THE REFERENCE. -/
def MWi (w : Wd) (tf wf lf e : Int → Int) (m : Nat) : Prop := w 141 82 = m ∧ (∀ k : Int, 0 ≤ k → k < m → w 194 k = e k) ∧ w 155 = tf ∧ w 161 = wf ∧ w 162 = lf
theorem MWi.fr {w v : Wd} {tf wf lf e : Int → Int} {m : Nat} (h : MWi w tf wf lf e m) (hf : FrW w v) : MWi v tf wf lf e m :=
  ⟨by rw [hf.2 82 (by decide)]; exact h.1, fun k a b => by rw [hf.1 194 (by decide) (by decide) (by decide)]; exact h.2.1 k a b, by rw [hf.1 155 (by decide) (by decide) (by decide)]; exact h.2.2.1, by rw [hf.1 161 (by decide) (by decide) (by decide)]; exact h.2.2.2.1, by rw [hf.1 162 (by decide) (by decide) (by decide)]; exact h.2.2.2.2⟩
/-- the order that begins with place b -/
def faO (tf wf lf e : Int → Int) (m : Nat) (P : Ps) (b : Nat) : Nat → Int
  | 0 => e b
  | x + 1 => e (sqV (cWi tf wf lf e m) (tWi tf e) m (tWi tf e b) (rmP P b) (x + 1)).1
def gO (tf wf lf e : Int → Int) (m : Nat) (i : Int) (P : Ps) : Nat → Int := fun x => e (sqV (cWi tf wf lf e m) (tWi tf e) m i P (x + 1)).1
abbrev WPost (w : Wd) (tf wf lf e : Int → Int) (m : Nat) (n s time i lost : Int) (w1 : Wd) : Prop := FrW w w1 ∧ (∀ t, 0 ≤ t → t < n → w1 199 t = w 199 t) ∧ Up w w1 n m (TW tf wf lf e m time lost i (UP m s)) (gO tf wf lf e m i (UP m s))
def WArg (m : Nat) (n s time i lost : Int) (f : Nat) : Prop := cdP (UP m s) m = f ∧ n + f = m ∧ (0 ≤ s ∧ s < ishl 1 (m : Int)) ∧ 0 ≤ n ∧ (0 ≤ time ∧ time ≤ 12 * n) ∧ (0 ≤ i ∧ i < 4) ∧ (0 ≤ lost ∧ lost ≤ 107892 * n)
theorem WTW {tf wf lf e : Int → Int} {m : Nat} (hW : WH tf wf lf e m) {n s time i lost : Int} {f : Nat} (h : WArg m n s time i lost f) : lost ≤ TW tf wf lf e m time lost i (UP m s) := by
  have h1 := VW_bd hW i (UP m s)
  have h2 := loW_bd hW (UP m s)
  have h3 := Int.mul_nonneg h.2.2.2.2.1.1 h2.1
  unfold TW
  omega
theorem WEnd {w v : Wd} {tf wf lf e : Int → Int} {m : Nat} {n i time lost : Int} {P : Ps} (hex : ∃ k, k < m ∧ P k = true)
    (hL : LpI w v n m (amN P (afV (cWi tf wf lf e m) (tWi tf e) m i P) m) (TA tf wf lf e m time lost i P) (faO tf wf lf e m P)) : Up w v n m (TW tf wf lf e m time lost i P) (gO tf wf lf e m i P) := by
  obtain ⟨b, b1, b2, b3, b4, -⟩ := nxV_spec (c := cWi tf wf lf e m) (t := tWi tf e) (n := m) i P hex
  have hb : amN P (afV (cWi tf wf lf e m) (tWi tf e) m i P) m = b := b1
  rw [hb] at hL
  have hU := hL.2 (by omega)
  have e1 : TA tf wf lf e m time lost i P ((b : Int)).toNat = TW tf wf lf e m time lost i P := by
    unfold TA TW
    rw [b4]; rfl
  have e2 : faO tf wf lf e m P ((b : Int)).toNat = gO tf wf lf e m i P := by
    funext x
    show faO tf wf lf e m P b x = _
    rcases x with _ | x
    · unfold faO gO
      rw [sqV_1, b1]
    · unfold faO gO
      rw [(sqV_shift b1 x).2]
  rw [e1, e2] at hU
  exact hU
theorem WLeaf {tf wf lf e : Int → Int} {m : Nat} {time lost i : Int} {P : Ps} (h : cdP P m = 0) : TW tf wf lf e m time lost i P = lost := by
  have h0 := (cdP_0 m).mp h
  unfold TW
  rw [niP_0 m h0, VV_0 h0]
  omega
theorem TA_lt {tf wf lf e : Int → Int} {m : Nat} {time lost i : Int} {P : Ps} {a b : Nat} : TA tf wf lf e m time lost i P a < TA tf wf lf e m time lost i P b ↔ afV (cWi tf wf lf e m) (tWi tf e) m i P a < afV (cWi tf wf lf e m) (tWi tf e) m i P b := by
  unfold TA
  omega

set_option maxRecDepth 100000 in
theorem c_M_wiStep (tf wf lf e : Int → Int) (m : Nat) (hW : WH tf wf lf e m) (f : Nat) (IH : ∀ f1, f = f1 + 1 → ∀ (n s time i lost : Int) (w : Wd), MWi w tf wf lf e m → WArg m n s time i lost f1 → CallN (f1 + 1) mX12_wires [(2, 141), (0, n), (0, s), (0, time), (0, i), (0, lost)] w (RUQ (WPost w tf wf lf e m n s time i lost))) (n s time i lost : Int) (w : Wd) (hM : MWi w tf wf lf e m) (hA : WArg m n s time i lost f) : CallN (f + 1) mX12_wires [(2, 141), (0, n), (0, s), (0, time), (0, i), (0, lost)] w (RUQ (WPost w tf wf lf e m n s time i lost)) := by
  refine CallN.intro (by decide +kernel) (Nat.le_of_ble_eq_true rfl) (fun ρ hR => ?_)
  show AtN mX12_wires (f + 1) ρ 0 [(0, (2, 141)), (1, (0, n)), (2, (0, s)), (3, (0, time)), (4, (0, i)), (5, (0, lost))] [] w
  have q0 : w 141 82 = (m : Int) := hM.1
  have hTl := WTW hW hA
  obtain ⟨a1, a2, a3, a4, a5, a6, a7⟩ := id hA
  have hm9 := hW.1
  have hq1 : ishl 1 (m : Int) = 2 ^ m := ishl1_pow (by omega) (by omega)
  have hqb := ishl1_bd (c := (m : Int)) (by omega) (by omega)
  have L_35 : ∀ (fu : Nat) (k : Int) (v9 : Wd), Bet w lost → n = (m : Int) → 0 ≤ k ∧ k ≤ (m : Int) → (∀ c, c ≠ 200 → v9 c = wu w 141 85 lost c) → (∀ t, 0 ≤ t → t < k → v9 200 t = w 199 t) → ((m : Int) - k).toNat < fu → AtN mX12_wires (f + 1) ρ 35 [(0, (2, 141)), (6, (0, k))] [] v9 := by
    intro fu
    induction fu with
    | zero => intro k v9 hb hnm hk hf hc hm; exact absurd hm (Nat.not_lt_zero _)
    | succ fu ih =>
      intro k v9 hb hnm hk hf hc hm
      have q2 : v9 141 82 = (m : Int) := by rw [hf 141 (by decide)]; exact hM.1
      refine s_iload dX12_wires_35 1 rfl (s_aload_n dX12_wires_37 0 rfl rfl (n_getf 141 82 0 dX12_wires_38 cf_X12 ff_X12_457 rfl sh_141 rfl (by decide) (v := (v9 141 82)) rfl (s_icmp_ge 64 dX12_wires_41 (by decide) (fun c_41 => ?_) (fun c_41 => ?_))))
      · skip
        refine n_ret dX12_wires_64 hR rfl ?_
        have hl : TW tf wf lf e m time lost i (UP m s) = lost := WLeaf (by omega)
        refine ⟨rfl, ⟨fun c c1 c2 c3 => by rw [hf c c2, wu_ne c3], fun j hj => by rw [hf 141 (by decide), wu_at, if_neg hj]⟩, fun t a b => by rw [hf 199 (by decide)]; rfl, ?_⟩
        rw [hl]
        refine ⟨fun _ => ⟨by rw [hf 141 (by decide)]; exact wu_same _ _ _ _, fun t a b => hc t a (by omega), fun x hx => by omega⟩, fun q => absurd hb q⟩
      · skip
        refine s_aload_n dX12_wires_44 0 rfl rfl (n_getc (q := 200) 141 87 210 dX12_wires_45 cf_X12 ff_X12_190 rfl sh_141 rfl (by decide) rfl (by decide) (s_iload dX12_wires_48 1 rfl (s_aload_n dX12_wires_50 0 rfl rfl (n_getc (q := 199) 141 86 209 dX12_wires_51 cf_X12 ff_X12_187 rfl sh_141 rfl (by decide) rfl (by decide) (s_iload dX12_wires_54 1 rfl (n_iald 199 dX12_wires_56 rfl sh_199 (by decide) ⟨(by omega), (by omega)⟩ (v := (v9 199 k)) rfl (s_iastore 200 dX12_wires_57 rfl sh_200 (by decide) ⟨(by omega), (by omega)⟩ (s_iinc (z := (k + 1)) (ls' := [(0, (2, 141)), (6, (0, (k + 1)))]) dX12_wires_58 1 rfl (Nat.le_of_ble_eq_true rfl) (wr_id (by omega) (by omega)) rfl (s_goto 35 dX12_wires_61 (by decide) ?_)))))))))
        exact ih (k + 1) (wu v9 200 k (v9 199 k)) hb (by omega) (by omega) (fun c c1 => by rw [wu_ne c1]; exact hf c c1) (fun t a b => by rw [wu_at]; by_cases e5 : t = k; (subst e5; rw [if_pos rfl, hf 199 (by decide)]; rfl); (rw [if_neg e5]; exact hc t a (by omega))) (by omega)
  have L_68 : ∀ (fu : Nat) (k : Int) (v9 : Wd), n < (m : Int) → 0 ≤ k ∧ k ≤ (m : Int) → FrW w v9 → (∀ t, 0 ≤ t → t < n → v9 199 t = w 199 t) → LpI w v9 n m (amN (UP m s) (afV (cWi tf wf lf e m) (tWi tf e) m i (UP m s)) k.toNat) (TA tf wf lf e m time lost i (UP m s)) (faO tf wf lf e m (UP m s)) → ((m : Int) - k).toNat < fu → AtN mX12_wires (f + 1) ρ 68 [(0, (2, 141)), (1, (0, n)), (2, (0, s)), (3, (0, time)), (4, (0, i)), (5, (0, lost)), (6, (0, k))] [] v9 := by
    intro fu
    induction fu with
    | zero => intro k v9 hnm hk hf ht9 hI hm; exact absurd hm (Nat.not_lt_zero _)
    | succ fu ih =>
      intro k v9 hnm hk hf ht9 hI hm
      have hM9 := hM.fr hf
      have q2 : v9 141 82 = (m : Int) := hM9.1
      have hmb : bt s k = 1 ↔ mbP s k.toNat = true := mbP_bt (by omega) (by omega) hk.1 (by omega)
      have hmbf : ¬ bt s k = 1 → mbP s k.toNat = false := fun z => Bool.eq_false_iff.mpr (fun y => z (hmb.mpr y))
      have b01 := bt01 s k
      refine s_iload dX12_wires_68 6 rfl (s_aload_n dX12_wires_70 0 rfl rfl (n_getf 141 82 0 dX12_wires_71 cf_X12 ff_X12_457 rfl sh_141 rfl (by decide) (v := (v9 141 82)) rfl (s_icmp_ge 195 dX12_wires_74 (by decide) (fun c_74 => ?_) (fun c_74 => ?_))))
      · skip
        refine n_ret dX12_wires_195 hR rfl ?_
        have e9 : k = (m : Int) := by omega
        rw [e9] at hI
        refine ⟨rfl, hf, ht9, WEnd ?_ hI⟩
        rcases amN_spec (UP m s) (fun _ => 0) m with ⟨-, z⟩ | ⟨b, -, b2, b3, -⟩
        · have := (cdP_0 m).mpr z
          omega
        · exact ⟨b, b2, b3⟩
      · skip
        refine s_iload_n dX12_wires_77 2 rfl (s_iload dX12_wires_78 6 rfl (s_ishr dX12_wires_80 (s_iconst dX12_wires_81 (by decide) (n_bt dX12_wires_82 (s_iconst dX12_wires_83 (by decide) (s_icmp_ne 90 dX12_wires_84 (by decide) (fun c_84 => ?_) (fun c_84 => ?_)))))))
        · skip
          have hmf : mbP s k.toNat = false := hmbf (by omega)
          have hPk : UP m s k.toNat = true := UP_t.mpr ⟨by omega, hmf⟩
          have hek : v9 194 k = e k := hM9.2.1 k hk.1 (by omega)
          have hWk := hW.2 k hk.1 (by omega)
          have hdw := dW_bd hW (i := i) (k := k) hk.1 (by omega)
          have etw : v9 155 (v9 194 k) = tf (e k) := by rw [hek, hM9.2.2.1]
          have ewk : v9 161 (v9 194 k) = wf (e k) := by rw [hek, hM9.2.2.2.1]
          have elo : v9 162 (v9 194 k) = lf (e k) := by rw [hek, hM9.2.2.2.2]
          refine s_aload_n dX12_wires_90 0 rfl rfl (n_getc (q := 194) 141 79 204 dX12_wires_91 cf_X12 ff_X12_172 rfl sh_141 rfl (by decide) rfl (by decide) (s_iload dX12_wires_94 6 rfl (n_iald 194 dX12_wires_96 rfl sh_194 (by decide) ⟨(by omega), (by omega)⟩ (v := (v9 194 k)) rfl (s_istore (ls' := [(0, (2, 141)), (1, (0, n)), (2, (0, s)), (3, (0, time)), (4, (0, i)), (5, (0, lost)), (6, (0, k)), (7, (0, (v9 194 k)))]) dX12_wires_97 (Nat.le_of_ble_eq_true rfl) rfl (s_iload_n dX12_wires_99 3 rfl (s_iload dX12_wires_100 4 rfl (s_aload_n dX12_wires_102 0 rfl rfl (n_getc (q := 155) 141 23 165 dX12_wires_103 cf_X12 ff_X12_49 rfl sh_141 rfl (by decide) rfl (by decide) (s_iload dX12_wires_106 7 rfl ?_)))))))))
          refine n_iald 155 dX12_wires_108 rfl sh_155 (by decide) ⟨(by omega), (by omega)⟩ (v := (v9 155 (v9 194 k))) rfl (s_icmp_le 125 dX12_wires_109 (by decide) (fun c_109 => ?_) (fun c_109 => ?_))
          · skip
            refine s_aload_n dX12_wires_125 0 rfl rfl (n_getc (q := 155) 141 23 165 dX12_wires_126 cf_X12 ff_X12_49 rfl sh_141 rfl (by decide) rfl (by decide) (s_iload dX12_wires_129 7 rfl (n_iald 155 dX12_wires_131 rfl sh_155 (by decide) ⟨(by omega), (by omega)⟩ (v := (v9 155 (v9 194 k))) rfl (s_iload dX12_wires_132 4 rfl (n_sub (z := ((v9 155 (v9 194 k)) - i)) dX12_wires_134 (wr_id (by omega) (by omega)) (n_add (z := (time + ((v9 155 (v9 194 k)) - i))) dX12_wires_135 (wr_id (by omega) (by omega)) (s_aload_n dX12_wires_136 0 rfl rfl (n_getc (q := 161) 141 29 171 dX12_wires_137 cf_X12 ff_X12_67 rfl sh_141 rfl (by decide) rfl (by decide) (s_iload dX12_wires_140 7 rfl ?_)))))))))
            refine n_iald 161 dX12_wires_142 rfl sh_161 (by decide) ⟨(by omega), (by omega)⟩ (v := (v9 161 (v9 194 k))) rfl (n_add (z := ((time + ((v9 155 (v9 194 k)) - i)) + (v9 161 (v9 194 k)))) dX12_wires_143 (wr_id (by omega) (by omega)) (s_istore (ls' := [(0, (2, 141)), (1, (0, n)), (2, (0, s)), (3, (0, time)), (4, (0, i)), (5, (0, lost)), (6, (0, k)), (7, (0, (v9 194 k))), (8, (0, ((time + ((v9 155 (v9 194 k)) - i)) + (v9 161 (v9 194 k)))))]) dX12_wires_144 (Nat.le_of_ble_eq_true rfl) rfl ?_))
            obtain ⟨E9, hE9⟩ : ∃ E9 : Int, E9 = ((time + ((v9 155 (v9 194 k)) - i)) + (v9 161 (v9 194 k))) := ⟨_, rfl⟩
            rw [← hE9]
            have hE : E9 = time + dW tf wf e i k := by
              rw [hE9]
              unfold dW abD
              rw [if_pos (by omega)]
              first
              | (rw [if_pos (by omega)]; omega)
              | (rw [if_neg (by omega)]; omega)
            have hX : 0 ≤ (v9 162 (v9 194 k) * E9) ∧ (v9 162 (v9 194 k) * E9) ≤ 107892 := by
              have h5 := mul_bd (x := v9 162 (v9 194 k)) (y := E9) (X := 999) (Y := 108) ⟨by omega, by omega⟩ ⟨by omega, by omega⟩
              omega
            obtain ⟨l, l1, l2, l3, l4, l5, l6, l7⟩ := ior_mb (s := s) (k := k) (by omega) (by omega) (by omega) (by omega)
            have hUP : UP m (ior s (ishl 1 k)) = rmP (UP m s) k.toNat := by rw [l1]; exact UP_or l5 (fun x hx => l6 x hx)
            have hcr := cdP_rm hPk m (by omega)
            obtain ⟨f1, ef⟩ : ∃ f1, f = f1 + 1 := ⟨f - 1, by omega⟩
            have hl8 : ior s (ishl 1 k) < ishl 1 (m : Int) := by
              rw [l1, hq1]
              exact l7 m (by rw [← hq1]; omega) (by omega)
            have hA9 : WArg m (n + 1) (ior s (ishl 1 k)) E9 (v9 155 (v9 194 k)) (lost + (v9 162 (v9 194 k) * E9)) f1 := ⟨by rw [hUP]; omega, by omega, ⟨by omega, hl8⟩, by omega, ⟨by omega, by omega⟩, ⟨by omega, by omega⟩, ⟨by omega, by omega⟩⟩
            refine s_aload_n dX12_wires_146 0 rfl rfl (n_getc (q := 199) 141 86 209 dX12_wires_147 cf_X12 ff_X12_187 rfl sh_141 rfl (by decide) rfl (by decide) (s_iload_n dX12_wires_150 1 rfl (s_iload dX12_wires_151 7 rfl (s_iastore 199 dX12_wires_153 rfl sh_199 (by decide) ⟨(by omega), (by omega)⟩ (s_aload_n dX12_wires_154 0 rfl rfl (s_iload_n dX12_wires_155 1 rfl (s_iconst dX12_wires_156 (by decide) (n_add (z := (n + 1)) dX12_wires_157 (wr_id (by omega) (by omega)) (s_iload_n dX12_wires_158 2 rfl ?_)))))))))
            refine s_iconst dX12_wires_159 (by decide) (s_iload dX12_wires_160 6 rfl (s_ishl dX12_wires_162 (s_ior dX12_wires_163 (s_iload dX12_wires_164 8 rfl (s_aload_n dX12_wires_166 0 rfl rfl (n_getc (q := 155) 141 23 165 dX12_wires_167 cf_X12 ff_X12_49 rfl sh_141 rfl (by decide) rfl (by decide) (s_iload dX12_wires_170 7 rfl (n_iald 155 dX12_wires_172 rfl sh_155 (by decide) ⟨(by omega), (by omega)⟩ (v := (v9 155 (v9 194 k))) rfl (s_iload dX12_wires_173 5 rfl ?_)))))))))
            refine s_aload_n dX12_wires_175 0 rfl rfl (n_getc (q := 162) 141 30 172 dX12_wires_176 cf_X12 ff_X12_70 rfl sh_141 rfl (by decide) rfl (by decide) (s_iload dX12_wires_179 7 rfl (n_iald 162 dX12_wires_181 rfl sh_162 (by decide) ⟨(by omega), (by omega)⟩ (v := (v9 162 (v9 194 k))) rfl (s_iload dX12_wires_182 8 rfl (n_mul (z := ((v9 162 (v9 194 k)) * E9)) dX12_wires_184 (wr_id (by omega) (by omega)) (n_add (z := (lost + ((v9 162 (v9 194 k)) * E9))) dX12_wires_185 (wr_id (by omega) (by omega)) (n_invV' (as := [(0, (n + 1)), (0, (ior s (ishl 1 k))), (0, E9), (0, (v9 155 (v9 194 k))), (0, (lost + ((v9 162 (v9 194 k)) * E9)))]) dX12_wires_186 kv_X12_wires ml_X12_475 (IH f1 ef (n + 1) (ior s (ishl 1 k)) E9 (v9 155 (v9 194 k)) (lost + (v9 162 (v9 194 k) * E9)) (wu v9 199 n (v9 194 k)) (hM9.fr (FrW.u9 FrW.rf)) hA9) (show (f1 + 1) + 1 ≤ f + 1 by omega) 141 cf_X12 rfl sh_141 rfl rfl rfl (Nat.le_of_ble_eq_true rfl) ?_)))))))
            rintro r_186 w_186 ⟨rfl, hF1, hP1, hU1⟩
            have eX : (v9 162 (v9 194 k) * E9) = lf (e k) * (time + dW tf wf e i k) := by rw [elo, hE]
            have eT : TW tf wf lf e m E9 (lost + (v9 162 (v9 194 k) * E9)) (v9 155 (v9 194 k)) (UP m (ior s (ishl 1 k))) = TA tf wf lf e m time lost i (UP m s) k.toNat := by
              rw [hUP, eX, hE, etw]
              have h6 := TW_step (tf := tf) (wf := wf) (lf := lf) (e := e) (m := m) (time := time) (lost := lost) (i := i) (P := UP m s) (k := k.toNat) (by omega) hPk
              rw [toN_c hk.1] at h6
              exact h6
            rw [eT] at hU1
            have hs9 := Lp_step (a := (amN (UP m s) (afV (cWi tf wf lf e m) (tWi tf e) m i (UP m s)) k.toNat)) (x := v9 194 k) (k := k.toNat) (T := TA tf wf lf e m time lost i (UP m s)) (f := faO tf wf lf e m (UP m s)) (by omega) (amN_bd _ _ _).1 (fun b eb => ?_) hI ht9 ?_ ?_ hU1
            rotate_left
            · have h7 := loW_bd hW (UP m s)
              have h8 := Int.mul_nonneg (show 0 ≤ time by omega) h7.1
              have hbm : b < m := by have := amN_bd (UP m s) (afV (cWi tf wf lf e m) (tWi tf e) m i (UP m s)) k.toNat; omega
              have h9 := cWi_bd hW (i := i) (P := UP m s) hbm
              have h10 := VW_bd hW (tWi tf e b) (rmP (UP m s) b)
              unfold TA afV
              omega
            · show e ((k.toNat : Nat) : Int) = _
              rw [toN_c hk.1]; exact hek.symm
            · intro x
              show e (sqV (cWi tf wf lf e m) (tWi tf e) m (tWi tf e k.toNat) (rmP (UP m s) k.toNat) (x + 1)).1 = gO tf wf lf e m (v9 155 (v9 194 k)) (UP m (ior s (ishl 1 k))) x
              unfold gO
              rw [hUP, etw]
              unfold tWi
              rw [toN_c hk.1]
            refine s_iinc (z := (k + 1)) (ls' := [(0, (2, 141)), (1, (0, n)), (2, (0, s)), (3, (0, time)), (4, (0, i)), (5, (0, lost)), (6, (0, (k + 1))), (7, (0, (v9 194 k))), (8, (0, E9))]) dX12_wires_189 6 rfl (Nat.le_of_ble_eq_true rfl) (wr_id (by omega) (by omega)) rfl (s_goto 68 dX12_wires_192 (by decide) ?_)
            exact At.keep (ls' := [(0, (2, 141)), (1, (0, n)), (2, (0, s)), (3, (0, time)), (4, (0, i)), (5, (0, lost)), (6, (0, (k + 1)))]) [0, 1, 2, 3, 4, 5, 6] rfl (ih (k + 1) w_186 (by omega) (by omega) (hf.u9.tr hF1) (fun t a b => by rw [hP1 t a (by omega), wu_at, if_neg (by omega)]; exact ht9 t a b) (by rw [amN_s hk.1]; have e9 : (if UP m s k.toNat = true ∧ ((amN (UP m s) (afV (cWi tf wf lf e m) (tWi tf e) m i (UP m s)) k.toNat) = -1 ∨ afV (cWi tf wf lf e m) (tWi tf e) m i (UP m s) k.toNat < afV (cWi tf wf lf e m) (tWi tf e) m i (UP m s) ((amN (UP m s) (afV (cWi tf wf lf e m) (tWi tf e) m i (UP m s)) k.toNat)).toNat) then k else (amN (UP m s) (afV (cWi tf wf lf e m) (tWi tf e) m i (UP m s)) k.toNat)) = (if (amN (UP m s) (afV (cWi tf wf lf e m) (tWi tf e) m i (UP m s)) k.toNat) = -1 ∨ TA tf wf lf e m time lost i (UP m s) k.toNat < TA tf wf lf e m time lost i (UP m s) ((amN (UP m s) (afV (cWi tf wf lf e m) (tWi tf e) m i (UP m s)) k.toNat)).toNat then ((k.toNat : Nat) : Int) else (amN (UP m s) (afV (cWi tf wf lf e m) (tWi tf e) m i (UP m s)) k.toNat)) := (by rw [toN_c hk.1]; simp only [hPk, true_and, TA_lt]); rw [e9]; exact hs9) (by omega))
          · skip
            refine s_iload dX12_wires_112 4 rfl (s_aload_n dX12_wires_114 0 rfl rfl (n_getc (q := 155) 141 23 165 dX12_wires_115 cf_X12 ff_X12_49 rfl sh_141 rfl (by decide) rfl (by decide) (s_iload dX12_wires_118 7 rfl (n_iald 155 dX12_wires_120 rfl sh_155 (by decide) ⟨(by omega), (by omega)⟩ (v := (v9 155 (v9 194 k))) rfl (n_sub (z := (i - (v9 155 (v9 194 k)))) dX12_wires_121 (wr_id (by omega) (by omega)) (s_goto 135 dX12_wires_122 (by decide) (n_add (z := (time + (i - (v9 155 (v9 194 k))))) dX12_wires_135 (wr_id (by omega) (by omega)) (s_aload_n dX12_wires_136 0 rfl rfl (n_getc (q := 161) 141 29 171 dX12_wires_137 cf_X12 ff_X12_67 rfl sh_141 rfl (by decide) rfl (by decide) ?_)))))))))
            refine s_iload dX12_wires_140 7 rfl (n_iald 161 dX12_wires_142 rfl sh_161 (by decide) ⟨(by omega), (by omega)⟩ (v := (v9 161 (v9 194 k))) rfl (n_add (z := ((time + (i - (v9 155 (v9 194 k)))) + (v9 161 (v9 194 k)))) dX12_wires_143 (wr_id (by omega) (by omega)) (s_istore (ls' := [(0, (2, 141)), (1, (0, n)), (2, (0, s)), (3, (0, time)), (4, (0, i)), (5, (0, lost)), (6, (0, k)), (7, (0, (v9 194 k))), (8, (0, ((time + (i - (v9 155 (v9 194 k)))) + (v9 161 (v9 194 k)))))]) dX12_wires_144 (Nat.le_of_ble_eq_true rfl) rfl ?_)))
            obtain ⟨E9, hE9⟩ : ∃ E9 : Int, E9 = ((time + (i - (v9 155 (v9 194 k)))) + (v9 161 (v9 194 k))) := ⟨_, rfl⟩
            rw [← hE9]
            have hE : E9 = time + dW tf wf e i k := by
              rw [hE9]
              unfold dW abD
              rw [if_pos (by omega)]
              first
              | (rw [if_pos (by omega)]; omega)
              | (rw [if_neg (by omega)]; omega)
            have hX : 0 ≤ (v9 162 (v9 194 k) * E9) ∧ (v9 162 (v9 194 k) * E9) ≤ 107892 := by
              have h5 := mul_bd (x := v9 162 (v9 194 k)) (y := E9) (X := 999) (Y := 108) ⟨by omega, by omega⟩ ⟨by omega, by omega⟩
              omega
            obtain ⟨l, l1, l2, l3, l4, l5, l6, l7⟩ := ior_mb (s := s) (k := k) (by omega) (by omega) (by omega) (by omega)
            have hUP : UP m (ior s (ishl 1 k)) = rmP (UP m s) k.toNat := by rw [l1]; exact UP_or l5 (fun x hx => l6 x hx)
            have hcr := cdP_rm hPk m (by omega)
            obtain ⟨f1, ef⟩ : ∃ f1, f = f1 + 1 := ⟨f - 1, by omega⟩
            have hl8 : ior s (ishl 1 k) < ishl 1 (m : Int) := by
              rw [l1, hq1]
              exact l7 m (by rw [← hq1]; omega) (by omega)
            have hA9 : WArg m (n + 1) (ior s (ishl 1 k)) E9 (v9 155 (v9 194 k)) (lost + (v9 162 (v9 194 k) * E9)) f1 := ⟨by rw [hUP]; omega, by omega, ⟨by omega, hl8⟩, by omega, ⟨by omega, by omega⟩, ⟨by omega, by omega⟩, ⟨by omega, by omega⟩⟩
            refine s_aload_n dX12_wires_146 0 rfl rfl (n_getc (q := 199) 141 86 209 dX12_wires_147 cf_X12 ff_X12_187 rfl sh_141 rfl (by decide) rfl (by decide) (s_iload_n dX12_wires_150 1 rfl (s_iload dX12_wires_151 7 rfl (s_iastore 199 dX12_wires_153 rfl sh_199 (by decide) ⟨(by omega), (by omega)⟩ (s_aload_n dX12_wires_154 0 rfl rfl (s_iload_n dX12_wires_155 1 rfl (s_iconst dX12_wires_156 (by decide) (n_add (z := (n + 1)) dX12_wires_157 (wr_id (by omega) (by omega)) (s_iload_n dX12_wires_158 2 rfl ?_)))))))))
            refine s_iconst dX12_wires_159 (by decide) (s_iload dX12_wires_160 6 rfl (s_ishl dX12_wires_162 (s_ior dX12_wires_163 (s_iload dX12_wires_164 8 rfl (s_aload_n dX12_wires_166 0 rfl rfl (n_getc (q := 155) 141 23 165 dX12_wires_167 cf_X12 ff_X12_49 rfl sh_141 rfl (by decide) rfl (by decide) (s_iload dX12_wires_170 7 rfl (n_iald 155 dX12_wires_172 rfl sh_155 (by decide) ⟨(by omega), (by omega)⟩ (v := (v9 155 (v9 194 k))) rfl (s_iload dX12_wires_173 5 rfl ?_)))))))))
            refine s_aload_n dX12_wires_175 0 rfl rfl (n_getc (q := 162) 141 30 172 dX12_wires_176 cf_X12 ff_X12_70 rfl sh_141 rfl (by decide) rfl (by decide) (s_iload dX12_wires_179 7 rfl (n_iald 162 dX12_wires_181 rfl sh_162 (by decide) ⟨(by omega), (by omega)⟩ (v := (v9 162 (v9 194 k))) rfl (s_iload dX12_wires_182 8 rfl (n_mul (z := ((v9 162 (v9 194 k)) * E9)) dX12_wires_184 (wr_id (by omega) (by omega)) (n_add (z := (lost + ((v9 162 (v9 194 k)) * E9))) dX12_wires_185 (wr_id (by omega) (by omega)) (n_invV' (as := [(0, (n + 1)), (0, (ior s (ishl 1 k))), (0, E9), (0, (v9 155 (v9 194 k))), (0, (lost + ((v9 162 (v9 194 k)) * E9)))]) dX12_wires_186 kv_X12_wires ml_X12_475 (IH f1 ef (n + 1) (ior s (ishl 1 k)) E9 (v9 155 (v9 194 k)) (lost + (v9 162 (v9 194 k) * E9)) (wu v9 199 n (v9 194 k)) (hM9.fr (FrW.u9 FrW.rf)) hA9) (show (f1 + 1) + 1 ≤ f + 1 by omega) 141 cf_X12 rfl sh_141 rfl rfl rfl (Nat.le_of_ble_eq_true rfl) ?_)))))))
            rintro r_186 w_186 ⟨rfl, hF1, hP1, hU1⟩
            have eX : (v9 162 (v9 194 k) * E9) = lf (e k) * (time + dW tf wf e i k) := by rw [elo, hE]
            have eT : TW tf wf lf e m E9 (lost + (v9 162 (v9 194 k) * E9)) (v9 155 (v9 194 k)) (UP m (ior s (ishl 1 k))) = TA tf wf lf e m time lost i (UP m s) k.toNat := by
              rw [hUP, eX, hE, etw]
              have h6 := TW_step (tf := tf) (wf := wf) (lf := lf) (e := e) (m := m) (time := time) (lost := lost) (i := i) (P := UP m s) (k := k.toNat) (by omega) hPk
              rw [toN_c hk.1] at h6
              exact h6
            rw [eT] at hU1
            have hs9 := Lp_step (a := (amN (UP m s) (afV (cWi tf wf lf e m) (tWi tf e) m i (UP m s)) k.toNat)) (x := v9 194 k) (k := k.toNat) (T := TA tf wf lf e m time lost i (UP m s)) (f := faO tf wf lf e m (UP m s)) (by omega) (amN_bd _ _ _).1 (fun b eb => ?_) hI ht9 ?_ ?_ hU1
            rotate_left
            · have h7 := loW_bd hW (UP m s)
              have h8 := Int.mul_nonneg (show 0 ≤ time by omega) h7.1
              have hbm : b < m := by have := amN_bd (UP m s) (afV (cWi tf wf lf e m) (tWi tf e) m i (UP m s)) k.toNat; omega
              have h9 := cWi_bd hW (i := i) (P := UP m s) hbm
              have h10 := VW_bd hW (tWi tf e b) (rmP (UP m s) b)
              unfold TA afV
              omega
            · show e ((k.toNat : Nat) : Int) = _
              rw [toN_c hk.1]; exact hek.symm
            · intro x
              show e (sqV (cWi tf wf lf e m) (tWi tf e) m (tWi tf e k.toNat) (rmP (UP m s) k.toNat) (x + 1)).1 = gO tf wf lf e m (v9 155 (v9 194 k)) (UP m (ior s (ishl 1 k))) x
              unfold gO
              rw [hUP, etw]
              unfold tWi
              rw [toN_c hk.1]
            refine s_iinc (z := (k + 1)) (ls' := [(0, (2, 141)), (1, (0, n)), (2, (0, s)), (3, (0, time)), (4, (0, i)), (5, (0, lost)), (6, (0, (k + 1))), (7, (0, (v9 194 k))), (8, (0, E9))]) dX12_wires_189 6 rfl (Nat.le_of_ble_eq_true rfl) (wr_id (by omega) (by omega)) rfl (s_goto 68 dX12_wires_192 (by decide) ?_)
            exact At.keep (ls' := [(0, (2, 141)), (1, (0, n)), (2, (0, s)), (3, (0, time)), (4, (0, i)), (5, (0, lost)), (6, (0, (k + 1)))]) [0, 1, 2, 3, 4, 5, 6] rfl (ih (k + 1) w_186 (by omega) (by omega) (hf.u9.tr hF1) (fun t a b => by rw [hP1 t a (by omega), wu_at, if_neg (by omega)]; exact ht9 t a b) (by rw [amN_s hk.1]; have e9 : (if UP m s k.toNat = true ∧ ((amN (UP m s) (afV (cWi tf wf lf e m) (tWi tf e) m i (UP m s)) k.toNat) = -1 ∨ afV (cWi tf wf lf e m) (tWi tf e) m i (UP m s) k.toNat < afV (cWi tf wf lf e m) (tWi tf e) m i (UP m s) ((amN (UP m s) (afV (cWi tf wf lf e m) (tWi tf e) m i (UP m s)) k.toNat)).toNat) then k else (amN (UP m s) (afV (cWi tf wf lf e m) (tWi tf e) m i (UP m s)) k.toNat)) = (if (amN (UP m s) (afV (cWi tf wf lf e m) (tWi tf e) m i (UP m s)) k.toNat) = -1 ∨ TA tf wf lf e m time lost i (UP m s) k.toNat < TA tf wf lf e m time lost i (UP m s) ((amN (UP m s) (afV (cWi tf wf lf e m) (tWi tf e) m i (UP m s)) k.toNat)).toNat then ((k.toNat : Nat) : Int) else (amN (UP m s) (afV (cWi tf wf lf e m) (tWi tf e) m i (UP m s)) k.toNat)) := (by rw [toN_c hk.1]; simp only [hPk, true_and, TA_lt]); rw [e9]; exact hs9) (by omega))
        · skip
          refine s_goto 189 dX12_wires_87 (by decide) (s_iinc (z := (k + 1)) (ls' := [(0, (2, 141)), (1, (0, n)), (2, (0, s)), (3, (0, time)), (4, (0, i)), (5, (0, lost)), (6, (0, (k + 1)))]) dX12_wires_189 6 rfl (Nat.le_of_ble_eq_true rfl) (wr_id (by omega) (by omega)) rfl (s_goto 68 dX12_wires_192 (by decide) ?_))
          exact ih (k + 1) v9 (by omega) (by omega) hf ht9 (by rw [amN_s hk.1, if_neg (fun q => by have := (UP_t.mp q.1).2; have h8 := hmb.mp (by omega); rw [this] at h8; cases h8)]; exact hI) (by omega)
  refine s_aload_n dX12_wires_0 0 rfl rfl (n_getf 141 85 0 dX12_wires_1 cf_X12 ff_X12_472 rfl sh_141 rfl (by decide) (v := (w 141 85)) rfl (s_iconst dX12_wires_4 (by decide) (s_icmp_eq 18 dX12_wires_5 (by decide) (fun c_5 => ?_) (fun c_5 => ?_))))
  · skip
    refine s_iload_n dX12_wires_18 1 rfl (s_aload_n dX12_wires_19 0 rfl rfl (n_getf 141 82 0 dX12_wires_20 cf_X12 ff_X12_457 rfl sh_141 rfl (by decide) (v := (w 141 82)) rfl (s_icmp_ne 65 dX12_wires_23 (by decide) (fun c_23 => ?_) (fun c_23 => ?_))))
    · skip
      refine s_iconst dX12_wires_65 (by decide) (s_istore (ls' := [(0, (2, 141)), (1, (0, n)), (2, (0, s)), (3, (0, time)), (4, (0, i)), (5, (0, lost)), (6, (0, 0))]) dX12_wires_66 (Nat.le_of_ble_eq_true rfl) rfl ?_)
      exact L_68 _ 0 w (by omega) (by omega) FrW.rf (fun _ _ _ => rfl) ⟨fun _ => ⟨rfl, fun _ _ _ => rfl⟩, fun q => absurd rfl q⟩ (Nat.lt_succ_self _)
    · skip
      refine s_aload_n dX12_wires_26 0 rfl rfl (s_iload dX12_wires_27 5 rfl (n_putf 141 85 85 dX12_wires_29 cf_X12 ff_X12_472 rfl rfl sh_141 rfl rfl rfl (s_iconst dX12_wires_32 (by decide) (s_istore (ls' := [(0, (2, 141)), (1, (0, n)), (2, (0, s)), (3, (0, time)), (4, (0, i)), (5, (0, lost)), (6, (0, 0))]) dX12_wires_33 (Nat.le_of_ble_eq_true rfl) rfl ?_))))
      exact At.keep (ls' := [(0, (2, 141)), (6, (0, 0))]) [0, 6] rfl (L_35 _ 0 (wu w 141 85 lost) (by unfold Bet; omega) (by omega) (by omega) (fun _ _ => rfl) (fun t a b => absurd b (by omega)) (Nat.lt_succ_self _))
  · skip
    refine s_iload dX12_wires_8 5 rfl (s_aload_n dX12_wires_10 0 rfl rfl (n_getf 141 85 0 dX12_wires_11 cf_X12 ff_X12_472 rfl sh_141 rfl (by decide) (v := (w 141 85)) rfl (s_icmp_lt 18 dX12_wires_14 (by decide) (fun c_14 => ?_) (fun c_14 => ?_))))
    · skip
      refine s_iload_n dX12_wires_18 1 rfl (s_aload_n dX12_wires_19 0 rfl rfl (n_getf 141 82 0 dX12_wires_20 cf_X12 ff_X12_457 rfl sh_141 rfl (by decide) (v := (w 141 82)) rfl (s_icmp_ne 65 dX12_wires_23 (by decide) (fun c_23 => ?_) (fun c_23 => ?_))))
      · skip
        refine s_iconst dX12_wires_65 (by decide) (s_istore (ls' := [(0, (2, 141)), (1, (0, n)), (2, (0, s)), (3, (0, time)), (4, (0, i)), (5, (0, lost)), (6, (0, 0))]) dX12_wires_66 (Nat.le_of_ble_eq_true rfl) rfl ?_)
        exact L_68 _ 0 w (by omega) (by omega) FrW.rf (fun _ _ _ => rfl) ⟨fun _ => ⟨rfl, fun _ _ _ => rfl⟩, fun q => absurd rfl q⟩ (Nat.lt_succ_self _)
      · skip
        refine s_aload_n dX12_wires_26 0 rfl rfl (s_iload dX12_wires_27 5 rfl (n_putf 141 85 85 dX12_wires_29 cf_X12 ff_X12_472 rfl rfl sh_141 rfl rfl rfl (s_iconst dX12_wires_32 (by decide) (s_istore (ls' := [(0, (2, 141)), (1, (0, n)), (2, (0, s)), (3, (0, time)), (4, (0, i)), (5, (0, lost)), (6, (0, 0))]) dX12_wires_33 (Nat.le_of_ble_eq_true rfl) rfl ?_))))
        exact At.keep (ls' := [(0, (2, 141)), (6, (0, 0))]) [0, 6] rfl (L_35 _ 0 (wu w 141 85 lost) (by unfold Bet; omega) (by omega) (by omega) (fun _ _ => rfl) (fun t a b => absurd b (by omega)) (Nat.lt_succ_self _))
    · skip
      refine n_ret dX12_wires_17 hR rfl ?_
      refine ⟨rfl, FrW.rf, fun _ _ _ => rfl, fun q => absurd q (fun z => by unfold Bet at z; omega), fun _ => ⟨rfl, fun _ _ _ => rfl⟩⟩

theorem c_M_wires (tf wf lf e : Int → Int) (m : Nat) (hW : WH tf wf lf e m) : ∀ (f : Nat) (n s time i lost : Int) (w : Wd), MWi w tf wf lf e m → WArg m n s time i lost f → CallN (f + 1) mX12_wires [(2, 141), (0, n), (0, s), (0, time), (0, i), (0, lost)] w (RUQ (WPost w tf wf lf e m n s time i lost))
  | 0 => c_M_wiStep tf wf lf e m hW 0 (fun f1 h => absurd h (by omega))
  | f + 1 => c_M_wiStep tf wf lf e m hW (f + 1) (fun f1 h => by
      have e5 : f = f1 := by omega
      subst e5
      exact c_M_wires tf wf lf e m hW f)
theorem GA_n {v : Wd} {S : Int} {n : Nat} (h : GA v S n) : ∀ k : Int, 0 ≤ k → k < ((cdP (mbP S) n : Nat) : Int) → v 194 k = nthP (mbP S) n (Int.toNat k) := fun k a b => by
  obtain ⟨j, j1, j2, j3⟩ := cdP_ex (P := mbP S) n k.toNat (by omega)
  have h2 := h.2 j j1 j2
  rw [j3, toN_c a] at h2
  rw [h2, ← j3, nthP_of j2 n j1]

set_option maxRecDepth 100000 in
theorem m_wire (S q : Int) (w : Wd) (hn : 0 ≤ w 141 4 ∧ w 141 4 ≤ 16) (hw0 : WH0 (w 155) (w 161) (w 162) (w 141 4)) : CallN 12 mX12_wire [(2, 141), (0, S), (0, q)] w (RQ (fun z w1 => ((∀ c, c ≠ 194 → c ≠ 199 → c ≠ 200 → c ≠ 141 → w1 c = w c) ∧ ∀ j, j ≠ 82 → j ≠ 85 → w1 141 j = w 141 j) ∧ z = wiV (w 155) (w 161) (w 162) (w 141 4) S q)) := by
  refine CallN.intro (by decide +kernel) (Nat.le_of_ble_eq_true rfl) (fun ρ hR => ?_)
  show AtN mX12_wire 12 ρ 0 [(0, (2, 141)), (1, (0, S)), (2, (0, q))] [] w
  have qb := ishl1_bd hn.1 hn.2
  have qp := ishl1_pow hn.1 hn.2
  have hpb := ppI_bd S
  refine s_iload_n dX12_wire_0 1 rfl (s_iconst dX12_wire_1 (by decide) (s_icmp_lt 36 dX12_wire_2 (by decide) (fun c_2 => ?_) (fun c_2 => ?_)))
  · skip
    refine s_iconst dX12_wire_36 (by decide) (n_iret dX12_wire_37 hR rfl ?_)
    exact ⟨_, rfl, ⟨fun _ _ _ _ _ => rfl, fun _ _ _ => rfl⟩, (if_neg (by omega)).symm⟩
  · skip
    refine s_iload_n dX12_wire_5 1 rfl (s_iconst dX12_wire_6 (by decide) (s_aload_n dX12_wire_7 0 rfl rfl (n_getf 141 4 0 dX12_wire_8 cf_X12 ff_X12_230 rfl sh_141 rfl (by decide) (v := (w 141 4)) rfl (s_ishl dX12_wire_11 (s_icmp_ge 36 dX12_wire_12 (by decide) (fun c_12 => ?_) (fun c_12 => ?_))))))
    · skip
      refine s_iconst dX12_wire_36 (by decide) (n_iret dX12_wire_37 hR rfl ?_)
      exact ⟨_, rfl, ⟨fun _ _ _ _ _ => rfl, fun _ _ _ => rfl⟩, (if_neg (by omega)).symm⟩
    · skip
      refine s_iload_n dX12_wire_15 1 rfl (n_invS (as := [(0, S)]) dX12_wire_16 kv_X12_bits ml_X12_460 (c_M_bits S w) (by decide) rfl rfl (Nat.le_of_ble_eq_true rfl) (s_bipush dX12_wire_19 (by decide) (s_icmp_gt 36 dX12_wire_21 (by decide) (fun c_21 => ?_) (fun c_21 => ?_))))
      · skip
        refine s_iconst dX12_wire_36 (by decide) (n_iret dX12_wire_37 hR rfl ?_)
        exact ⟨_, rfl, ⟨fun _ _ _ _ _ => rfl, fun _ _ _ => rfl⟩, (if_neg (by omega)).symm⟩
      · skip
        refine s_iload_n dX12_wire_24 2 rfl (s_iconst dX12_wire_25 (by decide) (s_iload_n dX12_wire_26 1 rfl (n_invS (as := [(0, S)]) dX12_wire_27 kv_X12_bits ml_X12_460 (c_M_bits S w) (by decide) rfl rfl (Nat.le_of_ble_eq_true rfl) (n_invS (as := [(0, q), (0, 0), (0, (ppI S))]) dX12_wire_30 kv_X12_isIn ml_X12_223 (c_isIn q 0 (ppI S) w) (by decide) rfl rfl (Nat.le_of_ble_eq_true rfl) (n_ifne_b 38 dX12_wire_33 (by decide) (fun c_33 => ?_) (fun c_33 => ?_))))))
        · skip
          have hcc := cd_pp (s := S) (n := w 141 4) (by omega) (by omega) hn.1 (by rw [← qp]; omega)
          have hm9 : (cdP (mbP S) (w 141 4).toNat) ≤ 9 := by omega
          have hWH := WH_of hn hw0 hm9
          refine s_aload_n dX12_wire_38 0 rfl rfl (s_iload_n dX12_wire_39 1 rfl (s_aload_n dX12_wire_40 0 rfl rfl (n_getf 141 4 0 dX12_wire_41 cf_X12 ff_X12_230 rfl sh_141 rfl (by decide) (v := (w 141 4)) rfl (n_invV' (as := [(0, S), (0, (w 141 4))]) dX12_wire_44 kv_X12_gathers ml_X12_463 (c_M_gathers S (w 141 4) w (by omega) (by omega) hm9) (by decide) 141 cf_X12 rfl sh_141 rfl rfl rfl (Nat.le_of_ble_eq_true rfl) ?_))))
          rintro r_44 w_44 ⟨rfl, hf, hg⟩
          refine s_aload_n dX12_wire_47 0 rfl rfl (s_iconst dX12_wire_48 (by decide) (n_putf 141 85 85 dX12_wire_49 cf_X12 ff_X12_472 rfl rfl sh_141 rfl rfl rfl ?_))
          have hMi : MWi (wu w_44 141 85 (-1)) (w 155) (w 161) (w 162) (fun k => nthP (mbP S) (w 141 4).toNat (Int.toNat k)) (cdP (mbP S) (w 141 4).toNat) := ⟨hg.1, GA_n hg, hf.1 155 (by decide) (by decide), hf.1 161 (by decide) (by decide), hf.1 162 (by decide) (by decide)⟩
          have hqm := ishl1_bd (c := ((cdP (mbP S) (w 141 4).toNat) : Int)) (by omega) (by omega)
          have hAi : WArg (cdP (mbP S) (w 141 4).toNat) 0 0 0 0 0 (cdP (mbP S) (w 141 4).toNat) := ⟨cdP_UP0 _ (Nat.le_refl _), by omega, by omega, by omega, by omega, by omega, by omega⟩
          refine s_aload_n dX12_wire_52 0 rfl rfl (s_iconst dX12_wire_53 (by decide) (s_iconst dX12_wire_54 (by decide) (s_iconst dX12_wire_55 (by decide) (s_iconst dX12_wire_56 (by decide) (s_iconst dX12_wire_57 (by decide) (n_invV' (as := [(0, 0), (0, 0), (0, 0), (0, 0), (0, 0)]) dX12_wire_58 kv_X12_wires ml_X12_475 (c_M_wires (w 155) (w 161) (w 162) (fun k => nthP (mbP S) (w 141 4).toNat (Int.toNat k)) (cdP (mbP S) (w 141 4).toNat) hWH (cdP (mbP S) (w 141 4).toNat) 0 0 0 0 0 (wu w_44 141 85 (-1)) hMi hAi) (show ((cdP (mbP S) (w 141 4).toNat) + 1) + 1 ≤ 12 by omega) 141 cf_X12 rfl sh_141 rfl rfl rfl (Nat.le_of_ble_eq_true rfl) ?_))))))
          rintro r_58 w_58 ⟨rfl, hF1, hP1, hU1⟩
          have hbet : Bet (wu w_44 141 85 (-1)) (TW (w 155) (w 161) (w 162) (fun k => nthP (mbP S) (w 141 4).toNat (Int.toNat k)) (cdP (mbP S) (w 141 4).toNat) 0 0 0 (UP (cdP (mbP S) (w 141 4).toNat) 0)) := Or.inl rfl
          obtain ⟨u1, u2, u3⟩ := hU1.1 hbet
          have hfr : (∀ c, c ≠ 194 → c ≠ 199 → c ≠ 200 → c ≠ 141 → w_58 c = w c) ∧ ∀ j, j ≠ 82 → j ≠ 85 → w_58 141 j = w 141 j := ⟨fun c c1 c2 c3 c4 => by rw [hF1.1 c c2 c3 c4, wu_ne c4]; exact hf.1 c c1 c4, fun j j1 j2 => by rw [hF1.2 j j2, wu_at, if_neg j2]; exact hf.2 j j1⟩
          refine s_iload_n dX12_wire_61 2 rfl (s_if_ne 72 dX12_wire_62 (by decide) (fun c_62 => ?_) (fun c_62 => ?_))
          · skip
            refine s_aload_n dX12_wire_72 0 rfl rfl (n_getc (q := 200) 141 87 210 dX12_wire_73 cf_X12 ff_X12_190 rfl sh_141 rfl (by decide) rfl (by decide) (s_iload_n dX12_wire_76 2 rfl (s_iconst dX12_wire_77 (by decide) (n_sub (z := (q - 1)) dX12_wire_78 (wr_id (by omega) (by omega)) (n_iald 200 dX12_wire_79 rfl sh_200 (by decide) ⟨(by omega), (by omega)⟩ (v := (w_58 200 (q - 1))) rfl (n_iret dX12_wire_80 hR rfl ?_))))))
            refine ⟨_, rfl, hfr, ?_⟩
            unfold wiV
            rw [if_pos (by omega)]
            first
            | (rw [if_pos (show q = 0 by omega), u1]
               unfold TW
               rw [Int.zero_mul]
               omega)
            | (rw [if_neg (show ¬ q = 0 by omega)]
               have h9 := u3 (q - 1).toNat (by omega)
               rw [toN_c (by omega), show (0 : Int) + (q - 1) = q - 1 by omega] at h9
               rw [h9]
               unfold gO
               rw [show (q - 1).toNat + 1 = q.toNat by omega])
          · skip
            refine s_aload_n dX12_wire_65 0 rfl rfl (n_getf 141 85 0 dX12_wire_66 cf_X12 ff_X12_472 rfl sh_141 rfl (by decide) (v := (w_58 141 85)) rfl (s_goto 80 dX12_wire_69 (by decide) (n_iret dX12_wire_80 hR rfl ?_)))
            refine ⟨_, rfl, hfr, ?_⟩
            unfold wiV
            rw [if_pos (by omega)]
            first
            | (rw [if_pos (show q = 0 by omega), u1]
               unfold TW
               rw [Int.zero_mul]
               omega)
            | (rw [if_neg (show ¬ q = 0 by omega)]
               have h9 := u3 (q - 1).toNat (by omega)
               rw [toN_c (by omega), show (0 : Int) + (q - 1) = q - 1 by omega] at h9
               rw [h9]
               unfold gO
               rw [show (q - 1).toNat + 1 = q.toNat by omega])
        · skip
          refine s_iconst dX12_wire_36 (by decide) (n_iret dX12_wire_37 hR rfl ?_)
          exact ⟨_, rfl, ⟨fun _ _ _ _ _ => rfl, fun _ _ _ => rfl⟩, (if_neg (by omega)).symm⟩
