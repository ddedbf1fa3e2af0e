/-! WORTH, asked. -/
def wvX (w : Wd) (LN : Int → List Lin) (c h now : Int) : Int := if (ruX w LN h now = 1 ∧ w 60 c = w 16 h ∧ w 18 h ≤ w 64 c) ∧ (0 ≤ w 25 h ∧ w 25 h < w 1 9) then w (66 + Int.toNat c) (w 7 (w 25 h)) + (if w 3 (w 7 (w 25 h)) = w 61 c then 4 else if w 3 (w 7 (w 25 h)) = 5 then 2 else 0) + (if w 4 (w 7 (w 25 h)) = w 62 c then 3 else 0) - (if ofX w h now = 1 then 4 else 0) else -99
theorem ruX_01 {w : Wd} {LN : Int → List Lin} {h now : Int} : ruX w LN h now = 0 ∨ ruX w LN h now = 1 := by unfold ruX; repeat' split; all_goals omega
theorem ofX_01 {w : Wd} {h now : Int} : ofX w h now = 0 ∨ ofX w h now = 1 := by unfold ofX; repeat' split; all_goals omega
/-- cells that inspecting leaves -/
def keepI (c : Nat) : Prop := c ≠ 41 ∧ c ≠ 43 ∧ c ≠ 40 ∧ c ≠ 48 ∧ c ≠ 53 ∧ c ≠ 58 ∧ c ≠ 82 ∧ c ≠ 83 ∧ c ≠ 84 ∧ c ≠ 85
theorem FrI.k {w v : Wd} (h : FrI w v) {c : Nat} (hc : keepI c) : v c = w c := h.1 c hc.1 hc.2.1 hc.2.2.1 hc.2.2.2.1 hc.2.2.2.2.1 hc.2.2.2.2.2.1 hc.2.2.2.2.2.2.1 hc.2.2.2.2.2.2.2.1 hc.2.2.2.2.2.2.2.2.1 hc.2.2.2.2.2.2.2.2.2
theorem woX_v {w v : Wd} {LN : Int → List Lin} {c h now : Int} (hf : FrI w v) (hc : 0 ≤ c ∧ c < 16) (h1 : v 82 h = ruX w LN h now) (h2 : v 83 h = ofX w h now) : woX v c h = wvX w LN c h now := by
  unfold woX wvX
  have e : ∀ k, (k = 60 ∨ k = 16 ∨ k = 18 ∨ k = 64 ∨ k = 25 ∨ k = 1 ∨ k = 7 ∨ k = 3 ∨ k = 61 ∨ k = 4 ∨ k = 62 ∨ (66 ≤ k ∧ k < 82)) → v k = w k := fun k hk => hf.k (by unfold keepI; omega)
  rw [h1, h2, e 60 (by omega), e 16 (by omega), e 18 (by omega), e 64 (by omega), e 25 (by omega), e 1 (by omega), e 7 (by omega), e 3 (by omega), e 61 (by omega), e 4 (by omega), e 62 (by omega), e (66 + Int.toNat c) (by omega)]

set_option maxRecDepth 100000 in
theorem x_worth (c h : Int) (w : Wd) (s : Int → Nat) (LN : Int → List Lin) (hI : InX w s LN) (hc9 : w 59 9 ≤ 16) (hn2 : w 15 10 ≤ 16) (hhd : ∀ c, 0 ≤ c → c < w 59 9 → ∀ j, 0 ≤ j → j < 12 → -3 ≤ w (66 + Int.toNat c) j ∧ w (66 + Int.toNat c) j ≤ 3) : CallN 7 mX11_worth [(2, 0), (0, c), (0, h)] w (RQ (fun z w1 => (((0 ≤ c ∧ c < w 59 9) ∧ (0 ≤ h ∧ h < w 15 10)) ∧ FrI w w1 ∧ z = wvX w LN c h (w 0 10)) ∨ (¬ ((0 ≤ c ∧ c < w 59 9) ∧ (0 ≤ h ∧ h < w 15 10)) ∧ w1 = w ∧ z = -99))) := by
  refine CallN.intro (by decide +kernel) (Nat.le_of_ble_eq_true rfl) (fun ρ hR => ?_)
  show AtN mX11_worth 7 ρ 0 [(0, (2, 0)), (1, (0, c)), (2, (0, h))] [] w
  refine s_aload_n dX11_worth_0 0 rfl rfl (n_getc (q := 59) 0 5 69 dX11_worth_1 cf_X11 ff_X11_53 rfl sh_0 rfl (by decide) rfl (by decide) (s_iload_n dX11_worth_4 1 rfl (n_invV (as := [(0, c)]) dX11_worth_5 kv_X0_hasCrowd ml_X11_210 (c_X_hasCrowd c w) (by decide) 59 cf_X0 rfl sh_59 rfl rfl rfl (Nat.le_of_ble_eq_true rfl) (n_ifeq_b 22 dX11_worth_8 (by decide) (fun c_8 => ?_) (fun c_8 => ?_)))))
  · skip
    refine s_bipush dX11_worth_22 (by decide) (n_iret dX11_worth_24 hR rfl ?_)
    exact ⟨_, rfl, Or.inr ⟨by omega, rfl, rfl⟩⟩
  · skip
    refine s_aload_n dX11_worth_11 0 rfl rfl (n_getc (q := 15) 0 1 25 dX11_worth_12 cf_X11 ff_X11_19 rfl sh_0 rfl (by decide) rfl (by decide) (s_iload_n dX11_worth_15 2 rfl (n_invV (as := [(0, h)]) dX11_worth_16 kv_X3_hasHall ml_X11_185 (c_X_hasHall h w) (by decide) 15 cf_X3 rfl sh_15 rfl rfl rfl (Nat.le_of_ble_eq_true rfl) (n_ifne_b 25 dX11_worth_19 (by decide) (fun c_19 => ?_) (fun c_19 => ?_)))))
    · skip
      refine s_aload_n dX11_worth_25 0 rfl rfl (n_getc (q := 59) 0 5 69 dX11_worth_26 cf_X11 ff_X11_53 rfl sh_0 rfl (by decide) rfl (by decide) (s_iload_n dX11_worth_29 2 rfl (s_aload_n dX11_worth_30 0 rfl rfl (n_getf 0 10 0 dX11_worth_31 cf_X11 ff_X11_87 rfl sh_0 rfl (by decide) (v := (w 0 10)) rfl (n_invV' (as := [(0, h), (0, (w 0 10))]) dX11_worth_34 kv_X0_inspect ml_X11_213 (c_X_inspect h (w 0 10) w s LN ⟨by omega, by omega⟩ hI) (by decide) 59 cf_X0 rfl sh_59 rfl rfl rfl (Nat.le_of_ble_eq_true rfl) ?_)))))
      rintro r_34 w_34 ⟨rfl, hF34, hj34⟩
      have i1 : w_34 82 h = ruX w LN h (w 0 10) := by have := (hj34 h).1; rwa [if_pos rfl] at this
      have i2 : w_34 83 h = ofX w h (w 0 10) := by have := (hj34 h).2.1; rwa [if_pos rfl] at this
      have k : ∀ c, keepI c → w_34 c = w c := fun c hc => hF34.k hc
      refine s_aload_n dX11_worth_37 0 rfl rfl (n_getc (q := 59) 0 5 69 dX11_worth_38 cf_X11 ff_X11_53 rfl sh_0 rfl (by decide) rfl (by decide) (s_iload_n dX11_worth_41 1 rfl (s_iload_n dX11_worth_42 2 rfl (n_invV (as := [(0, c), (0, h)]) dX11_worth_43 kv_X0_worthOf ml_X11_217 (show CallN 2 mX0_worthOf [(2, 59), (0, c), (0, h)] w_34 (RV (0, wvX w LN c h (w 0 10)) w_34) from (by
      rw [← woX_v hF34 ⟨by omega, by omega⟩ i1 i2]
      exact c_X_worthOf c h w_34 ⟨by omega, by omega⟩ ⟨by omega, by omega⟩ (by rw [k 1 (by unfold keepI; decide)]; exact hI.2.1) (by rw [k 1 (by unfold keepI; decide), k 7 (by unfold keepI; decide)]; exact hI.2.2.2.1) (by rw [k (66 + Int.toNat c) (by unfold keepI; omega)]; exact hhd c (by omega) (by omega)) (by rw [i1, i2]; exact ⟨ruX_01, ofX_01⟩))) (by decide) 59 cf_X0 rfl sh_59 rfl rfl rfl (Nat.le_of_ble_eq_true rfl) (n_iret dX11_worth_46 hR rfl ?_)))))
      exact ⟨_, rfl, Or.inl ⟨by omega, hF34, rfl⟩⟩
    · skip
      refine s_bipush dX11_worth_22 (by decide) (n_iret dX11_worth_24 hR rfl ?_)
      exact ⟨_, rfl, Or.inr ⟨by omega, rfl, rfl⟩⟩

def prM (w : Wd) (h : Int) : Int := fst (w 149) h (w 141 2).toNat
def jM (w : Wd) (LN : Int → List Lin) (h : Int) : Jd := jdF (fcM w (prM w h) h) LN
def offMw (w : Wd) (p k : Int) : Int := offM (w 145 (w 147 p)) (w 150) (w 154) (w 152) (w 151) (w 153) (w 141 3) p k
def wvM (w : Wd) (LN : Int → List Lin) (c h : Int) : Int := if prM w h = -1 ∨ w 155 h ≠ w 181 c ∨ w 185 c < w 157 h ∨ whV w (prM w h) h (jM w LN h).1 ≠ 0 then -99 else (if w 143 (w 147 (prM w h)) = w 182 c then 4 else if w 143 (w 147 (prM w h)) = 5 then 2 else 0) + (if w 144 (w 147 (prM w h)) = w 183 c then 3 else 0) + w 186 (12 * c + w 147 (prM w h)) - (if offMw w (prM w h) (w 141 0) = -1 then 0 else 4)
/-- what the reference needs to ask -/
def InM (w : Wd) (LN : Int → List Lin) : Prop := LNM w LN ∧ (0 ≤ w 141 2 ∧ w 141 2 ≤ 30) ∧ (0 ≤ w 141 5 ∧ w 141 5 ≤ 20) ∧ (∀ j, 0 ≤ j → j < w 141 2 → 0 ≤ w 147 j ∧ w 147 j < 12) ∧ EVB (w 151) (w 153) (w 141 3) ∧ (∀ j, 0 ≤ j → j < w 141 3 → 0 ≤ w 152 j ∧ w 152 j ≤ 9999) ∧ ∀ j, 0 ≤ j → j < 192 → -3 ≤ w 186 j ∧ w 186 j ≤ 3
theorem prM_bd {w : Wd} {h : Int} : (prM w h = -1) ∨ (0 ≤ prM w h ∧ prM w h < ((w 141 2).toNat : Nat)) := by
  unfold prM
  rcases fst_spec (w 149) h (w 141 2).toNat with q | q
  · exact Or.inl q.1
  · exact Or.inr ⟨q.1, q.2.1⟩
set_option maxRecDepth 100000 in
theorem c_M_worthOf (c h : Int) (w : Wd) (LN : Int → List Lin) (hI : InM w LN) (hc : 0 ≤ c ∧ c < 16) (hh : 0 ≤ h ∧ h < 16) : CallN 7 mX12_worthOf [(2, 141), (0, c), (0, h)] w (RQ (fun z w1 => FrM3 w w1 ∧ z = wvM w LN c h)) := by
  refine CallN.intro (by decide +kernel) (Nat.le_of_ble_eq_true rfl) (fun ρ hR => ?_)
  show AtN mX12_worthOf 7 ρ 0 [(0, (2, 141)), (1, (0, c)), (2, (0, h))] [] w
  have hpb := prM_bd (w := w) (h := h)
  have h30 := hI.2.1
  refine s_aload_n dX12_worthOf_0 0 rfl rfl (s_iload_n dX12_worthOf_1 2 rfl (n_invV (as := [(0, h)]) dX12_worthOf_2 kv_X12_printIn ml_X12_274 (show CallN 1 mX12_printIn [(2, 141), (0, h)] w (RV (0, prM w h) w) from c_M_printIn h w hI.2.1) (by decide) 141 cf_X12 rfl sh_141 rfl rfl rfl (Nat.le_of_ble_eq_true rfl) (s_istore_n (ls' := [(0, (2, 141)), (1, (0, c)), (2, (0, h)), (3, (0, (prM w h)))]) dX12_worthOf_5 (Nat.le_of_ble_eq_true rfl) rfl (s_iload_n dX12_worthOf_6 3 rfl (s_iconst dX12_worthOf_7 (by decide) (s_icmp_eq 50 dX12_worthOf_8 (by decide) (fun c_8 => ?_) (fun c_8 => ?_)))))))
  · skip
    refine s_bipush dX12_worthOf_50 (by decide) (n_iret dX12_worthOf_52 hR rfl ?_)
    refine ⟨_, rfl, FrM3.rf, ?_⟩
    unfold wvM
    first
    | (rw [if_pos (by omega)]; done)
    | (rw [if_neg (by omega)]
       (repeat' split) <;> omega)
  · skip
    refine s_aload_n dX12_worthOf_11 0 rfl rfl (n_getc (q := 155) 141 23 165 dX12_worthOf_12 cf_X12 ff_X12_49 rfl sh_141 rfl (by decide) rfl (by decide) (s_iload_n dX12_worthOf_15 2 rfl (n_iald 155 dX12_worthOf_16 rfl sh_155 (by decide) ⟨(by omega), (by omega)⟩ (v := (w 155 h)) rfl (s_aload_n dX12_worthOf_17 0 rfl rfl (n_getc (q := 181) 141 65 191 dX12_worthOf_18 cf_X12 ff_X12_132 rfl sh_141 rfl (by decide) rfl (by decide) (s_iload_n dX12_worthOf_21 1 rfl (n_iald 181 dX12_worthOf_22 rfl sh_181 (by decide) ⟨(by omega), (by omega)⟩ (v := (w 181 c)) rfl (s_icmp_ne 50 dX12_worthOf_23 (by decide) (fun c_23 => ?_) (fun c_23 => ?_)))))))))
    · skip
      refine s_bipush dX12_worthOf_50 (by decide) (n_iret dX12_worthOf_52 hR rfl ?_)
      refine ⟨_, rfl, FrM3.rf, ?_⟩
      unfold wvM
      first
      | (rw [if_pos (by omega)]; done)
      | (rw [if_neg (by omega)]
         (repeat' split) <;> omega)
    · skip
      refine s_aload_n dX12_worthOf_26 0 rfl rfl (n_getc (q := 157) 141 25 167 dX12_worthOf_27 cf_X12 ff_X12_55 rfl sh_141 rfl (by decide) rfl (by decide) (s_iload_n dX12_worthOf_30 2 rfl (n_iald 157 dX12_worthOf_31 rfl sh_157 (by decide) ⟨(by omega), (by omega)⟩ (v := (w 157 h)) rfl (s_aload_n dX12_worthOf_32 0 rfl rfl (n_getc (q := 185) 141 69 195 dX12_worthOf_33 cf_X12 ff_X12_144 rfl sh_141 rfl (by decide) rfl (by decide) (s_iload_n dX12_worthOf_36 1 rfl (n_iald 185 dX12_worthOf_37 rfl sh_185 (by decide) ⟨(by omega), (by omega)⟩ (v := (w 185 c)) rfl (s_icmp_gt 50 dX12_worthOf_38 (by decide) (fun c_38 => ?_) (fun c_38 => ?_)))))))))
      · skip
        refine s_bipush dX12_worthOf_50 (by decide) (n_iret dX12_worthOf_52 hR rfl ?_)
        refine ⟨_, rfl, FrM3.rf, ?_⟩
        unfold wvM
        first
        | (rw [if_pos (by omega)]; done)
        | (rw [if_neg (by omega)]
           (repeat' split) <;> omega)
      · skip
        refine s_aload_n dX12_worthOf_41 0 rfl rfl (s_iload_n dX12_worthOf_42 3 rfl (s_iload_n dX12_worthOf_43 2 rfl (n_invV' (as := [(0, (prM w h)), (0, h)]) dX12_worthOf_44 kv_X12_whyNot ml_X12_426 (c_M_whyNot (prM w h) h w LN hI.1 ⟨by omega, by omega⟩ hh (hI.2.2.2.1 (prM w h) (by omega) (by omega)) hI.2.2.1) (by decide) 141 cf_X12 rfl sh_141 rfl rfl rfl (Nat.le_of_ble_eq_true rfl) ?_)))
        rintro r_44 w_44 ⟨z_44, rfl, hF3, hJ3, hz3⟩
        show AtN _ _ ρ _ _ [(0, z_44)] w_44
        have k : ∀ c, c ≠ 141 → c ≠ 179 → c ≠ 180 → w_44 c = w c := hF3.1
        have hpp := hI.2.2.2.1 (prM w h) (by omega) (by omega)
        have hhh := hI.2.2.2.2.2.2 (12 * c + w 147 (prM w h)) (by omega) (by omega)
        have hz4 : z_44 = whV w (prM w h) h (jM w LN h).1 := hz3
        have e0 : w_44 141 0 = w 141 0 := hF3.2 0 (by decide)
        refine s_if_eq 53 dX12_worthOf_47 (by decide) (fun c_47 => ?_) (fun c_47 => ?_)
        · skip
          have e147 : w_44 147 = w 147 := k 147 (by decide) (by decide) (by decide)
          have e143 : w_44 143 = w 143 := k 143 (by decide) (by decide) (by decide)
          have e144 : w_44 144 = w 144 := k 144 (by decide) (by decide) (by decide)
          have e182 : w_44 182 = w 182 := k 182 (by decide) (by decide) (by decide)
          have e183 : w_44 183 = w 183 := k 183 (by decide) (by decide) (by decide)
          have e186 : w_44 186 = w 186 := k 186 (by decide) (by decide) (by decide)
          have f1 : w_44 147 (prM w h) = w 147 (prM w h) := by rw [e147]
          have f2 : w_44 143 (w_44 147 (prM w h)) = w 143 (w 147 (prM w h)) := by rw [e147, e143]
          have f3 : w_44 144 (w_44 147 (prM w h)) = w 144 (w 147 (prM w h)) := by rw [e147, e144]
          have f4 : w_44 182 c = w 182 c := by rw [e182]
          have f5 : w_44 183 c = w 183 c := by rw [e183]
          have f6 : w_44 186 (12 * c + w_44 147 (prM w h)) = w 186 (12 * c + w 147 (prM w h)) := by rw [e147, e186]
          refine s_aload_n dX12_worthOf_53 0 rfl rfl (n_getc (q := 147) 141 15 157 dX12_worthOf_54 cf_X12 ff_X12_25 rfl sh_141 rfl (by decide) rfl (by decide) (s_iload_n dX12_worthOf_57 3 rfl (n_iald 147 dX12_worthOf_58 rfl sh_147 (by decide) ⟨(by omega), (by omega)⟩ (v := (w_44 147 (prM w h))) rfl (s_istore (ls' := [(0, (2, 141)), (1, (0, c)), (2, (0, h)), (3, (0, (prM w h))), (4, (0, (w_44 147 (prM w h))))]) dX12_worthOf_59 (Nat.le_of_ble_eq_true rfl) rfl (s_aload_n dX12_worthOf_61 0 rfl rfl (n_getc (q := 143) 141 11 153 dX12_worthOf_62 cf_X12 ff_X12_13 rfl sh_141 rfl (by decide) rfl (by decide) (s_iload dX12_worthOf_65 4 rfl (n_iald 143 dX12_worthOf_67 rfl sh_143 (by decide) ⟨(by omega), (by omega)⟩ (v := (w_44 143 (w_44 147 (prM w h)))) rfl (s_aload_n dX12_worthOf_68 0 rfl rfl ?_)))))))))
          refine n_getc (q := 182) 141 66 192 dX12_worthOf_69 cf_X12 ff_X12_135 rfl sh_141 rfl (by decide) rfl (by decide) (s_iload_n dX12_worthOf_72 1 rfl (n_iald 182 dX12_worthOf_73 rfl sh_182 (by decide) ⟨(by omega), (by omega)⟩ (v := (w_44 182 c)) rfl (s_icmp_ne 81 dX12_worthOf_74 (by decide) (fun c_74 => ?_) (fun c_74 => ?_))))
          · skip
            refine s_aload_n dX12_worthOf_81 0 rfl rfl (n_getc (q := 143) 141 11 153 dX12_worthOf_82 cf_X12 ff_X12_13 rfl sh_141 rfl (by decide) rfl (by decide) (s_iload dX12_worthOf_85 4 rfl (n_iald 143 dX12_worthOf_87 rfl sh_143 (by decide) ⟨(by omega), (by omega)⟩ (v := (w_44 143 (w_44 147 (prM w h)))) rfl (s_iconst dX12_worthOf_88 (by decide) (s_icmp_ne 96 dX12_worthOf_89 (by decide) (fun c_89 => ?_) (fun c_89 => ?_))))))
            · skip
              refine s_iconst dX12_worthOf_96 (by decide) (s_istore (ls' := [(0, (2, 141)), (1, (0, c)), (2, (0, h)), (3, (0, (prM w h))), (4, (0, (w_44 147 (prM w h)))), (5, (0, 0))]) dX12_worthOf_97 (Nat.le_of_ble_eq_true rfl) rfl (s_iload dX12_worthOf_99 5 rfl (s_aload_n dX12_worthOf_101 0 rfl rfl (n_getc (q := 144) 141 12 154 dX12_worthOf_102 cf_X12 ff_X12_16 rfl sh_141 rfl (by decide) rfl (by decide) (s_iload dX12_worthOf_105 4 rfl (n_iald 144 dX12_worthOf_107 rfl sh_144 (by decide) ⟨(by omega), (by omega)⟩ (v := (w_44 144 (w_44 147 (prM w h)))) rfl (s_aload_n dX12_worthOf_108 0 rfl rfl (n_getc (q := 183) 141 67 193 dX12_worthOf_109 cf_X12 ff_X12_138 rfl sh_141 rfl (by decide) rfl (by decide) (s_iload_n dX12_worthOf_112 1 rfl ?_)))))))))
              refine n_iald 183 dX12_worthOf_113 rfl sh_183 (by decide) ⟨(by omega), (by omega)⟩ (v := (w_44 183 c)) rfl (s_icmp_ne 121 dX12_worthOf_114 (by decide) (fun c_114 => ?_) (fun c_114 => ?_))
              · skip
                refine s_iconst dX12_worthOf_121 (by decide) (n_add (z := 0) dX12_worthOf_122 (by decide) (s_aload_n dX12_worthOf_123 0 rfl rfl (n_getc (q := 186) 141 70 196 dX12_worthOf_124 cf_X12 ff_X12_147 rfl sh_141 rfl (by decide) rfl (by decide) (s_bipush dX12_worthOf_127 (by decide) (s_iload_n dX12_worthOf_129 1 rfl (n_mul (z := (12 * c)) dX12_worthOf_130 (wr_id (by omega) (by omega)) (s_iload dX12_worthOf_131 4 rfl (n_add (z := ((12 * c) + (w_44 147 (prM w h)))) dX12_worthOf_133 (wr_id (by omega) (by omega)) (n_iald 186 dX12_worthOf_134 rfl sh_186 (by decide) ⟨(by omega), (by omega)⟩ (v := (w_44 186 ((12 * c) + (w_44 147 (prM w h))))) rfl ?_)))))))))
                refine n_add (z := (0 + (w_44 186 ((12 * c) + (w_44 147 (prM w h)))))) dX12_worthOf_135 (wr_id (by omega) (by omega)) (s_aload_n dX12_worthOf_136 0 rfl rfl (s_iload_n dX12_worthOf_137 3 rfl (s_aload_n dX12_worthOf_138 0 rfl rfl (n_getf 141 0 0 dX12_worthOf_139 cf_X12 ff_X12_253 rfl sh_141 rfl (by decide) (v := (w_44 141 0)) rfl (n_invV (as := [(0, (prM w h)), (0, (w_44 141 0))]) dX12_worthOf_142 kv_X12_offOf ml_X12_260 (show CallN 2 mX12_offOf [(2, 141), (0, prM w h), (0, w_44 141 0)] w_44 (RV (0, offMw w (prM w h) (w 141 0)) w_44) from (by
      have hz := c_M_offOf (prM w h) (w_44 141 0) w_44 ⟨by omega, by omega⟩ (by rw [k 147 (by decide) (by decide) (by decide)]; exact hpp) (by rw [k 151 (by decide) (by decide) (by decide), k 153 (by decide) (by decide) (by decide), hF3.2 3 (by decide)]; exact hI.2.2.2.2.1) (by rw [k 152 (by decide) (by decide) (by decide), hF3.2 3 (by decide)]; exact hI.2.2.2.2.2.1)
      rw [k 145 (by decide) (by decide) (by decide), k 147 (by decide) (by decide) (by decide), k 150 (by decide) (by decide) (by decide), k 154 (by decide) (by decide) (by decide), k 152 (by decide) (by decide) (by decide), k 151 (by decide) (by decide) (by decide), k 153 (by decide) (by decide) (by decide), hF3.2 3 (by decide), e0] at hz
      rw [e0]
      exact hz)) (by decide) 141 cf_X12 rfl sh_141 rfl rfl rfl (Nat.le_of_ble_eq_true rfl) (s_iconst dX12_worthOf_145 (by decide) (s_icmp_ne 153 dX12_worthOf_146 (by decide) (fun c_146 => ?_) (fun c_146 => ?_))))))))
                · skip
                  refine s_iconst dX12_worthOf_153 (by decide) (n_sub (z := ((0 + (w_44 186 ((12 * c) + (w_44 147 (prM w h))))) - 4)) dX12_worthOf_154 (wr_id (by omega) (by omega)) (n_iret dX12_worthOf_155 hR rfl ?_))
                  refine ⟨_, rfl, hF3, ?_⟩
                  unfold wvM
                  first
                  | (rw [if_pos (by omega)]; done)
                  | (rw [if_neg (by omega)]
                     (repeat' split) <;> omega)
                · skip
                  refine s_iconst dX12_worthOf_149 (by decide) (s_goto 154 dX12_worthOf_150 (by decide) (n_sub (z := ((0 + (w_44 186 ((12 * c) + (w_44 147 (prM w h))))) - 0)) dX12_worthOf_154 (wr_id (by omega) (by omega)) (n_iret dX12_worthOf_155 hR rfl ?_)))
                  refine ⟨_, rfl, hF3, ?_⟩
                  unfold wvM
                  first
                  | (rw [if_pos (by omega)]; done)
                  | (rw [if_neg (by omega)]
                     (repeat' split) <;> omega)
              · skip
                refine s_iconst dX12_worthOf_117 (by decide) (s_goto 122 dX12_worthOf_118 (by decide) (n_add (z := 3) dX12_worthOf_122 (by decide) (s_aload_n dX12_worthOf_123 0 rfl rfl (n_getc (q := 186) 141 70 196 dX12_worthOf_124 cf_X12 ff_X12_147 rfl sh_141 rfl (by decide) rfl (by decide) (s_bipush dX12_worthOf_127 (by decide) (s_iload_n dX12_worthOf_129 1 rfl (n_mul (z := (12 * c)) dX12_worthOf_130 (wr_id (by omega) (by omega)) (s_iload dX12_worthOf_131 4 rfl (n_add (z := ((12 * c) + (w_44 147 (prM w h)))) dX12_worthOf_133 (wr_id (by omega) (by omega)) ?_)))))))))
                refine n_iald 186 dX12_worthOf_134 rfl sh_186 (by decide) ⟨(by omega), (by omega)⟩ (v := (w_44 186 ((12 * c) + (w_44 147 (prM w h))))) rfl (n_add (z := (3 + (w_44 186 ((12 * c) + (w_44 147 (prM w h)))))) dX12_worthOf_135 (wr_id (by omega) (by omega)) (s_aload_n dX12_worthOf_136 0 rfl rfl (s_iload_n dX12_worthOf_137 3 rfl (s_aload_n dX12_worthOf_138 0 rfl rfl (n_getf 141 0 0 dX12_worthOf_139 cf_X12 ff_X12_253 rfl sh_141 rfl (by decide) (v := (w_44 141 0)) rfl (n_invV (as := [(0, (prM w h)), (0, (w_44 141 0))]) dX12_worthOf_142 kv_X12_offOf ml_X12_260 (show CallN 2 mX12_offOf [(2, 141), (0, prM w h), (0, w_44 141 0)] w_44 (RV (0, offMw w (prM w h) (w 141 0)) w_44) from (by
      have hz := c_M_offOf (prM w h) (w_44 141 0) w_44 ⟨by omega, by omega⟩ (by rw [k 147 (by decide) (by decide) (by decide)]; exact hpp) (by rw [k 151 (by decide) (by decide) (by decide), k 153 (by decide) (by decide) (by decide), hF3.2 3 (by decide)]; exact hI.2.2.2.2.1) (by rw [k 152 (by decide) (by decide) (by decide), hF3.2 3 (by decide)]; exact hI.2.2.2.2.2.1)
      rw [k 145 (by decide) (by decide) (by decide), k 147 (by decide) (by decide) (by decide), k 150 (by decide) (by decide) (by decide), k 154 (by decide) (by decide) (by decide), k 152 (by decide) (by decide) (by decide), k 151 (by decide) (by decide) (by decide), k 153 (by decide) (by decide) (by decide), hF3.2 3 (by decide), e0] at hz
      rw [e0]
      exact hz)) (by decide) 141 cf_X12 rfl sh_141 rfl rfl rfl (Nat.le_of_ble_eq_true rfl) (s_iconst dX12_worthOf_145 (by decide) (s_icmp_ne 153 dX12_worthOf_146 (by decide) (fun c_146 => ?_) (fun c_146 => ?_)))))))))
                · skip
                  refine s_iconst dX12_worthOf_153 (by decide) (n_sub (z := ((3 + (w_44 186 ((12 * c) + (w_44 147 (prM w h))))) - 4)) dX12_worthOf_154 (wr_id (by omega) (by omega)) (n_iret dX12_worthOf_155 hR rfl ?_))
                  refine ⟨_, rfl, hF3, ?_⟩
                  unfold wvM
                  first
                  | (rw [if_pos (by omega)]; done)
                  | (rw [if_neg (by omega)]
                     (repeat' split) <;> omega)
                · skip
                  refine s_iconst dX12_worthOf_149 (by decide) (s_goto 154 dX12_worthOf_150 (by decide) (n_sub (z := ((3 + (w_44 186 ((12 * c) + (w_44 147 (prM w h))))) - 0)) dX12_worthOf_154 (wr_id (by omega) (by omega)) (n_iret dX12_worthOf_155 hR rfl ?_)))
                  refine ⟨_, rfl, hF3, ?_⟩
                  unfold wvM
                  first
                  | (rw [if_pos (by omega)]; done)
                  | (rw [if_neg (by omega)]
                     (repeat' split) <;> omega)
            · skip
              refine s_iconst dX12_worthOf_92 (by decide) (s_goto 97 dX12_worthOf_93 (by decide) (s_istore (ls' := [(0, (2, 141)), (1, (0, c)), (2, (0, h)), (3, (0, (prM w h))), (4, (0, (w_44 147 (prM w h)))), (5, (0, 2))]) dX12_worthOf_97 (Nat.le_of_ble_eq_true rfl) rfl (s_iload dX12_worthOf_99 5 rfl (s_aload_n dX12_worthOf_101 0 rfl rfl (n_getc (q := 144) 141 12 154 dX12_worthOf_102 cf_X12 ff_X12_16 rfl sh_141 rfl (by decide) rfl (by decide) (s_iload dX12_worthOf_105 4 rfl (n_iald 144 dX12_worthOf_107 rfl sh_144 (by decide) ⟨(by omega), (by omega)⟩ (v := (w_44 144 (w_44 147 (prM w h)))) rfl (s_aload_n dX12_worthOf_108 0 rfl rfl (n_getc (q := 183) 141 67 193 dX12_worthOf_109 cf_X12 ff_X12_138 rfl sh_141 rfl (by decide) rfl (by decide) ?_)))))))))
              refine s_iload_n dX12_worthOf_112 1 rfl (n_iald 183 dX12_worthOf_113 rfl sh_183 (by decide) ⟨(by omega), (by omega)⟩ (v := (w_44 183 c)) rfl (s_icmp_ne 121 dX12_worthOf_114 (by decide) (fun c_114 => ?_) (fun c_114 => ?_)))
              · skip
                refine s_iconst dX12_worthOf_121 (by decide) (n_add (z := 2) dX12_worthOf_122 (by decide) (s_aload_n dX12_worthOf_123 0 rfl rfl (n_getc (q := 186) 141 70 196 dX12_worthOf_124 cf_X12 ff_X12_147 rfl sh_141 rfl (by decide) rfl (by decide) (s_bipush dX12_worthOf_127 (by decide) (s_iload_n dX12_worthOf_129 1 rfl (n_mul (z := (12 * c)) dX12_worthOf_130 (wr_id (by omega) (by omega)) (s_iload dX12_worthOf_131 4 rfl (n_add (z := ((12 * c) + (w_44 147 (prM w h)))) dX12_worthOf_133 (wr_id (by omega) (by omega)) (n_iald 186 dX12_worthOf_134 rfl sh_186 (by decide) ⟨(by omega), (by omega)⟩ (v := (w_44 186 ((12 * c) + (w_44 147 (prM w h))))) rfl ?_)))))))))
                refine n_add (z := (2 + (w_44 186 ((12 * c) + (w_44 147 (prM w h)))))) dX12_worthOf_135 (wr_id (by omega) (by omega)) (s_aload_n dX12_worthOf_136 0 rfl rfl (s_iload_n dX12_worthOf_137 3 rfl (s_aload_n dX12_worthOf_138 0 rfl rfl (n_getf 141 0 0 dX12_worthOf_139 cf_X12 ff_X12_253 rfl sh_141 rfl (by decide) (v := (w_44 141 0)) rfl (n_invV (as := [(0, (prM w h)), (0, (w_44 141 0))]) dX12_worthOf_142 kv_X12_offOf ml_X12_260 (show CallN 2 mX12_offOf [(2, 141), (0, prM w h), (0, w_44 141 0)] w_44 (RV (0, offMw w (prM w h) (w 141 0)) w_44) from (by
      have hz := c_M_offOf (prM w h) (w_44 141 0) w_44 ⟨by omega, by omega⟩ (by rw [k 147 (by decide) (by decide) (by decide)]; exact hpp) (by rw [k 151 (by decide) (by decide) (by decide), k 153 (by decide) (by decide) (by decide), hF3.2 3 (by decide)]; exact hI.2.2.2.2.1) (by rw [k 152 (by decide) (by decide) (by decide), hF3.2 3 (by decide)]; exact hI.2.2.2.2.2.1)
      rw [k 145 (by decide) (by decide) (by decide), k 147 (by decide) (by decide) (by decide), k 150 (by decide) (by decide) (by decide), k 154 (by decide) (by decide) (by decide), k 152 (by decide) (by decide) (by decide), k 151 (by decide) (by decide) (by decide), k 153 (by decide) (by decide) (by decide), hF3.2 3 (by decide), e0] at hz
      rw [e0]
      exact hz)) (by decide) 141 cf_X12 rfl sh_141 rfl rfl rfl (Nat.le_of_ble_eq_true rfl) (s_iconst dX12_worthOf_145 (by decide) (s_icmp_ne 153 dX12_worthOf_146 (by decide) (fun c_146 => ?_) (fun c_146 => ?_))))))))
                · skip
                  refine s_iconst dX12_worthOf_153 (by decide) (n_sub (z := ((2 + (w_44 186 ((12 * c) + (w_44 147 (prM w h))))) - 4)) dX12_worthOf_154 (wr_id (by omega) (by omega)) (n_iret dX12_worthOf_155 hR rfl ?_))
                  refine ⟨_, rfl, hF3, ?_⟩
                  unfold wvM
                  first
                  | (rw [if_pos (by omega)]; done)
                  | (rw [if_neg (by omega)]
                     (repeat' split) <;> omega)
                · skip
                  refine s_iconst dX12_worthOf_149 (by decide) (s_goto 154 dX12_worthOf_150 (by decide) (n_sub (z := ((2 + (w_44 186 ((12 * c) + (w_44 147 (prM w h))))) - 0)) dX12_worthOf_154 (wr_id (by omega) (by omega)) (n_iret dX12_worthOf_155 hR rfl ?_)))
                  refine ⟨_, rfl, hF3, ?_⟩
                  unfold wvM
                  first
                  | (rw [if_pos (by omega)]; done)
                  | (rw [if_neg (by omega)]
                     (repeat' split) <;> omega)
              · skip
                refine s_iconst dX12_worthOf_117 (by decide) (s_goto 122 dX12_worthOf_118 (by decide) (n_add (z := 5) dX12_worthOf_122 (by decide) (s_aload_n dX12_worthOf_123 0 rfl rfl (n_getc (q := 186) 141 70 196 dX12_worthOf_124 cf_X12 ff_X12_147 rfl sh_141 rfl (by decide) rfl (by decide) (s_bipush dX12_worthOf_127 (by decide) (s_iload_n dX12_worthOf_129 1 rfl (n_mul (z := (12 * c)) dX12_worthOf_130 (wr_id (by omega) (by omega)) (s_iload dX12_worthOf_131 4 rfl (n_add (z := ((12 * c) + (w_44 147 (prM w h)))) dX12_worthOf_133 (wr_id (by omega) (by omega)) ?_)))))))))
                refine n_iald 186 dX12_worthOf_134 rfl sh_186 (by decide) ⟨(by omega), (by omega)⟩ (v := (w_44 186 ((12 * c) + (w_44 147 (prM w h))))) rfl (n_add (z := (5 + (w_44 186 ((12 * c) + (w_44 147 (prM w h)))))) dX12_worthOf_135 (wr_id (by omega) (by omega)) (s_aload_n dX12_worthOf_136 0 rfl rfl (s_iload_n dX12_worthOf_137 3 rfl (s_aload_n dX12_worthOf_138 0 rfl rfl (n_getf 141 0 0 dX12_worthOf_139 cf_X12 ff_X12_253 rfl sh_141 rfl (by decide) (v := (w_44 141 0)) rfl (n_invV (as := [(0, (prM w h)), (0, (w_44 141 0))]) dX12_worthOf_142 kv_X12_offOf ml_X12_260 (show CallN 2 mX12_offOf [(2, 141), (0, prM w h), (0, w_44 141 0)] w_44 (RV (0, offMw w (prM w h) (w 141 0)) w_44) from (by
      have hz := c_M_offOf (prM w h) (w_44 141 0) w_44 ⟨by omega, by omega⟩ (by rw [k 147 (by decide) (by decide) (by decide)]; exact hpp) (by rw [k 151 (by decide) (by decide) (by decide), k 153 (by decide) (by decide) (by decide), hF3.2 3 (by decide)]; exact hI.2.2.2.2.1) (by rw [k 152 (by decide) (by decide) (by decide), hF3.2 3 (by decide)]; exact hI.2.2.2.2.2.1)
      rw [k 145 (by decide) (by decide) (by decide), k 147 (by decide) (by decide) (by decide), k 150 (by decide) (by decide) (by decide), k 154 (by decide) (by decide) (by decide), k 152 (by decide) (by decide) (by decide), k 151 (by decide) (by decide) (by decide), k 153 (by decide) (by decide) (by decide), hF3.2 3 (by decide), e0] at hz
      rw [e0]
      exact hz)) (by decide) 141 cf_X12 rfl sh_141 rfl rfl rfl (Nat.le_of_ble_eq_true rfl) (s_iconst dX12_worthOf_145 (by decide) (s_icmp_ne 153 dX12_worthOf_146 (by decide) (fun c_146 => ?_) (fun c_146 => ?_)))))))))
                · skip
                  refine s_iconst dX12_worthOf_153 (by decide) (n_sub (z := ((5 + (w_44 186 ((12 * c) + (w_44 147 (prM w h))))) - 4)) dX12_worthOf_154 (wr_id (by omega) (by omega)) (n_iret dX12_worthOf_155 hR rfl ?_))
                  refine ⟨_, rfl, hF3, ?_⟩
                  unfold wvM
                  first
                  | (rw [if_pos (by omega)]; done)
                  | (rw [if_neg (by omega)]
                     (repeat' split) <;> omega)
                · skip
                  refine s_iconst dX12_worthOf_149 (by decide) (s_goto 154 dX12_worthOf_150 (by decide) (n_sub (z := ((5 + (w_44 186 ((12 * c) + (w_44 147 (prM w h))))) - 0)) dX12_worthOf_154 (wr_id (by omega) (by omega)) (n_iret dX12_worthOf_155 hR rfl ?_)))
                  refine ⟨_, rfl, hF3, ?_⟩
                  unfold wvM
                  first
                  | (rw [if_pos (by omega)]; done)
                  | (rw [if_neg (by omega)]
                     (repeat' split) <;> omega)
          · skip
            refine s_iconst dX12_worthOf_77 (by decide) (s_goto 97 dX12_worthOf_78 (by decide) (s_istore (ls' := [(0, (2, 141)), (1, (0, c)), (2, (0, h)), (3, (0, (prM w h))), (4, (0, (w_44 147 (prM w h)))), (5, (0, 4))]) dX12_worthOf_97 (Nat.le_of_ble_eq_true rfl) rfl (s_iload dX12_worthOf_99 5 rfl (s_aload_n dX12_worthOf_101 0 rfl rfl (n_getc (q := 144) 141 12 154 dX12_worthOf_102 cf_X12 ff_X12_16 rfl sh_141 rfl (by decide) rfl (by decide) (s_iload dX12_worthOf_105 4 rfl (n_iald 144 dX12_worthOf_107 rfl sh_144 (by decide) ⟨(by omega), (by omega)⟩ (v := (w_44 144 (w_44 147 (prM w h)))) rfl (s_aload_n dX12_worthOf_108 0 rfl rfl (n_getc (q := 183) 141 67 193 dX12_worthOf_109 cf_X12 ff_X12_138 rfl sh_141 rfl (by decide) rfl (by decide) ?_)))))))))
            refine s_iload_n dX12_worthOf_112 1 rfl (n_iald 183 dX12_worthOf_113 rfl sh_183 (by decide) ⟨(by omega), (by omega)⟩ (v := (w_44 183 c)) rfl (s_icmp_ne 121 dX12_worthOf_114 (by decide) (fun c_114 => ?_) (fun c_114 => ?_)))
            · skip
              refine s_iconst dX12_worthOf_121 (by decide) (n_add (z := 4) dX12_worthOf_122 (by decide) (s_aload_n dX12_worthOf_123 0 rfl rfl (n_getc (q := 186) 141 70 196 dX12_worthOf_124 cf_X12 ff_X12_147 rfl sh_141 rfl (by decide) rfl (by decide) (s_bipush dX12_worthOf_127 (by decide) (s_iload_n dX12_worthOf_129 1 rfl (n_mul (z := (12 * c)) dX12_worthOf_130 (wr_id (by omega) (by omega)) (s_iload dX12_worthOf_131 4 rfl (n_add (z := ((12 * c) + (w_44 147 (prM w h)))) dX12_worthOf_133 (wr_id (by omega) (by omega)) (n_iald 186 dX12_worthOf_134 rfl sh_186 (by decide) ⟨(by omega), (by omega)⟩ (v := (w_44 186 ((12 * c) + (w_44 147 (prM w h))))) rfl ?_)))))))))
              refine n_add (z := (4 + (w_44 186 ((12 * c) + (w_44 147 (prM w h)))))) dX12_worthOf_135 (wr_id (by omega) (by omega)) (s_aload_n dX12_worthOf_136 0 rfl rfl (s_iload_n dX12_worthOf_137 3 rfl (s_aload_n dX12_worthOf_138 0 rfl rfl (n_getf 141 0 0 dX12_worthOf_139 cf_X12 ff_X12_253 rfl sh_141 rfl (by decide) (v := (w_44 141 0)) rfl (n_invV (as := [(0, (prM w h)), (0, (w_44 141 0))]) dX12_worthOf_142 kv_X12_offOf ml_X12_260 (show CallN 2 mX12_offOf [(2, 141), (0, prM w h), (0, w_44 141 0)] w_44 (RV (0, offMw w (prM w h) (w 141 0)) w_44) from (by
      have hz := c_M_offOf (prM w h) (w_44 141 0) w_44 ⟨by omega, by omega⟩ (by rw [k 147 (by decide) (by decide) (by decide)]; exact hpp) (by rw [k 151 (by decide) (by decide) (by decide), k 153 (by decide) (by decide) (by decide), hF3.2 3 (by decide)]; exact hI.2.2.2.2.1) (by rw [k 152 (by decide) (by decide) (by decide), hF3.2 3 (by decide)]; exact hI.2.2.2.2.2.1)
      rw [k 145 (by decide) (by decide) (by decide), k 147 (by decide) (by decide) (by decide), k 150 (by decide) (by decide) (by decide), k 154 (by decide) (by decide) (by decide), k 152 (by decide) (by decide) (by decide), k 151 (by decide) (by decide) (by decide), k 153 (by decide) (by decide) (by decide), hF3.2 3 (by decide), e0] at hz
      rw [e0]
      exact hz)) (by decide) 141 cf_X12 rfl sh_141 rfl rfl rfl (Nat.le_of_ble_eq_true rfl) (s_iconst dX12_worthOf_145 (by decide) (s_icmp_ne 153 dX12_worthOf_146 (by decide) (fun c_146 => ?_) (fun c_146 => ?_))))))))
              · skip
                refine s_iconst dX12_worthOf_153 (by decide) (n_sub (z := ((4 + (w_44 186 ((12 * c) + (w_44 147 (prM w h))))) - 4)) dX12_worthOf_154 (wr_id (by omega) (by omega)) (n_iret dX12_worthOf_155 hR rfl ?_))
                refine ⟨_, rfl, hF3, ?_⟩
                unfold wvM
                first
                | (rw [if_pos (by omega)]; done)
                | (rw [if_neg (by omega)]
                   (repeat' split) <;> omega)
              · skip
                refine s_iconst dX12_worthOf_149 (by decide) (s_goto 154 dX12_worthOf_150 (by decide) (n_sub (z := ((4 + (w_44 186 ((12 * c) + (w_44 147 (prM w h))))) - 0)) dX12_worthOf_154 (wr_id (by omega) (by omega)) (n_iret dX12_worthOf_155 hR rfl ?_)))
                refine ⟨_, rfl, hF3, ?_⟩
                unfold wvM
                first
                | (rw [if_pos (by omega)]; done)
                | (rw [if_neg (by omega)]
                   (repeat' split) <;> omega)
            · skip
              refine s_iconst dX12_worthOf_117 (by decide) (s_goto 122 dX12_worthOf_118 (by decide) (n_add (z := 7) dX12_worthOf_122 (by decide) (s_aload_n dX12_worthOf_123 0 rfl rfl (n_getc (q := 186) 141 70 196 dX12_worthOf_124 cf_X12 ff_X12_147 rfl sh_141 rfl (by decide) rfl (by decide) (s_bipush dX12_worthOf_127 (by decide) (s_iload_n dX12_worthOf_129 1 rfl (n_mul (z := (12 * c)) dX12_worthOf_130 (wr_id (by omega) (by omega)) (s_iload dX12_worthOf_131 4 rfl (n_add (z := ((12 * c) + (w_44 147 (prM w h)))) dX12_worthOf_133 (wr_id (by omega) (by omega)) ?_)))))))))
              refine n_iald 186 dX12_worthOf_134 rfl sh_186 (by decide) ⟨(by omega), (by omega)⟩ (v := (w_44 186 ((12 * c) + (w_44 147 (prM w h))))) rfl (n_add (z := (7 + (w_44 186 ((12 * c) + (w_44 147 (prM w h)))))) dX12_worthOf_135 (wr_id (by omega) (by omega)) (s_aload_n dX12_worthOf_136 0 rfl rfl (s_iload_n dX12_worthOf_137 3 rfl (s_aload_n dX12_worthOf_138 0 rfl rfl (n_getf 141 0 0 dX12_worthOf_139 cf_X12 ff_X12_253 rfl sh_141 rfl (by decide) (v := (w_44 141 0)) rfl (n_invV (as := [(0, (prM w h)), (0, (w_44 141 0))]) dX12_worthOf_142 kv_X12_offOf ml_X12_260 (show CallN 2 mX12_offOf [(2, 141), (0, prM w h), (0, w_44 141 0)] w_44 (RV (0, offMw w (prM w h) (w 141 0)) w_44) from (by
      have hz := c_M_offOf (prM w h) (w_44 141 0) w_44 ⟨by omega, by omega⟩ (by rw [k 147 (by decide) (by decide) (by decide)]; exact hpp) (by rw [k 151 (by decide) (by decide) (by decide), k 153 (by decide) (by decide) (by decide), hF3.2 3 (by decide)]; exact hI.2.2.2.2.1) (by rw [k 152 (by decide) (by decide) (by decide), hF3.2 3 (by decide)]; exact hI.2.2.2.2.2.1)
      rw [k 145 (by decide) (by decide) (by decide), k 147 (by decide) (by decide) (by decide), k 150 (by decide) (by decide) (by decide), k 154 (by decide) (by decide) (by decide), k 152 (by decide) (by decide) (by decide), k 151 (by decide) (by decide) (by decide), k 153 (by decide) (by decide) (by decide), hF3.2 3 (by decide), e0] at hz
      rw [e0]
      exact hz)) (by decide) 141 cf_X12 rfl sh_141 rfl rfl rfl (Nat.le_of_ble_eq_true rfl) (s_iconst dX12_worthOf_145 (by decide) (s_icmp_ne 153 dX12_worthOf_146 (by decide) (fun c_146 => ?_) (fun c_146 => ?_)))))))))
              · skip
                refine s_iconst dX12_worthOf_153 (by decide) (n_sub (z := ((7 + (w_44 186 ((12 * c) + (w_44 147 (prM w h))))) - 4)) dX12_worthOf_154 (wr_id (by omega) (by omega)) (n_iret dX12_worthOf_155 hR rfl ?_))
                refine ⟨_, rfl, hF3, ?_⟩
                unfold wvM
                first
                | (rw [if_pos (by omega)]; done)
                | (rw [if_neg (by omega)]
                   (repeat' split) <;> omega)
              · skip
                refine s_iconst dX12_worthOf_149 (by decide) (s_goto 154 dX12_worthOf_150 (by decide) (n_sub (z := ((7 + (w_44 186 ((12 * c) + (w_44 147 (prM w h))))) - 0)) dX12_worthOf_154 (wr_id (by omega) (by omega)) (n_iret dX12_worthOf_155 hR rfl ?_)))
                refine ⟨_, rfl, hF3, ?_⟩
                unfold wvM
                first
                | (rw [if_pos (by omega)]; done)
                | (rw [if_neg (by omega)]
                   (repeat' split) <;> omega)
        · skip
          refine s_bipush dX12_worthOf_50 (by decide) (n_iret dX12_worthOf_52 hR rfl ?_)
          refine ⟨_, rfl, hF3, ?_⟩
          unfold wvM
          first
          | (rw [if_pos (by omega)]; done)
          | (rw [if_neg (by omega)]
             (repeat' split) <;> omega)

set_option maxRecDepth 100000 in
theorem m_worth (c h : Int) (w : Wd) (LN : Int → List Lin) (hI : InM w LN) (hc9 : 0 ≤ w 141 6 ∧ w 141 6 ≤ 16) (hn2 : 0 ≤ w 141 4 ∧ w 141 4 ≤ 16) : CallN 8 mX12_worth [(2, 141), (0, c), (0, h)] w (RQ (fun z w1 => (((0 ≤ c ∧ c < w 141 6) ∧ (0 ≤ h ∧ h < w 141 4)) ∧ FrM3 w w1 ∧ z = wvM w LN c h) ∨ (¬ ((0 ≤ c ∧ c < w 141 6) ∧ (0 ≤ h ∧ h < w 141 4)) ∧ w1 = w ∧ z = -99))) := by
  refine CallN.intro (by decide +kernel) (Nat.le_of_ble_eq_true rfl) (fun ρ hR => ?_)
  show AtN mX12_worth 8 ρ 0 [(0, (2, 141)), (1, (0, c)), (2, (0, h))] [] w
  refine s_aload_n dX12_worth_0 0 rfl rfl (s_iload_n dX12_worth_1 1 rfl (n_invV (as := [(0, c)]) dX12_worth_2 kv_X12_isCrowd ml_X12_429 (c_M_isCrowd c w (by omega)) (by decide) 141 cf_X12 rfl sh_141 rfl rfl rfl (Nat.le_of_ble_eq_true rfl) (n_ifeq_b 25 dX12_worth_5 (by decide) (fun c_5 => ?_) (fun c_5 => ?_))))
  · skip
    refine s_bipush dX12_worth_25 (by decide) (n_iret dX12_worth_27 hR rfl ?_)
    exact ⟨_, rfl, Or.inr ⟨by omega, rfl, rfl⟩⟩
  · skip
    refine s_aload_n dX12_worth_8 0 rfl rfl (s_iload_n dX12_worth_9 2 rfl (n_invV (as := [(0, h)]) dX12_worth_10 kv_X12_isHall ml_X12_264 (c_M_isHall h w (by omega)) (by decide) 141 cf_X12 rfl sh_141 rfl rfl rfl (Nat.le_of_ble_eq_true rfl) (n_ifeq_b 25 dX12_worth_13 (by decide) (fun c_13 => ?_) (fun c_13 => ?_))))
    · skip
      refine s_bipush dX12_worth_25 (by decide) (n_iret dX12_worth_27 hR rfl ?_)
      exact ⟨_, rfl, Or.inr ⟨by omega, rfl, rfl⟩⟩
    · skip
      refine s_aload_n dX12_worth_16 0 rfl rfl (s_iload_n dX12_worth_17 1 rfl (s_iload_n dX12_worth_18 2 rfl (n_invV' (as := [(0, c), (0, h)]) dX12_worth_19 kv_X12_worthOf ml_X12_432 (c_M_worthOf c h w LN hI ⟨by omega, by omega⟩ ⟨by omega, by omega⟩) (by decide) 141 cf_X12 rfl sh_141 rfl rfl rfl (Nat.le_of_ble_eq_true rfl) ?_)))
      rintro r_19 w_19 ⟨z_19, rfl, hF3, hz3⟩
      show AtN _ _ ρ _ _ [(0, z_19)] w_19
      refine s_goto 27 dX12_worth_22 (by decide) (n_iret dX12_worth_27 hR rfl ?_)
      exact ⟨_, rfl, Or.inl ⟨by omega, hF3, hz3⟩⟩
