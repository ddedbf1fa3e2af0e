/-! RUNS, the reference. -/
def FrM3 (w v : Wd) : Prop := (∀ c, c ≠ 141 → c ≠ 179 → c ≠ 180 → v c = w c) ∧ ∀ j : Int, (j < 61 ∨ 64 < j) → v 141 j = w 141 j
theorem FrM3.rf {w : Wd} : FrM3 w w := ⟨fun _ _ _ _ => rfl, fun _ _ => rfl⟩
theorem FrM3.tr {w v u : Wd} (h : FrM3 w v) (h2 : FrM3 v u) : FrM3 w u := ⟨fun c a b d => (h2.1 c a b d).trans (h.1 c a b d), fun j hj => (h2.2 j hj).trans (h.2 j hj)⟩
/-- why a print does not run, the reference -/
def whV (w : Wd) (p h bf : Int) : Int := if w 148 p = 12 then 1 else if w 145 (w 147 p) < 3 ∧ (fst (w 168) h (w 141 5).toNat = -1 ∨ bt (w 166 (fst (w 168) h (w 141 5).toNat)) (w 145 (w 147 p)) = 0) then 2 else if w 143 (w 147 p) = 5 ∧ w 158 h = 0 then 3 else if bf = -1 then 0 else 4

set_option maxRecDepth 100000 in
theorem c_M_whyNot (p h : Int) (w : Wd) (LN : Int → List Lin) (hs : LNM w LN) (hp : 0 ≤ p ∧ p < 30) (hh : 0 ≤ h ∧ h < 16) (hpi : 0 ≤ w 147 p ∧ w 147 p < 12) (hset : 0 ≤ w 141 5 ∧ w 141 5 ≤ 20) : CallN 6 mX12_whyNot [(2, 141), (0, p), (0, h)] w (RQ (fun z w1 => FrM3 w w1 ∧ (w1 141 61, w1 141 62, w1 141 63, w1 141 64) = jdF (fcM w p h) LN ∧ z = whV w p h (jdF (fcM w p h) LN).1)) := by
  refine CallN.intro (by decide +kernel) (Nat.le_of_ble_eq_true rfl) (fun ρ hR => ?_)
  show AtN mX12_whyNot 6 ρ 0 [(0, (2, 141)), (1, (0, p)), (2, (0, h))] [] w
  refine s_aload_n dX12_whyNot_0 0 rfl rfl (s_iload_n dX12_whyNot_1 1 rfl (s_iload_n dX12_whyNot_2 2 rfl (n_invV' (as := [(0, p), (0, h)]) dX12_whyNot_3 kv_X12_asksAll ml_X12_423 (c_M_asksAll p h w LN hs hp hh hpi hset) (by decide) 141 cf_X12 rfl sh_141 rfl rfl rfl (Nat.le_of_ble_eq_true rfl) ?_)))
  rintro r_3 w_3 ⟨rfl, hF3, hJ3⟩
  have e147 : w_3 147 = w 147 := hF3.1 147 (by decide) (by decide) (by decide)
  have e148 : w_3 148 = w 148 := hF3.1 148 (by decide) (by decide) (by decide)
  have e145 : w_3 145 = w 145 := hF3.1 145 (by decide) (by decide) (by decide)
  have e168 : w_3 168 = w 168 := hF3.1 168 (by decide) (by decide) (by decide)
  have e166 : w_3 166 = w 166 := hF3.1 166 (by decide) (by decide) (by decide)
  have e143 : w_3 143 = w 143 := hF3.1 143 (by decide) (by decide) (by decide)
  have e158 : w_3 158 = w 158 := hF3.1 158 (by decide) (by decide) (by decide)
  have e5 : w_3 141 5 = w 141 5 := hF3.2 5 (by decide)
  have hset3 : 0 ≤ w_3 141 5 ∧ w_3 141 5 ≤ 20 := by rw [e5]; exact hset
  have hpi3 : 0 ≤ w_3 147 p ∧ w_3 147 p < 12 := by rw [e147]; exact hpi
  have hsp := fst_spec (w_3 168) h (w_3 141 5).toNat
  have hwh : whV w_3 p h (w_3 141 61) = whV w p h (w_3 141 61) := by unfold whV; rw [e147, e148, e145, e168, e166, e143, e158, e5]
  have hj1 : w_3 141 61 = (jdF (fcM w p h) LN).1 := by rw [← hJ3]
  refine s_aload_n dX12_whyNot_6 0 rfl rfl (n_getc (q := 147) 141 15 157 dX12_whyNot_7 cf_X12 ff_X12_25 rfl sh_141 rfl (by decide) rfl (by decide) (s_iload_n dX12_whyNot_10 1 rfl (n_iald 147 dX12_whyNot_11 rfl sh_147 (by decide) ⟨(by omega), (by omega)⟩ (v := (w_3 147 p)) rfl (s_istore_n (ls' := [(0, (2, 141)), (1, (0, p)), (2, (0, h)), (3, (0, (w_3 147 p)))]) dX12_whyNot_12 (Nat.le_of_ble_eq_true rfl) rfl (s_aload_n dX12_whyNot_13 0 rfl rfl (s_iload_n dX12_whyNot_14 2 rfl (n_invV (as := [(0, h)]) dX12_whyNot_15 kv_X12_setIn ml_X12_270 (c_M_setIn h w_3 hset3) (by decide) 141 cf_X12 rfl sh_141 rfl rfl rfl (Nat.le_of_ble_eq_true rfl) (s_istore (ls' := [(0, (2, 141)), (1, (0, p)), (2, (0, h)), (3, (0, (w_3 147 p))), (4, (0, (fst (w_3 168) h (w_3 141 5).toNat)))]) dX12_whyNot_18 (Nat.le_of_ble_eq_true rfl) rfl (s_aload_n dX12_whyNot_20 0 rfl rfl ?_)))))))))
  refine n_getc (q := 148) 141 16 158 dX12_whyNot_21 cf_X12 ff_X12_28 rfl sh_141 rfl (by decide) rfl (by decide) (s_iload_n dX12_whyNot_24 1 rfl (n_iald 148 dX12_whyNot_25 rfl sh_148 (by decide) ⟨(by omega), (by omega)⟩ (v := (w_3 148 p)) rfl (s_bipush dX12_whyNot_26 (by decide) (s_icmp_ne 33 dX12_whyNot_28 (by decide) (fun c_28 => ?_) (fun c_28 => ?_)))))
  · skip
    refine s_aload_n dX12_whyNot_33 0 rfl rfl (n_getc (q := 145) 141 13 155 dX12_whyNot_34 cf_X12 ff_X12_19 rfl sh_141 rfl (by decide) rfl (by decide) (s_iload_n dX12_whyNot_37 3 rfl (n_iald 145 dX12_whyNot_38 rfl sh_145 (by decide) ⟨(by omega), (by omega)⟩ (v := (w_3 145 (w_3 147 p))) rfl (s_iconst dX12_whyNot_39 (by decide) (s_icmp_ge 70 dX12_whyNot_40 (by decide) (fun c_40 => ?_) (fun c_40 => ?_))))))
    · skip
      refine s_aload_n dX12_whyNot_70 0 rfl rfl (n_getc (q := 143) 141 11 153 dX12_whyNot_71 cf_X12 ff_X12_13 rfl sh_141 rfl (by decide) rfl (by decide) (s_iload_n dX12_whyNot_74 3 rfl (n_iald 143 dX12_whyNot_75 rfl sh_143 (by decide) ⟨(by omega), (by omega)⟩ (v := (w_3 143 (w_3 147 p))) rfl (s_iconst dX12_whyNot_76 (by decide) (s_icmp_ne 91 dX12_whyNot_77 (by decide) (fun c_77 => ?_) (fun c_77 => ?_))))))
      · skip
        refine s_aload_n dX12_whyNot_91 0 rfl rfl (n_getf 141 61 0 dX12_whyNot_92 cf_X12 ff_X12_405 rfl sh_141 rfl (by decide) (v := (w_3 141 61)) rfl (s_iconst dX12_whyNot_95 (by decide) (s_icmp_ne 103 dX12_whyNot_96 (by decide) (fun c_96 => ?_) (fun c_96 => ?_))))
        · skip
          refine s_iconst dX12_whyNot_103 (by decide) (n_iret dX12_whyNot_104 hR rfl ?_)
          refine ⟨_, rfl, hF3, hJ3, ?_⟩
          rw [← hj1, ← hwh]
          unfold whV
          have hb9 := bt01 (w_3 166 (fst (w_3 168) h (w_3 141 5).toNat)) (w_3 145 (w_3 147 p))
          first
          | (rw [if_pos (by omega)]; done)
          | (rw [if_neg (by omega), if_pos (by omega)]; done)
          | (rw [if_neg (by omega), if_neg (by omega), if_pos (by omega)]; done)
          | (rw [if_neg (by omega), if_neg (by omega), if_neg (by omega), if_pos (by omega)]; done)
          | (rw [if_neg (by omega), if_neg (by omega), if_neg (by omega), if_neg (by omega)]; done)
        · skip
          refine s_iconst dX12_whyNot_99 (by decide) (s_goto 104 dX12_whyNot_100 (by decide) (n_iret dX12_whyNot_104 hR rfl ?_))
          refine ⟨_, rfl, hF3, hJ3, ?_⟩
          rw [← hj1, ← hwh]
          unfold whV
          have hb9 := bt01 (w_3 166 (fst (w_3 168) h (w_3 141 5).toNat)) (w_3 145 (w_3 147 p))
          first
          | (rw [if_pos (by omega)]; done)
          | (rw [if_neg (by omega), if_pos (by omega)]; done)
          | (rw [if_neg (by omega), if_neg (by omega), if_pos (by omega)]; done)
          | (rw [if_neg (by omega), if_neg (by omega), if_neg (by omega), if_pos (by omega)]; done)
          | (rw [if_neg (by omega), if_neg (by omega), if_neg (by omega), if_neg (by omega)]; done)
      · skip
        refine s_aload_n dX12_whyNot_80 0 rfl rfl (n_getc (q := 158) 141 26 168 dX12_whyNot_81 cf_X12 ff_X12_58 rfl sh_141 rfl (by decide) rfl (by decide) (s_iload_n dX12_whyNot_84 2 rfl (n_iald 158 dX12_whyNot_85 rfl sh_158 (by decide) ⟨(by omega), (by omega)⟩ (v := (w_3 158 h)) rfl (s_if_ne 91 dX12_whyNot_86 (by decide) (fun c_86 => ?_) (fun c_86 => ?_)))))
        · skip
          refine s_aload_n dX12_whyNot_91 0 rfl rfl (n_getf 141 61 0 dX12_whyNot_92 cf_X12 ff_X12_405 rfl sh_141 rfl (by decide) (v := (w_3 141 61)) rfl (s_iconst dX12_whyNot_95 (by decide) (s_icmp_ne 103 dX12_whyNot_96 (by decide) (fun c_96 => ?_) (fun c_96 => ?_))))
          · skip
            refine s_iconst dX12_whyNot_103 (by decide) (n_iret dX12_whyNot_104 hR rfl ?_)
            refine ⟨_, rfl, hF3, hJ3, ?_⟩
            rw [← hj1, ← hwh]
            unfold whV
            have hb9 := bt01 (w_3 166 (fst (w_3 168) h (w_3 141 5).toNat)) (w_3 145 (w_3 147 p))
            first
            | (rw [if_pos (by omega)]; done)
            | (rw [if_neg (by omega), if_pos (by omega)]; done)
            | (rw [if_neg (by omega), if_neg (by omega), if_pos (by omega)]; done)
            | (rw [if_neg (by omega), if_neg (by omega), if_neg (by omega), if_pos (by omega)]; done)
            | (rw [if_neg (by omega), if_neg (by omega), if_neg (by omega), if_neg (by omega)]; done)
          · skip
            refine s_iconst dX12_whyNot_99 (by decide) (s_goto 104 dX12_whyNot_100 (by decide) (n_iret dX12_whyNot_104 hR rfl ?_))
            refine ⟨_, rfl, hF3, hJ3, ?_⟩
            rw [← hj1, ← hwh]
            unfold whV
            have hb9 := bt01 (w_3 166 (fst (w_3 168) h (w_3 141 5).toNat)) (w_3 145 (w_3 147 p))
            first
            | (rw [if_pos (by omega)]; done)
            | (rw [if_neg (by omega), if_pos (by omega)]; done)
            | (rw [if_neg (by omega), if_neg (by omega), if_pos (by omega)]; done)
            | (rw [if_neg (by omega), if_neg (by omega), if_neg (by omega), if_pos (by omega)]; done)
            | (rw [if_neg (by omega), if_neg (by omega), if_neg (by omega), if_neg (by omega)]; done)
        · skip
          refine s_iconst dX12_whyNot_89 (by decide) (n_iret dX12_whyNot_90 hR rfl ?_)
          refine ⟨_, rfl, hF3, hJ3, ?_⟩
          rw [← hj1, ← hwh]
          unfold whV
          have hb9 := bt01 (w_3 166 (fst (w_3 168) h (w_3 141 5).toNat)) (w_3 145 (w_3 147 p))
          first
          | (rw [if_pos (by omega)]; done)
          | (rw [if_neg (by omega), if_pos (by omega)]; done)
          | (rw [if_neg (by omega), if_neg (by omega), if_pos (by omega)]; done)
          | (rw [if_neg (by omega), if_neg (by omega), if_neg (by omega), if_pos (by omega)]; done)
          | (rw [if_neg (by omega), if_neg (by omega), if_neg (by omega), if_neg (by omega)]; done)
    · skip
      refine s_iload dX12_whyNot_43 4 rfl (s_iconst dX12_whyNot_45 (by decide) (s_icmp_eq 68 dX12_whyNot_46 (by decide) (fun c_46 => ?_) (fun c_46 => ?_)))
      · skip
        refine s_iconst dX12_whyNot_68 (by decide) (n_iret dX12_whyNot_69 hR rfl ?_)
        refine ⟨_, rfl, hF3, hJ3, ?_⟩
        rw [← hj1, ← hwh]
        unfold whV
        have hb9 := bt01 (w_3 166 (fst (w_3 168) h (w_3 141 5).toNat)) (w_3 145 (w_3 147 p))
        first
        | (rw [if_pos (by omega)]; done)
        | (rw [if_neg (by omega), if_pos (by omega)]; done)
        | (rw [if_neg (by omega), if_neg (by omega), if_pos (by omega)]; done)
        | (rw [if_neg (by omega), if_neg (by omega), if_neg (by omega), if_pos (by omega)]; done)
        | (rw [if_neg (by omega), if_neg (by omega), if_neg (by omega), if_neg (by omega)]; done)
      · skip
        refine s_aload_n dX12_whyNot_49 0 rfl rfl (n_getc (q := 166) 141 34 176 dX12_whyNot_50 cf_X12 ff_X12_83 rfl sh_141 rfl (by decide) rfl (by decide) (s_iload dX12_whyNot_53 4 rfl (n_iald 166 dX12_whyNot_55 rfl sh_166 (by decide) ⟨(by omega), (by omega)⟩ (v := (w_3 166 (fst (w_3 168) h (w_3 141 5).toNat))) rfl (s_aload_n dX12_whyNot_56 0 rfl rfl (n_getc (q := 145) 141 13 155 dX12_whyNot_57 cf_X12 ff_X12_19 rfl sh_141 rfl (by decide) rfl (by decide) (s_iload_n dX12_whyNot_60 3 rfl (n_iald 145 dX12_whyNot_61 rfl sh_145 (by decide) ⟨(by omega), (by omega)⟩ (v := (w_3 145 (w_3 147 p))) rfl (s_ishr dX12_whyNot_62 (s_iconst dX12_whyNot_63 (by decide) ?_)))))))))
        refine n_bt dX12_whyNot_64 (s_if_ne 70 dX12_whyNot_65 (by decide) (fun c_65 => ?_) (fun c_65 => ?_))
        · skip
          refine s_aload_n dX12_whyNot_70 0 rfl rfl (n_getc (q := 143) 141 11 153 dX12_whyNot_71 cf_X12 ff_X12_13 rfl sh_141 rfl (by decide) rfl (by decide) (s_iload_n dX12_whyNot_74 3 rfl (n_iald 143 dX12_whyNot_75 rfl sh_143 (by decide) ⟨(by omega), (by omega)⟩ (v := (w_3 143 (w_3 147 p))) rfl (s_iconst dX12_whyNot_76 (by decide) (s_icmp_ne 91 dX12_whyNot_77 (by decide) (fun c_77 => ?_) (fun c_77 => ?_))))))
          · skip
            refine s_aload_n dX12_whyNot_91 0 rfl rfl (n_getf 141 61 0 dX12_whyNot_92 cf_X12 ff_X12_405 rfl sh_141 rfl (by decide) (v := (w_3 141 61)) rfl (s_iconst dX12_whyNot_95 (by decide) (s_icmp_ne 103 dX12_whyNot_96 (by decide) (fun c_96 => ?_) (fun c_96 => ?_))))
            · skip
              refine s_iconst dX12_whyNot_103 (by decide) (n_iret dX12_whyNot_104 hR rfl ?_)
              refine ⟨_, rfl, hF3, hJ3, ?_⟩
              rw [← hj1, ← hwh]
              unfold whV
              have hb9 := bt01 (w_3 166 (fst (w_3 168) h (w_3 141 5).toNat)) (w_3 145 (w_3 147 p))
              first
              | (rw [if_pos (by omega)]; done)
              | (rw [if_neg (by omega), if_pos (by omega)]; done)
              | (rw [if_neg (by omega), if_neg (by omega), if_pos (by omega)]; done)
              | (rw [if_neg (by omega), if_neg (by omega), if_neg (by omega), if_pos (by omega)]; done)
              | (rw [if_neg (by omega), if_neg (by omega), if_neg (by omega), if_neg (by omega)]; done)
            · skip
              refine s_iconst dX12_whyNot_99 (by decide) (s_goto 104 dX12_whyNot_100 (by decide) (n_iret dX12_whyNot_104 hR rfl ?_))
              refine ⟨_, rfl, hF3, hJ3, ?_⟩
              rw [← hj1, ← hwh]
              unfold whV
              have hb9 := bt01 (w_3 166 (fst (w_3 168) h (w_3 141 5).toNat)) (w_3 145 (w_3 147 p))
              first
              | (rw [if_pos (by omega)]; done)
              | (rw [if_neg (by omega), if_pos (by omega)]; done)
              | (rw [if_neg (by omega), if_neg (by omega), if_pos (by omega)]; done)
              | (rw [if_neg (by omega), if_neg (by omega), if_neg (by omega), if_pos (by omega)]; done)
              | (rw [if_neg (by omega), if_neg (by omega), if_neg (by omega), if_neg (by omega)]; done)
          · skip
            refine s_aload_n dX12_whyNot_80 0 rfl rfl (n_getc (q := 158) 141 26 168 dX12_whyNot_81 cf_X12 ff_X12_58 rfl sh_141 rfl (by decide) rfl (by decide) (s_iload_n dX12_whyNot_84 2 rfl (n_iald 158 dX12_whyNot_85 rfl sh_158 (by decide) ⟨(by omega), (by omega)⟩ (v := (w_3 158 h)) rfl (s_if_ne 91 dX12_whyNot_86 (by decide) (fun c_86 => ?_) (fun c_86 => ?_)))))
            · skip
              refine s_aload_n dX12_whyNot_91 0 rfl rfl (n_getf 141 61 0 dX12_whyNot_92 cf_X12 ff_X12_405 rfl sh_141 rfl (by decide) (v := (w_3 141 61)) rfl (s_iconst dX12_whyNot_95 (by decide) (s_icmp_ne 103 dX12_whyNot_96 (by decide) (fun c_96 => ?_) (fun c_96 => ?_))))
              · skip
                refine s_iconst dX12_whyNot_103 (by decide) (n_iret dX12_whyNot_104 hR rfl ?_)
                refine ⟨_, rfl, hF3, hJ3, ?_⟩
                rw [← hj1, ← hwh]
                unfold whV
                have hb9 := bt01 (w_3 166 (fst (w_3 168) h (w_3 141 5).toNat)) (w_3 145 (w_3 147 p))
                first
                | (rw [if_pos (by omega)]; done)
                | (rw [if_neg (by omega), if_pos (by omega)]; done)
                | (rw [if_neg (by omega), if_neg (by omega), if_pos (by omega)]; done)
                | (rw [if_neg (by omega), if_neg (by omega), if_neg (by omega), if_pos (by omega)]; done)
                | (rw [if_neg (by omega), if_neg (by omega), if_neg (by omega), if_neg (by omega)]; done)
              · skip
                refine s_iconst dX12_whyNot_99 (by decide) (s_goto 104 dX12_whyNot_100 (by decide) (n_iret dX12_whyNot_104 hR rfl ?_))
                refine ⟨_, rfl, hF3, hJ3, ?_⟩
                rw [← hj1, ← hwh]
                unfold whV
                have hb9 := bt01 (w_3 166 (fst (w_3 168) h (w_3 141 5).toNat)) (w_3 145 (w_3 147 p))
                first
                | (rw [if_pos (by omega)]; done)
                | (rw [if_neg (by omega), if_pos (by omega)]; done)
                | (rw [if_neg (by omega), if_neg (by omega), if_pos (by omega)]; done)
                | (rw [if_neg (by omega), if_neg (by omega), if_neg (by omega), if_pos (by omega)]; done)
                | (rw [if_neg (by omega), if_neg (by omega), if_neg (by omega), if_neg (by omega)]; done)
            · skip
              refine s_iconst dX12_whyNot_89 (by decide) (n_iret dX12_whyNot_90 hR rfl ?_)
              refine ⟨_, rfl, hF3, hJ3, ?_⟩
              rw [← hj1, ← hwh]
              unfold whV
              have hb9 := bt01 (w_3 166 (fst (w_3 168) h (w_3 141 5).toNat)) (w_3 145 (w_3 147 p))
              first
              | (rw [if_pos (by omega)]; done)
              | (rw [if_neg (by omega), if_pos (by omega)]; done)
              | (rw [if_neg (by omega), if_neg (by omega), if_pos (by omega)]; done)
              | (rw [if_neg (by omega), if_neg (by omega), if_neg (by omega), if_pos (by omega)]; done)
              | (rw [if_neg (by omega), if_neg (by omega), if_neg (by omega), if_neg (by omega)]; done)
        · skip
          refine s_iconst dX12_whyNot_68 (by decide) (n_iret dX12_whyNot_69 hR rfl ?_)
          refine ⟨_, rfl, hF3, hJ3, ?_⟩
          rw [← hj1, ← hwh]
          unfold whV
          have hb9 := bt01 (w_3 166 (fst (w_3 168) h (w_3 141 5).toNat)) (w_3 145 (w_3 147 p))
          first
          | (rw [if_pos (by omega)]; done)
          | (rw [if_neg (by omega), if_pos (by omega)]; done)
          | (rw [if_neg (by omega), if_neg (by omega), if_pos (by omega)]; done)
          | (rw [if_neg (by omega), if_neg (by omega), if_neg (by omega), if_pos (by omega)]; done)
          | (rw [if_neg (by omega), if_neg (by omega), if_neg (by omega), if_neg (by omega)]; done)
  · skip
    refine s_iconst dX12_whyNot_31 (by decide) (n_iret dX12_whyNot_32 hR rfl ?_)
    refine ⟨_, rfl, hF3, hJ3, ?_⟩
    rw [← hj1, ← hwh]
    unfold whV
    have hb9 := bt01 (w_3 166 (fst (w_3 168) h (w_3 141 5).toNat)) (w_3 145 (w_3 147 p))
    first
    | (rw [if_pos (by omega)]; done)
    | (rw [if_neg (by omega), if_pos (by omega)]; done)
    | (rw [if_neg (by omega), if_neg (by omega), if_pos (by omega)]; done)
    | (rw [if_neg (by omega), if_neg (by omega), if_neg (by omega), if_pos (by omega)]; done)
    | (rw [if_neg (by omega), if_neg (by omega), if_neg (by omega), if_neg (by omega)]; done)

set_option maxRecDepth 100000 in
theorem m_runs (p h q : Int) (w : Wd) (LN : Int → List Lin) (hs : LNM w LN) (hn1 : 0 ≤ w 141 2 ∧ w 141 2 ≤ 30) (hn2 : 0 ≤ w 141 4 ∧ w 141 4 ≤ 16) (hpi : ∀ j, 0 ≤ j → j < w 141 2 → 0 ≤ w 147 j ∧ w 147 j < 12) (hset : 0 ≤ w 141 5 ∧ w 141 5 ≤ 20) : CallN 7 mX12_runs [(2, 141), (0, p), (0, h), (0, q)] w (RQ (fun z w1 => (((0 ≤ p ∧ p < w 141 2) ∧ (0 ≤ h ∧ h < w 141 4)) ∧ FrM3 w w1 ∧ z = rnV (jdF (fcM w p h) LN) (whV w p h (jdF (fcM w p h) LN).1) q) ∨ (¬ ((0 ≤ p ∧ p < w 141 2) ∧ (0 ≤ h ∧ h < w 141 4)) ∧ w1 = w ∧ z = -1))) := by
  refine CallN.intro (by decide +kernel) (Nat.le_of_ble_eq_true rfl) (fun ρ hR => ?_)
  show AtN mX12_runs 7 ρ 0 [(0, (2, 141)), (1, (0, p)), (2, (0, h)), (3, (0, q))] [] w
  refine s_aload_n dX12_runs_0 0 rfl rfl (s_iload_n dX12_runs_1 1 rfl (n_invV (as := [(0, p)]) dX12_runs_2 kv_X12_isPrint ml_X12_243 (c_M_isPrint p w (by omega)) (by decide) 141 cf_X12 rfl sh_141 rfl rfl rfl (Nat.le_of_ble_eq_true rfl) (n_ifeq_b 16 dX12_runs_5 (by decide) (fun c_5 => ?_) (fun c_5 => ?_))))
  · skip
    refine s_iconst dX12_runs_16 (by decide) (n_iret dX12_runs_17 hR rfl ?_)
    exact ⟨_, rfl, Or.inr ⟨by omega, rfl, rfl⟩⟩
  · skip
    refine s_aload_n dX12_runs_8 0 rfl rfl (s_iload_n dX12_runs_9 2 rfl (n_invV (as := [(0, h)]) dX12_runs_10 kv_X12_isHall ml_X12_264 (c_M_isHall h w (by omega)) (by decide) 141 cf_X12 rfl sh_141 rfl rfl rfl (Nat.le_of_ble_eq_true rfl) (n_ifne_b 18 dX12_runs_13 (by decide) (fun c_13 => ?_) (fun c_13 => ?_))))
    · skip
      refine s_aload_n dX12_runs_18 0 rfl rfl (s_iload_n dX12_runs_19 1 rfl (s_iload_n dX12_runs_20 2 rfl (n_invV' (as := [(0, p), (0, h)]) dX12_runs_21 kv_X12_whyNot ml_X12_426 (c_M_whyNot p h w LN hs ⟨by omega, by omega⟩ ⟨by omega, by omega⟩ (hpi p (by omega) (by omega)) hset) (by decide) 141 cf_X12 rfl sh_141 rfl rfl rfl (Nat.le_of_ble_eq_true rfl) ?_)))
      rintro r_21 w_21 ⟨z_21, rfl, hF3, hJ3, hz3⟩
      show AtN _ _ ρ _ _ [(0, z_21)] w_21
      obtain ⟨J, eJ⟩ : ∃ J, J = jdF (fcM w p h) LN := ⟨_, rfl⟩
      rw [← eJ] at hJ3 hz3
      have j1 : w_21 141 61 = J.1 := by rw [← hJ3]
      have j2 : w_21 141 62 = J.2.1 := by rw [← hJ3]
      have j3 : w_21 141 63 = J.2.2.1 := by rw [← hJ3]
      have j4 : w_21 141 64 = J.2.2.2 := by rw [← hJ3]
      refine s_istore (ls' := [(0, (2, 141)), (1, (0, p)), (2, (0, h)), (3, (0, q)), (4, (0, z_21))]) dX12_runs_24 (Nat.le_of_ble_eq_true rfl) rfl (s_iload_n dX12_runs_26 3 rfl ?_)
      rcases (show (q < 0 ∨ 4 < q) ∨ q = 0 ∨ q = 1 ∨ q = 2 ∨ q = 3 ∨ q = 4 from by omega) with c_27 | c_27 | c_27 | c_27 | c_27 | c_27
      · refine s_tableOut 83 dX12_runs_27 c_27 (by decide) ?_
        refine s_iconst dX12_runs_83 (by decide) (n_iret dX12_runs_84 hR rfl ?_)
        refine ⟨_, rfl, Or.inl ⟨by omega, hF3, ?_⟩⟩
        rw [← eJ]
        unfold rnV
        first
        | (rw [if_pos (show q = 0 by omega)]; exact hz3)
        | (rw [if_neg (show ¬ q = 0 by omega), if_pos (show q = 1 by omega)]; exact j1)
        | (rw [if_neg (show ¬ q = 0 by omega), if_neg (show ¬ q = 1 by omega), if_pos (show q = 2 by omega)]; exact j2)
        | (rw [if_neg (show ¬ q = 0 by omega), if_neg (show ¬ q = 1 by omega), if_neg (show ¬ q = 2 by omega), if_pos (show q = 3 by omega)]; exact j3)
        | (rw [if_neg (show ¬ q = 0 by omega), if_neg (show ¬ q = 1 by omega), if_neg (show ¬ q = 2 by omega), if_neg (show ¬ q = 3 by omega), if_pos (show q = 4 by omega)]; exact j4)
        | (rw [if_neg (show ¬ q = 0 by omega), if_neg (show ¬ q = 1 by omega), if_neg (show ¬ q = 2 by omega), if_neg (show ¬ q = 3 by omega), if_neg (show ¬ q = 4 by omega)])
      · refine s_tableIn 60 0 dX12_runs_27 (by rw [c_27]; rfl) (by decide) rfl (by decide) ?_
        refine s_iload dX12_runs_60 4 rfl (n_iret dX12_runs_62 hR rfl ?_)
        refine ⟨_, rfl, Or.inl ⟨by omega, hF3, ?_⟩⟩
        rw [← eJ]
        unfold rnV
        first
        | (rw [if_pos (show q = 0 by omega)]; exact hz3)
        | (rw [if_neg (show ¬ q = 0 by omega), if_pos (show q = 1 by omega)]; exact j1)
        | (rw [if_neg (show ¬ q = 0 by omega), if_neg (show ¬ q = 1 by omega), if_pos (show q = 2 by omega)]; exact j2)
        | (rw [if_neg (show ¬ q = 0 by omega), if_neg (show ¬ q = 1 by omega), if_neg (show ¬ q = 2 by omega), if_pos (show q = 3 by omega)]; exact j3)
        | (rw [if_neg (show ¬ q = 0 by omega), if_neg (show ¬ q = 1 by omega), if_neg (show ¬ q = 2 by omega), if_neg (show ¬ q = 3 by omega), if_pos (show q = 4 by omega)]; exact j4)
        | (rw [if_neg (show ¬ q = 0 by omega), if_neg (show ¬ q = 1 by omega), if_neg (show ¬ q = 2 by omega), if_neg (show ¬ q = 3 by omega), if_neg (show ¬ q = 4 by omega)])
      · refine s_tableIn 63 1 dX12_runs_27 (by rw [c_27]; rfl) (by decide) rfl (by decide) ?_
        refine s_aload_n dX12_runs_63 0 rfl rfl (n_getf 141 61 0 dX12_runs_64 cf_X12 ff_X12_405 rfl sh_141 rfl (by decide) (v := (w_21 141 61)) rfl (n_iret dX12_runs_67 hR rfl ?_))
        refine ⟨_, rfl, Or.inl ⟨by omega, hF3, ?_⟩⟩
        rw [← eJ]
        unfold rnV
        first
        | (rw [if_pos (show q = 0 by omega)]; exact hz3)
        | (rw [if_neg (show ¬ q = 0 by omega), if_pos (show q = 1 by omega)]; exact j1)
        | (rw [if_neg (show ¬ q = 0 by omega), if_neg (show ¬ q = 1 by omega), if_pos (show q = 2 by omega)]; exact j2)
        | (rw [if_neg (show ¬ q = 0 by omega), if_neg (show ¬ q = 1 by omega), if_neg (show ¬ q = 2 by omega), if_pos (show q = 3 by omega)]; exact j3)
        | (rw [if_neg (show ¬ q = 0 by omega), if_neg (show ¬ q = 1 by omega), if_neg (show ¬ q = 2 by omega), if_neg (show ¬ q = 3 by omega), if_pos (show q = 4 by omega)]; exact j4)
        | (rw [if_neg (show ¬ q = 0 by omega), if_neg (show ¬ q = 1 by omega), if_neg (show ¬ q = 2 by omega), if_neg (show ¬ q = 3 by omega), if_neg (show ¬ q = 4 by omega)])
      · refine s_tableIn 68 2 dX12_runs_27 (by rw [c_27]; rfl) (by decide) rfl (by decide) ?_
        refine s_aload_n dX12_runs_68 0 rfl rfl (n_getf 141 62 0 dX12_runs_69 cf_X12 ff_X12_408 rfl sh_141 rfl (by decide) (v := (w_21 141 62)) rfl (n_iret dX12_runs_72 hR rfl ?_))
        refine ⟨_, rfl, Or.inl ⟨by omega, hF3, ?_⟩⟩
        rw [← eJ]
        unfold rnV
        first
        | (rw [if_pos (show q = 0 by omega)]; exact hz3)
        | (rw [if_neg (show ¬ q = 0 by omega), if_pos (show q = 1 by omega)]; exact j1)
        | (rw [if_neg (show ¬ q = 0 by omega), if_neg (show ¬ q = 1 by omega), if_pos (show q = 2 by omega)]; exact j2)
        | (rw [if_neg (show ¬ q = 0 by omega), if_neg (show ¬ q = 1 by omega), if_neg (show ¬ q = 2 by omega), if_pos (show q = 3 by omega)]; exact j3)
        | (rw [if_neg (show ¬ q = 0 by omega), if_neg (show ¬ q = 1 by omega), if_neg (show ¬ q = 2 by omega), if_neg (show ¬ q = 3 by omega), if_pos (show q = 4 by omega)]; exact j4)
        | (rw [if_neg (show ¬ q = 0 by omega), if_neg (show ¬ q = 1 by omega), if_neg (show ¬ q = 2 by omega), if_neg (show ¬ q = 3 by omega), if_neg (show ¬ q = 4 by omega)])
      · refine s_tableIn 73 3 dX12_runs_27 (by rw [c_27]; rfl) (by decide) rfl (by decide) ?_
        refine s_aload_n dX12_runs_73 0 rfl rfl (n_getf 141 63 0 dX12_runs_74 cf_X12 ff_X12_411 rfl sh_141 rfl (by decide) (v := (w_21 141 63)) rfl (n_iret dX12_runs_77 hR rfl ?_))
        refine ⟨_, rfl, Or.inl ⟨by omega, hF3, ?_⟩⟩
        rw [← eJ]
        unfold rnV
        first
        | (rw [if_pos (show q = 0 by omega)]; exact hz3)
        | (rw [if_neg (show ¬ q = 0 by omega), if_pos (show q = 1 by omega)]; exact j1)
        | (rw [if_neg (show ¬ q = 0 by omega), if_neg (show ¬ q = 1 by omega), if_pos (show q = 2 by omega)]; exact j2)
        | (rw [if_neg (show ¬ q = 0 by omega), if_neg (show ¬ q = 1 by omega), if_neg (show ¬ q = 2 by omega), if_pos (show q = 3 by omega)]; exact j3)
        | (rw [if_neg (show ¬ q = 0 by omega), if_neg (show ¬ q = 1 by omega), if_neg (show ¬ q = 2 by omega), if_neg (show ¬ q = 3 by omega), if_pos (show q = 4 by omega)]; exact j4)
        | (rw [if_neg (show ¬ q = 0 by omega), if_neg (show ¬ q = 1 by omega), if_neg (show ¬ q = 2 by omega), if_neg (show ¬ q = 3 by omega), if_neg (show ¬ q = 4 by omega)])
      · refine s_tableIn 78 4 dX12_runs_27 (by rw [c_27]; rfl) (by decide) rfl (by decide) ?_
        refine s_aload_n dX12_runs_78 0 rfl rfl (n_getf 141 64 0 dX12_runs_79 cf_X12 ff_X12_414 rfl sh_141 rfl (by decide) (v := (w_21 141 64)) rfl (n_iret dX12_runs_82 hR rfl ?_))
        refine ⟨_, rfl, Or.inl ⟨by omega, hF3, ?_⟩⟩
        rw [← eJ]
        unfold rnV
        first
        | (rw [if_pos (show q = 0 by omega)]; exact hz3)
        | (rw [if_neg (show ¬ q = 0 by omega), if_pos (show q = 1 by omega)]; exact j1)
        | (rw [if_neg (show ¬ q = 0 by omega), if_neg (show ¬ q = 1 by omega), if_pos (show q = 2 by omega)]; exact j2)
        | (rw [if_neg (show ¬ q = 0 by omega), if_neg (show ¬ q = 1 by omega), if_neg (show ¬ q = 2 by omega), if_pos (show q = 3 by omega)]; exact j3)
        | (rw [if_neg (show ¬ q = 0 by omega), if_neg (show ¬ q = 1 by omega), if_neg (show ¬ q = 2 by omega), if_neg (show ¬ q = 3 by omega), if_pos (show q = 4 by omega)]; exact j4)
        | (rw [if_neg (show ¬ q = 0 by omega), if_neg (show ¬ q = 1 by omega), if_neg (show ¬ q = 2 by omega), if_neg (show ¬ q = 3 by omega), if_neg (show ¬ q = 4 by omega)])
    · skip
      refine s_iconst dX12_runs_16 (by decide) (n_iret dX12_runs_17 hR rfl ?_)
      exact ⟨_, rfl, Or.inr ⟨by omega, rfl, rfl⟩⟩
