/-! THE REFERENCE READS A B. -/
theorem MpS.dep {w : Wd} {K : Ky} {a : Nat} {C : List Stq} {S : List Int} {d d2 k x : Int} (h : MpS w K a C S d k) (hx : x = d2) : MpS (wu w 141 58 x) K a C S d2 k := by
  obtain ⟨h1, h2, h3, h4, h5⟩ := h
  refine ⟨?_, ?_, ?_, by rw [wu_same]; exact hx, h5⟩
  · unfold MdS PoM TxM KM' at h1 ⊢
    rw [wu_ne (show (178 : Nat) ≠ 141 by decide), wu_f (show (50 : Int) ≠ 58 by decide), wu_f (show (51 : Int) ≠ 58 by decide), wu_f (show (52 : Int) ≠ 58 by decide), wu_f (show (53 : Int) ≠ 58 by decide), wu_f (show (54 : Int) ≠ 58 by decide)]
    exact h1
  · rw [← h2]
    unfold KM'
    rw [wu_ne (show (178 : Nat) ≠ 141 by decide), wu_f (show (50 : Int) ≠ 58 by decide)]
  · unfold FeQ at h3 ⊢
    rw [wu_f (show (49 : Int) ≠ 58 by decide), wu_ne (show (177 : Nat) ≠ 141 by decide)]
    exact h3
theorem FrM.dep {w : Wd} {x : Int} : FrM w (wu w 141 58 x) := ⟨fun c a _ => wu_ne a, fun j _ _ _ _ _ _ _ a => wu_f a, fun i _ => by rw [wu_ne (by decide)], by rw [wu_f (by decide)]; exact Int.le_refl _, fun q => by rw [wu_f (by decide)]; exact q⟩
/-- need, opens -/
def NdQ (w : Wd) (K : Ky) (a : Nat) (C : List Stq) (S : List Int) (d k q : Int) (z : Int) (w1 : Wd) : Prop := (z = 0 ∧ hdK K S ≠ q ∧ FrM w w1 ∧ w1 141 55 = 1 ∧ w1 141 56 = plK K S) ∨ (z = 1 ∧ hdK K S = q ∧ FrM w w1 ∧ MpS w1 K a C S.tail d (k + 1) ∧ w1 141 55 = w 141 55)
def OpM (w : Wd) (K : Ky) (a : Nat) (C : List Stq) (S : List Int) (d k : Int) (z : Int) (w1 : Wd) : Prop := (z = 0 ∧ d = 8 ∧ FrM w w1 ∧ w1 141 55 = 3 ∧ w1 141 56 = plK K S) ∨ (z = 1 ∧ d ≠ 8 ∧ FrM w w1 ∧ MpS w1 K a C S.tail (d + 1) (k + 1) ∧ w1 141 55 = w 141 55)

set_option maxRecDepth 100000 in
theorem c_M_need (q : Int) {K : Ky} {a : Nat} {C : List Stq} {S : List Int} {d k : Int} (w : Wd) (hS : MpS w K a C S d k) (hq : 40 ≤ q ∧ q ≤ 62) : CallN 8 mX12_need [(2, 141), (0, q)] w (RQ (fun z w1 => NdQ w K a C S d k q z w1)) := by
  refine CallN.intro (by decide +kernel) (Nat.le_of_ble_eq_true rfl) (fun ρ hR => ?_)
  show AtN mX12_need 8 ρ 0 [(0, (2, 141)), (1, (0, q))] [] w
  have hl9 := hS.lt.1
  have hpv9 := hS.pv
  have hhr9 := hS.hr
  have hK := hS.lt.2
  have hsg := hS.tk.sg q hq
  refine s_aload_n dX12_need_0 0 rfl rfl (n_getf 141 52 0 dX12_need_1 cf_X12 ff_X12_328 rfl sh_141 rfl (by decide) (v := (w 141 52)) rfl (s_iload_n dX12_need_4 1 rfl (s_icmp_eq 14 dX12_need_5 (by decide) (fun c_5 => ?_) (fun c_5 => ?_))))
  · skip
    refine s_aload_n dX12_need_14 0 rfl rfl (n_invV' (as := []) dX12_need_15 kv_X12_next0 ml_X12_352 (c_M_next w hS (by omega)) (by decide) 141 cf_X12 rfl sh_141 rfl rfl rfl (Nat.le_of_ble_eq_true rfl) ?_)
    rintro r_15 w_l1 ⟨rfl, hf1, hS1, hg1, hj1⟩
    have hl1 := hS1.lt.1
    have hpv1 := hS1.pv
    have hhr1 := hS1.hr
    refine s_iconst dX12_need_18 (by decide) (n_zret dX12_need_19 hR rfl (by first | exact Or.inl rfl | exact Or.inr rfl | exact bi_01 _ | omega) ?_)
    exact ⟨_, rfl, Or.inr ⟨rfl, by omega, (FrM.rf.tr hf1), hS1, (hg1.trans rfl)⟩⟩
  · skip
    refine s_aload_n dX12_need_8 0 rfl rfl (s_iconst dX12_need_9 (by decide) (n_invV (as := [(0, 1)]) dX12_need_10 kv_X12_bad ml_X12_349 (c_M_bad 1 w) (by decide) 141 cf_X12 rfl sh_141 rfl rfl rfl (Nat.le_of_ble_eq_true rfl) (n_zret dX12_need_13 hR rfl (by first | exact Or.inl rfl | exact Or.inr rfl | exact bi_01 _ | omega) ?_)))
    exact ⟨_, rfl, Or.inl ⟨rfl, by omega, FrM.bad, by rw [wu_f (by decide)]; exact wu_same .., (wu_same ..).trans (by omega)⟩⟩

set_option maxRecDepth 100000 in
theorem c_M_opens {K : Ky} {a : Nat} {C : List Stq} {S : List Int} {d k : Int} (w : Wd) (hS : MpS w K a C S d k) (hd : hdK K S ≠ 0) (h8 : 0 ≤ d ∧ d ≤ 8) : CallN 8 mX12_opens [(2, 141)] w (RQ (fun z w1 => OpM w K a C S d k z w1)) := by
  refine CallN.intro (by decide +kernel) (Nat.le_of_ble_eq_true rfl) (fun ρ hR => ?_)
  show AtN mX12_opens 8 ρ 0 [(0, (2, 141))] [] w
  have hl9 := hS.lt.1
  have hpv9 := hS.pv
  have hhr9 := hS.hr
  have hK := hS.lt.2
  have h58 := hS.2.2.2.1
  refine s_aload_n dX12_opens_0 0 rfl rfl (n_getf 141 58 0 dX12_opens_1 cf_X12 ff_X12_358 rfl sh_141 rfl (by decide) (v := (w 141 58)) rfl (s_bipush dX12_opens_4 (by decide) (s_icmp_ne 15 dX12_opens_6 (by decide) (fun c_6 => ?_) (fun c_6 => ?_))))
  · skip
    refine s_aload_n dX12_opens_15 0 rfl rfl (s_dup dX12_opens_16 (show (2 : Nat) ≠ 1 by decide) (n_getf 141 58 0 dX12_opens_17 cf_X12 ff_X12_358 rfl sh_141 rfl (by decide) (v := (w 141 58)) rfl (s_iconst dX12_opens_20 (by decide) (n_add (z := ((w 141 58) + 1)) dX12_opens_21 (wr_id (by omega) (by omega)) (n_putf 141 58 58 dX12_opens_22 cf_X12 ff_X12_358 rfl rfl sh_141 rfl rfl rfl ?_)))))
    have h58 := hS.2.2.2.1
    refine s_aload_n dX12_opens_25 0 rfl rfl (n_invV' (as := []) dX12_opens_26 kv_X12_next0 ml_X12_352 (c_M_next (wu w 141 58 ((w 141 58) + 1)) (hS.dep (d2 := d + 1) (by omega)) (by omega)) (by decide) 141 cf_X12 rfl sh_141 rfl rfl rfl (Nat.le_of_ble_eq_true rfl) ?_)
    rintro r_26 w_l1 ⟨rfl, hf1, hS1, hg1, hj1⟩
    have hl1 := hS1.lt.1
    have hpv1 := hS1.pv
    have hhr1 := hS1.hr
    refine s_iconst dX12_opens_29 (by decide) (n_zret dX12_opens_30 hR rfl (by first | exact Or.inl rfl | exact Or.inr rfl | exact bi_01 _ | omega) ?_)
    exact ⟨_, rfl, Or.inr ⟨rfl, by omega, (FrM.dep.tr hf1), hS1, (hg1.trans (wu_f (by decide)))⟩⟩
  · skip
    refine s_aload_n dX12_opens_9 0 rfl rfl (s_iconst dX12_opens_10 (by decide) (n_invV (as := [(0, 3)]) dX12_opens_11 kv_X12_bad ml_X12_349 (c_M_bad 3 w) (by decide) 141 cf_X12 rfl sh_141 rfl rfl rfl (Nat.le_of_ble_eq_true rfl) (n_zret dX12_opens_14 hR rfl (by first | exact Or.inl rfl | exact Or.inr rfl | exact bi_01 _ | omega) ?_)))
    exact ⟨_, rfl, Or.inl ⟨rfl, by omega, FrM.bad, by rw [wu_f (by decide)]; exact wu_same .., (wu_same ..).trans (by omega)⟩⟩

def OneM (K : Ky) (a r : Nat) : Prop := ∀ (C : List Stq) (S : List Int) (k : Int) (w : Wd), MpS w K a C S (8 - (r : Int)) k → 0 ≤ k → CallN (3 * r + 11) mX12_one [(2, 141)] w (RQ (fun z w1 => ReM w K a (8 - (r : Int)) k (onP K r C S) z w1))
def AnyM (K : Ky) (a r : Nat) : Prop := ∀ (C : List Stq) (S : List Int) (k : Int) (w : Wd), MpS w K a C S (8 - (r : Int)) k → 0 ≤ k → CallN (3 * r + 13) mX12_any [(2, 141)] w (RQ (fun z w1 => ReM w K a (8 - (r : Int)) k (anF K (onP K r) C S) z w1))
theorem on_n {K : Ky} {r : Nat} {C : List Stq} {S : List Int} (hr : 0 < r) (h : hdK K S = 262) : onP K r C S = bnd (onP K (r - 1) C S.tail) (fun D R => okR (D ++ [(19, 0)]) R) := by
  obtain ⟨q, rfl⟩ : ∃ q, r = q + 1 := ⟨r - 1, by omega⟩
  rw [onP, if_pos h, Nat.add_sub_cancel]
set_option maxRecDepth 100000 in
set_option maxHeartbeats 2000000 in
theorem c_M_one {K : Ky} {a r : Nat} (hr8 : r ≤ 8) (h1 : 0 < r → OneM K a (r - 1)) (h2 : 0 < r → AnyM K a (r - 1)) (C : List Stq) (S : List Int) (k : Int) (w : Wd) (hS : MpS w K a C S (8 - (r : Int)) k) (hk : 0 ≤ k) : CallN (3 * r + 11) mX12_one [(2, 141)] w (RQ (fun z w1 => ReM w K a (8 - (r : Int)) k (onP K r C S) z w1)) := by
  refine CallN.intro (by decide +kernel) (Nat.le_of_ble_eq_true rfl) (fun ρ hR => ?_)
  show AtN mX12_one (3 * r + 11) ρ 0 [(0, (2, 141))] [] w
  have hl9 := hS.lt.1
  have hpv9 := hS.pv
  have hhr9 := hS.hr
  have hK := hS.lt.2
  have h58 := hS.2.2.2.1
  refine s_aload_n dX12_one_0 0 rfl rfl (n_getf 141 52 0 dX12_one_1 cf_X12 ff_X12_328 rfl sh_141 rfl (by decide) (v := (w 141 52)) rfl (s_bipush dX12_one_4 (by decide) (s_icmp_ne 44 dX12_one_6 (by decide) (fun c_6 => ?_) (fun c_6 => ?_))))
  · skip
    have k_6 : hdK K S ≠ 262 := fun z => absurd (((MpS.tk hS).c6).mpr z) (by omega)
    refine s_aload_n dX12_one_44 0 rfl rfl (n_getf 141 52 0 dX12_one_45 cf_X12 ff_X12_328 rfl sh_141 rfl (by decide) (v := (w 141 52)) rfl (s_bipush dX12_one_48 (by decide) (s_icmp_ne 90 dX12_one_50 (by decide) (fun c_50 => ?_) (fun c_50 => ?_))))
    · skip
      have k_50 : hdK K S ≠ 40 := fun z => absurd (((MpS.tk hS).sg 40 (by decide)).mpr z) (by omega)
      refine s_aload_n dX12_one_90 0 rfl rfl (n_invV' (as := []) dX12_one_91 kv_X12_sumUp ml_X12_387 (c_M_sumUp w hS (by omega)) (by omega) 141 cf_X12 rfl sh_141 rfl rfl rfl (Nat.le_of_ble_eq_true rfl) ?_)
      rintro r_91 w_91 ⟨z_91, rfl, hz_91⟩
      show AtN _ _ ρ _ _ [(0, z_91)] w_91
      refine s_if_ne 99 dX12_one_94 (by decide) (fun c_94 => ?_) (fun c_94 => ?_)
      · skip
        obtain ⟨D1, R1, hD1, hG1, hR1, hg91⟩ := hz_91.ok (by omega)
        have hlr1 := hR1.lt.1
        have hpvr1 := hR1.pv
        have hhrr1 := hR1.hr
        refine s_aload_n dX12_one_99 0 rfl rfl (n_getf 141 52 0 dX12_one_100 cf_X12 ff_X12_328 rfl sh_141 rfl (by decide) (v := (w_91 141 52)) rfl (s_bipush dX12_one_103 (by decide) (s_icmp_ne 113 dX12_one_105 (by decide) (fun c_105 => ?_) (fun c_105 => ?_))))
        · skip
          have k_105 : hdK K R1 ≠ 60 := fun z => absurd (((MpS.tk hR1).sg 60 (by decide)).mpr z) (by omega)
          refine s_aload_n dX12_one_113 0 rfl rfl (n_getf 141 52 0 dX12_one_114 cf_X12 ff_X12_328 rfl sh_141 rfl (by decide) (v := (w_91 141 52)) rfl (s_bipush dX12_one_117 (by decide) (s_icmp_ne 127 dX12_one_119 (by decide) (fun c_119 => ?_) (fun c_119 => ?_))))
          · skip
            have k_119 : hdK K R1 ≠ 61 := fun z => absurd (((MpS.tk hR1).sg 61 (by decide)).mpr z) (by omega)
            refine s_aload_n dX12_one_127 0 rfl rfl (n_getf 141 52 0 dX12_one_128 cf_X12 ff_X12_328 rfl sh_141 rfl (by decide) (v := (w_91 141 52)) rfl (s_bipush dX12_one_131 (by decide) (s_icmp_ne 141 dX12_one_133 (by decide) (fun c_133 => ?_) (fun c_133 => ?_))))
            · skip
              have k_133 : hdK K R1 ≠ 62 := fun z => absurd (((MpS.tk hR1).sg 62 (by decide)).mpr z) (by omega)
              refine s_iconst dX12_one_141 (by decide) (s_istore_n (ls' := [(0, (2, 141)), (1, (0, (-1)))]) dX12_one_142 (Nat.le_of_ble_eq_true rfl) rfl (s_iload_n dX12_one_143 1 rfl (s_iconst dX12_one_144 (by decide) (s_icmp_ne 154 dX12_one_145 (by decide) (kt := fun c => absurd c (by decide)) (kf := fun _ => s_aload_n dX12_one_148 0 rfl rfl (s_iconst dX12_one_149 (by decide) (n_invV (as := [(0, 1)]) dX12_one_150 kv_X12_bad ml_X12_349 (c_M_bad 1 w_91) (by omega) 141 cf_X12 rfl sh_141 rfl rfl rfl (Nat.le_of_ble_eq_true rfl) (n_zret dX12_one_153 hR rfl (by first | exact Or.inl rfl | exact Or.inr rfl | exact bi_01 _ | omega) ?_))))))))
              exact ⟨_, rfl, Or.inl ⟨rfl, (1, plK K R1), (on_cm ⟨by omega, by omega⟩).trans ((bnd_on hD1).trans (if_neg (by omega))), ((FrM.rf.tr hG1)).tr FrM.bad, by rw [wu_f (by decide)]; exact wu_same .., (wu_same ..).trans (by omega)⟩⟩
            · skip
              have k_133 : hdK K R1 = 62 := ((MpS.tk hR1).sg 62 (by decide)).mp (by omega)
              have kt_133 := MpS.tl hR1 (by omega)
              refine s_bipush dX12_one_136 (by decide) (s_goto 142 dX12_one_138 (by decide) (s_istore_n (ls' := [(0, (2, 141)), (1, (0, 18))]) dX12_one_142 (Nat.le_of_ble_eq_true rfl) rfl (s_iload_n dX12_one_143 1 rfl (s_iconst dX12_one_144 (by decide) (s_icmp_ne 154 dX12_one_145 (by decide) (kf := fun c => absurd c (by decide)) (kt := fun _ => s_aload_n dX12_one_154 0 rfl rfl (n_invV' (as := []) dX12_one_155 kv_X12_next0 ml_X12_352 (c_M_next w_91 hR1 (by omega)) (by omega) 141 cf_X12 rfl sh_141 rfl rfl rfl (Nat.le_of_ble_eq_true rfl) ?_)))))))
              rintro r_155 w_l1 ⟨rfl, hf1, hS1, hg1, hj1⟩
              have hl1 := hS1.lt.1
              have hpv1 := hS1.pv
              have hhr1 := hS1.hr
              refine s_aload_n dX12_one_158 0 rfl rfl (n_invV' (as := []) dX12_one_159 kv_X12_sumUp ml_X12_387 (c_M_sumUp w_l1 hS1 (by omega)) (by omega) 141 cf_X12 rfl sh_141 rfl rfl rfl (Nat.le_of_ble_eq_true rfl) ?_)
              rintro r_159 w_159 ⟨z_159, rfl, hz_159⟩
              show AtN _ _ ρ _ _ [(0, z_159)] w_159
              refine s_if_ne 167 dX12_one_162 (by decide) (fun c_162 => ?_) (fun c_162 => ?_)
              · skip
                obtain ⟨D2, R2, hD2, hG2, hR2, hg92⟩ := hz_159.ok (by omega)
                have hlr2 := hR2.lt.1
                have hpvr2 := hR2.pv
                have hhrr2 := hR2.hr
                refine s_aload_n dX12_one_167 0 rfl rfl (s_iload_n dX12_one_168 1 rfl (s_iconst dX12_one_169 (by decide) (n_invV' (as := [(0, 18), (0, 0)]) dX12_one_170 kv_X12_lay ml_X12_365 (c_M_lay ((18 : Int), (0 : Int)) 18 0 w_159 hR2 (by omega) (stp_c (by decide))) (by omega) 141 cf_X12 rfl sh_141 rfl rfl rfl (Nat.le_of_ble_eq_true rfl) ?_)))
                rintro r_170 w_l2 ⟨rfl, hf2, hS2, hg2, hj2⟩
                have hl2 := hS2.lt
                have hpv2 := hS2.pv
                refine s_iconst dX12_one_173 (by decide) (n_zret dX12_one_174 hR rfl (by first | exact Or.inl rfl | exact Or.inr rfl | exact bi_01 _ | omega) ?_)
                exact ⟨_, rfl, Or.inr ⟨rfl, _, _, (on_cm ⟨by omega, by omega⟩).trans ((bnd_on hD1).trans ((if_pos (by omega)).trans ((bnd_on hD2).trans (by rw [show hdK K R1 - 44 = 18 by omega])))), ((((FrM.rf.tr hG1).tr hf1).tr hG2).tr hf2), hS2.wk (by omega), (hg2.trans (hg92.trans (hg1.trans (hg91.trans rfl))))⟩⟩
              · skip
                obtain ⟨e9, he, hF9, h39, h49⟩ := hz_159.no (by omega)
                refine s_iconst dX12_one_165 (by decide) (n_zret dX12_one_166 hR rfl (by first | exact Or.inl rfl | exact Or.inr rfl | exact bi_01 _ | omega) ?_)
                exact ⟨_, rfl, Or.inl ⟨rfl, e9, (on_cm ⟨by omega, by omega⟩).trans ((bnd_on hD1).trans ((if_pos (by omega)).trans (bnd_in he))), (((FrM.rf.tr hG1).tr hf1)).tr hF9, h39, h49⟩⟩
          · skip
            have k_119 : hdK K R1 = 61 := ((MpS.tk hR1).sg 61 (by decide)).mp (by omega)
            have kt_119 := MpS.tl hR1 (by omega)
            refine s_bipush dX12_one_122 (by decide) (s_goto 142 dX12_one_124 (by decide) (s_istore_n (ls' := [(0, (2, 141)), (1, (0, 17))]) dX12_one_142 (Nat.le_of_ble_eq_true rfl) rfl (s_iload_n dX12_one_143 1 rfl (s_iconst dX12_one_144 (by decide) (s_icmp_ne 154 dX12_one_145 (by decide) (kf := fun c => absurd c (by decide)) (kt := fun _ => s_aload_n dX12_one_154 0 rfl rfl (n_invV' (as := []) dX12_one_155 kv_X12_next0 ml_X12_352 (c_M_next w_91 hR1 (by omega)) (by omega) 141 cf_X12 rfl sh_141 rfl rfl rfl (Nat.le_of_ble_eq_true rfl) ?_)))))))
            rintro r_155 w_l3 ⟨rfl, hf3, hS3, hg3, hj3⟩
            have hl3 := hS3.lt.1
            have hpv3 := hS3.pv
            have hhr3 := hS3.hr
            refine s_aload_n dX12_one_158 0 rfl rfl (n_invV' (as := []) dX12_one_159 kv_X12_sumUp ml_X12_387 (c_M_sumUp w_l3 hS3 (by omega)) (by omega) 141 cf_X12 rfl sh_141 rfl rfl rfl (Nat.le_of_ble_eq_true rfl) ?_)
            rintro r_159 w_159 ⟨z_159, rfl, hz_159⟩
            show AtN _ _ ρ _ _ [(0, z_159)] w_159
            refine s_if_ne 167 dX12_one_162 (by decide) (fun c_162 => ?_) (fun c_162 => ?_)
            · skip
              obtain ⟨D2, R2, hD2, hG2, hR2, hg92⟩ := hz_159.ok (by omega)
              have hlr2 := hR2.lt.1
              have hpvr2 := hR2.pv
              have hhrr2 := hR2.hr
              refine s_aload_n dX12_one_167 0 rfl rfl (s_iload_n dX12_one_168 1 rfl (s_iconst dX12_one_169 (by decide) (n_invV' (as := [(0, 17), (0, 0)]) dX12_one_170 kv_X12_lay ml_X12_365 (c_M_lay ((17 : Int), (0 : Int)) 17 0 w_159 hR2 (by omega) (stp_c (by decide))) (by omega) 141 cf_X12 rfl sh_141 rfl rfl rfl (Nat.le_of_ble_eq_true rfl) ?_)))
              rintro r_170 w_l4 ⟨rfl, hf4, hS4, hg4, hj4⟩
              have hl4 := hS4.lt
              have hpv4 := hS4.pv
              refine s_iconst dX12_one_173 (by decide) (n_zret dX12_one_174 hR rfl (by first | exact Or.inl rfl | exact Or.inr rfl | exact bi_01 _ | omega) ?_)
              exact ⟨_, rfl, Or.inr ⟨rfl, _, _, (on_cm ⟨by omega, by omega⟩).trans ((bnd_on hD1).trans ((if_pos (by omega)).trans ((bnd_on hD2).trans (by rw [show hdK K R1 - 44 = 17 by omega])))), ((((FrM.rf.tr hG1).tr hf3).tr hG2).tr hf4), hS4.wk (by omega), (hg4.trans (hg92.trans (hg3.trans (hg91.trans rfl))))⟩⟩
            · skip
              obtain ⟨e9, he, hF9, h39, h49⟩ := hz_159.no (by omega)
              refine s_iconst dX12_one_165 (by decide) (n_zret dX12_one_166 hR rfl (by first | exact Or.inl rfl | exact Or.inr rfl | exact bi_01 _ | omega) ?_)
              exact ⟨_, rfl, Or.inl ⟨rfl, e9, (on_cm ⟨by omega, by omega⟩).trans ((bnd_on hD1).trans ((if_pos (by omega)).trans (bnd_in he))), (((FrM.rf.tr hG1).tr hf3)).tr hF9, h39, h49⟩⟩
        · skip
          have k_105 : hdK K R1 = 60 := ((MpS.tk hR1).sg 60 (by decide)).mp (by omega)
          have kt_105 := MpS.tl hR1 (by omega)
          refine s_bipush dX12_one_108 (by decide) (s_goto 142 dX12_one_110 (by decide) (s_istore_n (ls' := [(0, (2, 141)), (1, (0, 16))]) dX12_one_142 (Nat.le_of_ble_eq_true rfl) rfl (s_iload_n dX12_one_143 1 rfl (s_iconst dX12_one_144 (by decide) (s_icmp_ne 154 dX12_one_145 (by decide) (kf := fun c => absurd c (by decide)) (kt := fun _ => s_aload_n dX12_one_154 0 rfl rfl (n_invV' (as := []) dX12_one_155 kv_X12_next0 ml_X12_352 (c_M_next w_91 hR1 (by omega)) (by omega) 141 cf_X12 rfl sh_141 rfl rfl rfl (Nat.le_of_ble_eq_true rfl) ?_)))))))
          rintro r_155 w_l5 ⟨rfl, hf5, hS5, hg5, hj5⟩
          have hl5 := hS5.lt.1
          have hpv5 := hS5.pv
          have hhr5 := hS5.hr
          refine s_aload_n dX12_one_158 0 rfl rfl (n_invV' (as := []) dX12_one_159 kv_X12_sumUp ml_X12_387 (c_M_sumUp w_l5 hS5 (by omega)) (by omega) 141 cf_X12 rfl sh_141 rfl rfl rfl (Nat.le_of_ble_eq_true rfl) ?_)
          rintro r_159 w_159 ⟨z_159, rfl, hz_159⟩
          show AtN _ _ ρ _ _ [(0, z_159)] w_159
          refine s_if_ne 167 dX12_one_162 (by decide) (fun c_162 => ?_) (fun c_162 => ?_)
          · skip
            obtain ⟨D2, R2, hD2, hG2, hR2, hg92⟩ := hz_159.ok (by omega)
            have hlr2 := hR2.lt.1
            have hpvr2 := hR2.pv
            have hhrr2 := hR2.hr
            refine s_aload_n dX12_one_167 0 rfl rfl (s_iload_n dX12_one_168 1 rfl (s_iconst dX12_one_169 (by decide) (n_invV' (as := [(0, 16), (0, 0)]) dX12_one_170 kv_X12_lay ml_X12_365 (c_M_lay ((16 : Int), (0 : Int)) 16 0 w_159 hR2 (by omega) (stp_c (by decide))) (by omega) 141 cf_X12 rfl sh_141 rfl rfl rfl (Nat.le_of_ble_eq_true rfl) ?_)))
            rintro r_170 w_l6 ⟨rfl, hf6, hS6, hg6, hj6⟩
            have hl6 := hS6.lt
            have hpv6 := hS6.pv
            refine s_iconst dX12_one_173 (by decide) (n_zret dX12_one_174 hR rfl (by first | exact Or.inl rfl | exact Or.inr rfl | exact bi_01 _ | omega) ?_)
            exact ⟨_, rfl, Or.inr ⟨rfl, _, _, (on_cm ⟨by omega, by omega⟩).trans ((bnd_on hD1).trans ((if_pos (by omega)).trans ((bnd_on hD2).trans (by rw [show hdK K R1 - 44 = 16 by omega])))), ((((FrM.rf.tr hG1).tr hf5).tr hG2).tr hf6), hS6.wk (by omega), (hg6.trans (hg92.trans (hg5.trans (hg91.trans rfl))))⟩⟩
          · skip
            obtain ⟨e9, he, hF9, h39, h49⟩ := hz_159.no (by omega)
            refine s_iconst dX12_one_165 (by decide) (n_zret dX12_one_166 hR rfl (by first | exact Or.inl rfl | exact Or.inr rfl | exact bi_01 _ | omega) ?_)
            exact ⟨_, rfl, Or.inl ⟨rfl, e9, (on_cm ⟨by omega, by omega⟩).trans ((bnd_on hD1).trans ((if_pos (by omega)).trans (bnd_in he))), (((FrM.rf.tr hG1).tr hf5)).tr hF9, h39, h49⟩⟩
      · skip
        obtain ⟨e9, he, hF9, h39, h49⟩ := hz_91.no (by omega)
        refine s_iconst dX12_one_97 (by decide) (n_zret dX12_one_98 hR rfl (by first | exact Or.inl rfl | exact Or.inr rfl | exact bi_01 _ | omega) ?_)
        exact ⟨_, rfl, Or.inl ⟨rfl, e9, (on_cm ⟨by omega, by omega⟩).trans (bnd_in he), (FrM.rf).tr hF9, h39, h49⟩⟩
    · skip
      have k_50 : hdK K S = 40 := ((MpS.tk hS).sg 40 (by decide)).mp (by omega)
      have kt_50 := MpS.tl hS (by omega)
      refine s_aload_n dX12_one_53 0 rfl rfl (n_invV' (as := []) dX12_one_54 kv_X12_opens ml_X12_378 (c_M_opens w hS (by omega) (by omega)) (by omega) 141 cf_X12 rfl sh_141 rfl rfl rfl (Nat.le_of_ble_eq_true rfl) ?_)
      rintro r_54 w_54 ⟨z_54, rfl, hz_54⟩
      show AtN _ _ ρ _ _ [(0, z_54)] w_54
      unfold OpM at hz_54
      refine s_if_eq 76 dX12_one_57 (by decide) (fun c_57 => ?_) (fun c_57 => ?_)
      · skip
        obtain ⟨hd8, hFo, hwo, hpo⟩ : (8 - (r : Int)) = 8 ∧ FrM w w_54 ∧ w_54 141 55 = 3 ∧ w_54 141 56 = plK K S := by
          rcases hz_54 with y | y
          · exact y.2
          · omega
        refine s_iconst dX12_one_76 (by decide) (n_zret dX12_one_77 hR rfl (by first | exact Or.inl rfl | exact Or.inr rfl | exact bi_01 _ | omega) ?_)
        exact ⟨_, rfl, Or.inl ⟨rfl, (3, plK K S), on_3 (by omega) (by omega), hFo, hwo, hpo⟩⟩
      · skip
        obtain ⟨hd8, hFo, hSo, hgo⟩ : (8 - (r : Int)) ≠ 8 ∧ FrM w w_54 ∧ MpS w_54 K a C S.tail (8 - (r : Int) + 1) (k + 1) ∧ w_54 141 55 = w 141 55 := by
          rcases hz_54 with y | y
          · omega
          · exact y.2
        rw [show 8 - (r : Int) + 1 = 8 - ((r - 1 : Nat) : Int) by omega] at hSo
        have hlo := hSo.lt.1
        have hpo9 := hSo.pv
        have hho9 := hSo.hr
        refine s_aload_n dX12_one_60 0 rfl rfl (n_invV' (as := []) dX12_one_61 kv_X12_any ml_X12_381 (h2 (by omega) C S.tail (k + 1) w_54 hSo (by omega)) (by omega) 141 cf_X12 rfl sh_141 rfl rfl rfl (Nat.le_of_ble_eq_true rfl) ?_)
        rintro r_61 w_61 ⟨z_61, rfl, hz_61⟩
        show AtN _ _ ρ _ _ [(0, z_61)] w_61
        refine s_if_eq 76 dX12_one_64 (by decide) (fun c_64 => ?_) (fun c_64 => ?_)
        · skip
          obtain ⟨e9, he, hF9, h39, h49⟩ := hz_61.no (by omega)
          refine s_iconst dX12_one_76 (by decide) (n_zret dX12_one_77 hR rfl (by first | exact Or.inl rfl | exact Or.inr rfl | exact bi_01 _ | omega) ?_)
          exact ⟨_, rfl, Or.inl ⟨rfl, e9, (on_br (by omega) (by omega)).trans (bnd_in he), (hFo).tr hF9, h39, h49⟩⟩
        · skip
          obtain ⟨D1, R1, hD1, hG1, hR1, hg91⟩ := hz_61.ok (by omega)
          have hlr1 := hR1.lt.1
          have hpvr1 := hR1.pv
          have hhrr1 := hR1.hr
          have h58r := hR1.2.2.2.1
          refine s_aload_n dX12_one_67 0 rfl rfl (s_bipush dX12_one_68 (by decide) (n_invV' (as := [(0, 41)]) dX12_one_70 kv_X12_need ml_X12_384 (c_M_need 41 w_61 hR1 (by decide)) (by omega) 141 cf_X12 rfl sh_141 rfl rfl rfl (Nat.le_of_ble_eq_true rfl) ?_))
          rintro r_70 w_70 ⟨z_70, rfl, hz_70⟩
          show AtN _ _ ρ _ _ [(0, z_70)] w_70
          unfold NdQ at hz_70
          refine s_if_ne 78 dX12_one_73 (by decide) (fun c_73 => ?_) (fun c_73 => ?_)
          · skip
            obtain ⟨hdn, hFn, hSn, hgn⟩ : hdK K R1 = 41 ∧ FrM w_61 w_70 ∧ MpS w_70 K a D1 R1.tail (8 - ((r - 1 : Nat) : Int)) ((k + 1) + 1) ∧ w_70 141 55 = w_61 141 55 := by
              rcases hz_70 with y | y
              · omega
              · exact y.2
            have hln := hSn.lt.1
            have hpvn := hSn.pv
            have hhrn := hSn.hr
            have h58n := hSn.2.2.2.1
            refine s_aload_n dX12_one_78 0 rfl rfl (s_dup dX12_one_79 (show (2 : Nat) ≠ 1 by decide) (n_getf 141 58 0 dX12_one_80 cf_X12 ff_X12_358 rfl sh_141 rfl (by decide) (v := (w_70 141 58)) rfl (s_iconst dX12_one_83 (by decide) (n_sub (z := ((w_70 141 58) - 1)) dX12_one_84 (wr_id (by omega) (by omega)) (n_putf 141 58 58 dX12_one_85 cf_X12 ff_X12_358 rfl rfl sh_141 rfl rfl rfl ?_)))))
            skip
            refine s_iconst dX12_one_88 (by decide) (n_zret dX12_one_89 hR rfl (by first | exact Or.inl rfl | exact Or.inr rfl | exact bi_01 _ | omega) ?_)
            exact ⟨_, rfl, Or.inr ⟨rfl, _, _, (on_br (by omega) (by omega)).trans ((bnd_on hD1).trans (ndP_ok hdn)), (((hFo.tr hG1).tr hFn).tr FrM.dep), (hSn.dep (d2 := 8 - (r : Int)) (by omega)).wk (by omega), ((wu_f (by decide)).trans (hgn.trans (hg91.trans hgo)))⟩⟩
          · skip
            obtain ⟨hdn, hFn, hwn, hpn⟩ : hdK K R1 ≠ 41 ∧ FrM w_61 w_70 ∧ w_70 141 55 = 1 ∧ w_70 141 56 = plK K R1 := by
              rcases hz_70 with y | y
              · exact y.2
              · omega
            refine s_iconst dX12_one_76 (by decide) (n_zret dX12_one_77 hR rfl (by first | exact Or.inl rfl | exact Or.inr rfl | exact bi_01 _ | omega) ?_)
            exact ⟨_, rfl, Or.inl ⟨rfl, (1, plK K R1), (on_br (by omega) (by omega)).trans ((bnd_on hD1).trans (ndP_no hdn)), ((hFo.tr hG1)).tr hFn, hwn, hpn⟩⟩
  · skip
    have k_6 : hdK K S = 262 := ((MpS.tk hS).c6).mp (by omega)
    have kt_6 := MpS.tl hS (by omega)
    refine s_aload_n dX12_one_9 0 rfl rfl (n_invV' (as := []) dX12_one_10 kv_X12_opens ml_X12_378 (c_M_opens w hS (by omega) (by omega)) (by omega) 141 cf_X12 rfl sh_141 rfl rfl rfl (Nat.le_of_ble_eq_true rfl) ?_)
    rintro r_10 w_10 ⟨z_10, rfl, hz_10⟩
    show AtN _ _ ρ _ _ [(0, z_10)] w_10
    unfold OpM at hz_10
    refine s_if_eq 23 dX12_one_13 (by decide) (fun c_13 => ?_) (fun c_13 => ?_)
    · skip
      obtain ⟨hd8, hFo, hwo, hpo⟩ : (8 - (r : Int)) = 8 ∧ FrM w w_10 ∧ w_10 141 55 = 3 ∧ w_10 141 56 = plK K S := by
        rcases hz_10 with y | y
        · exact y.2
        · omega
      refine s_iconst dX12_one_23 (by decide) (n_zret dX12_one_24 hR rfl (by first | exact Or.inl rfl | exact Or.inr rfl | exact bi_01 _ | omega) ?_)
      exact ⟨_, rfl, Or.inl ⟨rfl, (3, plK K S), on_3 (by omega) (by omega), hFo, hwo, hpo⟩⟩
    · skip
      obtain ⟨hd8, hFo, hSo, hgo⟩ : (8 - (r : Int)) ≠ 8 ∧ FrM w w_10 ∧ MpS w_10 K a C S.tail (8 - (r : Int) + 1) (k + 1) ∧ w_10 141 55 = w 141 55 := by
        rcases hz_10 with y | y
        · omega
        · exact y.2
      rw [show 8 - (r : Int) + 1 = 8 - ((r - 1 : Nat) : Int) by omega] at hSo
      have hlo := hSo.lt.1
      have hpo9 := hSo.pv
      have hho9 := hSo.hr
      refine s_aload_n dX12_one_16 0 rfl rfl (n_invV' (as := []) dX12_one_17 kv_X12_one ml_X12_375 (h1 (by omega) C S.tail (k + 1) w_10 hSo (by omega)) (by omega) 141 cf_X12 rfl sh_141 rfl rfl rfl (Nat.le_of_ble_eq_true rfl) ?_)
      rintro r_17 w_17 ⟨z_17, rfl, hz_17⟩
      show AtN _ _ ρ _ _ [(0, z_17)] w_17
      refine s_if_ne 25 dX12_one_20 (by decide) (fun c_20 => ?_) (fun c_20 => ?_)
      · skip
        obtain ⟨D1, R1, hD1, hG1, hR1, hg91⟩ := hz_17.ok (by omega)
        have hlr1 := hR1.lt.1
        have hpvr1 := hR1.pv
        have hhrr1 := hR1.hr
        have h58r := hR1.2.2.2.1
        refine s_aload_n dX12_one_25 0 rfl rfl (s_dup dX12_one_26 (show (2 : Nat) ≠ 1 by decide) (n_getf 141 58 0 dX12_one_27 cf_X12 ff_X12_358 rfl sh_141 rfl (by decide) (v := (w_17 141 58)) rfl (s_iconst dX12_one_30 (by decide) (n_sub (z := ((w_17 141 58) - 1)) dX12_one_31 (wr_id (by omega) (by omega)) (n_putf 141 58 58 dX12_one_32 cf_X12 ff_X12_358 rfl rfl sh_141 rfl rfl rfl ?_)))))
        skip
        refine s_aload_n dX12_one_35 0 rfl rfl (s_bipush dX12_one_36 (by decide) (s_iconst dX12_one_38 (by decide) (n_invV' (as := [(0, 19), (0, 0)]) dX12_one_39 kv_X12_lay ml_X12_365 (c_M_lay ((19 : Int), (0 : Int)) 19 0 (wu w_17 141 58 ((w_17 141 58) - 1)) (hR1.dep (d2 := 8 - (r : Int)) (by omega)) (by omega) (stp_c (by decide))) (by omega) 141 cf_X12 rfl sh_141 rfl rfl rfl (Nat.le_of_ble_eq_true rfl) ?_)))
        rintro r_39 w_l7 ⟨rfl, hf7, hS7, hg7, hj7⟩
        have hl7 := hS7.lt
        have hpv7 := hS7.pv
        refine s_iconst dX12_one_42 (by decide) (n_zret dX12_one_43 hR rfl (by first | exact Or.inl rfl | exact Or.inr rfl | exact bi_01 _ | omega) ?_)
        exact ⟨_, rfl, Or.inr ⟨rfl, _, _, (on_n (by omega) (by omega)).trans (bnd_on hD1), (((hFo.tr hG1).tr FrM.dep).tr hf7), hS7.wk (by omega), (hg7.trans ((wu_f (by decide)).trans (hg91.trans hgo)))⟩⟩
      · skip
        obtain ⟨e9, he, hF9, h39, h49⟩ := hz_17.no (by omega)
        refine s_iconst dX12_one_23 (by decide) (n_zret dX12_one_24 hR rfl (by first | exact Or.inl rfl | exact Or.inr rfl | exact bi_01 _ | omega) ?_)
        exact ⟨_, rfl, Or.inl ⟨rfl, e9, (on_n (by omega) (by omega)).trans (bnd_in he), (hFo).tr hF9, h39, h49⟩⟩

def EvM (K : Ky) (a r : Nat) : Prop := ∀ (C : List Stq) (S : List Int) (k : Int) (w : Wd), MpS w K a C S (8 - (r : Int)) k → 0 ≤ k → CallN (3 * r + 12) mX12_every [(2, 141)] w (RQ (fun z w1 => ReM w K a (8 - (r : Int)) k (evF K (onP K r) C S) z w1))
theorem evW_s {K : Ky} {one : List Stq → List Int → Rs} {f : Nat} {D : List Stq} {R : List Int} (h : hdK K R = 261) : evW K one (f + 1) D R = bnd (one D R.tail) (fun E Q => evW K one f (E ++ [(20, 0)]) Q) := by rw [evW, if_pos h]
theorem anW_s {K : Ky} {one : List Stq → List Int → Rs} {f : Nat} {D : List Stq} {R : List Int} (h : hdK K R = 260) : anW K one (f + 1) D R = bnd (evF K one D R.tail) (fun E Q => anW K one f (E ++ [(21, 0)]) Q) := by rw [anW, if_pos h]
set_option maxRecDepth 100000 in
set_option maxHeartbeats 1000000 in
theorem c_M_every {K : Ky} {a r : Nat} (hr8 : r ≤ 8) (h1 : OneM K a r) (C : List Stq) (S : List Int) (k : Int) (w : Wd) (hS : MpS w K a C S (8 - (r : Int)) k) (hk : 0 ≤ k) : CallN (3 * r + 12) mX12_every [(2, 141)] w (RQ (fun z w1 => ReM w K a (8 - (r : Int)) k (evF K (onP K r) C S) z w1)) := by
  refine CallN.intro (by decide +kernel) (Nat.le_of_ble_eq_true rfl) (fun ρ hR => ?_)
  show AtN mX12_every (3 * r + 12) ρ 0 [(0, (2, 141))] [] w
  have hl9 := hS.lt.1
  have hpv9 := hS.pv
  have hhr9 := hS.hr
  have hK := hS.lt.2
  have L_9 : ∀ (fu : Nat) (v9 : Wd) (D : List Stq) (R : List Int) (f : Nat), FrM w v9 → v9 141 55 = w 141 55 → MpS v9 K a D R (8 - (r : Int)) k → R.length < f → evF K (onP K r) C S = evW K (onP K r) f D R → R.length < fu → AtN mX12_every (3 * r + 12) ρ 9 [(0, (2, 141))] [] v9 := by
    intro fu
    induction fu with
    | zero => intro v9 D R f hF hg hQ hfu hX hm; exact absurd hm (Nat.not_lt_zero _)
    | succ fu ih =>
      intro v9 D R f hF hg hQ hfu hX hm
      have hl9 := hQ.lt.1
      have hpv9 := hQ.pv
      have hhr9 := hQ.hr
      have hK := hQ.lt.2
      obtain ⟨g, rfl⟩ : ∃ g, f = g + 1 := ⟨f - 1, by omega⟩
      refine s_aload_n dX12_every_9 0 rfl rfl (n_getf 141 52 0 dX12_every_10 cf_X12 ff_X12_328 rfl sh_141 rfl (by decide) (v := (v9 141 52)) rfl (s_iconst dX12_every_13 (by decide) (s_icmp_ne 40 dX12_every_14 (by decide) (fun c_14 => ?_) (fun c_14 => ?_))))
      · skip
        have k_14 : hdK K R ≠ 261 := fun z => absurd (((MpS.tk hQ).c5).mpr z) (by omega)
        refine s_iconst dX12_every_40 (by decide) (n_zret dX12_every_41 hR rfl (by first | exact Or.inl rfl | exact Or.inr rfl | exact bi_01 _ | omega) ?_)
        exact ⟨_, rfl, Or.inr ⟨rfl, _, _, hX.trans (evW_no (by omega)), hF, hQ, hg⟩⟩
      · skip
        have k_14 : hdK K R = 261 := ((MpS.tk hQ).c5).mp (by omega)
        have kt_14 := MpS.tl hQ (by omega)
        refine s_aload_n dX12_every_17 0 rfl rfl (n_invV' (as := []) dX12_every_18 kv_X12_next0 ml_X12_352 (c_M_next v9 hQ (by omega)) (by omega) 141 cf_X12 rfl sh_141 rfl rfl rfl (Nat.le_of_ble_eq_true rfl) ?_)
        rintro r_18 w_l1 ⟨rfl, hf1, hS1, hg1, hj1⟩
        have hl1 := hS1.lt.1
        have hpv1 := hS1.pv
        have hhr1 := hS1.hr
        refine s_aload_n dX12_every_21 0 rfl rfl (n_invV' (as := []) dX12_every_22 kv_X12_one ml_X12_375 (h1 D R.tail (k + 1) w_l1 hS1 (by omega)) (by omega) 141 cf_X12 rfl sh_141 rfl rfl rfl (Nat.le_of_ble_eq_true rfl) ?_)
        rintro r_22 w_22 ⟨z_22, rfl, hz_22⟩
        show AtN _ _ ρ _ _ [(0, z_22)] w_22
        refine s_if_ne 30 dX12_every_25 (by decide) (fun c_25 => ?_) (fun c_25 => ?_)
        · skip
          obtain ⟨D2, R2, hD2, hG2, hR2, hg92⟩ := hz_22.ok (by omega)
          have hlr2 := hR2.lt.1
          have hpvr2 := hR2.pv
          have hhrr2 := hR2.hr
          have hun := (on_gr hK r D _).lt (fun D h => okC_1 h) hD2
          refine s_aload_n dX12_every_30 0 rfl rfl (s_bipush dX12_every_31 (by decide) (s_iconst dX12_every_33 (by decide) (n_invV' (as := [(0, 20), (0, 0)]) dX12_every_34 kv_X12_lay ml_X12_365 (c_M_lay ((20 : Int), (0 : Int)) 20 0 w_22 hR2 (by omega) (stp_c (by decide))) (by omega) 141 cf_X12 rfl sh_141 rfl rfl rfl (Nat.le_of_ble_eq_true rfl) ?_)))
          rintro r_34 w_l2 ⟨rfl, hf2, hS2, hg2, hj2⟩
          have hl2 := hS2.lt
          have hpv2 := hS2.pv
          skip
          refine s_goto 9 dX12_every_37 (by decide) ?_
          exact ih w_l2 (D2 ++ [((20 : Int), (0 : Int))]) R2 g (((hF.tr hf1).tr hG2).tr hf2) (hg2.trans (hg92.trans (hg1.trans hg))) (hS2.wk (by omega)) (by omega) (hX.trans ((evW_s (by omega)).trans (bnd_on hD2))) (by omega)
        · skip
          obtain ⟨e9, he, hF9, h39, h49⟩ := hz_22.no (by omega)
          refine s_iconst dX12_every_28 (by decide) (n_zret dX12_every_29 hR rfl (by first | exact Or.inl rfl | exact Or.inr rfl | exact bi_01 _ | omega) ?_)
          exact ⟨_, rfl, Or.inl ⟨rfl, e9, hX.trans ((evW_s (by omega)).trans (bnd_in he)), ((hF.tr hf1)).tr hF9, h39, h49⟩⟩
  refine s_aload_n dX12_every_0 0 rfl rfl (n_invV' (as := []) dX12_every_1 kv_X12_one ml_X12_375 (h1 C S k w hS (by omega)) (by omega) 141 cf_X12 rfl sh_141 rfl rfl rfl (Nat.le_of_ble_eq_true rfl) ?_)
  rintro r_1 w_1 ⟨z_1, rfl, hz_1⟩
  show AtN _ _ ρ _ _ [(0, z_1)] w_1
  refine s_if_ne 9 dX12_every_4 (by decide) (fun c_4 => ?_) (fun c_4 => ?_)
  · skip
    obtain ⟨D1, R1, hD1, hG1, hR1, hg91⟩ := hz_1.ok (by omega)
    have hlr1 := hR1.lt.1
    have hpvr1 := hR1.pv
    have hhrr1 := hR1.hr
    exact L_9 _ w_1 D1 R1 (R1.length + 1) (FrM.rf.tr hG1) (hg91.trans rfl) (hR1.wk (by omega)) (Nat.lt_succ_self _) (bnd_on hD1) (Nat.lt_succ_self _)
  · skip
    obtain ⟨e9, he, hF9, h39, h49⟩ := hz_1.no (by omega)
    refine s_iconst dX12_every_7 (by decide) (n_zret dX12_every_8 hR rfl (by first | exact Or.inl rfl | exact Or.inr rfl | exact bi_01 _ | omega) ?_)
    exact ⟨_, rfl, Or.inl ⟨rfl, e9, bnd_in he, (FrM.rf).tr hF9, h39, h49⟩⟩

set_option maxRecDepth 100000 in
set_option maxHeartbeats 1000000 in
theorem c_M_any {K : Ky} {a r : Nat} (hr8 : r ≤ 8) (h1 : EvM K a r) (C : List Stq) (S : List Int) (k : Int) (w : Wd) (hS : MpS w K a C S (8 - (r : Int)) k) (hk : 0 ≤ k) : CallN (3 * r + 13) mX12_any [(2, 141)] w (RQ (fun z w1 => ReM w K a (8 - (r : Int)) k (anF K (onP K r) C S) z w1)) := by
  refine CallN.intro (by decide +kernel) (Nat.le_of_ble_eq_true rfl) (fun ρ hR => ?_)
  show AtN mX12_any (3 * r + 13) ρ 0 [(0, (2, 141))] [] w
  have hl9 := hS.lt.1
  have hpv9 := hS.pv
  have hhr9 := hS.hr
  have hK := hS.lt.2
  have L_9 : ∀ (fu : Nat) (v9 : Wd) (D : List Stq) (R : List Int) (f : Nat), FrM w v9 → v9 141 55 = w 141 55 → MpS v9 K a D R (8 - (r : Int)) k → R.length < f → anF K (onP K r) C S = anW K (onP K r) f D R → R.length < fu → AtN mX12_any (3 * r + 13) ρ 9 [(0, (2, 141))] [] v9 := by
    intro fu
    induction fu with
    | zero => intro v9 D R f hF hg hQ hfu hX hm; exact absurd hm (Nat.not_lt_zero _)
    | succ fu ih =>
      intro v9 D R f hF hg hQ hfu hX hm
      have hl9 := hQ.lt.1
      have hpv9 := hQ.pv
      have hhr9 := hQ.hr
      have hK := hQ.lt.2
      obtain ⟨g, rfl⟩ : ∃ g, f = g + 1 := ⟨f - 1, by omega⟩
      refine s_aload_n dX12_any_9 0 rfl rfl (n_getf 141 52 0 dX12_any_10 cf_X12 ff_X12_328 rfl sh_141 rfl (by decide) (v := (v9 141 52)) rfl (s_iconst dX12_any_13 (by decide) (s_icmp_ne 40 dX12_any_14 (by decide) (fun c_14 => ?_) (fun c_14 => ?_))))
      · skip
        have k_14 : hdK K R ≠ 260 := fun z => absurd (((MpS.tk hQ).c4).mpr z) (by omega)
        refine s_iconst dX12_any_40 (by decide) (n_zret dX12_any_41 hR rfl (by first | exact Or.inl rfl | exact Or.inr rfl | exact bi_01 _ | omega) ?_)
        exact ⟨_, rfl, Or.inr ⟨rfl, _, _, hX.trans (anW_no (by omega)), hF, hQ, hg⟩⟩
      · skip
        have k_14 : hdK K R = 260 := ((MpS.tk hQ).c4).mp (by omega)
        have kt_14 := MpS.tl hQ (by omega)
        refine s_aload_n dX12_any_17 0 rfl rfl (n_invV' (as := []) dX12_any_18 kv_X12_next0 ml_X12_352 (c_M_next v9 hQ (by omega)) (by omega) 141 cf_X12 rfl sh_141 rfl rfl rfl (Nat.le_of_ble_eq_true rfl) ?_)
        rintro r_18 w_l1 ⟨rfl, hf1, hS1, hg1, hj1⟩
        have hl1 := hS1.lt.1
        have hpv1 := hS1.pv
        have hhr1 := hS1.hr
        refine s_aload_n dX12_any_21 0 rfl rfl (n_invV' (as := []) dX12_any_22 kv_X12_every ml_X12_372 (h1 D R.tail (k + 1) w_l1 hS1 (by omega)) (by omega) 141 cf_X12 rfl sh_141 rfl rfl rfl (Nat.le_of_ble_eq_true rfl) ?_)
        rintro r_22 w_22 ⟨z_22, rfl, hz_22⟩
        show AtN _ _ ρ _ _ [(0, z_22)] w_22
        refine s_if_ne 30 dX12_any_25 (by decide) (fun c_25 => ?_) (fun c_25 => ?_)
        · skip
          obtain ⟨D2, R2, hD2, hG2, hR2, hg92⟩ := hz_22.ok (by omega)
          have hlr2 := hR2.lt.1
          have hpvr2 := hR2.pv
          have hhrr2 := hR2.hr
          have hun := (ev_gr (on_gr hK r) D _).lt (fun D h => okC_1 h) hD2
          refine s_aload_n dX12_any_30 0 rfl rfl (s_bipush dX12_any_31 (by decide) (s_iconst dX12_any_33 (by decide) (n_invV' (as := [(0, 21), (0, 0)]) dX12_any_34 kv_X12_lay ml_X12_365 (c_M_lay ((21 : Int), (0 : Int)) 21 0 w_22 hR2 (by omega) (stp_c (by decide))) (by omega) 141 cf_X12 rfl sh_141 rfl rfl rfl (Nat.le_of_ble_eq_true rfl) ?_)))
          rintro r_34 w_l2 ⟨rfl, hf2, hS2, hg2, hj2⟩
          have hl2 := hS2.lt
          have hpv2 := hS2.pv
          skip
          refine s_goto 9 dX12_any_37 (by decide) ?_
          exact ih w_l2 (D2 ++ [((21 : Int), (0 : Int))]) R2 g (((hF.tr hf1).tr hG2).tr hf2) (hg2.trans (hg92.trans (hg1.trans hg))) (hS2.wk (by omega)) (by omega) (hX.trans ((anW_s (by omega)).trans (bnd_on hD2))) (by omega)
        · skip
          obtain ⟨e9, he, hF9, h39, h49⟩ := hz_22.no (by omega)
          refine s_iconst dX12_any_28 (by decide) (n_zret dX12_any_29 hR rfl (by first | exact Or.inl rfl | exact Or.inr rfl | exact bi_01 _ | omega) ?_)
          exact ⟨_, rfl, Or.inl ⟨rfl, e9, hX.trans ((anW_s (by omega)).trans (bnd_in he)), ((hF.tr hf1)).tr hF9, h39, h49⟩⟩
  refine s_aload_n dX12_any_0 0 rfl rfl (n_invV' (as := []) dX12_any_1 kv_X12_every ml_X12_372 (h1 C S k w hS (by omega)) (by omega) 141 cf_X12 rfl sh_141 rfl rfl rfl (Nat.le_of_ble_eq_true rfl) ?_)
  rintro r_1 w_1 ⟨z_1, rfl, hz_1⟩
  show AtN _ _ ρ _ _ [(0, z_1)] w_1
  refine s_if_ne 9 dX12_any_4 (by decide) (fun c_4 => ?_) (fun c_4 => ?_)
  · skip
    obtain ⟨D1, R1, hD1, hG1, hR1, hg91⟩ := hz_1.ok (by omega)
    have hlr1 := hR1.lt.1
    have hpvr1 := hR1.pv
    have hhrr1 := hR1.hr
    exact L_9 _ w_1 D1 R1 (R1.length + 1) (FrM.rf.tr hG1) (hg91.trans rfl) (hR1.wk (by omega)) (Nat.lt_succ_self _) (bnd_on hD1) (Nat.lt_succ_self _)
  · skip
    obtain ⟨e9, he, hF9, h39, h49⟩ := hz_1.no (by omega)
    refine s_iconst dX12_any_7 (by decide) (n_zret dX12_any_8 hR rfl (by first | exact Or.inl rfl | exact Or.inr rfl | exact bi_01 _ | omega) ?_)
    exact ⟨_, rfl, Or.inl ⟨rfl, e9, bnd_in he, (FrM.rf).tr hF9, h39, h49⟩⟩

theorem c_M_both2 (K : Ky) (a : Nat) : ∀ r : Nat, r ≤ 8 → OneM K a r ∧ AnyM K a r
  | 0, h => by
    have h1 : OneM K a 0 := fun C S k w hS hk => c_M_one h (fun q => absurd q (by decide)) (fun q => absurd q (by decide)) C S k w hS hk
    have h2 : EvM K a 0 := fun C S k w hS hk => c_M_every h h1 C S k w hS hk
    exact ⟨h1, fun C S k w hS hk => c_M_any h h2 C S k w hS hk⟩
  | r + 1, h => by
    have ih := c_M_both2 K a r (by omega)
    have h1 : OneM K a (r + 1) := fun C S k w hS hk => c_M_one h (fun _ => ih.1) (fun _ => ih.2) C S k w hS hk
    have h2 : EvM K a (r + 1) := fun C S k w hS hk => c_M_every h h1 C S k w hS hk
    exact ⟨h1, fun C S k w hS hk => c_M_any h h2 C S k w hS hk⟩
