/-! THE REFERENCE READS LINES. -/
/-- the steps of lines -/
def spA (L : List Lin) : List Stq := (L.map (fun q => q.2.1 ++ q.2.2)).flatten
theorem spA_s (L : List Lin) (q : Lin) : spA (L ++ [q]) = spA L ++ (q.2.1 ++ q.2.2) := by
  unfold spA
  rw [List.map_append, List.flatten_append]
  show _ ++ ((q.2.1 ++ q.2.2) ++ []) = _
  rw [List.append_nil]
def TbM (w : Wd) (L : List Lin) : Prop := ∀ i : Nat, i < L.length → w 174 i = (lnD L i).1 ∧ w 175 i = (spA (L.take i)).length ∧ w 176 i = ((spA (L.take i)).length : Int) + (lnD L i).2.1.length
/-- the reader of lines: L is read -/
def LmS (w : Wd) (K : Ky) (L : List Lin) (S : List Int) (k : Int) : Prop := MdS w S ∧ KM' w = K ∧ FeQ w 0 (spA L) ∧ ((spA L).length : Int) + S.length + k ≤ 600 ∧ (L.length ≤ 20 ∧ w 141 48 = L.length) ∧ TbM w L
def FrA (w v : Wd) : Prop := (∀ c, c ≠ 141 → c ≠ 174 → c ≠ 175 → c ≠ 176 → c ≠ 177 → v c = w c) ∧ (∀ j : Int, j ≠ 48 → j ≠ 49 → j ≠ 51 → j ≠ 52 → j ≠ 53 → j ≠ 54 → j ≠ 55 → j ≠ 56 → j ≠ 58 → v 141 j = w 141 j) ∧ ((0 ≤ w 141 54 ∧ w 141 54 ≤ 9999) → 0 ≤ v 141 54 ∧ v 141 54 ≤ 9999)
theorem FrA.rf {w : Wd} : FrA w w := ⟨fun _ _ _ _ _ _ => rfl, fun _ _ _ _ _ _ _ _ _ _ => rfl, fun h => h⟩
theorem FrA.tr {w v u : Wd} (h : FrA w v) (h2 : FrA v u) : FrA w u := ⟨fun c a b d e f => (h2.1 c a b d e f).trans (h.1 c a b d e f), fun j a b c d e f g i l => (h2.2.1 j a b c d e f g i l).trans (h.2.1 j a b c d e f g i l), fun q => h2.2.2 (h.2.2 q)⟩
theorem FrM.A {w v : Wd} (h : FrM w v) : FrA w v := ⟨fun c a _ _ _ b => h.1 c a b, fun j _ b c d e f g i l => h.2.1 j b c d e f g i l, h.2.2.2.2⟩
theorem FrA.w3 {w : Wd} {i x y : Int} : FrA w (wu (wu (wu w 174 i x) 175 i y) 141 58 0) := ⟨fun c a b d _ _ => by rw [wu_ne a, wu_ne d, wu_ne b], fun j _ _ _ _ _ _ _ _ l => by rw [wu_f l, wu_ne (by decide), wu_ne (by decide)], fun q => by rw [wu_f (by decide), wu_ne (by decide), wu_ne (by decide)]; exact q⟩
theorem FrA.w6 {w : Wd} {i x : Int} : FrA w (wu w 176 i x) := ⟨fun c _ _ _ a _ => wu_ne a, fun j _ _ _ _ _ _ _ _ _ => by rw [wu_ne (by decide)], fun q => by rw [wu_ne (by decide)]; exact q⟩
theorem FrA.w8 {w : Wd} {x : Int} : FrA w (wu w 141 48 x) := ⟨fun c a _ _ _ _ => wu_ne a, fun j a _ _ _ _ _ _ _ _ => wu_f a, fun q => by rw [wu_f (by decide)]; exact q⟩
theorem MpS.cells {w v : Wd} {K : Ky} {a : Nat} {C : List Stq} {S : List Int} {d d2 k : Int} (h : MpS w K a C S d k) (e0 : v 178 = w 178) (e1 : v 177 = w 177) (e2 : ∀ j : Int, j = 49 ∨ j = 50 ∨ (51 ≤ j ∧ j ≤ 54) → v 141 j = w 141 j) (e3 : v 141 58 = d2) : MpS v K a C S d2 k := by
  obtain ⟨h1, h2, h3, h4, h5⟩ := h
  refine ⟨?_, ?_, ?_, e3, h5⟩
  · unfold MdS PoM TxM KM' at h1 ⊢
    rw [e0, e2 50 (by omega), e2 51 (by omega), e2 52 (by omega), e2 53 (by omega), e2 54 (by omega)]
    exact h1
  · rw [← h2]
    unfold KM'
    rw [e0, e2 50 (by omega)]
  · unfold FeQ at h3 ⊢
    rw [e1, e2 49 (by omega)]
    exact h3
theorem MpS.w6 {w : Wd} {K : Ky} {a : Nat} {C : List Stq} {S : List Int} {d k i x : Int} (h : MpS w K a C S d k) : MpS (wu w 176 i x) K a C S d k := h.cells (wu_ne (by decide)) (wu_ne (by decide)) (fun j _ => by rw [wu_ne (by decide)]) (by rw [wu_ne (by decide)]; exact h.2.2.2.1)
theorem MpS.w8 {w : Wd} {K : Ky} {a : Nat} {C : List Stq} {S : List Int} {d k x : Int} (h : MpS w K a C S d k) : MpS (wu w 141 48 x) K a C S d k := h.cells (wu_ne (by decide)) (wu_ne (by decide)) (fun j hj => wu_f (by omega)) (by rw [wu_f (by decide)]; exact h.2.2.2.1)
/-- the steps so far count as others -/
theorem MpS.reb {w : Wd} {K : Ky} {a : Nat} {C : List Stq} {S : List Int} {d k : Int} (h : MpS w K a C S d k) : MpS w K (a + C.length) [] S d k := by
  obtain ⟨h1, h2, h3, h4, h5⟩ := h
  refine ⟨h1, h2, ⟨?_, fun j hj => absurd hj (Nat.not_lt_zero j)⟩, h4, ?_⟩
  · rw [h3.1]
    show (a : Int) + C.length = ((a + C.length : Nat) : Int) + ((0 : Nat) : Int)
    omega
  · show ((a + C.length : Nat) : Int) + ((0 : Nat) : Int) + S.length + k ≤ 600
    omega
theorem LmS.ini {w : Wd} {K : Ky} {L : List Lin} {S : List Int} {k i x : Int} (h : LmS w K L S k) : MpS (wu (wu (wu w 174 i x) 175 i (w 141 49)) 141 58 0) K (spA L).length [] S (8 - ((8 : Nat) : Int)) k := by
  obtain ⟨h1, h2, h3, h4, h5, h6⟩ := h
  have h0 : MpS w K (spA L).length [] S (w 141 58) k := ⟨h1, h2, ⟨by rw [h3.1]; rw [show (((spA L).length : Nat) : Int) + (([] : List Stq).length : Nat) = (((spA L).length : Nat) : Int) from Int.add_zero _]; rw [show ((0 : Nat) : Int) + ((spA L).length : Nat) = (((spA L).length : Nat) : Int) from Int.zero_add _], fun j hj => absurd hj (Nat.not_lt_zero j)⟩, rfl, by show (((spA L).length : Nat) : Int) + ((0 : Nat) : Int) + S.length + k ≤ 600; omega⟩
  exact h0.cells (by rw [wu_ne (by decide), wu_ne (by decide), wu_ne (by decide)]) (by rw [wu_ne (by decide), wu_ne (by decide), wu_ne (by decide)]) (fun j hj => by rw [wu_f (by omega), wu_ne (by decide), wu_ne (by decide)]) (wu_same ..)
theorem FeQ.app {w v : Wd} {A B : List Stq} (hA : FeQ w 0 A) (hf : ∀ i : Int, i < 2 * A.length → v 177 i = w 177 i) (hB : FeQ v A.length B) : FeQ v 0 (A ++ B) := by
  refine ⟨?_, fun j hj => ?_⟩
  · rw [hB.1, List.length_append]
    show _ = ((0 : Nat) : Int) + ((A.length + B.length : Nat) : Int)
    omega
  · rw [List.length_append] at hj
    by_cases e : j < A.length
    · have e9 : (A ++ B).getD j (0, 0) = A.getD j (0, 0) := by
        rw [List.getD_eq_getElem?_getD, List.getD_eq_getElem?_getD, List.getElem?_append_left e]
      rw [e9, hf _ (by omega), hf _ (by omega)]
      exact hA.2 j e
    · have e9 : (A ++ B).getD j (0, 0) = B.getD (j - A.length) (0, 0) := by
        rw [List.getD_eq_getElem?_getD, List.getD_eq_getElem?_getD, List.getElem?_append_right (by omega)]
      have h := hB.2 (j - A.length) (by omega)
      rw [e9]
      rw [show ((A.length : Nat) : Int) + ((j - A.length : Nat) : Int) = ((0 : Nat) : Int) + (j : Int) by omega] at h
      exact h
theorem FeQ.app2 {v : Wd} {a : Nat} {A B : List Stq} {w : Wd} (hA : FeQ w a A) (hf : ∀ i : Int, i < 2 * w 141 49 → v 177 i = w 177 i) (hB : FeQ v (a + A.length) B) : FeQ v a (A ++ B) := by
  have h49 := hA.1
  refine ⟨?_, fun j hj => ?_⟩
  · rw [hB.1, List.length_append]
    omega
  · rw [List.length_append] at hj
    by_cases e : j < A.length
    · have e9 : (A ++ B).getD j (0, 0) = A.getD j (0, 0) := by
        rw [List.getD_eq_getElem?_getD, List.getD_eq_getElem?_getD, List.getElem?_append_left e]
      rw [e9, hf _ (by omega), hf _ (by omega)]
      exact hA.2 j e
    · have e9 : (A ++ B).getD j (0, 0) = B.getD (j - A.length) (0, 0) := by
        rw [List.getD_eq_getElem?_getD, List.getD_eq_getElem?_getD, List.getElem?_append_right (by omega)]
      have h := hB.2 (j - A.length) (by omega)
      rw [e9]
      rw [show ((a + A.length : Nat) : Int) + ((j - A.length : Nat) : Int) = (a : Int) + (j : Int) by omega] at h
      exact h
/-- the line's places -/
theorem LmS.mk {w w1 : Wd} {K : Ky} {L : List Lin} {S R : List Int} {k : Int} {q : Lin} (h : LmS w K L S k) (hl : L.length < 20) (hm : MdS w1 R) (hK : KM' w1 = K) (hfr : ∀ i : Int, i < 2 * w 141 49 → w1 177 i = w 177 i) (hq : FeQ w1 (spA L).length (q.2.1 ++ q.2.2)) (hs : ((spA L).length : Int) + (q.2.1 ++ q.2.2).length + R.length + k ≤ 600) (h48 : w1 141 48 = w 141 48 + 1) (h174 : ∀ i, w1 174 i = if i = w 141 48 then q.1 else w 174 i) (h175 : ∀ i, w1 175 i = if i = w 141 48 then w 141 49 else w 175 i) (h176 : ∀ i, w1 176 i = if i = w 141 48 then w 141 49 + q.2.1.length else w 176 i) : LmS w1 K (L ++ [q]) R k := by
  obtain ⟨h1, h2, h3, h4, h5, h6⟩ := h
  have hlen : (L ++ [q]).length = L.length + 1 := by rw [List.length_append]; rfl
  have h49 : w 141 49 = (spA L).length := by rw [h3.1]; exact Int.zero_add _
  refine ⟨hm, hK, ?_, ?_, ⟨by omega, by rw [h48, h5.2, hlen]; rfl⟩, fun i hi => ?_⟩
  · rw [spA_s]
    exact h3.app (fun i hi => hfr i (by omega)) hq
  · rw [spA_s, List.length_append]
    show (((spA L).length + (q.2.1 ++ q.2.2).length : Nat) : Int) + R.length + k ≤ 600
    omega
  · rw [h174, h175, h176]
    by_cases e : i = L.length
    · subst e
      have e1 : lnD (L ++ [q]) L.length = q := by
        unfold lnD
        rw [List.getD_eq_getElem?_getD, List.getElem?_append_right (Nat.le_refl _), Nat.sub_self]
        rfl
      rw [e1, List.take_left, if_pos h5.2.symm, if_pos h5.2.symm, if_pos h5.2.symm, h49]
      exact ⟨rfl, rfl, rfl⟩
    · have hi2 : i < L.length := by omega
      have e1 : lnD (L ++ [q]) i = lnD L i := by
        unfold lnD
        rw [List.getD_eq_getElem?_getD, List.getD_eq_getElem?_getD, List.getElem?_append_left hi2]
      rw [e1, List.take_append_of_le_length (by omega), if_neg (by omega), if_neg (by omega), if_neg (by omega)]
      exact h6 i hi2
def LaQ (w : Wd) (K : Ky) (L : List Lin) (S : List Int) (k : Int) (z : Int) (w1 : Wd) : Prop := (z = 0 ∧ ∃ e, lnP K L.length S = .inl e ∧ FrA w w1 ∧ w1 141 55 = e.1 ∧ w1 141 56 = e.2) ∨ (z = 1 ∧ ∃ q R, lnP K L.length S = .inr (q, R) ∧ FrA w w1 ∧ LmS w1 K (L ++ [q]) R k ∧ w1 141 55 = w 141 55)
theorem ndP_5 {K : Ky} {k : Int} {D : List Stq} {R : List Int} (h : hdK K R = k) : ndP K k D R = okR D R.tail := if_pos h

set_option maxRecDepth 100000 in
set_option maxHeartbeats 4000000 in
theorem c_M_aLine {K : Ky} {L : List Lin} {S : List Int} {k : Int} (w : Wd) (hS : LmS w K L S k) (hk : 0 ≤ k) : CallN 38 mX12_aLine [(2, 141)] w (RQ (fun z w1 => LaQ w K L S k z w1)) := by
  refine CallN.intro (by decide +kernel) (Nat.le_of_ble_eq_true rfl) (fun ρ hR => ?_)
  show AtN mX12_aLine 38 ρ 0 [(0, (2, 141))] [] w
  have hS0 : MpS w K 0 (spA L) S (w 141 58) k := ⟨hS.1, hS.2.1, hS.2.2.1, rfl, by have := hS.2.2.2.1; show ((0 : Nat) : Int) + _ + _ + k ≤ 600; omega⟩
  have hpv9 := hS0.pv
  have hhr9 := hS0.hr
  have hl9 := hS0.lt.1
  have hK := hS0.lt.2
  have h20 := hS.2.2.2.2.1
  refine s_aload_n dX12_aLine_0 0 rfl rfl (n_getf 141 52 0 dX12_aLine_1 cf_X12 ff_X12_328 rfl sh_141 rfl (by decide) (v := (w 141 52)) rfl (s_sipush dX12_aLine_4 (by decide) (s_sipush dX12_aLine_7 (by decide) (n_invS (as := [(0, (w 141 52)), (0, 301), (0, 303)]) dX12_aLine_10 kv_X12_isIn ml_X12_223 (c_isIn (w 141 52) 301 303 w) (by decide) rfl rfl (Nat.le_of_ble_eq_true rfl) (n_ifne_b 22 dX12_aLine_13 (by decide) (fun c_13 => ?_) (fun c_13 => ?_))))))
  · skip
    have hk13 := hS0.tk.c301.mp c_13
    have hk13v := hS0.tk.c301v hk13
    have kt13 := hS0.tl (by omega)
    refine s_aload_n dX12_aLine_22 0 rfl rfl (n_getf 141 48 0 dX12_aLine_23 cf_X12 ff_X12_390 rfl sh_141 rfl (by decide) (v := (w 141 48)) rfl (s_bipush dX12_aLine_26 (by decide) (s_icmp_ne 37 dX12_aLine_28 (by decide) (fun c_28 => ?_) (fun c_28 => ?_))))
    · skip
      refine s_aload_n dX12_aLine_37 0 rfl rfl (n_getf 141 48 0 dX12_aLine_38 cf_X12 ff_X12_390 rfl sh_141 rfl (by decide) (v := (w 141 48)) rfl (s_istore_n (ls' := [(0, (2, 141)), (1, (0, (w 141 48)))]) dX12_aLine_41 (Nat.le_of_ble_eq_true rfl) rfl (s_aload_n dX12_aLine_42 0 rfl rfl (n_getc (q := 174) 141 42 184 dX12_aLine_43 cf_X12 ff_X12_107 rfl sh_141 rfl (by decide) rfl (by decide) (s_iload_n dX12_aLine_46 1 rfl (s_aload_n dX12_aLine_47 0 rfl rfl (n_getf 141 52 0 dX12_aLine_48 cf_X12 ff_X12_328 rfl sh_141 rfl (by decide) (v := (w 141 52)) rfl (s_sipush dX12_aLine_51 (by decide) (n_sub (z := ((w 141 52) - 301)) dX12_aLine_54 (wr_id (by omega) (by omega)) ?_)))))))))
      refine s_iastore 174 dX12_aLine_55 rfl sh_174 (by decide) ⟨(by omega), (by omega)⟩ (s_aload_n dX12_aLine_56 0 rfl rfl (n_getc (q := 175) 141 43 185 dX12_aLine_57 cf_X12 ff_X12_110 rfl sh_141 rfl (by decide) rfl (by decide) (s_iload_n dX12_aLine_60 1 rfl (s_aload_n dX12_aLine_61 0 rfl rfl (n_getf 141 49 0 dX12_aLine_62 cf_X12 ff_X12_355 rfl sh_141 rfl (by decide) (v := (w 141 49)) rfl (s_iastore 175 dX12_aLine_65 rfl sh_175 (by decide) ⟨(by omega), (by omega)⟩ (s_aload_n dX12_aLine_66 0 rfl rfl (s_iconst dX12_aLine_67 (by decide) (n_putf 141 58 58 dX12_aLine_68 cf_X12 ff_X12_358 rfl rfl sh_141 rfl rfl rfl ?_)))))))))
      have hS3 : MpS (wu (wu (wu w 174 (w 141 48) ((w 141 52) - 301)) 175 (w 141 48) (w 141 49)) 141 58 0) K (spA L).length [] S (8 - ((8 : Nat) : Int)) k := hS.ini
      have hg3 : (wu (wu (wu w 174 (w 141 48) ((w 141 52) - 301)) 175 (w 141 48) (w 141 49)) 141 58 0) 141 55 = w 141 55 := by rw [wu_f (by decide), wu_ne (by decide), wu_ne (by decide)]
      have h48 : (wu (wu (wu w 174 (w 141 48) ((w 141 52) - 301)) 175 (w 141 48) (w 141 49)) 141 58 0) 141 48 = w 141 48 := by rw [wu_f (by decide), wu_ne (by decide), wu_ne (by decide)]
      have h174 : ∀ i, (wu (wu (wu w 174 (w 141 48) ((w 141 52) - 301)) 175 (w 141 48) (w 141 49)) 141 58 0) 174 i = if i = w 141 48 then hdK K S - 256 else w 174 i := fun i => by rw [wu_ne (by decide), wu_ne (by decide), wu_at, show w 141 52 - 301 = hdK K S - 256 by have := hk13v; omega]
      have h175 : ∀ i, (wu (wu (wu w 174 (w 141 48) ((w 141 52) - 301)) 175 (w 141 48) (w 141 49)) 141 58 0) 175 i = if i = w 141 48 then w 141 49 else w 175 i := fun i => by rw [wu_ne (by decide), wu_at]; rfl
      refine s_aload_n dX12_aLine_71 0 rfl rfl (n_invV' (as := []) dX12_aLine_72 kv_X12_next0 ml_X12_352 (c_M_next (wu (wu (wu w 174 (w 141 48) ((w 141 52) - 301)) 175 (w 141 48) (w 141 49)) 141 58 0) hS3 (by omega)) (by decide) 141 cf_X12 rfl sh_141 rfl rfl rfl (Nat.le_of_ble_eq_true rfl) ?_)
      rintro r_72 w_l1 ⟨rfl, hf1, hS1, hg1, hj1⟩
      have hl1 := hS1.lt.1
      have hpv1 := hS1.pv
      have hhr1 := hS1.hr
      have e174 : w_l1 174 (w 141 48) = hdK K S - 256 := by rw [hf1.1 174 (by decide) (by decide), h174, if_pos rfl]
      have e141 : w_l1 141 48 = w 141 48 := (hf1.2.1 48 (by decide) (by decide) (by decide) (by decide) (by decide) (by decide) (by decide) (by decide)).trans h48
      refine s_aload_n dX12_aLine_75 0 rfl rfl (n_getc (q := 174) 141 42 184 dX12_aLine_76 cf_X12 ff_X12_107 rfl sh_141 rfl (by decide) rfl (by decide) (s_iload_n dX12_aLine_79 1 rfl (n_iald 174 dX12_aLine_80 rfl sh_174 (by decide) ⟨(by omega), (by omega)⟩ (v := (w_l1 174 (w 141 48))) rfl ?_)))
      rw [e174]
      refine s_if_le 93 dX12_aLine_81 (by decide) (fun c_81 => ?_) (fun c_81 => ?_)
      · skip
        refine s_aload_n dX12_aLine_93 0 rfl rfl (n_getc (q := 176) 141 44 186 dX12_aLine_94 cf_X12 ff_X12_113 rfl sh_141 rfl (by decide) rfl (by decide) (s_iload_n dX12_aLine_97 1 rfl (s_aload_n dX12_aLine_98 0 rfl rfl (n_getf 141 49 0 dX12_aLine_99 cf_X12 ff_X12_355 rfl sh_141 rfl (by decide) (v := (w_l1 141 49)) rfl (s_iastore 176 dX12_aLine_102 rfl sh_176 (by decide) ⟨(by omega), (by omega)⟩ ?_)))))
        have f1A : FrM (wu (wu (wu w 174 (w 141 48) (w 141 52 - 301)) 175 (w 141 48) (w 141 49)) 141 58 0) w_l1 := (FrM.rf.tr hf1)
        have t174 : ∀ i, (wu w_l1 176 (w 141 48) (w_l1 141 49)) 174 i = if i = w 141 48 then hdK K S - 256 else w 174 i := fun i => by rw [wu_ne (by decide), f1A.1 174 (by decide) (by decide), h174]
        have t175 : ∀ i, (wu w_l1 176 (w 141 48) (w_l1 141 49)) 175 i = if i = w 141 48 then w 141 49 else w 175 i := fun i => by rw [wu_ne (by decide), f1A.1 175 (by decide) (by decide), h175]
        have t176 : ∀ i, (wu w_l1 176 (w 141 48) (w_l1 141 49)) 176 i = if i = w 141 48 then w_l1 141 49 else w 176 i := fun i => by rw [wu_at, f1A.1 176 (by decide) (by decide), wu_ne (by decide), wu_ne (by decide), wu_ne (by decide)]
        have t48 : (wu w_l1 176 (w 141 48) (w_l1 141 49)) 141 48 = w 141 48 := by rw [wu_ne (by decide)]; exact (f1A.2.1 48 (by decide) (by decide) (by decide) (by decide) (by decide) (by decide) (by decide) (by decide)).trans h48
        have e174b : w_l1 174 (w 141 48) = hdK K S - 256 := by rw [f1A.1 174 (by decide) (by decide), h174, if_pos rfl]
        have hSw : MpS (wu w_l1 176 (w 141 48) (w_l1 141 49)) K ((spA L).length + ([] : List Stq).length) [] S.tail (8 - ((8 : Nat) : Int)) (k + 1) := (hS1.reb).w6
        have e52b : (wu w_l1 176 (w 141 48) (w_l1 141 49)) 141 52 = w_l1 141 52 := by rw [wu_ne (by decide)]
        have hlw := hSw.lt.1
        have hpvw := hSw.pv
        have hhrw := hSw.hr
        refine s_aload_n dX12_aLine_103 0 rfl rfl (n_getc (q := 174) 141 42 184 dX12_aLine_104 cf_X12 ff_X12_107 rfl sh_141 rfl (by decide) rfl (by decide) (s_iload_n dX12_aLine_107 1 rfl (n_iald 174 dX12_aLine_108 rfl sh_174 (by decide) ⟨(by omega), (by omega)⟩ (v := (w_l1 174 (w 141 48))) rfl ?_)))
        rw [e174b]
        refine s_if_ne 121 dX12_aLine_109 (by decide) (fun c_109 => ?_) (fun c_109 => ?_)
        · skip
          exfalso
          omega
        · skip
          skip
          refine s_aload_n dX12_aLine_112 0 rfl rfl (n_invV' (as := []) dX12_aLine_113 kv_X12_any ml_X12_381 (show CallN 37 mX12_any [(2, 141)] (wu w_l1 176 (w 141 48) (w_l1 141 49)) (RQ (fun z w1 => ReM (wu w_l1 176 (w 141 48) (w_l1 141 49)) K ((spA L).length + ([] : List Stq).length) (8 - ((8 : Nat) : Int)) (k + 1) (anF K (onP K 8) [] S.tail) z w1)) from (c_M_both2 K _ 8 (by decide)).2 [] S.tail (k + 1) (wu w_l1 176 (w 141 48) (w_l1 141 49)) (hSw) (by omega)) (by decide) 141 cf_X12 rfl sh_141 rfl rfl rfl (Nat.le_of_ble_eq_true rfl) ?_)
          rintro r_113 w_113 ⟨z_113, rfl, hz_113⟩
          show AtN _ _ ρ _ _ [(0, z_113)] w_113
          refine s_if_ne 142 dX12_aLine_116 (by decide) (fun c_116 => ?_) (fun c_116 => ?_)
          · skip
            obtain ⟨D2, R2, hD2, hG2, hR2, hg92⟩ := hz_113.ok (by omega)
            have hlr2 := hR2.lt.1
            have hpvr2 := hR2.pv
            have hhrr2 := hR2.hr
            have q48 : w_113 141 48 = w 141 48 := (((FrM.rf.tr hG2) : FrM (wu w_l1 176 (w 141 48) (w_l1 141 49)) w_113).2.1 48 (by decide) (by decide) (by decide) (by decide) (by decide) (by decide) (by decide) (by decide)).trans t48
            refine s_aload_n dX12_aLine_142 0 rfl rfl (s_dup dX12_aLine_143 (show (2 : Nat) ≠ 1 by decide) (n_getf 141 48 0 dX12_aLine_144 cf_X12 ff_X12_390 rfl sh_141 rfl (by decide) (v := (w_113 141 48)) rfl (s_iconst dX12_aLine_147 (by decide) (n_add (z := ((w_113 141 48) + 1)) dX12_aLine_148 (wr_id (by omega) (by omega)) (n_putf 141 48 48 dX12_aLine_149 cf_X12 ff_X12_390 rfl rfl sh_141 rfl rfl rfl ?_)))))
            have f2A : FrM (wu w_l1 176 (w 141 48) (w_l1 141 49)) w_113 := (FrM.rf.tr hG2)
            refine s_aload_n dX12_aLine_152 0 rfl rfl (s_bipush dX12_aLine_153 (by decide) (n_invV' (as := [(0, 59)]) dX12_aLine_155 kv_X12_need ml_X12_384 (c_M_need (a := ((spA L).length + ([] : List Stq).length)) (C := D2) 59 (wu w_113 141 48 ((w_113 141 48) + 1)) (hR2.w8) (by decide)) (by decide) 141 cf_X12 rfl sh_141 rfl rfl rfl (Nat.le_of_ble_eq_true rfl) ?_))
            rintro r_155 w_155 ⟨z_155, rfl, hz_155⟩
            show AtN _ _ ρ _ _ [(0, z_155)] w_155
            unfold NdQ at hz_155
            refine n_zret dX12_aLine_158 hR rfl (by first | exact Or.inl rfl | exact Or.inr rfl | exact bi_01 _ | omega) ?_
            rcases hz_155 with ⟨y1, y2, y3, y4, y5⟩ | ⟨y1, y2, y3, y4, y5⟩
            · exact ⟨_, rfl, Or.inl ⟨y1, (1, plK K R2), lnP_bi (by omega) (by omega) ((bnd_on hD2).trans (ndP_no y2)), (((((FrA.w3).tr (((FrM.rf.tr hf1)).A.tr FrA.w6))).tr (((FrM.rf.tr hG2)).A.tr FrA.w8))).tr y3.A, y4, y5⟩⟩
            · have f3 : FrM (wu w_113 141 48 ((w_113 141 48) + 1)) w_155 := y3
              have g49 : w_l1 141 49 = ((spA L).length : Int) + ([] : List Stq).length := hS1.2.2.1.1
              have hle1 := f1A.2.2.2.1
              have e49 : (wu (wu (wu w 174 (w 141 48) (w 141 52 - 301)) 175 (w 141 48) (w 141 49)) 141 58 0) 141 49 = w 141 49 := by rw [wu_f (by decide), wu_ne (by decide), wu_ne (by decide)]
              have e176w : (wu w_l1 176 (w 141 48) (w_l1 141 49)) 141 49 = w_l1 141 49 := by rw [wu_ne (by decide)]
              have hle2 := f2A.2.2.2.1
              have e48w : (wu w_113 141 48 ((w_113 141 48) + 1)) 141 49 = w_113 141 49 := wu_f (by decide)
              have w49 : w 141 49 = (spA L).length := by rw [hS.2.2.1.1]; exact Int.zero_add _
              have c177 : ∀ i, i < 2 * w_l1 141 49 → w_155 177 i = w_l1 177 i := fun i hi => by
                rw [f3.2.2.1 i (by omega), wu_ne (by decide), f2A.2.2.1 i (by omega), wu_ne (by decide)]
              refine ⟨_, rfl, Or.inr ⟨y1, ((0 : Int), ([] : List Stq), D2), _, lnP_bo (by omega) (by omega) ((bnd_on hD2).trans (ndP_5 y2)), (((((FrA.w3).tr (((FrM.rf.tr hf1)).A.tr FrA.w6))).tr (((FrM.rf.tr hG2)).A.tr FrA.w8))).tr y3.A, LmS.mk (q := ((0 : Int), ([] : List Stq), D2)) hS (by omega) y4.1 y4.2.1 (fun i hi => ?_) ?_ ?_ ?_ (fun i => ?_) (fun i => ?_) (fun i => ?_), y5.trans ((wu_f (by decide)).trans (hg92.trans ((show (wu w_l1 176 (w 141 48) (w_l1 141 49)) 141 55 = w_l1 141 55 from by rw [wu_ne (by decide)]).trans (hg1.trans hg3))))⟩⟩
              · rw [c177 i (by omega), f1A.2.2.1 i (by omega), wu_ne (by decide), wu_ne (by decide), wu_ne (by decide)]
              · exact FeQ.app2 (w := w_l1) hS1.2.2.1 c177 y4.2.2.1
              · have h9 := y4.2.2.2.2
                simp only [List.length_append, List.length_nil] at h9 ⊢
                omega
              · rw [f3.2.1 48 (by decide) (by decide) (by decide) (by decide) (by decide) (by decide) (by decide) (by decide), wu_same, q48]
              · rw [f3.1 174 (by decide) (by decide), wu_ne (by decide), f2A.1 174 (by decide) (by decide)]
                first
                | exact t174 i
                | (rw [t174]
                   split
                   · dsimp only; omega
                   · rfl)
              · rw [f3.1 175 (by decide) (by decide), wu_ne (by decide), f2A.1 175 (by decide) (by decide), t175]
              · rw [f3.1 176 (by decide) (by decide), wu_ne (by decide), f2A.1 176 (by decide) (by decide), t176, g49, w49]
          · skip
            obtain ⟨e9, he, hF9, h39, h49⟩ := hz_113.no (by omega)
            refine s_iconst dX12_aLine_119 (by decide) (n_zret dX12_aLine_120 hR rfl (by first | exact Or.inl rfl | exact Or.inr rfl | exact bi_01 _ | omega) ?_)
            exact ⟨_, rfl, Or.inl ⟨rfl, e9, lnP_bi (by omega) (by omega) (bnd_in he), (((FrA.w3).tr (((FrM.rf.tr hf1)).A.tr FrA.w6))).tr ((FrM.rf).tr hF9).A, h39, h49⟩⟩
      · skip
        refine s_aload_n dX12_aLine_84 0 rfl rfl (n_invV' (as := []) dX12_aLine_85 kv_X12_sumUp ml_X12_387 (c_M_sumUp w_l1 hS1 (by omega)) (by decide) 141 cf_X12 rfl sh_141 rfl rfl rfl (Nat.le_of_ble_eq_true rfl) ?_)
        rintro r_85 w_85 ⟨z_85, rfl, hz_85⟩
        show AtN _ _ ρ _ _ [(0, z_85)] w_85
        refine s_if_ne 93 dX12_aLine_88 (by decide) (fun c_88 => ?_) (fun c_88 => ?_)
        · skip
          obtain ⟨D1, R1, hD1, hG1, hR1, hg91⟩ := hz_85.ok (by omega)
          have hlr1 := hR1.lt.1
          have hpvr1 := hR1.pv
          have hhrr1 := hR1.hr
          refine s_aload_n dX12_aLine_93 0 rfl rfl (n_getc (q := 176) 141 44 186 dX12_aLine_94 cf_X12 ff_X12_113 rfl sh_141 rfl (by decide) rfl (by decide) (s_iload_n dX12_aLine_97 1 rfl (s_aload_n dX12_aLine_98 0 rfl rfl (n_getf 141 49 0 dX12_aLine_99 cf_X12 ff_X12_355 rfl sh_141 rfl (by decide) (v := (w_85 141 49)) rfl (s_iastore 176 dX12_aLine_102 rfl sh_176 (by decide) ⟨(by omega), (by omega)⟩ ?_)))))
          have f1A : FrM (wu (wu (wu w 174 (w 141 48) (w 141 52 - 301)) 175 (w 141 48) (w 141 49)) 141 58 0) w_85 := ((FrM.rf.tr hf1).tr hG1)
          have t174 : ∀ i, (wu w_85 176 (w 141 48) (w_85 141 49)) 174 i = if i = w 141 48 then hdK K S - 256 else w 174 i := fun i => by rw [wu_ne (by decide), f1A.1 174 (by decide) (by decide), h174]
          have t175 : ∀ i, (wu w_85 176 (w 141 48) (w_85 141 49)) 175 i = if i = w 141 48 then w 141 49 else w 175 i := fun i => by rw [wu_ne (by decide), f1A.1 175 (by decide) (by decide), h175]
          have t176 : ∀ i, (wu w_85 176 (w 141 48) (w_85 141 49)) 176 i = if i = w 141 48 then w_85 141 49 else w 176 i := fun i => by rw [wu_at, f1A.1 176 (by decide) (by decide), wu_ne (by decide), wu_ne (by decide), wu_ne (by decide)]
          have t48 : (wu w_85 176 (w 141 48) (w_85 141 49)) 141 48 = w 141 48 := by rw [wu_ne (by decide)]; exact (f1A.2.1 48 (by decide) (by decide) (by decide) (by decide) (by decide) (by decide) (by decide) (by decide)).trans h48
          have e174b : w_85 174 (w 141 48) = hdK K S - 256 := by rw [f1A.1 174 (by decide) (by decide), h174, if_pos rfl]
          have hSw : MpS (wu w_85 176 (w 141 48) (w_85 141 49)) K ((spA L).length + (D1 : List Stq).length) [] R1 (8 - ((8 : Nat) : Int)) (k + 1) := (hR1.reb).w6
          have e52b : (wu w_85 176 (w 141 48) (w_85 141 49)) 141 52 = w_85 141 52 := by rw [wu_ne (by decide)]
          have hlw := hSw.lt.1
          have hpvw := hSw.pv
          have hhrw := hSw.hr
          refine s_aload_n dX12_aLine_103 0 rfl rfl (n_getc (q := 174) 141 42 184 dX12_aLine_104 cf_X12 ff_X12_107 rfl sh_141 rfl (by decide) rfl (by decide) (s_iload_n dX12_aLine_107 1 rfl (n_iald 174 dX12_aLine_108 rfl sh_174 (by decide) ⟨(by omega), (by omega)⟩ (v := (w_85 174 (w 141 48))) rfl ?_)))
          rw [e174b]
          refine s_if_ne 121 dX12_aLine_109 (by decide) (fun c_109 => ?_) (fun c_109 => ?_)
          · skip
            skip
            refine s_aload_n dX12_aLine_121 0 rfl rfl (n_getf 141 52 0 dX12_aLine_122 cf_X12 ff_X12_328 rfl sh_141 rfl (by decide) (v := (w_85 141 52)) rfl (s_iconst dX12_aLine_125 (by decide) (s_icmp_ne 142 dX12_aLine_126 (by decide) (fun c_126 => ?_) (fun c_126 => ?_))))
            · skip
              have k_126 : hdK K R1 ≠ 259 := fun z => absurd (((MpS.tk hSw).c3).mpr z) (by omega)
              have q48 : w_85 141 48 = w 141 48 := by
                have h9 := t48
                rw [wu_ne (by decide)] at h9
                exact h9
              refine s_aload_n dX12_aLine_142 0 rfl rfl (s_dup dX12_aLine_143 (show (2 : Nat) ≠ 1 by decide) (n_getf 141 48 0 dX12_aLine_144 cf_X12 ff_X12_390 rfl sh_141 rfl (by decide) (v := (w_85 141 48)) rfl (s_iconst dX12_aLine_147 (by decide) (n_add (z := ((w_85 141 48) + 1)) dX12_aLine_148 (wr_id (by omega) (by omega)) (n_putf 141 48 48 dX12_aLine_149 cf_X12 ff_X12_390 rfl rfl sh_141 rfl rfl rfl ?_)))))
              have f2A : FrM (wu w_85 176 (w 141 48) (w_85 141 49)) (wu w_85 176 (w 141 48) (w_85 141 49)) := FrM.rf
              refine s_aload_n dX12_aLine_152 0 rfl rfl (s_bipush dX12_aLine_153 (by decide) (n_invV' (as := [(0, 59)]) dX12_aLine_155 kv_X12_need ml_X12_384 (c_M_need (a := ((spA L).length + (D1 : List Stq).length)) (C := []) 59 (wu (wu w_85 176 (w 141 48) (w_85 141 49)) 141 48 ((w_85 141 48) + 1)) (hSw.w8) (by decide)) (by decide) 141 cf_X12 rfl sh_141 rfl rfl rfl (Nat.le_of_ble_eq_true rfl) ?_))
              rintro r_155 w_155 ⟨z_155, rfl, hz_155⟩
              show AtN _ _ ρ _ _ [(0, z_155)] w_155
              unfold NdQ at hz_155
              refine n_zret dX12_aLine_158 hR rfl (by first | exact Or.inl rfl | exact Or.inr rfl | exact bi_01 _ | omega) ?_
              rcases hz_155 with ⟨y1, y2, y3, y4, y5⟩ | ⟨y1, y2, y3, y4, y5⟩
              · exact ⟨_, rfl, Or.inl ⟨y1, (1, plK K R1), lnP_ni (by omega) (by omega) (by omega) hD1 (by omega) y2, (((((FrA.w3).tr ((((FrM.rf.tr hf1).tr hG1)).A.tr FrA.w6))).tr ((FrM.rf).A.tr FrA.w8))).tr y3.A, y4, y5⟩⟩
              · have f3 : FrM (wu (wu w_85 176 (w 141 48) (w_85 141 49)) 141 48 ((w_85 141 48) + 1)) w_155 := y3
                have g49 : w_85 141 49 = ((spA L).length : Int) + (D1 : List Stq).length := hR1.2.2.1.1
                have hle1 := f1A.2.2.2.1
                have e49 : (wu (wu (wu w 174 (w 141 48) (w 141 52 - 301)) 175 (w 141 48) (w 141 49)) 141 58 0) 141 49 = w 141 49 := by rw [wu_f (by decide), wu_ne (by decide), wu_ne (by decide)]
                have e176w : (wu w_85 176 (w 141 48) (w_85 141 49)) 141 49 = w_85 141 49 := by rw [wu_ne (by decide)]
                have hle2 := f2A.2.2.2.1
                have e48w : (wu (wu w_85 176 (w 141 48) (w_85 141 49)) 141 48 ((w_85 141 48) + 1)) 141 49 = (wu w_85 176 (w 141 48) (w_85 141 49)) 141 49 := wu_f (by decide)
                have w49 : w 141 49 = (spA L).length := by rw [hS.2.2.1.1]; exact Int.zero_add _
                have c177 : ∀ i, i < 2 * w_85 141 49 → w_155 177 i = w_85 177 i := fun i hi => by
                  rw [f3.2.2.1 i (by omega), wu_ne (by decide), f2A.2.2.1 i (by omega), wu_ne (by decide)]
                refine ⟨_, rfl, Or.inr ⟨y1, (hdK K S - 256, D1, ([] : List Stq)), _, lnP_no (by omega) (by omega) (by omega) hD1 (by omega) y2, (((((FrA.w3).tr ((((FrM.rf.tr hf1).tr hG1)).A.tr FrA.w6))).tr ((FrM.rf).A.tr FrA.w8))).tr y3.A, LmS.mk (q := (hdK K S - 256, D1, ([] : List Stq))) hS (by omega) y4.1 y4.2.1 (fun i hi => ?_) ?_ ?_ ?_ (fun i => ?_) (fun i => ?_) (fun i => ?_), y5.trans ((wu_f (by decide)).trans ((show (wu w_85 176 (w 141 48) (w_85 141 49)) 141 55 = w_85 141 55 from by rw [wu_ne (by decide)]).trans (hg91.trans (hg1.trans hg3))))⟩⟩
                · rw [c177 i (by omega), f1A.2.2.1 i (by omega), wu_ne (by decide), wu_ne (by decide), wu_ne (by decide)]
                · exact FeQ.app2 (w := w_85) hR1.2.2.1 c177 y4.2.2.1
                · have h9 := y4.2.2.2.2
                  simp only [List.length_append, List.length_nil] at h9 ⊢
                  omega
                · rw [f3.2.1 48 (by decide) (by decide) (by decide) (by decide) (by decide) (by decide) (by decide) (by decide), wu_same, q48]
                · rw [f3.1 174 (by decide) (by decide), wu_ne (by decide), f2A.1 174 (by decide) (by decide)]
                  first
                  | exact t174 i
                  | (rw [t174]
                     split
                     · dsimp only; omega
                     · rfl)
                · rw [f3.1 175 (by decide) (by decide), wu_ne (by decide), f2A.1 175 (by decide) (by decide), t175]
                · rw [f3.1 176 (by decide) (by decide), wu_ne (by decide), f2A.1 176 (by decide) (by decide), t176, g49, w49]
            · skip
              have k_126 : hdK K R1 = 259 := ((MpS.tk hSw).c3).mp (by omega)
              have kt_126 := MpS.tl hSw (by omega)
              refine s_aload_n dX12_aLine_129 0 rfl rfl (n_invV' (as := []) dX12_aLine_130 kv_X12_next0 ml_X12_352 (c_M_next (wu w_85 176 (w 141 48) (w_85 141 49)) hSw (by omega)) (by decide) 141 cf_X12 rfl sh_141 rfl rfl rfl (Nat.le_of_ble_eq_true rfl) ?_)
              rintro r_130 w_l2 ⟨rfl, hf2, hS2, hg2, hj2⟩
              have hl2 := hS2.lt.1
              have hpv2 := hS2.pv
              have hhr2 := hS2.hr
              refine s_aload_n dX12_aLine_133 0 rfl rfl (n_invV' (as := []) dX12_aLine_134 kv_X12_any ml_X12_381 (show CallN 37 mX12_any [(2, 141)] w_l2 (RQ (fun z w1 => ReM w_l2 K ((spA L).length + (D1 : List Stq).length) (8 - ((8 : Nat) : Int)) ((k + 1) + 1) (anF K (onP K 8) [] R1.tail) z w1)) from (c_M_both2 K _ 8 (by decide)).2 [] R1.tail ((k + 1) + 1) w_l2 (hS2) (by omega)) (by decide) 141 cf_X12 rfl sh_141 rfl rfl rfl (Nat.le_of_ble_eq_true rfl) ?_)
              rintro r_134 w_134 ⟨z_134, rfl, hz_134⟩
              show AtN _ _ ρ _ _ [(0, z_134)] w_134
              refine s_if_ne 142 dX12_aLine_137 (by decide) (fun c_137 => ?_) (fun c_137 => ?_)
              · skip
                obtain ⟨D2, R2, hD2, hG2, hR2, hg92⟩ := hz_134.ok (by omega)
                have hlr2 := hR2.lt.1
                have hpvr2 := hR2.pv
                have hhrr2 := hR2.hr
                have q48 : w_134 141 48 = w 141 48 := ((((FrM.rf.tr hf2).tr hG2) : FrM (wu w_85 176 (w 141 48) (w_85 141 49)) w_134).2.1 48 (by decide) (by decide) (by decide) (by decide) (by decide) (by decide) (by decide) (by decide)).trans t48
                refine s_aload_n dX12_aLine_142 0 rfl rfl (s_dup dX12_aLine_143 (show (2 : Nat) ≠ 1 by decide) (n_getf 141 48 0 dX12_aLine_144 cf_X12 ff_X12_390 rfl sh_141 rfl (by decide) (v := (w_134 141 48)) rfl (s_iconst dX12_aLine_147 (by decide) (n_add (z := ((w_134 141 48) + 1)) dX12_aLine_148 (wr_id (by omega) (by omega)) (n_putf 141 48 48 dX12_aLine_149 cf_X12 ff_X12_390 rfl rfl sh_141 rfl rfl rfl ?_)))))
                have f2A : FrM (wu w_85 176 (w 141 48) (w_85 141 49)) w_134 := ((FrM.rf.tr hf2).tr hG2)
                refine s_aload_n dX12_aLine_152 0 rfl rfl (s_bipush dX12_aLine_153 (by decide) (n_invV' (as := [(0, 59)]) dX12_aLine_155 kv_X12_need ml_X12_384 (c_M_need (a := ((spA L).length + (D1 : List Stq).length)) (C := D2) 59 (wu w_134 141 48 ((w_134 141 48) + 1)) (hR2.w8) (by decide)) (by decide) 141 cf_X12 rfl sh_141 rfl rfl rfl (Nat.le_of_ble_eq_true rfl) ?_))
                rintro r_155 w_155 ⟨z_155, rfl, hz_155⟩
                show AtN _ _ ρ _ _ [(0, z_155)] w_155
                unfold NdQ at hz_155
                refine n_zret dX12_aLine_158 hR rfl (by first | exact Or.inl rfl | exact Or.inr rfl | exact bi_01 _ | omega) ?_
                rcases hz_155 with ⟨y1, y2, y3, y4, y5⟩ | ⟨y1, y2, y3, y4, y5⟩
                · exact ⟨_, rfl, Or.inl ⟨y1, (1, plK K R2), lnP_wi (by omega) (by omega) (by omega) hD1 (by omega) ((bnd_on hD2).trans (ndP_no y2)), (((((FrA.w3).tr ((((FrM.rf.tr hf1).tr hG1)).A.tr FrA.w6))).tr ((((FrM.rf.tr hf2).tr hG2)).A.tr FrA.w8))).tr y3.A, y4, y5⟩⟩
                · have f3 : FrM (wu w_134 141 48 ((w_134 141 48) + 1)) w_155 := y3
                  have g49 : w_85 141 49 = ((spA L).length : Int) + (D1 : List Stq).length := hR1.2.2.1.1
                  have hle1 := f1A.2.2.2.1
                  have e49 : (wu (wu (wu w 174 (w 141 48) (w 141 52 - 301)) 175 (w 141 48) (w 141 49)) 141 58 0) 141 49 = w 141 49 := by rw [wu_f (by decide), wu_ne (by decide), wu_ne (by decide)]
                  have e176w : (wu w_85 176 (w 141 48) (w_85 141 49)) 141 49 = w_85 141 49 := by rw [wu_ne (by decide)]
                  have hle2 := f2A.2.2.2.1
                  have e48w : (wu w_134 141 48 ((w_134 141 48) + 1)) 141 49 = w_134 141 49 := wu_f (by decide)
                  have w49 : w 141 49 = (spA L).length := by rw [hS.2.2.1.1]; exact Int.zero_add _
                  have c177 : ∀ i, i < 2 * w_85 141 49 → w_155 177 i = w_85 177 i := fun i hi => by
                    rw [f3.2.2.1 i (by omega), wu_ne (by decide), f2A.2.2.1 i (by omega), wu_ne (by decide)]
                  refine ⟨_, rfl, Or.inr ⟨y1, (hdK K S - 256, D1, D2), _, lnP_wo (by omega) (by omega) (by omega) hD1 (by omega) ((bnd_on hD2).trans (ndP_5 y2)), (((((FrA.w3).tr ((((FrM.rf.tr hf1).tr hG1)).A.tr FrA.w6))).tr ((((FrM.rf.tr hf2).tr hG2)).A.tr FrA.w8))).tr y3.A, LmS.mk (q := (hdK K S - 256, D1, D2)) hS (by omega) y4.1 y4.2.1 (fun i hi => ?_) ?_ ?_ ?_ (fun i => ?_) (fun i => ?_) (fun i => ?_), y5.trans ((wu_f (by decide)).trans (hg92.trans (hg2.trans ((show (wu w_85 176 (w 141 48) (w_85 141 49)) 141 55 = w_85 141 55 from by rw [wu_ne (by decide)]).trans (hg91.trans (hg1.trans hg3))))))⟩⟩
                  · rw [c177 i (by omega), f1A.2.2.1 i (by omega), wu_ne (by decide), wu_ne (by decide), wu_ne (by decide)]
                  · exact FeQ.app2 (w := w_85) hR1.2.2.1 c177 y4.2.2.1
                  · have h9 := y4.2.2.2.2
                    simp only [List.length_append, List.length_nil] at h9 ⊢
                    omega
                  · rw [f3.2.1 48 (by decide) (by decide) (by decide) (by decide) (by decide) (by decide) (by decide) (by decide), wu_same, q48]
                  · rw [f3.1 174 (by decide) (by decide), wu_ne (by decide), f2A.1 174 (by decide) (by decide)]
                    first
                    | exact t174 i
                    | (rw [t174]
                       split
                       · dsimp only; omega
                       · rfl)
                  · rw [f3.1 175 (by decide) (by decide), wu_ne (by decide), f2A.1 175 (by decide) (by decide), t175]
                  · rw [f3.1 176 (by decide) (by decide), wu_ne (by decide), f2A.1 176 (by decide) (by decide), t176, g49, w49]
              · skip
                obtain ⟨e9, he, hF9, h39, h49⟩ := hz_134.no (by omega)
                refine s_iconst dX12_aLine_140 (by decide) (n_zret dX12_aLine_141 hR rfl (by first | exact Or.inl rfl | exact Or.inr rfl | exact bi_01 _ | omega) ?_)
                exact ⟨_, rfl, Or.inl ⟨rfl, e9, lnP_wi (by omega) (by omega) (by omega) hD1 (by omega) (bnd_in he), (((FrA.w3).tr ((((FrM.rf.tr hf1).tr hG1)).A.tr FrA.w6))).tr (((FrM.rf.tr hf2)).tr hF9).A, h39, h49⟩⟩
          · skip
            exfalso
            omega
        · skip
          obtain ⟨e9, he, hF9, h39, h49⟩ := hz_85.no (by omega)
          refine s_iconst dX12_aLine_91 (by decide) (n_zret dX12_aLine_92 hR rfl (by first | exact Or.inl rfl | exact Or.inr rfl | exact bi_01 _ | omega) ?_)
          exact ⟨_, rfl, Or.inl ⟨rfl, e9, lnP_ei (by omega) (by omega) (by omega) he, (FrA.w3).tr (((FrM.rf.tr hf1)).tr hF9).A, h39, h49⟩⟩
    · skip
      refine s_aload_n dX12_aLine_31 0 rfl rfl (s_iconst dX12_aLine_32 (by decide) (n_invV (as := [(0, 3)]) dX12_aLine_33 kv_X12_bad ml_X12_349 (c_M_bad 3 w) (by decide) 141 cf_X12 rfl sh_141 rfl rfl rfl (Nat.le_of_ble_eq_true rfl) (n_zret dX12_aLine_36 hR rfl (by first | exact Or.inl rfl | exact Or.inr rfl | exact bi_01 _ | omega) ?_)))
      exact ⟨_, rfl, Or.inl ⟨rfl, (3, plK K S), lnP_3 hk13 (by omega), FrM.bad.A, by rw [wu_f (by decide)]; exact wu_same .., (wu_same ..).trans (by omega)⟩⟩
  · skip
    have hk13 : ¬ (256 ≤ hdK K S ∧ hdK K S ≤ 258) := fun z => c_13 (hS0.tk.c301.mpr z)
    refine s_aload_n dX12_aLine_16 0 rfl rfl (s_iconst dX12_aLine_17 (by decide) (n_invV (as := [(0, 1)]) dX12_aLine_18 kv_X12_bad ml_X12_349 (c_M_bad 1 w) (by decide) 141 cf_X12 rfl sh_141 rfl rfl rfl (Nat.le_of_ble_eq_true rfl) (n_zret dX12_aLine_21 hR rfl (by first | exact Or.inl rfl | exact Or.inr rfl | exact bi_01 _ | omega) ?_)))
    exact ⟨_, rfl, Or.inl ⟨rfl, (1, plK K S), lnP_0 hk13, FrM.bad.A, by rw [wu_f (by decide)]; exact wu_same .., (wu_same ..).trans (by omega)⟩⟩

