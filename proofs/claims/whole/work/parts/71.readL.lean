/-! THE CLASS READS LINES. -/
/-- the code of lines -/
def cdA (L : List Lin) : List Int := (L.map cdL).flatten
theorem cdA_s (L : List Lin) (q : Lin) : cdA (L ++ [q]) = cdA L ++ cdL q := by
  unfold cdA
  rw [List.map_append, List.flatten_append]
  show _ ++ (cdL q ++ []) = _
  rw [List.append_nil]
/-- the table of lines in script b -/
def TbX (w : Wd) (b : Nat) (L : List Lin) : Prop := ∀ i : Nat, i < L.length → w (b + 2) i = 256 + (lnD L i).1 ∧ w (b + 3) i = (cdA (L.take i)).length
/-- the reader of lines: L is read -/
def DrS (w : Wd) (b : Nat) (N : List Int) (K : Ky) (k : Int) (L : List Lin) (S : List Int) : Prop := StP w b N K k (cdA L) S ∧ L.length ≤ 20 ∧ w b 4 = L.length ∧ TbX w b L
def FrK (b : Nat) (w v : Wd) : Prop := (∀ c, c ≠ 35 → c ≠ b → c ≠ b + 1 → c ≠ b + 2 → c ≠ b + 3 → v c = w c) ∧ (∀ j, j ≠ 1 → v 35 j = w 35 j) ∧ ∀ j, j ≠ 1 → j ≠ 4 → v b j = w b j
def FrKf (b : Nat) (w v : Wd) : Prop := (∀ c, c ≠ 35 → c ≠ b → c ≠ b + 1 → c ≠ b + 2 → c ≠ b + 3 → v c = w c) ∧ (∀ j, j ≠ 1 → j ≠ 3 → j ≠ 4 → v 35 j = w 35 j) ∧ ∀ j, j ≠ 1 → j ≠ 4 → v b j = w b j
theorem FrK.rf {b : Nat} {w : Wd} : FrK b w w := ⟨fun _ _ _ _ _ _ => rfl, fun _ _ => rfl, fun _ _ _ => rfl⟩
theorem FrK.tr {b : Nat} {w v u : Wd} (h : FrK b w v) (h2 : FrK b v u) : FrK b w u := ⟨fun c x y z p q => (h2.1 c x y z p q).trans (h.1 c x y z p q), fun j hj => (h2.2.1 j hj).trans (h.2.1 j hj), fun j hj a => (h2.2.2 j hj a).trans (h.2.2 j hj a)⟩
theorem FrK.tK {b : Nat} {w v u : Wd} (h : FrK b w v) (h2 : FrKf b v u) : FrKf b w u := ⟨fun c x y z p q => (h2.1 c x y z p q).trans (h.1 c x y z p q), fun j a b c => (h2.2.1 j a b c).trans (h.2.1 j a), fun j hj a => (h2.2.2 j hj a).trans (h.2.2 j hj a)⟩
theorem FrPg.K {b : Nat} {w v : Wd} (h : FrPg b w v) : FrK b w v := ⟨fun c x y z _ _ => h.1 c x y z, h.2.1, fun j hj _ => h.2.2 j hj⟩
theorem FrPf.K {b : Nat} {w v : Wd} (h : FrPf b w v) : FrKf b w v := ⟨fun c x y z _ _ => h.1 c x y z, h.2.1, fun j hj _ => h.2.2 j hj⟩
theorem IsSc.m {b : Nat} (h : IsSc b) : b + 2 ≠ 35 ∧ b + 3 ≠ 35 ∧ b + 2 ≠ 30 ∧ b + 3 ≠ 30 ∧ b + 2 ≠ 32 ∧ b + 3 ≠ 32 ∧ b + 2 ≠ 33 ∧ b + 3 ≠ 33 ∧ b + 2 ≠ 34 ∧ b + 3 ≠ 34 := by rcases h with rfl | rfl | rfl | rfl <;> decide
theorem FrPg.tb {b : Nat} {w v : Wd} {L : List Lin} (hb : IsSc b) (h : FrPg b w v) (ht : TbX w b L) : TbX v b L := by
  have hm := hb.m
  intro i hi
  rw [h.1 (b + 2) hm.1 (by omega) (by omega), h.1 (b + 3) hm.2.1 (by omega) (by omega)]
  exact ht i hi
theorem FrPg.b4 {b : Nat} {w v : Wd} (h : FrPg b w v) : v b 4 = w b 4 := h.2.2 4 (by decide)
/-- the table where line q is being read, its kind told -/
def TbQ (w : Wd) (b : Nat) (L : List Lin) (kind : Int) : Prop := w b 4 = L.length + 1 ∧ TbX w b L ∧ w (b + 2) L.length = kind ∧ w (b + 3) L.length = (cdA L).length
theorem TbQ.fr {b : Nat} {w v : Wd} {L : List Lin} {kind : Int} (hb : IsSc b) (h : FrPg b w v) (ht : TbQ w b L kind) : TbQ v b L kind := by
  have hm := hb.m
  obtain ⟨h1, h2, h3, h4⟩ := ht
  exact ⟨h.b4.trans h1, h.tb hb h2, by rw [h.1 (b + 2) hm.1 (by omega) (by omega)]; exact h3, by rw [h.1 (b + 3) hm.2.1 (by omega) (by omega)]; exact h4⟩
theorem DrS.mk {w : Wd} {b : Nat} {N : List Int} {K : Ky} {k : Int} {L : List Lin} {q : Lin} {S : List Int} {c : List Int} (h : StP w b N K k c S) (hl : L.length < 20) (ht : TbQ w b L (256 + q.1)) (hc : c = cdA (L ++ [q])) : DrS w b N K k (L ++ [q]) S := by
  subst hc
  obtain ⟨h1, h2, h3, h4⟩ := ht
  have hlen : (L ++ [q]).length = L.length + 1 := by rw [List.length_append]; rfl
  refine ⟨h, by omega, by rw [h1, hlen]; rfl, fun i hi => ?_⟩
  by_cases e : i = L.length
  · subst e
    have e1 : lnD (L ++ [q]) L.length = q := by
      unfold lnD
      rw [List.getD_eq_getElem?_getD, List.getElem?_append_right (Nat.le_refl _), Nat.sub_self]
      rfl
    rw [e1, List.take_left]
    exact ⟨h3, h4⟩
  · have hi2 : i < L.length := by omega
    have e1 : lnD (L ++ [q]) i = lnD L i := by
      unfold lnD
      rw [List.getD_eq_getElem?_getD, List.getD_eq_getElem?_getD, List.getElem?_append_left hi2]
    rw [e1, List.take_append_of_le_length (by omega)]
    exact h2 i hi2
/-- how a line ends -/
def LiQ (w : Wd) (b : Nat) (N : List Int) (K : Ky) (k : Int) (L : List Lin) (S : List Int) (z : Int) (w1 : Wd) : Prop := (z = 0 ∧ ∃ e, lnP K L.length S = .inl e ∧ FrKf b w w1 ∧ w1 35 3 = e.1 ∧ w1 35 4 = e.2) ∨ (z = 1 ∧ ∃ q R, lnP K L.length S = .inr (q, R) ∧ FrK b w w1 ∧ DrS w1 b N K k (L ++ [q]) R)

set_option maxRecDepth 100000 in
theorem c_X_begin0 (q : Int) {b : Nat} (w : Wd) (hb : IsSc b) (hl : 0 ≤ w b 4 ∧ w b 4 < 20) : CallN 1 mX6_begin [(2, ((b : Nat) : Int)), (0, q)] w (RU (wu (wu (wu w (b + 2) (w b 4) q) (b + 3) (w b 4) (w b 1)) b 4 (w b 4 + 1))) := by
  refine CallN.intro (by decide +kernel) (Nat.le_of_ble_eq_true rfl) (fun ρ hR => ?_)
  show AtN mX6_begin 1 ρ 0 [(0, (2, ((b : Nat) : Int))), (1, (0, q))] [] w
  refine s_aload_n dX6_begin_0 0 rfl (refb_nat b) (n_getf b 4 0 dX6_begin_1 cf_X6 ff_X6_28 rfl (shS hb) rfl (by decide) (v := (w b 4)) rfl (s_bipush dX6_begin_4 (by decide) (s_icmp_ge 42 dX6_begin_6 (by decide) (fun c_6 => ?_) (fun c_6 => ?_))))
  · skip
    exfalso
    omega
  · skip
    refine s_aload_n dX6_begin_9 0 rfl (refb_nat b) (n_getc (q := (((b + 2) : Nat) : Int)) b 2 1002 dX6_begin_10 cf_X6 ff_X6_15 rfl (shS hb) rfl (by decide) rfl (sc_lt hb 2 (by decide)) (s_aload_n dX6_begin_13 0 rfl (refb_nat b) (n_getf b 4 0 dX6_begin_14 cf_X6 ff_X6_28 rfl (shS hb) rfl (by decide) (v := (w b 4)) rfl (s_iload_n dX6_begin_17 1 rfl (s_iastore (b + 2) dX6_begin_18 rfl (shS2 hb) (by decide) ⟨(by omega), (by omega)⟩ (s_aload_n dX6_begin_19 0 rfl (refb_nat b) (n_getc (q := (((b + 3) : Nat) : Int)) b 3 1003 dX6_begin_20 cf_X6 ff_X6_18 rfl (shS hb) rfl (by decide) rfl (sc_lt hb 3 (by decide)) (s_aload_n dX6_begin_23 0 rfl (refb_nat b) (n_getf b 4 0 dX6_begin_24 cf_X6 ff_X6_28 rfl (shS hb) rfl (by decide) (v := ((wu w (b + 2) (w b 4) q) b 4)) rfl ?_)))))))))
    rw [wu_ne (show b ≠ b + 2 by omega)]
    refine s_aload_n dX6_begin_27 0 rfl (refb_nat b) (n_getf b 1 0 dX6_begin_28 cf_X6 ff_X6_24 rfl (shS hb) rfl (by decide) (v := ((wu w (b + 2) (w b 4) q) b 1)) rfl ?_)
    rw [wu_ne (show b ≠ b + 2 by omega)]
    refine s_iastore (b + 3) dX6_begin_31 rfl (shS3 hb) (by decide) ⟨(by omega), (by omega)⟩ (s_aload_n dX6_begin_32 0 rfl (refb_nat b) (s_dup dX6_begin_33 (show (2 : Nat) ≠ 1 by decide) (n_getf b 4 0 dX6_begin_34 cf_X6 ff_X6_28 rfl (shS hb) rfl (by decide) (v := ((wu (wu w (b + 2) (w b 4) q) (b + 3) (w b 4) (w b 1)) b 4)) rfl ?_)))
    rw [wu_ne (show b ≠ b + 3 by omega), wu_ne (show b ≠ b + 2 by omega)]
    refine s_iconst dX6_begin_37 (by decide) (n_add (z := ((w b 4) + 1)) dX6_begin_38 (wr_id (by omega) (by omega)) (n_putf b 4 4 dX6_begin_39 cf_X6 ff_X6_28 rfl rfl (shS hb) rfl rfl rfl (n_ret dX6_begin_42 hR rfl ?_)))
    exact ⟨rfl, rfl⟩

theorem c_X_begin (q : Int) {b : Nat} {N : List Int} {K : Ky} {k : Int} {L : List Lin} {S : List Int} (w : Wd) (hb : IsSc b) (hD : DrS w b N K k L S) (hl : L.length < 20) : CallN 1 mX6_begin [(2, ((b : Nat) : Int)), (0, q)] w (RUQ (fun w1 => FrK b w w1 ∧ StP w1 b N K k (cdA L) S ∧ TbQ w1 b L q)) := by
  obtain ⟨hS, h20, h4, hT⟩ := hD
  refine (c_X_begin0 q w hb ⟨by omega, by omega⟩).conseq (fun r w1 h => ?_)
  obtain ⟨rfl, rfl⟩ := h
  have hn := hb.n
  have hm := hb.m
  have k0 : ∀ c, c ≠ b → c ≠ b + 2 → c ≠ b + 3 → wu (wu (wu w (b + 2) (w b 4) q) (b + 3) (w b 4) (w b 1)) b 4 (w b 4 + 1) c = w c := fun c x y z => by rw [wu_ne x, wu_ne z, wu_ne y]
  have kb : ∀ j, j ≠ 4 → wu (wu (wu w (b + 2) (w b 4) q) (b + 3) (w b 4) (w b 1)) b 4 (w b 4 + 1) b j = w b j := fun j hj => by rw [wu_at, if_neg hj, wu_ne (show b ≠ b + 3 by omega), wu_ne (show b ≠ b + 2 by omega)]
  have k2 : ∀ j, wu (wu (wu w (b + 2) (w b 4) q) (b + 3) (w b 4) (w b 1)) b 4 (w b 4 + 1) (b + 2) j = if j = w b 4 then q else w (b + 2) j := fun j => by rw [wu_ne (show b + 2 ≠ b by omega), wu_ne (show b + 2 ≠ b + 3 by omega), wu_at]
  have k3 : ∀ j, wu (wu (wu w (b + 2) (w b 4) q) (b + 3) (w b 4) (w b 1)) b 4 (w b 4 + 1) (b + 3) j = if j = w b 4 then w b 1 else w (b + 3) j := fun j => by rw [wu_ne (show b + 3 ≠ b by omega), wu_at, wu_ne (show b + 3 ≠ b + 2 by omega)]
  obtain ⟨s1, s2, s3, s5, s6, s7⟩ := hS
  refine ⟨rfl, ⟨fun c x y z p q => k0 c y p q, fun j hj => by rw [k0 35 (by omega) (by omega) (by omega)], fun j _ hj => kb j hj⟩, ⟨s1.fr (k0 30 (by omega) (by omega) (by omega)) (k0 32 (by omega) (by omega) (by omega)) (k0 33 (by omega) (by omega) (by omega)) (k0 34 (by omega) (by omega) (by omega)), s2, ?_, ?_, ⟨?_, fun j hj => ?_⟩, s7⟩, ?_, fun i hi => ⟨?_, ?_⟩, ?_, ?_⟩
  · rw [k0 35 (by omega) (by omega) (by omega)]; exact s3
  · rw [k0 35 (by omega) (by omega) (by omega)]; exact s5
  · rw [kb 1 (by decide)]; exact s6.1
  · rw [k0 (b + 1) (by omega) (by omega) (by omega)]; exact s6.2 j hj
  · rw [wu_same, h4]
  · rw [k2, if_neg (by omega)]; exact (hT i hi).1
  · rw [k3, if_neg (by omega)]; exact (hT i hi).2
  · rw [k2, if_pos h4.symm]
  · rw [k3, if_pos h4.symm]; exact s6.1
theorem lnP_0 {K : Ky} {k : Nat} {S : List Int} (h : ¬ (256 ≤ hdK K S ∧ hdK K S ≤ 258)) : lnP K k S = .inl (1, plK K S) := if_pos h
theorem lnP_3 {K : Ky} {k : Nat} {S : List Int} (h : 256 ≤ hdK K S ∧ hdK K S ≤ 258) (hk : 20 ≤ k) : lnP K k S = .inl (3, plK K S) := by
  unfold lnP
  rw [if_neg (fun z => z h), if_pos hk]
theorem lnP_bi {K : Ky} {k : Nat} {S : List Int} (h : hdK K S = 256) (hk : ¬ 20 ≤ k) {e : Int × Int} (he : bnd (anF K (onP K 8) [] S.tail) (ndP K 59) = .inl e) : lnP K k S = .inl e := by
  unfold lnP
  rw [if_neg (by omega), if_neg hk, if_pos h, he]
theorem lnP_bo {K : Ky} {k : Nat} {S R : List Int} {C : List Stq} (h : hdK K S = 256) (hk : ¬ 20 ≤ k) (he : bnd (anF K (onP K 8) [] S.tail) (ndP K 59) = okR C R) : lnP K k S = .inr ((0, [], C), R) := by
  unfold lnP
  rw [if_neg (by omega), if_neg hk, if_pos h, he]
  rfl
theorem lnP_ei {K : Ky} {k : Nat} {S : List Int} (h : 256 ≤ hdK K S ∧ hdK K S ≤ 258) (h2 : hdK K S ≠ 256) (hk : ¬ 20 ≤ k) {e : Int × Int} (he : exP K [] S.tail = .inl e) : lnP K k S = .inl e := by
  unfold lnP
  rw [if_neg (fun z => z h), if_neg hk, if_neg h2, he]
theorem lnP_wi {K : Ky} {k : Nat} {S R : List Int} {V : List Stq} (h : 256 ≤ hdK K S ∧ hdK K S ≤ 258) (h2 : hdK K S ≠ 256) (hk : ¬ 20 ≤ k) (hV : exP K [] S.tail = okR V R) (hw : hdK K R = 259) {e : Int × Int} (he : bnd (anF K (onP K 8) [] R.tail) (ndP K 59) = .inl e) : lnP K k S = .inl e := by
  unfold lnP
  rw [if_neg (fun z => z h), if_neg hk, if_neg h2, hV]
  show (if hdK K R = 259 then _ else _) = _
  rw [if_pos hw]
  show (match bnd (anF K (onP K 8) [] R.tail) (ndP K 59) with | .inl e => _ | .inr p => _) = _
  rw [he]
theorem lnP_wo {K : Ky} {k : Nat} {S R Q : List Int} {V C : List Stq} (h : 256 ≤ hdK K S ∧ hdK K S ≤ 258) (h2 : hdK K S ≠ 256) (hk : ¬ 20 ≤ k) (hV : exP K [] S.tail = okR V R) (hw : hdK K R = 259) (he : bnd (anF K (onP K 8) [] R.tail) (ndP K 59) = okR C Q) : lnP K k S = .inr ((hdK K S - 256, V, C), Q) := by
  unfold lnP
  rw [if_neg (fun z => z h), if_neg hk, if_neg h2, hV]
  show (if hdK K R = 259 then _ else _) = _
  rw [if_pos hw]
  show (match bnd (anF K (onP K 8) [] R.tail) (ndP K 59) with | .inl e => _ | .inr p => _) = _
  rw [he]
  rfl
theorem lnP_ni {K : Ky} {k : Nat} {S R : List Int} {V : List Stq} (h : 256 ≤ hdK K S ∧ hdK K S ≤ 258) (h2 : hdK K S ≠ 256) (hk : ¬ 20 ≤ k) (hV : exP K [] S.tail = okR V R) (hw : hdK K R ≠ 259) (he : hdK K R ≠ 59) : lnP K k S = .inl (1, plK K R) := by
  unfold lnP
  rw [if_neg (fun z => z h), if_neg hk, if_neg h2, hV]
  show (if hdK K R = 259 then _ else _) = _
  rw [if_neg hw]
  show (match ndP K 59 [] R with | .inl e => _ | .inr p => _) = _
  rw [ndP_no he]
  rfl
theorem lnP_no {K : Ky} {k : Nat} {S R : List Int} {V : List Stq} (h : 256 ≤ hdK K S ∧ hdK K S ≤ 258) (h2 : hdK K S ≠ 256) (hk : ¬ 20 ≤ k) (hV : exP K [] S.tail = okR V R) (hw : hdK K R ≠ 259) (he : hdK K R = 59) : lnP K k S = .inr ((hdK K S - 256, V, []), R.tail) := by
  unfold lnP
  rw [if_neg (fun z => z h), if_neg hk, if_neg h2, hV]
  show (if hdK K R = 259 then _ else _) = _
  rw [if_neg hw]
  show (match ndP K 59 [] R with | .inl e => _ | .inr p => _) = _
  rw [ndP_ok he]
  rfl
theorem cd_bar {L : List Lin} {C : List Stq} (h : C ≠ []) : cdA L ++ [1000] ++ trL C = cdA (L ++ [(0, [], C)]) := by
  rw [cdA_s]
  unfold cdL
  dsimp only
  rw [if_pos rfl, if_neg h, trL_app, List.append_assoc]
  rfl
theorem cd_when {L : List Lin} {V C : List Stq} {k : Int} (hk : k ≠ 0) (h : C ≠ []) : cdA L ++ trL V ++ trL C = cdA (L ++ [(k, V, C)]) := by
  rw [cdA_s]
  unfold cdL
  dsimp only
  rw [if_neg hk, if_neg h, trL_app, List.append_assoc]
theorem cd_no {L : List Lin} {V : List Stq} {k : Int} (hk : k ≠ 0) : cdA L ++ trL V ++ [1001] = cdA (L ++ [(k, V, [])]) := by
  rw [cdA_s]
  unfold cdL
  dsimp only
  rw [if_neg hk, if_pos rfl, trL_app, List.append_assoc]
  rfl
theorem TbQ.kd {w : Wd} {b : Nat} {L : List Lin} {a c : Int} (h : TbQ w b L a) (e : a = c) : TbQ w b L c := e ▸ h
set_option maxRecDepth 100000 in
set_option maxHeartbeats 4000000 in
theorem c_X_line {b : Nat} {N : List Int} {K : Ky} {k : Int} {L : List Lin} {S : List Int} (hK : KOK K) (w : Wd) (hb : IsSc b) (hD : DrS w b N K k L S) (hk : 0 ≤ k) : CallN 22 mX4_line [(2, 35)] w (RQ (fun z w1 => LiQ w b N K k L S z w1)) := by
  refine CallN.intro (by decide +kernel) (Nat.le_of_ble_eq_true rfl) (fun ρ hR => ?_)
  show AtN mX4_line 22 ρ 0 [(0, (2, 35))] [] w
  have hS := hD.1
  have hl9 := hS.lt
  have h600 := hS.1.1
  have h49 := hD.2.2.1
  have h20 := hD.2.1
  have hsu := suf_len hS.2.1
  have hhd := hd_le hK S
  have htl := hd_tail (K := K) (S := S)
  refine s_aload_n dX4_line_0 0 rfl rfl (n_invV (as := []) dX4_line_1 kv_X4_sign ml_X4_40 (c_X_sign w hb hS) (by decide) 35 cf_X4 rfl sh_35 rfl rfl rfl (Nat.le_of_ble_eq_true rfl) (s_istore_n (ls' := [(0, (2, 35)), (1, (0, (hdK K S)))]) dX4_line_4 (Nat.le_of_ble_eq_true rfl) rfl (s_iload_n dX4_line_5 1 rfl (s_sipush dX4_line_6 (by decide) (s_sipush dX4_line_9 (by decide) (n_invT (as := [(0, (hdK K S)), (0, 256), (0, 258)]) dX4_line_12 kv_X11_within ml_X4_65 (c_within (hdK K S) 256 258 w) (by decide) rfl rfl (Nat.le_of_ble_eq_true rfl) (n_ifne_b 24 dX4_line_15 (by decide) (fun c_15 => ?_) (fun c_15 => ?_))))))))
  · skip
    refine s_aload_n dX4_line_24 0 rfl rfl (n_getf 35 2 2 dX4_line_25 cf_X4 ff_X4_18 rfl sh_35 rfl (by decide) (v := ((b : Nat) : Int)) hS.2.2.2.1 (n_getf b 4 0 dX4_line_28 cf_X6 ff_X4_69 rfl (shS hb) rfl (by decide) (v := (w b 4)) rfl (s_bipush dX4_line_31 (by decide) (s_icmp_lt 42 dX4_line_33 (by decide) (fun c_33 => ?_) (fun c_33 => ?_)))))
    · skip
      refine s_aload_n dX4_line_42 0 rfl rfl (n_getf 35 2 2 dX4_line_43 cf_X4 ff_X4_18 rfl sh_35 rfl (by decide) (v := ((b : Nat) : Int)) hS.2.2.2.1 (s_iload_n dX4_line_46 1 rfl (n_invV' (as := [(0, (hdK K S))]) dX4_line_47 kv_X6_begin ml_X4_72 (c_X_begin (hdK K S) w hb hD (by omega)) (by decide) b cf_X6 rfl (shS hb) rfl rfl rfl (Nat.le_of_ble_eq_true rfl) ?_)))
      rintro r_47 w_47 ⟨rfl, hfb, hSb, hTb⟩
      have hlb := hSb.lt
      refine s_aload_n dX4_line_50 0 rfl rfl (s_dup dX4_line_51 (show (2 : Nat) ≠ 1 by decide) (n_getf 35 1 0 dX4_line_52 cf_X4 ff_X4_37 rfl sh_35 rfl (by decide) (v := (w_47 35 1)) rfl (s_iconst dX4_line_55 (by decide) (n_add (z := ((w_47 35 1) + 1)) dX4_line_56 (wr_id (by omega) (by omega)) (n_putf 35 1 1 dX4_line_57 cf_X4 ff_X4_37 rfl rfl sh_35 rfl rfl rfl (s_iload_n dX4_line_60 1 rfl (s_sipush dX4_line_61 (by decide) (s_icmp_ne 100 dX4_line_64 (by decide) (fun c_64 => ?_) (fun c_64 => ?_)))))))))
      · skip
        refine s_aload_n dX4_line_100 0 rfl rfl (n_invV' (as := []) dX4_line_101 kv_X4_expression ml_X4_85 (c_X_expression (X0 := cdA L) (C0 := []) (S0 := S.tail) (wu w_47 35 1 ((w_47 35 1) + 1)) hb (by rw [show trL [] = [] from rfl, List.append_nil]; exact (StP.adv hb hSb (by omega))) hK (by omega) (by first | omega | (simp only [List.length_tail]; omega))) (by decide) 35 cf_X4 rfl sh_35 rfl rfl rfl (Nat.le_of_ble_eq_true rfl) ?_)
        rintro r_101 w_101 ⟨z_101, rfl, hz_101⟩
        show AtN _ _ ρ _ _ [(0, z_101)] w_101
        refine s_if_ne 109 dX4_line_104 (by decide) (fun c_104 => ?_) (fun c_104 => ?_)
        · skip
          obtain ⟨De, Re, hDe, hGe, hSe⟩ := hz_101.ok (by omega)
          have hle := hSe.lt
          have hlte := (ex_gr hK).lt (fun D h => ok_ne h) hDe
          refine s_aload_n dX4_line_109 0 rfl rfl (n_invV (as := []) dX4_line_110 kv_X4_sign ml_X4_40 (c_X_sign w_101 hb hSe) (by decide) 35 cf_X4 rfl sh_35 rfl rfl rfl (Nat.le_of_ble_eq_true rfl) (s_sipush dX4_line_113 (by decide) (s_icmp_eq 136 dX4_line_116 (by decide) (fun c_116 => ?_) (fun c_116 => ?_))))
          · skip
            refine s_aload_n dX4_line_136 0 rfl rfl (s_dup dX4_line_137 (show (2 : Nat) ≠ 1 by decide) (n_getf 35 1 0 dX4_line_138 cf_X4 ff_X4_37 rfl sh_35 rfl (by decide) (v := (w_101 35 1)) rfl (s_iconst dX4_line_141 (by decide) (n_add (z := ((w_101 35 1) + 1)) dX4_line_142 (wr_id (by omega) (by omega)) (n_putf 35 1 1 dX4_line_143 cf_X4 ff_X4_37 rfl rfl sh_35 rfl rfl rfl (s_aload_n dX4_line_146 0 rfl rfl (s_iconst dX4_line_147 (by decide) (n_invV' (as := [(0, 0)]) dX4_line_148 kv_X4_condition ml_X4_79 (show CallN 21 mX4_condition [(2, 35), (0, 0)] (wu w_101 35 1 ((w_101 35 1) + 1)) (RQ (fun z w1 => ReX (wu w_101 35 1 ((w_101 35 1) + 1)) b N K ((k + 1) + 1) (cdA L ++ trL De) (anF K (onP K 8) [] Re.tail) z w1)) from (c_X_both hK hb 8 (by decide)).2 [] Re.tail ((k + 1) + 1) (wu w_101 35 1 ((w_101 35 1) + 1)) (by rw [show trL [] = [] from rfl, List.append_nil]; exact (StP.adv hb hSe (by omega))) (by omega) (by first | omega | (simp only [List.length_tail]; omega))) (by decide) 35 cf_X4 rfl sh_35 rfl rfl rfl (Nat.le_of_ble_eq_true rfl) ?_))))))))
            rintro r_148 w_148 ⟨z_148, rfl, hz_148⟩
            show AtN _ _ ρ _ _ [(0, z_148)] w_148
            refine s_if_eq 167 dX4_line_151 (by decide) (fun c_151 => ?_) (fun c_151 => ?_)
            · skip
              obtain ⟨e9, he, hF9, h39, h49⟩ := hz_148.no (by omega)
              refine s_iconst dX4_line_167 (by decide) (n_zret dX4_line_168 hR rfl (by first | exact Or.inl rfl | exact Or.inr rfl | exact bi_01 _ | omega) ?_)
              exact ⟨_, rfl, Or.inl ⟨rfl, e9, lnP_wi (by omega) (by omega) (by omega) hDe (by omega) (bnd_in he), (hfb.tK ((((((((FrPg.rf).tr (FrPg.adv hb))).tr hGe)).tr (FrPg.adv hb))).tF hF9).K), h39, h49⟩⟩
            · skip
              obtain ⟨Dc, Rc, hDc, hGc, hSc⟩ := hz_148.ok (by omega)
              obtain ⟨⟨Dd, hde, hdd, -⟩, -⟩ := an8_gr hK [] _ Dc Rc hDc
              rw [List.nil_append] at hde
              have hdn := (okC_ln (hde ▸ hdd)).1
              have hlc := hSc.lt
              refine s_aload_n dX4_line_154 0 rfl rfl (s_bipush dX4_line_155 (by decide) (n_invV' (as := [(0, 59)]) dX4_line_157 kv_X4_take ml_X4_82 (c_X_take 59 w_148 hb hSc) (by decide) 35 cf_X4 rfl sh_35 rfl rfl rfl (Nat.le_of_ble_eq_true rfl) ?_))
              rintro r_157 w_157 ⟨z_157, rfl, hz_157⟩
              show AtN _ _ ρ _ _ [(0, z_157)] w_157
              refine s_if_eq 167 dX4_line_160 (by decide) (fun c_160 => ?_) (fun c_160 => ?_)
              · skip
                obtain ⟨ht9, hw9⟩ := tk_no hz_157 (by omega)
                subst hw9
                refine s_iconst dX4_line_167 (by decide) (n_zret dX4_line_168 hR rfl (by first | exact Or.inl rfl | exact Or.inr rfl | exact bi_01 _ | omega) ?_)
                exact ⟨_, rfl, Or.inl ⟨rfl, (1, plK K Rc), lnP_wi (by omega) (by omega) (by omega) hDe (by omega) ((bnd_on hDc).trans (ndP_no ht9)), hfb.tK ((((((((((FrPg.rf).tr (FrPg.adv hb))).tr hGe)).tr (FrPg.adv hb))).tr hGc)).tF (FrPf.ref hb)).K, by rw [wu_ne2]; exact wu_same .., wu_same ..⟩⟩
              · skip
                obtain ⟨ht9, hw9⟩ := tk_ok hz_157 (by omega)
                subst hw9
                refine s_iconst dX4_line_163 (by decide) (s_goto 168 dX4_line_164 (by decide) (n_zret dX4_line_168 hR rfl (by first | exact Or.inl rfl | exact Or.inr rfl | exact bi_01 _ | omega) ?_))
                exact ⟨_, rfl, Or.inr ⟨rfl, _, _, lnP_wo (by omega) (by omega) (by omega) hDe (by omega) ((bnd_on hDc).trans (ndP_ok ht9)), hfb.tr (((((((((((FrPg.rf).tr (FrPg.adv hb))).tr hGe)).tr (FrPg.adv hb))).tr hGc)).tr (FrPg.adv hb))).K, DrS.mk ((StP.adv hb hSc (by omega)).wk (by omega)) (by omega) ((hTb.fr hb (((((((((((FrPg.rf).tr (FrPg.adv hb))).tr hGe)).tr (FrPg.adv hb))).tr hGc)).tr (FrPg.adv hb)))).kd (by dsimp only; omega)) (cd_when (by omega) hdn)⟩⟩
          · skip
            refine s_aload_n dX4_line_119 0 rfl rfl (n_getf 35 2 2 dX4_line_120 cf_X4 ff_X4_18 rfl sh_35 rfl (by decide) (v := ((b : Nat) : Int)) hSe.2.2.2.1 (s_sipush dX4_line_123 (by decide) (n_invV' (as := [(0, 1001)]) dX4_line_126 kv_X6_add ml_X4_76 (c_X_add 1001 w_101 hb hSe (by omega)) (by decide) b cf_X6 rfl (shS hb) rfl rfl rfl (Nat.le_of_ble_eq_true rfl) ?_)))
            rintro r_126 w_a1 ⟨rfl, hf1, hS1⟩
            replace hf1 := (((((FrPg.rf).tr (FrPg.adv hb))).tr hGe)).tr hf1
            have hl1 := hS1.lt
            refine s_aload_n dX4_line_129 0 rfl rfl (s_bipush dX4_line_130 (by decide) (n_invV' (as := [(0, 59)]) dX4_line_132 kv_X4_take ml_X4_82 (c_X_take 59 w_a1 hb hS1) (by decide) 35 cf_X4 rfl sh_35 rfl rfl rfl (Nat.le_of_ble_eq_true rfl) ?_))
            rintro r_132 w_132 ⟨z_132, rfl, hz_132⟩
            show AtN _ _ ρ _ _ [(0, z_132)] w_132
            refine n_zret dX4_line_135 hR rfl (by first | exact Or.inl rfl | exact Or.inr rfl | exact bi_01 _ | omega) ?_
            rcases hz_132 with ⟨ht9, hz9, hw9⟩ | ⟨ht9, hz9, hw9⟩
            · subst hw9
              exact ⟨_, rfl, Or.inr ⟨hz9, _, _, lnP_no (by omega) (by omega) (by omega) hDe (by omega) ht9, hfb.tr (((hf1).tr (FrPg.adv hb))).K, DrS.mk ((StP.adv hb hS1 (by omega)).wk (by omega)) (by omega) ((hTb.fr hb ((hf1).tr (FrPg.adv hb))).kd (by dsimp only; omega)) (cd_no (by omega))⟩⟩
            · subst hw9
              exact ⟨_, rfl, Or.inl ⟨hz9, (1, plK K Re), lnP_ni (by omega) (by omega) (by omega) hDe (by omega) ht9, hfb.tK ((hf1).tF (FrPf.ref hb)).K, by rw [wu_ne2]; exact wu_same .., wu_same ..⟩⟩
        · skip
          obtain ⟨e9, he, hF9, h39, h49⟩ := hz_101.no (by omega)
          refine s_iconst dX4_line_107 (by decide) (n_zret dX4_line_108 hR rfl (by first | exact Or.inl rfl | exact Or.inr rfl | exact bi_01 _ | omega) ?_)
          exact ⟨_, rfl, Or.inl ⟨rfl, e9, lnP_ei (by omega) (by omega) (by omega) he, (hfb.tK ((((FrPg.rf).tr (FrPg.adv hb))).tF hF9).K), h39, h49⟩⟩
      · skip
        refine s_aload_n dX4_line_67 0 rfl rfl (n_getf 35 2 2 dX4_line_68 cf_X4 ff_X4_18 rfl sh_35 rfl (by decide) (v := ((b : Nat) : Int)) (StP.adv hb hSb (by omega)).2.2.2.1 (s_sipush dX4_line_71 (by decide) (n_invV' (as := [(0, 1000)]) dX4_line_74 kv_X6_add ml_X4_76 (c_X_add 1000 (wu w_47 35 1 ((w_47 35 1) + 1)) hb (StP.adv hb hSb (by omega)) (by omega)) (by decide) b cf_X6 rfl (shS hb) rfl rfl rfl (Nat.le_of_ble_eq_true rfl) ?_)))
        rintro r_74 w_a2 ⟨rfl, hf2, hS2⟩
        replace hf2 := (((FrPg.rf).tr (FrPg.adv hb))).tr hf2
        have hl2 := hS2.lt
        refine s_aload_n dX4_line_77 0 rfl rfl (s_iconst dX4_line_78 (by decide) (n_invV' (as := [(0, 0)]) dX4_line_79 kv_X4_condition ml_X4_79 (show CallN 21 mX4_condition [(2, 35), (0, 0)] w_a2 (RQ (fun z w1 => ReX w_a2 b N K ((k + 1) - 1) (cdA L ++ [1000]) (anF K (onP K 8) [] S.tail) z w1)) from (c_X_both hK hb 8 (by decide)).2 [] S.tail ((k + 1) - 1) w_a2 (by rw [show trL [] = [] from rfl, List.append_nil]; exact hS2) (by omega) (by first | omega | (simp only [List.length_tail]; omega))) (by decide) 35 cf_X4 rfl sh_35 rfl rfl rfl (Nat.le_of_ble_eq_true rfl) ?_))
        rintro r_79 w_79 ⟨z_79, rfl, hz_79⟩
        show AtN _ _ ρ _ _ [(0, z_79)] w_79
        refine s_if_eq 98 dX4_line_82 (by decide) (fun c_82 => ?_) (fun c_82 => ?_)
        · skip
          obtain ⟨e9, he, hF9, h39, h49⟩ := hz_79.no (by omega)
          refine s_iconst dX4_line_98 (by decide) (n_zret dX4_line_99 hR rfl (by first | exact Or.inl rfl | exact Or.inr rfl | exact bi_01 _ | omega) ?_)
          exact ⟨_, rfl, Or.inl ⟨rfl, e9, lnP_bi (by omega) (by omega) (bnd_in he), (hfb.tK ((hf2).tF hF9).K), h39, h49⟩⟩
        · skip
          obtain ⟨Dc, Rc, hDc, hGc, hSc⟩ := hz_79.ok (by omega)
          obtain ⟨⟨Dd, hde, hdd, -⟩, -⟩ := an8_gr hK [] _ Dc Rc hDc
          rw [List.nil_append] at hde
          have hdn := (okC_ln (hde ▸ hdd)).1
          have hlc := hSc.lt
          refine s_aload_n dX4_line_85 0 rfl rfl (s_bipush dX4_line_86 (by decide) (n_invV' (as := [(0, 59)]) dX4_line_88 kv_X4_take ml_X4_82 (c_X_take 59 w_79 hb hSc) (by decide) 35 cf_X4 rfl sh_35 rfl rfl rfl (Nat.le_of_ble_eq_true rfl) ?_))
          rintro r_88 w_88 ⟨z_88, rfl, hz_88⟩
          show AtN _ _ ρ _ _ [(0, z_88)] w_88
          refine s_if_eq 98 dX4_line_91 (by decide) (fun c_91 => ?_) (fun c_91 => ?_)
          · skip
            obtain ⟨ht9, hw9⟩ := tk_no hz_88 (by omega)
            subst hw9
            refine s_iconst dX4_line_98 (by decide) (n_zret dX4_line_99 hR rfl (by first | exact Or.inl rfl | exact Or.inr rfl | exact bi_01 _ | omega) ?_)
            exact ⟨_, rfl, Or.inl ⟨rfl, (1, plK K Rc), lnP_bi (by omega) (by omega) ((bnd_on hDc).trans (ndP_no ht9)), hfb.tK ((((hf2).tr hGc)).tF (FrPf.ref hb)).K, by rw [wu_ne2]; exact wu_same .., wu_same ..⟩⟩
          · skip
            obtain ⟨ht9, hw9⟩ := tk_ok hz_88 (by omega)
            subst hw9
            refine s_iconst dX4_line_94 (by decide) (s_goto 99 dX4_line_95 (by decide) (n_zret dX4_line_99 hR rfl (by first | exact Or.inl rfl | exact Or.inr rfl | exact bi_01 _ | omega) ?_))
            exact ⟨_, rfl, Or.inr ⟨rfl, _, _, lnP_bo (by omega) (by omega) ((bnd_on hDc).trans (ndP_ok ht9)), hfb.tr (((((hf2).tr hGc)).tr (FrPg.adv hb))).K, DrS.mk ((StP.adv hb hSc (by omega)).wk (by omega)) (by omega) ((hTb.fr hb (((((hf2).tr hGc)).tr (FrPg.adv hb)))).kd (by dsimp only; omega)) (cd_bar hdn)⟩⟩
    · skip
      refine s_aload_n dX4_line_36 0 rfl rfl (s_iconst dX4_line_37 (by decide) (n_invV (as := [(0, 3)]) dX4_line_38 kv_X4_refuse ml_X4_61 (c_X_refuse 3 w hb hS) (by decide) 35 cf_X4 rfl sh_35 rfl rfl rfl (Nat.le_of_ble_eq_true rfl) (n_zret dX4_line_41 hR rfl (by first | exact Or.inl rfl | exact Or.inr rfl | exact bi_01 _ | omega) ?_)))
      exact ⟨_, rfl, Or.inl ⟨rfl, (3, plK K S), lnP_3 (by omega) (by omega), (FrPf.ref hb).K, by rw [wu_ne2]; exact wu_same .., wu_same ..⟩⟩
  · skip
    refine s_aload_n dX4_line_18 0 rfl rfl (s_iconst dX4_line_19 (by decide) (n_invV (as := [(0, 1)]) dX4_line_20 kv_X4_refuse ml_X4_61 (c_X_refuse 1 w hb hS) (by decide) 35 cf_X4 rfl sh_35 rfl rfl rfl (Nat.le_of_ble_eq_true rfl) (n_zret dX4_line_23 hR rfl (by first | exact Or.inl rfl | exact Or.inr rfl | exact bi_01 _ | omega) ?_)))
    exact ⟨_, rfl, Or.inl ⟨rfl, (1, plK K S), lnP_0 c_15, (FrPf.ref hb).K, by rw [wu_ne2]; exact wu_same .., wu_same ..⟩⟩

