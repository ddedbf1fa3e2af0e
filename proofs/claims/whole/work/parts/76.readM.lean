/-! THE REFERENCE READS AN E. -/
/-- a step that stands: the second number of a fact may be any -/
def stp (p : Stq) (x y : Int) : Prop := x = p.1 ∧ ((p.1 = 0 ∨ 11 < p.1) → y = p.2) ∧ 0 ≤ y ∧ y ≤ 9999
/-- the steps C lie behind a others -/
def FeQ (w : Wd) (a : Nat) (C : List Stq) : Prop := w 141 49 = a + C.length ∧ ∀ j : Nat, j < C.length → stp (C.getD j (0, 0)) (w 177 (2 * (a + j))) (w 177 (2 * (a + j) + 1))
/-- the reference's reader stands at S -/
def MpS (w : Wd) (K : Ky) (a : Nat) (C : List Stq) (S : List Int) (d k : Int) : Prop := MdS w S ∧ KM' w = K ∧ FeQ w a C ∧ w 141 58 = d ∧ (a : Int) + C.length + S.length + k ≤ 600
/-- what reading leaves -/
def FrM (w v : Wd) : Prop := (∀ c, c ≠ 141 → c ≠ 177 → v c = w c) ∧ (∀ j : Int, j ≠ 49 → j ≠ 51 → j ≠ 52 → j ≠ 53 → j ≠ 54 → j ≠ 55 → j ≠ 56 → j ≠ 58 → v 141 j = w 141 j) ∧ (∀ i, i < 2 * w 141 49 → v 177 i = w 177 i) ∧ w 141 49 ≤ v 141 49 ∧ ((0 ≤ w 141 54 ∧ w 141 54 ≤ 9999) → 0 ≤ v 141 54 ∧ v 141 54 ≤ 9999)
theorem FrM.rf {w : Wd} : FrM w w := ⟨fun _ _ _ => rfl, fun _ _ _ _ _ _ _ _ _ => rfl, fun _ _ => rfl, Int.le_refl _, fun h => h⟩
theorem FrM.tr {w v u : Wd} (h : FrM w v) (h2 : FrM v u) : FrM w u := ⟨fun c a b => (h2.1 c a b).trans (h.1 c a b), fun j a b c d e f g i => (h2.2.1 j a b c d e f g i).trans (h.2.1 j a b c d e f g i), fun i hi => (h2.2.2.1 i (by have := h.2.2.2.1; omega)).trans (h.2.2.1 i hi), Int.le_trans h.2.2.2.1 h2.2.2.2.1, fun q => h2.2.2.2.2 (h.2.2.2.2 q)⟩
theorem FrX.M {w v : Wd} (h : FrX w v) (hv : 0 ≤ v 141 54 ∧ v 141 54 ≤ 9999) : FrM w v := ⟨fun c a _ => h.1 c a, fun j _ a b c d _ _ _ => h.2 j (by omega), fun i _ => by rw [h.1 177 (by decide)], by rw [h.2 49 (by omega)]; exact Int.le_refl _, fun _ => hv⟩
theorem FrM.bad {w : Wd} {x y : Int} : FrM w (wu (wu w 141 55 x) 141 56 y) := ⟨fun c a _ => by rw [wu_ne a, wu_ne a], fun j _ _ _ _ _ a b _ => by rw [wu_f b, wu_f a], fun i _ => by rw [wu_ne (by decide), wu_ne (by decide)], by rw [wu_f (by decide), wu_f (by decide)]; exact Int.le_refl _, fun q => by rw [wu_f (by decide), wu_f (by decide)]; exact q⟩
theorem FrX.fe {w v : Wd} {a : Nat} {C : List Stq} (h : FrX w v) (hq : FeQ w a C) : FeQ v a C := by
  unfold FeQ at hq ⊢
  rw [h.2 49 (by omega), h.1 177 (by decide)]
  exact hq
theorem FrX.km {w v : Wd} (h : FrX w v) : KM' v = KM' w := by
  unfold KM'
  rw [h.1 178 (by decide), h.2 50 (by omega)]
/-- how a token shows -/
theorem mk_d {h : Int} (hr : h = 0 ∨ h = 1 ∨ h = 2 ∨ (40 ≤ h ∧ h ≤ 62) ∨ (256 ≤ h ∧ h ≤ 272)) : (h = 0 ∧ mkK h = 0) ∨ (h = 1 ∧ mkK h = 2) ∨ (h = 2 ∧ mkK h = 1) ∨ ((40 ≤ h ∧ h ≤ 62) ∧ mkK h = h) ∨ ((256 ≤ h ∧ h ≤ 258) ∧ mkK h = h + 45) ∨ ((259 ≤ h ∧ h ≤ 262) ∧ mkK h = h - 256) ∨ ((263 ≤ h ∧ h ≤ 272) ∧ mkK h = h + 138) := by
  unfold mkK
  repeat' split
  all_goals omega
theorem kyT_rng {T : Int → Int} {n : Int} (S : List Int) : hdK (kyT T n) S = 0 ∨ hdK (kyT T n) S = 1 ∨ hdK (kyT T n) S = 2 ∨ (40 ≤ hdK (kyT T n) S ∧ hdK (kyT T n) S ≤ 62) ∨ (256 ≤ hdK (kyT T n) S ∧ hdK (kyT T n) S ≤ 272) := by
  cases S with
  | nil => exact Or.inl rfl
  | cons s r =>
    have := kdT_bd T n s
    show kdT T n s = 0 ∨ kdT T n s = 1 ∨ kdT T n s = 2 ∨ (40 ≤ kdT T n s ∧ kdT T n s ≤ 62) ∨ (256 ≤ kdT T n s ∧ kdT T n s ≤ 272)
    omega
/-- what is known of the token -/
def TokQ (w : Wd) (K : Ky) (S : List Int) : Prop := (hdK K S = 0 ∧ w 141 52 = 0) ∨ (hdK K S = 1 ∧ w 141 52 = 2) ∨ (hdK K S = 2 ∧ w 141 52 = 1) ∨ ((40 ≤ hdK K S ∧ hdK K S ≤ 62) ∧ w 141 52 = hdK K S) ∨ ((256 ≤ hdK K S ∧ hdK K S ≤ 258) ∧ w 141 52 = hdK K S + 45) ∨ ((259 ≤ hdK K S ∧ hdK K S ≤ 262) ∧ w 141 52 = hdK K S - 256) ∨ ((263 ≤ hdK K S ∧ hdK K S ≤ 272) ∧ w 141 52 = hdK K S + 138)
theorem TokQ.c0 {w : Wd} {K : Ky} {S : List Int} (h : TokQ w K S) : w 141 52 = 0 ↔ hdK K S = 0 := by unfold TokQ at h; omega
theorem TokQ.c2 {w : Wd} {K : Ky} {S : List Int} (h : TokQ w K S) : w 141 52 = 2 ↔ hdK K S = 1 := by unfold TokQ at h; omega
theorem TokQ.c3 {w : Wd} {K : Ky} {S : List Int} (h : TokQ w K S) : w 141 52 = 3 ↔ hdK K S = 259 := by unfold TokQ at h; omega
theorem TokQ.c4 {w : Wd} {K : Ky} {S : List Int} (h : TokQ w K S) : w 141 52 = 4 ↔ hdK K S = 260 := by unfold TokQ at h; omega
theorem TokQ.c5 {w : Wd} {K : Ky} {S : List Int} (h : TokQ w K S) : w 141 52 = 5 ↔ hdK K S = 261 := by unfold TokQ at h; omega
theorem TokQ.c6 {w : Wd} {K : Ky} {S : List Int} (h : TokQ w K S) : w 141 52 = 6 ↔ hdK K S = 262 := by unfold TokQ at h; omega
theorem TokQ.sg {w : Wd} {K : Ky} {S : List Int} (h : TokQ w K S) (q : Int) (hq : 40 ≤ q ∧ q ≤ 62) : w 141 52 = q ↔ hdK K S = q := by unfold TokQ at h; omega
theorem TokQ.c401 {w : Wd} {K : Ky} {S : List Int} (h : TokQ w K S) : 401 ≤ w 141 52 ↔ 263 ≤ hdK K S := by unfold TokQ at h; omega
theorem TokQ.ft {w : Wd} {K : Ky} {S : List Int} (h : TokQ w K S) (h2 : 263 ≤ hdK K S) : w 141 52 = hdK K S + 138 ∧ hdK K S ≤ 272 := by unfold TokQ at h; omega
theorem TokQ.c301 {w : Wd} {K : Ky} {S : List Int} (h : TokQ w K S) : (301 ≤ w 141 52 ∧ w 141 52 ≤ 303) ↔ (256 ≤ hdK K S ∧ hdK K S ≤ 258) := by unfold TokQ at h; omega
theorem TokQ.c301v {w : Wd} {K : Ky} {S : List Int} (h : TokQ w K S) (h2 : 256 ≤ hdK K S ∧ hdK K S ≤ 258) : w 141 52 = hdK K S + 45 := by unfold TokQ at h; omega
theorem MpS.tk {w : Wd} {K : Ky} {a : Nat} {C : List Stq} {S : List Int} {d k : Int} (h : MpS w K a C S d k) : TokQ w K S := by
  obtain ⟨⟨h1, h2, h3, h4⟩, rfl, -, -, -⟩ := h
  unfold TokQ
  rw [h2]
  exact mk_d (kyT_rng S)
theorem MpS.pv {w : Wd} {K : Ky} {a : Nat} {C : List Stq} {S : List Int} {d k : Int} (h : MpS w K a C S d k) : w 141 53 = plK K S ∧ 0 ≤ w 141 54 ∧ w 141 54 ≤ 9999 := by
  obtain ⟨⟨h1, h2, h3, h4⟩, rfl, -, -, -⟩ := h
  exact ⟨h3, h1.2.2.2.2⟩
theorem MpS.nu {w : Wd} {K : Ky} {a : Nat} {C : List Stq} {S : List Int} {d k : Int} (h : MpS w K a C S d k) (h1 : hdK K S = 1) : w 141 54 = nuK K S := by
  obtain ⟨⟨-, -, -, h4⟩, rfl, -, -, -⟩ := h
  exact h4 h1
theorem MpS.hr {w : Wd} {K : Ky} {a : Nat} {C : List Stq} {S : List Int} {d k : Int} (h : MpS w K a C S d k) : 0 ≤ hdK K S ∧ hdK K S ≤ 272 := by
  obtain ⟨-, rfl, -, -, -⟩ := h
  exact hd_le (kyT_ok _ _) S
theorem MpS.tl {w : Wd} {K : Ky} {a : Nat} {C : List Stq} {S : List Int} {d k : Int} (h : MpS w K a C S d k) (q : hdK K S ≠ 0) : S.tail.length + 1 = S.length := hd_tail q
theorem MpS.lt {w : Wd} {K : Ky} {a : Nat} {C : List Stq} {S : List Int} {d k : Int} (h : MpS w K a C S d k) : (0 ≤ w 141 49 ∧ w 141 49 + S.length + k ≤ 600) ∧ KOK K := by
  obtain ⟨h1, h2, h3, h4, h5⟩ := h
  have := h3.1
  exact ⟨by omega, by rw [← h2]; exact kyT_ok _ _⟩
theorem MpS.wk {w : Wd} {K : Ky} {a : Nat} {C : List Stq} {S : List Int} {d k k2 : Int} (h : MpS w K a C S d k) (hk : k2 ≤ k) : MpS w K a C S d k2 := by
  obtain ⟨h1, h2, h3, h4, h5⟩ := h
  exact ⟨h1, h2, h3, h4, by omega⟩
/-- how a reader of the reference ends -/
def ReM (w : Wd) (K : Ky) (a : Nat) (d k : Int) (r : Rs) (z : Int) (w1 : Wd) : Prop := (z = 0 ∧ ∃ e, r = .inl e ∧ FrM w w1 ∧ w1 141 55 = e.1 ∧ w1 141 56 = e.2) ∨ (z = 1 ∧ ∃ C S, r = okR C S ∧ FrM w w1 ∧ MpS w1 K a C S d k ∧ w1 141 55 = w 141 55)
theorem ReM.no {w w1 : Wd} {K : Ky} {a : Nat} {d k : Int} {r : Rs} {z : Int} (h : ReM w K a d k r z w1) (hz : z = 0) : ∃ e, r = .inl e ∧ FrM w w1 ∧ w1 141 55 = e.1 ∧ w1 141 56 = e.2 := by
  rcases h with h | h
  · exact h.2
  · omega
theorem ReM.ok {w w1 : Wd} {K : Ky} {a : Nat} {d k : Int} {r : Rs} {z : Int} (h : ReM w K a d k r z w1) (hz : z ≠ 0) : ∃ C S, r = okR C S ∧ FrM w w1 ∧ MpS w1 K a C S d k ∧ w1 141 55 = w 141 55 := by
  rcases h with h | h
  · omega
  · exact h.2

set_option maxRecDepth 100000 in
theorem c_M_bad (q : Int) (w : Wd) : CallN 1 mX12_bad [(2, 141), (0, q)] w (RV (0, 0) (wu (wu w 141 55 q) 141 56 (w 141 53))) := by
  refine CallN.intro (by decide +kernel) (Nat.le_of_ble_eq_true rfl) (fun ρ hR => ?_)
  show AtN mX12_bad 1 ρ 0 [(0, (2, 141)), (1, (0, q))] [] w
  refine s_aload_n dX12_bad_0 0 rfl rfl (s_iload_n dX12_bad_1 1 rfl (n_putf 141 55 55 dX12_bad_2 cf_X12 ff_X12_343 rfl rfl sh_141 rfl rfl rfl (s_aload_n dX12_bad_5 0 rfl rfl (s_aload_n dX12_bad_6 0 rfl rfl (n_getf 141 53 0 dX12_bad_7 cf_X12 ff_X12_283 rfl sh_141 rfl (by decide) (v := (w 141 53)) rfl (n_putf 141 56 56 dX12_bad_10 cf_X12 ff_X12_346 rfl rfl sh_141 rfl rfl rfl (s_iconst dX12_bad_13 (by decide) (n_zret dX12_bad_14 hR rfl (by first | exact Or.inl rfl | exact Or.inr rfl | exact bi_01 _ | omega) ?_))))))))
  exact ⟨rfl, rfl⟩

set_option maxRecDepth 100000 in
theorem c_M_lay0 (x y : Int) (w : Wd) (hl : 0 ≤ w 141 49 ∧ w 141 49 < 610) : CallN 1 mX12_lay [(2, 141), (0, x), (0, y)] w (RU (wu (wu (wu w 177 (2 * w 141 49) x) 177 (2 * w 141 49 + 1) y) 141 49 (w 141 49 + 1))) := by
  refine CallN.intro (by decide +kernel) (Nat.le_of_ble_eq_true rfl) (fun ρ hR => ?_)
  show AtN mX12_lay 1 ρ 0 [(0, (2, 141)), (1, (0, x)), (2, (0, y))] [] w
  refine s_aload_n dX12_lay_0 0 rfl rfl (n_getc (q := 177) 141 45 187 dX12_lay_1 cf_X12 ff_X12_116 rfl sh_141 rfl (by decide) rfl (by decide) (s_iconst dX12_lay_4 (by decide) (s_aload_n dX12_lay_5 0 rfl rfl (n_getf 141 49 0 dX12_lay_6 cf_X12 ff_X12_355 rfl sh_141 rfl (by decide) (v := (w 141 49)) rfl (n_mul (z := (2 * (w 141 49))) dX12_lay_9 (wr_id (by omega) (by omega)) (s_iload_n dX12_lay_10 1 rfl (s_iastore 177 dX12_lay_11 rfl sh_177 (by decide) ⟨(by omega), (by omega)⟩ (s_aload_n dX12_lay_12 0 rfl rfl (n_getc (q := 177) 141 45 187 dX12_lay_13 cf_X12 ff_X12_116 rfl sh_141 rfl (by decide) rfl (by decide) ?_)))))))))
  refine s_iconst dX12_lay_16 (by decide) (s_aload_n dX12_lay_17 0 rfl rfl (n_getf 141 49 0 dX12_lay_18 cf_X12 ff_X12_355 rfl sh_141 rfl (by decide) (v := (w 141 49)) rfl (n_mul (z := (2 * (w 141 49))) dX12_lay_21 (wr_id (by omega) (by omega)) (s_iconst dX12_lay_22 (by decide) (n_add (z := ((2 * (w 141 49)) + 1)) dX12_lay_23 (wr_id (by omega) (by omega)) (s_iload_n dX12_lay_24 2 rfl (s_iastore 177 dX12_lay_25 rfl sh_177 (by decide) ⟨(by omega), (by omega)⟩ (s_aload_n dX12_lay_26 0 rfl rfl (s_dup dX12_lay_27 (show (2 : Nat) ≠ 1 by decide) ?_)))))))))
  refine n_getf 141 49 0 dX12_lay_28 cf_X12 ff_X12_355 rfl sh_141 rfl (by decide) (v := (w 141 49)) rfl (s_iconst dX12_lay_31 (by decide) (n_add (z := ((w 141 49) + 1)) dX12_lay_32 (wr_id (by omega) (by omega)) (n_putf 141 49 49 dX12_lay_33 cf_X12 ff_X12_355 rfl rfl sh_141 rfl rfl rfl (n_ret dX12_lay_36 hR rfl ?_))))
  exact ⟨rfl, rfl⟩

theorem FeQ.add {w : Wd} {a : Nat} {C : List Stq} {p : Stq} {x y : Int} (h : FeQ w a C) (hp : stp p x y) : FeQ (wu (wu (wu w 177 (2 * w 141 49) x) 177 (2 * w 141 49 + 1) y) 141 49 (w 141 49 + 1)) a (C ++ [p]) := by
  obtain ⟨h1, h2⟩ := h
  refine ⟨?_, fun j hj => ?_⟩
  · rw [wu_same, h1, List.length_append]
    show (a : Int) + C.length + 1 = a + ((C.length + 1 : Nat) : Int)
    omega
  · rw [wu_ne (show (177 : Nat) ≠ 141 by decide), wu_at, wu_at, wu_at, wu_at, h1]
    rw [List.length_append] at hj
    have hj2 : j < C.length + 1 := hj
    by_cases e : j = C.length
    · have e9 : (C ++ [p]).getD j (0, 0) = p := by
        rw [e, List.getD_eq_getElem?_getD, List.getElem?_append_right (Nat.le_refl _), Nat.sub_self]
        rfl
      rw [e9, if_neg (by omega), if_pos (by omega), if_pos (by omega)]
      exact hp
    · have e9 : (C ++ [p]).getD j (0, 0) = C.getD j (0, 0) := by
        rw [List.getD_eq_getElem?_getD, List.getD_eq_getElem?_getD, List.getElem?_append_left (by omega)]
      rw [e9, if_neg (by omega), if_neg (by omega), if_neg (by omega), if_neg (by omega)]
      exact h2 j (by omega)
theorem c_M_lay (p : Stq) (x y : Int) {K : Ky} {a : Nat} {C : List Stq} {S : List Int} {d k : Int} (w : Wd) (hS : MpS w K a C S d k) (hk : -5 ≤ k) (hp : stp p x y) : CallN 1 mX12_lay [(2, 141), (0, x), (0, y)] w (RUQ (fun w1 => FrM w w1 ∧ MpS w1 K a (C ++ [p]) S d (k - 1) ∧ w1 141 55 = w 141 55 ∧ ∀ j : Int, j ≠ 49 → w1 141 j = w 141 j)) := by
  have hl := hS.lt.1
  have hsl : 0 ≤ (S.length : Int) := by omega
  refine (c_M_lay0 x y w ⟨hl.1, by omega⟩).conseq (fun r w1 h => ?_)
  obtain ⟨rfl, rfl⟩ := h
  obtain ⟨h1, h2, h3, h4, h5⟩ := hS
  have k0 : ∀ c, c ≠ 141 → c ≠ 177 → wu (wu (wu w 177 (2 * w 141 49) x) 177 (2 * w 141 49 + 1) y) 141 49 (w 141 49 + 1) c = w c := fun c a b => by rw [wu_ne a, wu_ne b, wu_ne b]
  have k1 : ∀ j : Int, j ≠ 49 → wu (wu (wu w 177 (2 * w 141 49) x) 177 (2 * w 141 49 + 1) y) 141 49 (w 141 49 + 1) 141 j = w 141 j := fun j hj => by rw [wu_f hj, wu_ne (by decide), wu_ne (by decide)]
  refine ⟨rfl, ⟨k0, fun j a _ _ _ _ _ _ _ => k1 j a, fun i hi => ?_, by rw [wu_same]; omega, fun q => by rw [k1 54 (by decide)]; exact q⟩, ⟨?_, ?_, h3.add hp, ?_, ?_⟩, k1 55 (by decide), k1⟩
  · rw [wu_ne (by decide), wu_at, if_neg (by omega), wu_at, if_neg (by omega)]
  · unfold MdS PoM TxM KM' at h1 ⊢
    rw [k0 178 (by decide) (by decide), k1 50 (by decide), k1 51 (by decide), k1 52 (by decide), k1 53 (by decide), k1 54 (by decide)]
    exact h1
  · rw [← h2]
    unfold KM'
    rw [k0 178 (by decide) (by decide), k1 50 (by decide)]
  · rw [k1 58 (by decide)]; exact h4
  · rw [List.length_append]
    show (a : Int) + ((C.length + 1 : Nat) : Int) + S.length + (k - 1) ≤ 600
    omega
theorem c_M_next {K : Ky} {a : Nat} {C : List Stq} {S : List Int} {d k : Int} (w : Wd) (hS : MpS w K a C S d k) (hd : hdK K S ≠ 0) : CallN 7 mX12_next0 [(2, 141)] w (RUQ (fun w1 => FrM w w1 ∧ MpS w1 K a C S.tail d (k + 1) ∧ w1 141 55 = w 141 55 ∧ ∀ j : Int, (j < 51 ∨ 54 < j) → w1 141 j = w 141 j)) := by
  have ht := hS.tl hd
  obtain ⟨h1, h2, h3, h4, h5⟩ := hS
  refine (c_M_next0 w h1.1).conseq (fun r w1 h => ?_)
  obtain ⟨rfl, hf, hm⟩ := h
  exact ⟨rfl, hf.M hm.1.2.2.2.2, ⟨hm, hf.km.trans h2, hf.fe h3, by rw [hf.2 58 (by omega)]; exact h4, by omega⟩, hf.2 55 (by omega), hf.2⟩

theorem stp_un {K : Ky} {S : List Int} {x y : Int} (hx : (hdK K S = 1 ∧ x = 0) ∨ (263 ≤ hdK K S ∧ x = hdK K S - 262)) (hr : hdK K S ≤ 272) (hy : (hdK K S = 1 → y = nuK K S) ∧ 0 ≤ y ∧ y ≤ 9999) : stp (unc K S) x y := by
  unfold stp unc
  rcases hx with ⟨h, e⟩ | ⟨h, e⟩
  · rw [if_pos h]; exact ⟨e, fun _ => hy.1 h, hy.2⟩
  · rw [if_neg (by omega)]
    refine ⟨e, fun q => ?_, hy.2⟩
    dsimp only at q
    omega
set_option maxRecDepth 100000 in
theorem c_M_unit {K : Ky} {a : Nat} {C : List Stq} {S : List Int} {d k : Int} (w : Wd) (hS : MpS w K a C S d k) (hk : 0 ≤ k) : CallN 8 mX12_unit [(2, 141)] w (RQ (fun z w1 => ReM w K a d k (unP K C S) z w1)) := by
  refine CallN.intro (by decide +kernel) (Nat.le_of_ble_eq_true rfl) (fun ρ hR => ?_)
  show AtN mX12_unit 8 ρ 0 [(0, (2, 141))] [] w
  have hl9 := hS.lt.1
  have hpv9 := hS.pv
  have hhr9 := hS.hr
  have hK := hS.lt.2
  refine s_aload_n dX12_unit_0 0 rfl rfl (n_getf 141 52 0 dX12_unit_1 cf_X12 ff_X12_328 rfl sh_141 rfl (by decide) (v := (w 141 52)) rfl (s_iconst dX12_unit_4 (by decide) (s_icmp_eq 24 dX12_unit_5 (by decide) (fun c_5 => ?_) (fun c_5 => ?_))))
  · skip
    have k_5 : hdK K S = 1 := ((MpS.tk hS).c2).mp (by omega)
    have kt_5 := MpS.tl hS (by omega)
    refine s_aload_n dX12_unit_24 0 rfl rfl (s_aload_n dX12_unit_25 0 rfl rfl (n_getf 141 52 0 dX12_unit_26 cf_X12 ff_X12_328 rfl sh_141 rfl (by decide) (v := (w 141 52)) rfl (s_iconst dX12_unit_29 (by decide) (s_icmp_ne 37 dX12_unit_30 (by decide) (fun c_30 => ?_) (fun c_30 => ?_)))))
    · skip
      exfalso
      omega
    · skip
      skip
      refine s_iconst dX12_unit_33 (by decide) (s_goto 47 dX12_unit_34 (by decide) (s_aload_n dX12_unit_47 0 rfl rfl (n_getf 141 54 0 dX12_unit_48 cf_X12 ff_X12_340 rfl sh_141 rfl (by decide) (v := (w 141 54)) rfl (n_invV' (as := [(0, 0), (0, (w 141 54))]) dX12_unit_51 kv_X12_lay ml_X12_365 (c_M_lay (unc K S) 0 (w 141 54) w hS (by omega) (stp_un (Or.inl ⟨by omega, rfl⟩) (by omega) ⟨fun z => hS.nu z, by omega⟩)) (by decide) 141 cf_X12 rfl sh_141 rfl rfl rfl (Nat.le_of_ble_eq_true rfl) ?_))))
      rintro r_51 w_l1 ⟨rfl, hf1, hS1, hg1, hj1⟩
      have hl1 := hS1.lt
      have hpv1 := hS1.pv
      refine s_aload_n dX12_unit_54 0 rfl rfl (n_invV' (as := []) dX12_unit_55 kv_X12_next0 ml_X12_352 (c_M_next w_l1 hS1 (by omega)) (by decide) 141 cf_X12 rfl sh_141 rfl rfl rfl (Nat.le_of_ble_eq_true rfl) ?_)
      rintro r_55 w_l2 ⟨rfl, hf2, hS2, hg2, hj2⟩
      have hl2 := hS2.lt.1
      have hpv2 := hS2.pv
      have hhr2 := hS2.hr
      refine s_iconst dX12_unit_58 (by decide) (n_zret dX12_unit_59 hR rfl (by first | exact Or.inl rfl | exact Or.inr rfl | exact bi_01 _ | omega) ?_)
      exact ⟨_, rfl, Or.inr ⟨rfl, _, _, unP_ok (by omega), ((FrM.rf.tr hf1).tr hf2), hS2.wk (by omega), (hg2.trans (hg1.trans rfl))⟩⟩
  · skip
    have k_5 : hdK K S ≠ 1 := fun z => absurd (((MpS.tk hS).c2).mpr z) (by omega)
    refine s_aload_n dX12_unit_8 0 rfl rfl (n_getf 141 52 0 dX12_unit_9 cf_X12 ff_X12_328 rfl sh_141 rfl (by decide) (v := (w 141 52)) rfl (s_sipush dX12_unit_12 (by decide) (s_icmp_ge 24 dX12_unit_15 (by decide) (fun c_15 => ?_) (fun c_15 => ?_))))
    · skip
      have k_15 : 263 ≤ hdK K S := (MpS.tk hS).c401.mp (by omega)
      refine s_aload_n dX12_unit_24 0 rfl rfl (s_aload_n dX12_unit_25 0 rfl rfl (n_getf 141 52 0 dX12_unit_26 cf_X12 ff_X12_328 rfl sh_141 rfl (by decide) (v := (w 141 52)) rfl (s_iconst dX12_unit_29 (by decide) (s_icmp_ne 37 dX12_unit_30 (by decide) (fun c_30 => ?_) (fun c_30 => ?_)))))
      · skip
        skip
        have hft := hS.tk.ft (by omega)
        have kt_9 := MpS.tl hS (by omega)
        refine s_iconst dX12_unit_37 (by decide) (s_aload_n dX12_unit_38 0 rfl rfl (n_getf 141 52 0 dX12_unit_39 cf_X12 ff_X12_328 rfl sh_141 rfl (by decide) (v := (w 141 52)) rfl (n_add (z := (1 + (w 141 52))) dX12_unit_42 (wr_id (by omega) (by omega)) (s_sipush dX12_unit_43 (by decide) (n_sub (z := ((1 + (w 141 52)) - 401)) dX12_unit_46 (wr_id (by omega) (by omega)) (s_aload_n dX12_unit_47 0 rfl rfl (n_getf 141 54 0 dX12_unit_48 cf_X12 ff_X12_340 rfl sh_141 rfl (by decide) (v := (w 141 54)) rfl (n_invV' (as := [(0, ((1 + (w 141 52)) - 401)), (0, (w 141 54))]) dX12_unit_51 kv_X12_lay ml_X12_365 (c_M_lay (unc K S) ((1 + (w 141 52)) - 401) (w 141 54) w hS (by omega) (stp_un (Or.inr ⟨by omega, by have := hS.tk.ft (by omega); omega⟩) (by omega) ⟨fun z => hS.nu z, by omega⟩)) (by decide) 141 cf_X12 rfl sh_141 rfl rfl rfl (Nat.le_of_ble_eq_true rfl) ?_))))))))
        rintro r_51 w_l3 ⟨rfl, hf3, hS3, hg3, hj3⟩
        have hl3 := hS3.lt
        have hpv3 := hS3.pv
        refine s_aload_n dX12_unit_54 0 rfl rfl (n_invV' (as := []) dX12_unit_55 kv_X12_next0 ml_X12_352 (c_M_next w_l3 hS3 (by omega)) (by decide) 141 cf_X12 rfl sh_141 rfl rfl rfl (Nat.le_of_ble_eq_true rfl) ?_)
        rintro r_55 w_l4 ⟨rfl, hf4, hS4, hg4, hj4⟩
        have hl4 := hS4.lt.1
        have hpv4 := hS4.pv
        have hhr4 := hS4.hr
        refine s_iconst dX12_unit_58 (by decide) (n_zret dX12_unit_59 hR rfl (by first | exact Or.inl rfl | exact Or.inr rfl | exact bi_01 _ | omega) ?_)
        exact ⟨_, rfl, Or.inr ⟨rfl, _, _, unP_ok (by omega), ((FrM.rf.tr hf3).tr hf4), hS4.wk (by omega), (hg4.trans (hg3.trans rfl))⟩⟩
      · skip
        exfalso
        omega
    · skip
      have k_15 : ¬ 263 ≤ hdK K S := fun z => absurd ((MpS.tk hS).c401.mpr z) (by omega)
      refine s_aload_n dX12_unit_18 0 rfl rfl (s_iconst dX12_unit_19 (by decide) (n_invV (as := [(0, 1)]) dX12_unit_20 kv_X12_bad ml_X12_349 (c_M_bad 1 w) (by decide) 141 cf_X12 rfl sh_141 rfl rfl rfl (Nat.le_of_ble_eq_true rfl) (n_zret dX12_unit_23 hR rfl (by first | exact Or.inl rfl | exact Or.inr rfl | exact bi_01 _ | omega) ?_)))
      exact ⟨_, rfl, Or.inl ⟨rfl, (1, plK K S), by unfold unP flK; rw [if_neg (by omega), if_neg (by omega)], (FrM.rf).tr FrM.bad, by rw [wu_f (by decide)]; exact wu_same .., (wu_same ..).trans (by omega)⟩⟩

theorem prP_42 {K : Ky} {f : Nat} {D : List Stq} {R : List Int} (h : hdK K R = 42) : prP K (f + 1) D R = bnd (unP K D R.tail) (fun E Q => prP K f (E ++ [(14, 0)]) Q) := by rw [prP, if_pos h]
theorem prP_47 {K : Ky} {f : Nat} {D : List Stq} {R : List Int} (h : hdK K R = 47) : prP K (f + 1) D R = bnd (paP K D R.tail) (fun E Q => prP K f E Q) := by rw [prP, if_neg (by omega), if_pos h]
theorem paP_1 {K : Ky} {D : List Stq} {R : List Int} (h : hdK K R ≠ 1) : paP K D R = .inl (1, plK K R) := if_neg h
theorem paP_2 {K : Ky} {D : List Stq} {R : List Int} (h : hdK K R = 1) (h0 : nuK K R = 0) : paP K D R = .inl (2, plK K R) := by
  unfold paP
  rw [if_pos h, if_pos h0]
  rfl
theorem stp_c {k y : Int} (hy : 0 ≤ y ∧ y ≤ 9999) : stp (k, y) k y := ⟨rfl, fun _ => rfl, hy⟩
theorem stp_v {k y z : Int} (hy : 0 ≤ y ∧ y ≤ 9999) (e : y = z) : stp (k, z) k y := ⟨rfl, fun _ => e, hy⟩
set_option maxRecDepth 100000 in
set_option maxHeartbeats 1000000 in
theorem c_M_product {K : Ky} {a : Nat} {C : List Stq} {S : List Int} {d k : Int} (w : Wd) (hS : MpS w K a C S d k) (hk : 0 ≤ k) : CallN 9 mX12_product [(2, 141)] w (RQ (fun z w1 => ReM w K a d k (tmP K C S) z w1)) := by
  refine CallN.intro (by decide +kernel) (Nat.le_of_ble_eq_true rfl) (fun ρ hR => ?_)
  show AtN mX12_product 9 ρ 0 [(0, (2, 141))] [] w
  have hl9 := hS.lt.1
  have hpv9 := hS.pv
  have hhr9 := hS.hr
  have hK := hS.lt.2
  have L_9 : ∀ (fu : Nat) (v9 : Wd) (D : List Stq) (R : List Int) (f : Nat), FrM w v9 → v9 141 55 = w 141 55 → MpS v9 K a D R d k → R.length < f → tmP K C S = prP K f D R → R.length < fu → AtN mX12_product 9 ρ 9 [(0, (2, 141))] [] v9 := by
    intro fu
    induction fu with
    | zero => intro v9 D R f hF hg hQ hfu hX hm; exact absurd hm (Nat.not_lt_zero _)
    | succ fu ih =>
      intro v9 D R f hF hg hQ hfu hX hm
      have hl9 := hQ.lt.1
      have hpv9 := hQ.pv
      have hhr9 := hQ.hr
      have hK := hQ.lt.2
      obtain ⟨g, rfl⟩ : ∃ g, f = g + 1 := ⟨f - 1, by omega⟩
      refine s_aload_n dX12_product_9 0 rfl rfl (n_getf 141 52 0 dX12_product_10 cf_X12 ff_X12_328 rfl sh_141 rfl (by decide) (v := (v9 141 52)) rfl (s_bipush dX12_product_13 (by decide) (s_icmp_eq 27 dX12_product_15 (by decide) (fun c_15 => ?_) (fun c_15 => ?_))))
      · skip
        have k_15 : hdK K R = 42 := ((MpS.tk hQ).sg 42 (by decide)).mp (by omega)
        have kt_15 := MpS.tl hQ (by omega)
        refine s_aload_n dX12_product_27 0 rfl rfl (n_getf 141 52 0 dX12_product_28 cf_X12 ff_X12_328 rfl sh_141 rfl (by decide) (v := (v9 141 52)) rfl (s_bipush dX12_product_31 (by decide) (s_icmp_ne 40 dX12_product_33 (by decide) (fun c_33 => ?_) (fun c_33 => ?_))))
        · skip
          have k_33 : hdK K R ≠ 47 := fun z => absurd (((MpS.tk hQ).sg 47 (by decide)).mpr z) (by omega)
          refine s_iconst dX12_product_40 (by decide) (s_istore_n (ls' := [(0, (2, 141)), (1, (0, 0))]) dX12_product_41 (Nat.le_of_ble_eq_true rfl) rfl (s_aload_n dX12_product_42 0 rfl rfl (n_invV' (as := []) dX12_product_43 kv_X12_next0 ml_X12_352 (c_M_next v9 hQ (by omega)) (by decide) 141 cf_X12 rfl sh_141 rfl rfl rfl (Nat.le_of_ble_eq_true rfl) ?_)))
          rintro r_43 w_l1 ⟨rfl, hf1, hS1, hg1, hj1⟩
          have hl1 := hS1.lt.1
          have hpv1 := hS1.pv
          have hhr1 := hS1.hr
          refine s_iload_n dX12_product_46 1 rfl (s_if_eq 94 dX12_product_47 (by decide) (kf := fun c => absurd c (by decide)) (kt := fun _ => s_aload_n dX12_product_94 0 rfl rfl (n_invV' (as := []) dX12_product_95 kv_X12_unit ml_X12_369 (c_M_unit w_l1 hS1 (by omega)) (by decide) 141 cf_X12 rfl sh_141 rfl rfl rfl (Nat.le_of_ble_eq_true rfl) ?_)))
          rintro r_95 w_95 ⟨z_95, rfl, hz_95⟩
          show AtN _ _ ρ _ _ [(0, z_95)] w_95
          refine s_if_ne 103 dX12_product_98 (by decide) (fun c_98 => ?_) (fun c_98 => ?_)
          · skip
            obtain ⟨D2, R2, hD2, hG2, hR2, hg92⟩ := hz_95.ok (by omega)
            have hlr2 := hR2.lt.1
            have hpvr2 := hR2.pv
            have hhrr2 := hR2.hr
            have hun := (un_gr hK hD2).2
            refine s_aload_n dX12_product_103 0 rfl rfl (s_bipush dX12_product_104 (by decide) (s_iconst dX12_product_106 (by decide) (n_invV' (as := [(0, 14), (0, 0)]) dX12_product_107 kv_X12_lay ml_X12_365 (c_M_lay ((14 : Int), (0 : Int)) 14 0 w_95 hR2 (by omega) (stp_c (by decide))) (by decide) 141 cf_X12 rfl sh_141 rfl rfl rfl (Nat.le_of_ble_eq_true rfl) ?_)))
            rintro r_107 w_l2 ⟨rfl, hf2, hS2, hg2, hj2⟩
            have hl2 := hS2.lt
            have hpv2 := hS2.pv
            skip
            refine s_goto 9 dX12_product_110 (by decide) ?_
            exact At.keep (ls' := [(0, (2, 141))]) [0] rfl (ih w_l2 (D2 ++ [((14 : Int), (0 : Int))]) R2 g (((hF.tr hf1).tr hG2).tr hf2) (hg2.trans (hg92.trans (hg1.trans hg))) (hS2.wk (by omega)) (by omega) (hX.trans ((prP_42 (by omega)).trans (bnd_on hD2))) (by have hty := suf_len (List.tail_suffix R.tail); omega))
          · skip
            obtain ⟨e9, he, hF9, h39, h49⟩ := hz_95.no (by omega)
            refine s_iconst dX12_product_101 (by decide) (n_zret dX12_product_102 hR rfl (by first | exact Or.inl rfl | exact Or.inr rfl | exact bi_01 _ | omega) ?_)
            exact ⟨_, rfl, Or.inl ⟨rfl, e9, hX.trans ((prP_42 (by omega)).trans (bnd_in he)), ((hF.tr hf1)).tr hF9, h39, h49⟩⟩
        · skip
          have k_33 : hdK K R = 47 := ((MpS.tk hQ).sg 47 (by decide)).mp (by omega)
          have kt_33 := MpS.tl hQ (by omega)
          refine s_iconst dX12_product_36 (by decide) (s_goto 41 dX12_product_37 (by decide) (s_istore_n (ls' := [(0, (2, 141)), (1, (0, 1))]) dX12_product_41 (Nat.le_of_ble_eq_true rfl) rfl (s_aload_n dX12_product_42 0 rfl rfl (n_invV' (as := []) dX12_product_43 kv_X12_next0 ml_X12_352 (c_M_next v9 hQ (by omega)) (by decide) 141 cf_X12 rfl sh_141 rfl rfl rfl (Nat.le_of_ble_eq_true rfl) ?_))))
          rintro r_43 w_l3 ⟨rfl, hf3, hS3, hg3, hj3⟩
          have hl3 := hS3.lt.1
          have hpv3 := hS3.pv
          have hhr3 := hS3.hr
          refine s_iload_n dX12_product_46 1 rfl (s_if_eq 94 dX12_product_47 (by decide) (kt := fun c => absurd c (by decide)) (kf := fun _ => s_aload_n dX12_product_50 0 rfl rfl (n_getf 141 52 0 dX12_product_51 cf_X12 ff_X12_328 rfl sh_141 rfl (by decide) (v := (w_l3 141 52)) rfl (s_iconst dX12_product_54 (by decide) (s_icmp_eq 64 dX12_product_55 (by decide) (fun c_55 => ?_) (fun c_55 => ?_))))))
          · skip
            have k_55 : hdK K R.tail = 1 := ((MpS.tk hS3).c2).mp (by omega)
            have kt_55 := MpS.tl hS3 (by omega)
            have hnu9 := MpS.nu hS3 (by omega)
            refine s_aload_n dX12_product_64 0 rfl rfl (n_getf 141 54 0 dX12_product_65 cf_X12 ff_X12_340 rfl sh_141 rfl (by decide) (v := (w_l3 141 54)) rfl (s_if_ne 77 dX12_product_68 (by decide) (fun c_68 => ?_) (fun c_68 => ?_)))
            · skip
              refine s_aload_n dX12_product_77 0 rfl rfl (s_bipush dX12_product_78 (by decide) (s_aload_n dX12_product_80 0 rfl rfl (n_getf 141 54 0 dX12_product_81 cf_X12 ff_X12_340 rfl sh_141 rfl (by decide) (v := (w_l3 141 54)) rfl (n_invV' (as := [(0, 15), (0, (w_l3 141 54))]) dX12_product_84 kv_X12_lay ml_X12_365 (c_M_lay ((15 : Int), nuK K R.tail) 15 (w_l3 141 54) w_l3 hS3 (by omega) (stp_v (by omega) (hnu9))) (by decide) 141 cf_X12 rfl sh_141 rfl rfl rfl (Nat.le_of_ble_eq_true rfl) ?_))))
              rintro r_84 w_l4 ⟨rfl, hf4, hS4, hg4, hj4⟩
              have hl4 := hS4.lt
              have hpv4 := hS4.pv
              refine s_aload_n dX12_product_87 0 rfl rfl (n_invV' (as := []) dX12_product_88 kv_X12_next0 ml_X12_352 (c_M_next w_l4 hS4 (by omega)) (by decide) 141 cf_X12 rfl sh_141 rfl rfl rfl (Nat.le_of_ble_eq_true rfl) ?_)
              rintro r_88 w_l5 ⟨rfl, hf5, hS5, hg5, hj5⟩
              have hl5 := hS5.lt.1
              have hpv5 := hS5.pv
              have hhr5 := hS5.hr
              refine s_goto 110 dX12_product_91 (by decide) ?_
              skip
              refine s_goto 9 dX12_product_110 (by decide) ?_
              exact At.keep (ls' := [(0, (2, 141))]) [0] rfl (ih w_l5 (D ++ [((15 : Int), nuK K R.tail)]) R.tail.tail g (((hF.tr hf3).tr hf4).tr hf5) (hg5.trans (hg4.trans (hg3.trans hg))) (hS5.wk (by omega)) (by have hty := suf_len (List.tail_suffix R.tail); omega) (hX.trans ((prP_47 (by omega)).trans (bnd_on (paP_ok (by omega) (by omega))))) (by have hty := suf_len (List.tail_suffix R.tail); omega))
            · skip
              refine s_aload_n dX12_product_71 0 rfl rfl (s_iconst dX12_product_72 (by decide) (n_invV (as := [(0, 2)]) dX12_product_73 kv_X12_bad ml_X12_349 (c_M_bad 2 w_l3) (by decide) 141 cf_X12 rfl sh_141 rfl rfl rfl (Nat.le_of_ble_eq_true rfl) (n_zret dX12_product_76 hR rfl (by first | exact Or.inl rfl | exact Or.inr rfl | exact bi_01 _ | omega) ?_)))
              exact ⟨_, rfl, Or.inl ⟨rfl, (2, plK K R.tail), hX.trans ((prP_47 (by omega)).trans (bnd_in (paP_2 (by omega) (by omega)))), ((hF.tr hf3)).tr FrM.bad, by rw [wu_f (by decide)]; exact wu_same .., (wu_same ..).trans (by omega)⟩⟩
          · skip
            have k_55 : hdK K R.tail ≠ 1 := fun z => absurd (((MpS.tk hS3).c2).mpr z) (by omega)
            refine s_aload_n dX12_product_58 0 rfl rfl (s_iconst dX12_product_59 (by decide) (n_invV (as := [(0, 1)]) dX12_product_60 kv_X12_bad ml_X12_349 (c_M_bad 1 w_l3) (by decide) 141 cf_X12 rfl sh_141 rfl rfl rfl (Nat.le_of_ble_eq_true rfl) (n_zret dX12_product_63 hR rfl (by first | exact Or.inl rfl | exact Or.inr rfl | exact bi_01 _ | omega) ?_)))
            exact ⟨_, rfl, Or.inl ⟨rfl, (1, plK K R.tail), hX.trans ((prP_47 (by omega)).trans (bnd_in (paP_1 (by omega)))), ((hF.tr hf3)).tr FrM.bad, by rw [wu_f (by decide)]; exact wu_same .., (wu_same ..).trans (by omega)⟩⟩
      · skip
        have k_15 : hdK K R ≠ 42 := fun z => absurd (((MpS.tk hQ).sg 42 (by decide)).mpr z) (by omega)
        refine s_aload_n dX12_product_18 0 rfl rfl (n_getf 141 52 0 dX12_product_19 cf_X12 ff_X12_328 rfl sh_141 rfl (by decide) (v := (v9 141 52)) rfl (s_bipush dX12_product_22 (by decide) (s_icmp_ne 113 dX12_product_24 (by decide) (fun c_24 => ?_) (fun c_24 => ?_))))
        · skip
          have k_24 : hdK K R ≠ 47 := fun z => absurd (((MpS.tk hQ).sg 47 (by decide)).mpr z) (by omega)
          refine s_iconst dX12_product_113 (by decide) (n_zret dX12_product_114 hR rfl (by first | exact Or.inl rfl | exact Or.inr rfl | exact bi_01 _ | omega) ?_)
          exact ⟨_, rfl, Or.inr ⟨rfl, _, _, hX.trans (prP_no ⟨by omega, by omega⟩), hF, hQ, hg⟩⟩
        · skip
          have k_24 : hdK K R = 47 := ((MpS.tk hQ).sg 47 (by decide)).mp (by omega)
          have kt_24 := MpS.tl hQ (by omega)
          refine s_aload_n dX12_product_27 0 rfl rfl (n_getf 141 52 0 dX12_product_28 cf_X12 ff_X12_328 rfl sh_141 rfl (by decide) (v := (v9 141 52)) rfl (s_bipush dX12_product_31 (by decide) (s_icmp_ne 40 dX12_product_33 (by decide) (fun c_33 => ?_) (fun c_33 => ?_))))
          · skip
            have k_33 : hdK K R ≠ 47 := fun z => absurd (((MpS.tk hQ).sg 47 (by decide)).mpr z) (by omega)
            refine s_iconst dX12_product_40 (by decide) (s_istore_n (ls' := [(0, (2, 141)), (1, (0, 0))]) dX12_product_41 (Nat.le_of_ble_eq_true rfl) rfl (s_aload_n dX12_product_42 0 rfl rfl (n_invV' (as := []) dX12_product_43 kv_X12_next0 ml_X12_352 (c_M_next v9 hQ (by omega)) (by decide) 141 cf_X12 rfl sh_141 rfl rfl rfl (Nat.le_of_ble_eq_true rfl) ?_)))
            rintro r_43 w_l6 ⟨rfl, hf6, hS6, hg6, hj6⟩
            have hl6 := hS6.lt.1
            have hpv6 := hS6.pv
            have hhr6 := hS6.hr
            refine s_iload_n dX12_product_46 1 rfl (s_if_eq 94 dX12_product_47 (by decide) (kf := fun c => absurd c (by decide)) (kt := fun _ => s_aload_n dX12_product_94 0 rfl rfl (n_invV' (as := []) dX12_product_95 kv_X12_unit ml_X12_369 (c_M_unit w_l6 hS6 (by omega)) (by decide) 141 cf_X12 rfl sh_141 rfl rfl rfl (Nat.le_of_ble_eq_true rfl) ?_)))
            rintro r_95 w_95 ⟨z_95, rfl, hz_95⟩
            show AtN _ _ ρ _ _ [(0, z_95)] w_95
            refine s_if_ne 103 dX12_product_98 (by decide) (fun c_98 => ?_) (fun c_98 => ?_)
            · skip
              obtain ⟨D2, R2, hD2, hG2, hR2, hg92⟩ := hz_95.ok (by omega)
              have hlr2 := hR2.lt.1
              have hpvr2 := hR2.pv
              have hhrr2 := hR2.hr
              have hun := (un_gr hK hD2).2
              refine s_aload_n dX12_product_103 0 rfl rfl (s_bipush dX12_product_104 (by decide) (s_iconst dX12_product_106 (by decide) (n_invV' (as := [(0, 14), (0, 0)]) dX12_product_107 kv_X12_lay ml_X12_365 (c_M_lay ((14 : Int), (0 : Int)) 14 0 w_95 hR2 (by omega) (stp_c (by decide))) (by decide) 141 cf_X12 rfl sh_141 rfl rfl rfl (Nat.le_of_ble_eq_true rfl) ?_)))
              rintro r_107 w_l7 ⟨rfl, hf7, hS7, hg7, hj7⟩
              have hl7 := hS7.lt
              have hpv7 := hS7.pv
              skip
              refine s_goto 9 dX12_product_110 (by decide) ?_
              exact At.keep (ls' := [(0, (2, 141))]) [0] rfl (ih w_l7 (D2 ++ [((14 : Int), (0 : Int))]) R2 g (((hF.tr hf6).tr hG2).tr hf7) (hg7.trans (hg92.trans (hg6.trans hg))) (hS7.wk (by omega)) (by omega) (hX.trans ((prP_42 (by omega)).trans (bnd_on hD2))) (by have hty := suf_len (List.tail_suffix R.tail); omega))
            · skip
              obtain ⟨e9, he, hF9, h39, h49⟩ := hz_95.no (by omega)
              refine s_iconst dX12_product_101 (by decide) (n_zret dX12_product_102 hR rfl (by first | exact Or.inl rfl | exact Or.inr rfl | exact bi_01 _ | omega) ?_)
              exact ⟨_, rfl, Or.inl ⟨rfl, e9, hX.trans ((prP_42 (by omega)).trans (bnd_in he)), ((hF.tr hf6)).tr hF9, h39, h49⟩⟩
          · skip
            have k_33 : hdK K R = 47 := ((MpS.tk hQ).sg 47 (by decide)).mp (by omega)
            have kt_33 := MpS.tl hQ (by omega)
            refine s_iconst dX12_product_36 (by decide) (s_goto 41 dX12_product_37 (by decide) (s_istore_n (ls' := [(0, (2, 141)), (1, (0, 1))]) dX12_product_41 (Nat.le_of_ble_eq_true rfl) rfl (s_aload_n dX12_product_42 0 rfl rfl (n_invV' (as := []) dX12_product_43 kv_X12_next0 ml_X12_352 (c_M_next v9 hQ (by omega)) (by decide) 141 cf_X12 rfl sh_141 rfl rfl rfl (Nat.le_of_ble_eq_true rfl) ?_))))
            rintro r_43 w_l8 ⟨rfl, hf8, hS8, hg8, hj8⟩
            have hl8 := hS8.lt.1
            have hpv8 := hS8.pv
            have hhr8 := hS8.hr
            refine s_iload_n dX12_product_46 1 rfl (s_if_eq 94 dX12_product_47 (by decide) (kt := fun c => absurd c (by decide)) (kf := fun _ => s_aload_n dX12_product_50 0 rfl rfl (n_getf 141 52 0 dX12_product_51 cf_X12 ff_X12_328 rfl sh_141 rfl (by decide) (v := (w_l8 141 52)) rfl (s_iconst dX12_product_54 (by decide) (s_icmp_eq 64 dX12_product_55 (by decide) (fun c_55 => ?_) (fun c_55 => ?_))))))
            · skip
              have k_55 : hdK K R.tail = 1 := ((MpS.tk hS8).c2).mp (by omega)
              have kt_55 := MpS.tl hS8 (by omega)
              have hnu9 := MpS.nu hS8 (by omega)
              refine s_aload_n dX12_product_64 0 rfl rfl (n_getf 141 54 0 dX12_product_65 cf_X12 ff_X12_340 rfl sh_141 rfl (by decide) (v := (w_l8 141 54)) rfl (s_if_ne 77 dX12_product_68 (by decide) (fun c_68 => ?_) (fun c_68 => ?_)))
              · skip
                refine s_aload_n dX12_product_77 0 rfl rfl (s_bipush dX12_product_78 (by decide) (s_aload_n dX12_product_80 0 rfl rfl (n_getf 141 54 0 dX12_product_81 cf_X12 ff_X12_340 rfl sh_141 rfl (by decide) (v := (w_l8 141 54)) rfl (n_invV' (as := [(0, 15), (0, (w_l8 141 54))]) dX12_product_84 kv_X12_lay ml_X12_365 (c_M_lay ((15 : Int), nuK K R.tail) 15 (w_l8 141 54) w_l8 hS8 (by omega) (stp_v (by omega) (hnu9))) (by decide) 141 cf_X12 rfl sh_141 rfl rfl rfl (Nat.le_of_ble_eq_true rfl) ?_))))
                rintro r_84 w_l9 ⟨rfl, hf9, hS9, hg9, hj9⟩
                have hl9 := hS9.lt
                have hpv9 := hS9.pv
                refine s_aload_n dX12_product_87 0 rfl rfl (n_invV' (as := []) dX12_product_88 kv_X12_next0 ml_X12_352 (c_M_next w_l9 hS9 (by omega)) (by decide) 141 cf_X12 rfl sh_141 rfl rfl rfl (Nat.le_of_ble_eq_true rfl) ?_)
                rintro r_88 w_l10 ⟨rfl, hf10, hS10, hg10, hj10⟩
                have hl10 := hS10.lt.1
                have hpv10 := hS10.pv
                have hhr10 := hS10.hr
                refine s_goto 110 dX12_product_91 (by decide) ?_
                skip
                refine s_goto 9 dX12_product_110 (by decide) ?_
                exact At.keep (ls' := [(0, (2, 141))]) [0] rfl (ih w_l10 (D ++ [((15 : Int), nuK K R.tail)]) R.tail.tail g (((hF.tr hf8).tr hf9).tr hf10) (hg10.trans (hg9.trans (hg8.trans hg))) (hS10.wk (by omega)) (by have hty := suf_len (List.tail_suffix R.tail); omega) (hX.trans ((prP_47 (by omega)).trans (bnd_on (paP_ok (by omega) (by omega))))) (by have hty := suf_len (List.tail_suffix R.tail); omega))
              · skip
                refine s_aload_n dX12_product_71 0 rfl rfl (s_iconst dX12_product_72 (by decide) (n_invV (as := [(0, 2)]) dX12_product_73 kv_X12_bad ml_X12_349 (c_M_bad 2 w_l8) (by decide) 141 cf_X12 rfl sh_141 rfl rfl rfl (Nat.le_of_ble_eq_true rfl) (n_zret dX12_product_76 hR rfl (by first | exact Or.inl rfl | exact Or.inr rfl | exact bi_01 _ | omega) ?_)))
                exact ⟨_, rfl, Or.inl ⟨rfl, (2, plK K R.tail), hX.trans ((prP_47 (by omega)).trans (bnd_in (paP_2 (by omega) (by omega)))), ((hF.tr hf8)).tr FrM.bad, by rw [wu_f (by decide)]; exact wu_same .., (wu_same ..).trans (by omega)⟩⟩
            · skip
              have k_55 : hdK K R.tail ≠ 1 := fun z => absurd (((MpS.tk hS8).c2).mpr z) (by omega)
              refine s_aload_n dX12_product_58 0 rfl rfl (s_iconst dX12_product_59 (by decide) (n_invV (as := [(0, 1)]) dX12_product_60 kv_X12_bad ml_X12_349 (c_M_bad 1 w_l8) (by decide) 141 cf_X12 rfl sh_141 rfl rfl rfl (Nat.le_of_ble_eq_true rfl) (n_zret dX12_product_63 hR rfl (by first | exact Or.inl rfl | exact Or.inr rfl | exact bi_01 _ | omega) ?_)))
              exact ⟨_, rfl, Or.inl ⟨rfl, (1, plK K R.tail), hX.trans ((prP_47 (by omega)).trans (bnd_in (paP_1 (by omega)))), ((hF.tr hf8)).tr FrM.bad, by rw [wu_f (by decide)]; exact wu_same .., (wu_same ..).trans (by omega)⟩⟩
  refine s_aload_n dX12_product_0 0 rfl rfl (n_invV' (as := []) dX12_product_1 kv_X12_unit ml_X12_369 (c_M_unit w hS (by omega)) (by decide) 141 cf_X12 rfl sh_141 rfl rfl rfl (Nat.le_of_ble_eq_true rfl) ?_)
  rintro r_1 w_1 ⟨z_1, rfl, hz_1⟩
  show AtN _ _ ρ _ _ [(0, z_1)] w_1
  refine s_if_ne 9 dX12_product_4 (by decide) (fun c_4 => ?_) (fun c_4 => ?_)
  · skip
    obtain ⟨D1, R1, hD1, hG1, hR1, hg91⟩ := hz_1.ok (by omega)
    have hlr1 := hR1.lt.1
    have hpvr1 := hR1.pv
    have hhrr1 := hR1.hr
    exact L_9 _ w_1 D1 R1 (R1.length + 1) (FrM.rf.tr hG1) (hg91.trans rfl) (hR1.wk (by omega)) (Nat.lt_succ_self _) (bnd_on hD1) (Nat.lt_succ_self _)
  · skip
    obtain ⟨e9, he, hF9, h39, h49⟩ := hz_1.no (by omega)
    refine s_iconst dX12_product_7 (by decide) (n_zret dX12_product_8 hR rfl (by first | exact Or.inl rfl | exact Or.inr rfl | exact bi_01 _ | omega) ?_)
    exact ⟨_, rfl, Or.inl ⟨rfl, e9, bnd_in he, (FrM.rf).tr hF9, h39, h49⟩⟩

theorem suP_s {K : Ky} {f : Nat} {D : List Stq} {R : List Int} (h : hdK K R = 43 ∨ hdK K R = 45) : suP K (f + 1) D R = bnd (tmP K D R.tail) (fun E Q => suP K f (E ++ [(if hdK K R = 43 then 12 else 13, 0)]) Q) := by rw [suP, if_pos h]
theorem tm_lt {K : Ky} (hK : KOK K) {C D : List Stq} {S R : List Int} (h : tmP K C S = okR D R) : R.length < S.length := (tm_gr hK).lt (fun D h => ok_ne h) h
set_option maxRecDepth 100000 in
set_option maxHeartbeats 1000000 in
theorem c_M_sumUp {K : Ky} {a : Nat} {C : List Stq} {S : List Int} {d k : Int} (w : Wd) (hS : MpS w K a C S d k) (hk : 0 ≤ k) : CallN 10 mX12_sumUp [(2, 141)] w (RQ (fun z w1 => ReM w K a d k (exP K C S) z w1)) := by
  refine CallN.intro (by decide +kernel) (Nat.le_of_ble_eq_true rfl) (fun ρ hR => ?_)
  show AtN mX12_sumUp 10 ρ 0 [(0, (2, 141))] [] w
  have hl9 := hS.lt.1
  have hpv9 := hS.pv
  have hhr9 := hS.hr
  have hK := hS.lt.2
  have L_9 : ∀ (fu : Nat) (v9 : Wd) (D : List Stq) (R : List Int) (f : Nat), FrM w v9 → v9 141 55 = w 141 55 → MpS v9 K a D R d k → R.length < f → exP K C S = suP K f D R → R.length < fu → AtN mX12_sumUp 10 ρ 9 [(0, (2, 141))] [] v9 := by
    intro fu
    induction fu with
    | zero => intro v9 D R f hF hg hQ hfu hX hm; exact absurd hm (Nat.not_lt_zero _)
    | succ fu ih =>
      intro v9 D R f hF hg hQ hfu hX hm
      have hl9 := hQ.lt.1
      have hpv9 := hQ.pv
      have hhr9 := hQ.hr
      have hK := hQ.lt.2
      obtain ⟨g, rfl⟩ : ∃ g, f = g + 1 := ⟨f - 1, by omega⟩
      refine s_aload_n dX12_sumUp_9 0 rfl rfl (n_getf 141 52 0 dX12_sumUp_10 cf_X12 ff_X12_328 rfl sh_141 rfl (by decide) (v := (v9 141 52)) rfl (s_bipush dX12_sumUp_13 (by decide) (s_icmp_eq 27 dX12_sumUp_15 (by decide) (fun c_15 => ?_) (fun c_15 => ?_))))
      · skip
        have k_15 : hdK K R = 43 := ((MpS.tk hQ).sg 43 (by decide)).mp (by omega)
        have kt_15 := MpS.tl hQ (by omega)
        refine s_aload_n dX12_sumUp_27 0 rfl rfl (n_getf 141 52 0 dX12_sumUp_28 cf_X12 ff_X12_328 rfl sh_141 rfl (by decide) (v := (v9 141 52)) rfl (s_bipush dX12_sumUp_31 (by decide) (s_icmp_ne 41 dX12_sumUp_33 (by decide) (fun c_33 => ?_) (fun c_33 => ?_))))
        · skip
          have k_33 : hdK K R ≠ 43 := fun z => absurd (((MpS.tk hQ).sg 43 (by decide)).mpr z) (by omega)
          refine s_bipush dX12_sumUp_41 (by decide) (s_istore_n (ls' := [(0, (2, 141)), (1, (0, 13))]) dX12_sumUp_43 (Nat.le_of_ble_eq_true rfl) rfl (s_aload_n dX12_sumUp_44 0 rfl rfl (n_invV' (as := []) dX12_sumUp_45 kv_X12_next0 ml_X12_352 (c_M_next v9 hQ (by omega)) (by decide) 141 cf_X12 rfl sh_141 rfl rfl rfl (Nat.le_of_ble_eq_true rfl) ?_)))
          rintro r_45 w_l1 ⟨rfl, hf1, hS1, hg1, hj1⟩
          have hl1 := hS1.lt.1
          have hpv1 := hS1.pv
          have hhr1 := hS1.hr
          refine s_aload_n dX12_sumUp_48 0 rfl rfl (n_invV' (as := []) dX12_sumUp_49 kv_X12_product ml_X12_361 (c_M_product w_l1 hS1 (by omega)) (by decide) 141 cf_X12 rfl sh_141 rfl rfl rfl (Nat.le_of_ble_eq_true rfl) ?_)
          rintro r_49 w_49 ⟨z_49, rfl, hz_49⟩
          show AtN _ _ ρ _ _ [(0, z_49)] w_49
          refine s_if_ne 57 dX12_sumUp_52 (by decide) (fun c_52 => ?_) (fun c_52 => ?_)
          · skip
            obtain ⟨D2, R2, hD2, hG2, hR2, hg92⟩ := hz_49.ok (by omega)
            have hlr2 := hR2.lt.1
            have hpvr2 := hR2.pv
            have hhrr2 := hR2.hr
            have hun := tm_lt hK hD2
            refine s_aload_n dX12_sumUp_57 0 rfl rfl (s_iload_n dX12_sumUp_58 1 rfl (s_iconst dX12_sumUp_59 (by decide) (n_invV' (as := [(0, 13), (0, 0)]) dX12_sumUp_60 kv_X12_lay ml_X12_365 (c_M_lay ((if hdK K R = 43 then 12 else 13 : Int), (0 : Int)) 13 0 w_49 hR2 (by omega) (by rw [if_neg (by omega)]; exact stp_c (by decide))) (by decide) 141 cf_X12 rfl sh_141 rfl rfl rfl (Nat.le_of_ble_eq_true rfl) ?_)))
            rintro r_60 w_l2 ⟨rfl, hf2, hS2, hg2, hj2⟩
            have hl2 := hS2.lt
            have hpv2 := hS2.pv
            skip
            refine s_goto 9 dX12_sumUp_63 (by decide) ?_
            exact At.keep (ls' := [(0, (2, 141))]) [0] rfl (ih w_l2 (D2 ++ [((if hdK K R = 43 then 12 else 13 : Int), (0 : Int))]) R2 g (((hF.tr hf1).tr hG2).tr hf2) (hg2.trans (hg92.trans (hg1.trans hg))) (hS2.wk (by omega)) (by omega) (hX.trans ((suP_s (by omega)).trans (bnd_on hD2))) (by omega))
          · skip
            obtain ⟨e9, he, hF9, h39, h49⟩ := hz_49.no (by omega)
            refine s_iconst dX12_sumUp_55 (by decide) (n_zret dX12_sumUp_56 hR rfl (by first | exact Or.inl rfl | exact Or.inr rfl | exact bi_01 _ | omega) ?_)
            exact ⟨_, rfl, Or.inl ⟨rfl, e9, hX.trans ((suP_s (by omega)).trans (bnd_in he)), ((hF.tr hf1)).tr hF9, h39, h49⟩⟩
        · skip
          have k_33 : hdK K R = 43 := ((MpS.tk hQ).sg 43 (by decide)).mp (by omega)
          have kt_33 := MpS.tl hQ (by omega)
          refine s_bipush dX12_sumUp_36 (by decide) (s_goto 43 dX12_sumUp_38 (by decide) (s_istore_n (ls' := [(0, (2, 141)), (1, (0, 12))]) dX12_sumUp_43 (Nat.le_of_ble_eq_true rfl) rfl (s_aload_n dX12_sumUp_44 0 rfl rfl (n_invV' (as := []) dX12_sumUp_45 kv_X12_next0 ml_X12_352 (c_M_next v9 hQ (by omega)) (by decide) 141 cf_X12 rfl sh_141 rfl rfl rfl (Nat.le_of_ble_eq_true rfl) ?_))))
          rintro r_45 w_l3 ⟨rfl, hf3, hS3, hg3, hj3⟩
          have hl3 := hS3.lt.1
          have hpv3 := hS3.pv
          have hhr3 := hS3.hr
          refine s_aload_n dX12_sumUp_48 0 rfl rfl (n_invV' (as := []) dX12_sumUp_49 kv_X12_product ml_X12_361 (c_M_product w_l3 hS3 (by omega)) (by decide) 141 cf_X12 rfl sh_141 rfl rfl rfl (Nat.le_of_ble_eq_true rfl) ?_)
          rintro r_49 w_49 ⟨z_49, rfl, hz_49⟩
          show AtN _ _ ρ _ _ [(0, z_49)] w_49
          refine s_if_ne 57 dX12_sumUp_52 (by decide) (fun c_52 => ?_) (fun c_52 => ?_)
          · skip
            obtain ⟨D2, R2, hD2, hG2, hR2, hg92⟩ := hz_49.ok (by omega)
            have hlr2 := hR2.lt.1
            have hpvr2 := hR2.pv
            have hhrr2 := hR2.hr
            have hun := tm_lt hK hD2
            refine s_aload_n dX12_sumUp_57 0 rfl rfl (s_iload_n dX12_sumUp_58 1 rfl (s_iconst dX12_sumUp_59 (by decide) (n_invV' (as := [(0, 12), (0, 0)]) dX12_sumUp_60 kv_X12_lay ml_X12_365 (c_M_lay ((if hdK K R = 43 then 12 else 13 : Int), (0 : Int)) 12 0 w_49 hR2 (by omega) (by rw [if_pos (by omega)]; exact stp_c (by decide))) (by decide) 141 cf_X12 rfl sh_141 rfl rfl rfl (Nat.le_of_ble_eq_true rfl) ?_)))
            rintro r_60 w_l4 ⟨rfl, hf4, hS4, hg4, hj4⟩
            have hl4 := hS4.lt
            have hpv4 := hS4.pv
            skip
            refine s_goto 9 dX12_sumUp_63 (by decide) ?_
            exact At.keep (ls' := [(0, (2, 141))]) [0] rfl (ih w_l4 (D2 ++ [((if hdK K R = 43 then 12 else 13 : Int), (0 : Int))]) R2 g (((hF.tr hf3).tr hG2).tr hf4) (hg4.trans (hg92.trans (hg3.trans hg))) (hS4.wk (by omega)) (by omega) (hX.trans ((suP_s (by omega)).trans (bnd_on hD2))) (by omega))
          · skip
            obtain ⟨e9, he, hF9, h39, h49⟩ := hz_49.no (by omega)
            refine s_iconst dX12_sumUp_55 (by decide) (n_zret dX12_sumUp_56 hR rfl (by first | exact Or.inl rfl | exact Or.inr rfl | exact bi_01 _ | omega) ?_)
            exact ⟨_, rfl, Or.inl ⟨rfl, e9, hX.trans ((suP_s (by omega)).trans (bnd_in he)), ((hF.tr hf3)).tr hF9, h39, h49⟩⟩
      · skip
        have k_15 : hdK K R ≠ 43 := fun z => absurd (((MpS.tk hQ).sg 43 (by decide)).mpr z) (by omega)
        refine s_aload_n dX12_sumUp_18 0 rfl rfl (n_getf 141 52 0 dX12_sumUp_19 cf_X12 ff_X12_328 rfl sh_141 rfl (by decide) (v := (v9 141 52)) rfl (s_bipush dX12_sumUp_22 (by decide) (s_icmp_ne 66 dX12_sumUp_24 (by decide) (fun c_24 => ?_) (fun c_24 => ?_))))
        · skip
          have k_24 : hdK K R ≠ 45 := fun z => absurd (((MpS.tk hQ).sg 45 (by decide)).mpr z) (by omega)
          refine s_iconst dX12_sumUp_66 (by decide) (n_zret dX12_sumUp_67 hR rfl (by first | exact Or.inl rfl | exact Or.inr rfl | exact bi_01 _ | omega) ?_)
          exact ⟨_, rfl, Or.inr ⟨rfl, _, _, hX.trans (suP_no ⟨by omega, by omega⟩), hF, hQ, hg⟩⟩
        · skip
          have k_24 : hdK K R = 45 := ((MpS.tk hQ).sg 45 (by decide)).mp (by omega)
          have kt_24 := MpS.tl hQ (by omega)
          refine s_aload_n dX12_sumUp_27 0 rfl rfl (n_getf 141 52 0 dX12_sumUp_28 cf_X12 ff_X12_328 rfl sh_141 rfl (by decide) (v := (v9 141 52)) rfl (s_bipush dX12_sumUp_31 (by decide) (s_icmp_ne 41 dX12_sumUp_33 (by decide) (fun c_33 => ?_) (fun c_33 => ?_))))
          · skip
            have k_33 : hdK K R ≠ 43 := fun z => absurd (((MpS.tk hQ).sg 43 (by decide)).mpr z) (by omega)
            refine s_bipush dX12_sumUp_41 (by decide) (s_istore_n (ls' := [(0, (2, 141)), (1, (0, 13))]) dX12_sumUp_43 (Nat.le_of_ble_eq_true rfl) rfl (s_aload_n dX12_sumUp_44 0 rfl rfl (n_invV' (as := []) dX12_sumUp_45 kv_X12_next0 ml_X12_352 (c_M_next v9 hQ (by omega)) (by decide) 141 cf_X12 rfl sh_141 rfl rfl rfl (Nat.le_of_ble_eq_true rfl) ?_)))
            rintro r_45 w_l5 ⟨rfl, hf5, hS5, hg5, hj5⟩
            have hl5 := hS5.lt.1
            have hpv5 := hS5.pv
            have hhr5 := hS5.hr
            refine s_aload_n dX12_sumUp_48 0 rfl rfl (n_invV' (as := []) dX12_sumUp_49 kv_X12_product ml_X12_361 (c_M_product w_l5 hS5 (by omega)) (by decide) 141 cf_X12 rfl sh_141 rfl rfl rfl (Nat.le_of_ble_eq_true rfl) ?_)
            rintro r_49 w_49 ⟨z_49, rfl, hz_49⟩
            show AtN _ _ ρ _ _ [(0, z_49)] w_49
            refine s_if_ne 57 dX12_sumUp_52 (by decide) (fun c_52 => ?_) (fun c_52 => ?_)
            · skip
              obtain ⟨D2, R2, hD2, hG2, hR2, hg92⟩ := hz_49.ok (by omega)
              have hlr2 := hR2.lt.1
              have hpvr2 := hR2.pv
              have hhrr2 := hR2.hr
              have hun := tm_lt hK hD2
              refine s_aload_n dX12_sumUp_57 0 rfl rfl (s_iload_n dX12_sumUp_58 1 rfl (s_iconst dX12_sumUp_59 (by decide) (n_invV' (as := [(0, 13), (0, 0)]) dX12_sumUp_60 kv_X12_lay ml_X12_365 (c_M_lay ((if hdK K R = 43 then 12 else 13 : Int), (0 : Int)) 13 0 w_49 hR2 (by omega) (by rw [if_neg (by omega)]; exact stp_c (by decide))) (by decide) 141 cf_X12 rfl sh_141 rfl rfl rfl (Nat.le_of_ble_eq_true rfl) ?_)))
              rintro r_60 w_l6 ⟨rfl, hf6, hS6, hg6, hj6⟩
              have hl6 := hS6.lt
              have hpv6 := hS6.pv
              skip
              refine s_goto 9 dX12_sumUp_63 (by decide) ?_
              exact At.keep (ls' := [(0, (2, 141))]) [0] rfl (ih w_l6 (D2 ++ [((if hdK K R = 43 then 12 else 13 : Int), (0 : Int))]) R2 g (((hF.tr hf5).tr hG2).tr hf6) (hg6.trans (hg92.trans (hg5.trans hg))) (hS6.wk (by omega)) (by omega) (hX.trans ((suP_s (by omega)).trans (bnd_on hD2))) (by omega))
            · skip
              obtain ⟨e9, he, hF9, h39, h49⟩ := hz_49.no (by omega)
              refine s_iconst dX12_sumUp_55 (by decide) (n_zret dX12_sumUp_56 hR rfl (by first | exact Or.inl rfl | exact Or.inr rfl | exact bi_01 _ | omega) ?_)
              exact ⟨_, rfl, Or.inl ⟨rfl, e9, hX.trans ((suP_s (by omega)).trans (bnd_in he)), ((hF.tr hf5)).tr hF9, h39, h49⟩⟩
          · skip
            have k_33 : hdK K R = 43 := ((MpS.tk hQ).sg 43 (by decide)).mp (by omega)
            have kt_33 := MpS.tl hQ (by omega)
            refine s_bipush dX12_sumUp_36 (by decide) (s_goto 43 dX12_sumUp_38 (by decide) (s_istore_n (ls' := [(0, (2, 141)), (1, (0, 12))]) dX12_sumUp_43 (Nat.le_of_ble_eq_true rfl) rfl (s_aload_n dX12_sumUp_44 0 rfl rfl (n_invV' (as := []) dX12_sumUp_45 kv_X12_next0 ml_X12_352 (c_M_next v9 hQ (by omega)) (by decide) 141 cf_X12 rfl sh_141 rfl rfl rfl (Nat.le_of_ble_eq_true rfl) ?_))))
            rintro r_45 w_l7 ⟨rfl, hf7, hS7, hg7, hj7⟩
            have hl7 := hS7.lt.1
            have hpv7 := hS7.pv
            have hhr7 := hS7.hr
            refine s_aload_n dX12_sumUp_48 0 rfl rfl (n_invV' (as := []) dX12_sumUp_49 kv_X12_product ml_X12_361 (c_M_product w_l7 hS7 (by omega)) (by decide) 141 cf_X12 rfl sh_141 rfl rfl rfl (Nat.le_of_ble_eq_true rfl) ?_)
            rintro r_49 w_49 ⟨z_49, rfl, hz_49⟩
            show AtN _ _ ρ _ _ [(0, z_49)] w_49
            refine s_if_ne 57 dX12_sumUp_52 (by decide) (fun c_52 => ?_) (fun c_52 => ?_)
            · skip
              obtain ⟨D2, R2, hD2, hG2, hR2, hg92⟩ := hz_49.ok (by omega)
              have hlr2 := hR2.lt.1
              have hpvr2 := hR2.pv
              have hhrr2 := hR2.hr
              have hun := tm_lt hK hD2
              refine s_aload_n dX12_sumUp_57 0 rfl rfl (s_iload_n dX12_sumUp_58 1 rfl (s_iconst dX12_sumUp_59 (by decide) (n_invV' (as := [(0, 12), (0, 0)]) dX12_sumUp_60 kv_X12_lay ml_X12_365 (c_M_lay ((if hdK K R = 43 then 12 else 13 : Int), (0 : Int)) 12 0 w_49 hR2 (by omega) (by rw [if_pos (by omega)]; exact stp_c (by decide))) (by decide) 141 cf_X12 rfl sh_141 rfl rfl rfl (Nat.le_of_ble_eq_true rfl) ?_)))
              rintro r_60 w_l8 ⟨rfl, hf8, hS8, hg8, hj8⟩
              have hl8 := hS8.lt
              have hpv8 := hS8.pv
              skip
              refine s_goto 9 dX12_sumUp_63 (by decide) ?_
              exact At.keep (ls' := [(0, (2, 141))]) [0] rfl (ih w_l8 (D2 ++ [((if hdK K R = 43 then 12 else 13 : Int), (0 : Int))]) R2 g (((hF.tr hf7).tr hG2).tr hf8) (hg8.trans (hg92.trans (hg7.trans hg))) (hS8.wk (by omega)) (by omega) (hX.trans ((suP_s (by omega)).trans (bnd_on hD2))) (by omega))
            · skip
              obtain ⟨e9, he, hF9, h39, h49⟩ := hz_49.no (by omega)
              refine s_iconst dX12_sumUp_55 (by decide) (n_zret dX12_sumUp_56 hR rfl (by first | exact Or.inl rfl | exact Or.inr rfl | exact bi_01 _ | omega) ?_)
              exact ⟨_, rfl, Or.inl ⟨rfl, e9, hX.trans ((suP_s (by omega)).trans (bnd_in he)), ((hF.tr hf7)).tr hF9, h39, h49⟩⟩
  refine s_aload_n dX12_sumUp_0 0 rfl rfl (n_invV' (as := []) dX12_sumUp_1 kv_X12_product ml_X12_361 (c_M_product w hS (by omega)) (by decide) 141 cf_X12 rfl sh_141 rfl rfl rfl (Nat.le_of_ble_eq_true rfl) ?_)
  rintro r_1 w_1 ⟨z_1, rfl, hz_1⟩
  show AtN _ _ ρ _ _ [(0, z_1)] w_1
  refine s_if_ne 9 dX12_sumUp_4 (by decide) (fun c_4 => ?_) (fun c_4 => ?_)
  · skip
    obtain ⟨D1, R1, hD1, hG1, hR1, hg91⟩ := hz_1.ok (by omega)
    have hlr1 := hR1.lt.1
    have hpvr1 := hR1.pv
    have hhrr1 := hR1.hr
    exact L_9 _ w_1 D1 R1 (R1.length + 1) (FrM.rf.tr hG1) (hg91.trans rfl) (hR1.wk (by omega)) (Nat.lt_succ_self _) (bnd_on hD1) (Nat.lt_succ_self _)
  · skip
    obtain ⟨e9, he, hF9, h39, h49⟩ := hz_1.no (by omega)
    refine s_iconst dX12_sumUp_7 (by decide) (n_zret dX12_sumUp_8 hR rfl (by first | exact Or.inl rfl | exact Or.inr rfl | exact bi_01 _ | omega) ?_)
    exact ⟨_, rfl, Or.inl ⟨rfl, e9, bnd_in he, (FrM.rf).tr hF9, h39, h49⟩⟩

