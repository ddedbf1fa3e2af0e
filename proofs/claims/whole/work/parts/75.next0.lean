/-! NEXT0. -/
def TxM (w : Wd) : Prop := (0 ≤ w 141 50 ∧ w 141 50 ≤ 600) ∧ ∀ j, 0 ≤ j → j < w 141 50 → 0 ≤ w 178 j ∧ w 178 j ≤ 255
/-- the tokens from here on are S -/
def PoM (w : Wd) (S : List Int) : Prop := TxM w ∧ (0 ≤ w 141 51 ∧ w 141 51 ≤ w 141 50) ∧ frT (w 178) (w 141 50) (w 141 51) ∧ reL (w 178) (w 141 50) (w 141 51) = S ∧ (0 ≤ w 141 54 ∧ w 141 54 ≤ 9999)
abbrev KM' (w : Wd) : Ky := kyT (w 178) (w 141 50)
/-- the first token of S is told -/
def MdS (w : Wd) (S : List Int) : Prop := PoM w S.tail ∧ w 141 52 = mkK (hdK (KM' w) S) ∧ w 141 53 = plK (KM' w) S ∧ (hdK (KM' w) S = 1 → w 141 54 = nuK (KM' w) S)
def FrX (w v : Wd) : Prop := (∀ c, c ≠ 141 → v c = w c) ∧ ∀ j : Int, (j < 51 ∨ 54 < j) → v 141 j = w 141 j
theorem FrX.rf {w : Wd} : FrX w w := ⟨fun _ _ => rfl, fun _ _ => rfl⟩
theorem FrX.tr {w v u : Wd} (h : FrX w v) (h2 : FrX v u) : FrX w u := ⟨fun c a => (h2.1 c a).trans (h.1 c a), fun j hj => (h2.2 j hj).trans (h.2 j hj)⟩
theorem FrX.u {w v : Wd} {j x : Int} (h : FrX w v) (hj : 51 ≤ j ∧ j ≤ 54) : FrX w (wu v 141 j x) := ⟨fun c a => by rw [wu_ne a]; exact h.1 c a, fun i hi => by rw [wu_at, if_neg (by omega)]; exact h.2 i hi⟩
theorem TxM.fr {w v : Wd} (h : TxM w) (hf : FrX w v) : TxM v := by
  unfold TxM at h ⊢
  rw [hf.1 178 (by decide), hf.2 50 (by omega)]
  exact h
theorem wu_f {w : Wd} {i j x : Int} (h : i ≠ j) : wu w 141 j x 141 i = w 141 i := by rw [wu_at, if_neg h]
theorem PoM.blank {w : Wd} {S : List Int} (h : PoM w S) (hl : w 141 51 < w 141 50) (hb : blkT (w 178 (w 141 51))) : PoM (wu w 141 51 (w 141 51 + 1)) S := by
  obtain ⟨h1, h2, h3, h4, h5⟩ := h
  have hf : FrX w (wu w 141 51 (w 141 51 + 1)) := FrX.rf.u (by omega)
  unfold PoM
  rw [hf.1 178 (by decide), hf.2 50 (by omega), wu_same, wu_f (by decide)]
  refine ⟨h1.fr hf, by omega, fun q => ?_, ?_, h5⟩
  · have q2 := q.2.2
    rw [show w 141 51 + 1 - 1 = w 141 51 by omega] at q2
    omega
  · rw [← h4, reL_s hl, if_neg (fun z => z.1 hb)]
theorem PoM.end {w : Wd} {S : List Int} (h : PoM w S) (hl : w 141 50 ≤ w 141 51) : S = [] ∧ w 141 51 = w 141 50 := ⟨by rw [← h.2.2.2.1]; exact reL_end hl, by have := h.2.1; omega⟩
theorem PoM.sta {w : Wd} {S : List Int} (h : PoM w S) (hl : w 141 51 < w 141 50) (hb : ¬ blkT (w 178 (w 141 51))) : S = w 141 51 :: reL (w 178) (w 141 50) (w 141 51 + 1) := by
  rw [← h.2.2.2.1, reL_s hl, if_pos ⟨hb, fun q => h.2.2.1 ⟨q.1, hl, q.2⟩⟩]
/-- the token that begins at s is read up to q -/
def TkB (w v : Wd) (S : List Int) (s q : Int) : Prop := FrX w v ∧ (v 141 53 = s ∧ v 141 51 = q) ∧ (0 ≤ s ∧ s < w 141 50) ∧ S = s :: reL (w 178) (w 141 50) (s + 1) ∧ (s ≤ q ∧ q ≤ w 141 50) ∧ enT (w 178) (w 141 50) s = exT (w 178) (w 141 50) (w 178 s) (w 141 50 - q).toNat q ∧ (0 ≤ v 141 54 ∧ v 141 54 ≤ 9999)
theorem TkB.ini {w v : Wd} {S : List Int} (hx : TxM w) (hf : FrX w v) (h : PoM v S) (hl : v 141 51 < v 141 50) (hb : ¬ blkT (v 178 (v 141 51))) (hs : isLt (v 178 (v 141 51)) ∨ isDg (v 178 (v 141 51))) : TkB w (wu v 141 53 (v 141 51)) S (v 141 51) (v 141 51) := by
  have hst := h.sta hl hb
  obtain ⟨h1, h2, h3, h4, h5⟩ := h
  rw [hf.1 178 (by decide), hf.2 50 (by omega)] at *
  refine ⟨hf.u (by omega), ⟨wu_same .., wu_f (by decide)⟩, ⟨h2.1, hl⟩, hst, ⟨Int.le_refl _, h2.2⟩, ?_, by rw [wu_f (by decide)]; exact h5⟩
  unfold enT
  have e := enT_0 (T := w 178) (n := w 141 50) (c := w 178 (v 141 51)) (e := v 141 51 + 1) (by omega)
  rw [show w 141 50 - (v 141 51 + 1) + 1 = w 141 50 - v 141 51 by omega] at e
  rw [e]
  exact (exT_on (by omega) ⟨hl, by omega⟩).symm
theorem TkB.stp {w v : Wd} {S : List Int} {s q : Int} (h : TkB w v S s q) (hq : q < w 141 50) (ht : togT (w 178 s) (w 178 q)) : TkB w (wu v 141 51 (q + 1)) S s (q + 1) := by
  obtain ⟨h1, h2, h3, h4, h5, h6, h7⟩ := h
  refine ⟨h1.u (by omega), ⟨by rw [wu_f (by decide)]; exact h2.1, wu_same ..⟩, h3, h4, by omega, ?_, by rw [wu_f (by decide)]; exact h7⟩
  rw [h6]
  exact exT_on (by omega) ⟨hq, ht⟩
theorem TkB.out {w v : Wd} {S : List Int} {s q : Int} (h : TkB w v S s q) (ht : ¬ (q < w 141 50 ∧ togT (w 178 s) (w 178 q))) : enT (w 178) (w 141 50) s = q := by
  rw [h.2.2.2.2.2.1]
  exact exT_off ht
theorem MdS.mk {w v : Wd} {S : List Int} {s t : Int} (hx : TxM w) (h : TkB w v S s (enT (w 178) (w 141 50) s)) (ht : t = mkK (kdT (w 178) (w 141 50) s)) (hv : kdT (w 178) (w 141 50) s = 1 → v 141 54 = nuT (w 178) (w 141 50) s) : FrX w (wu v 141 52 t) ∧ MdS (wu v 141 52 t) S := by
  obtain ⟨h1, h2, h3, h4, h5, h6, h7⟩ := h
  have hf : FrX w (wu v 141 52 t) := h1.u (by omega)
  refine ⟨hf, ?_⟩
  have hr := enT_re (T := w 178) (n := w 141 50) h3.1
  unfold MdS PoM KM'
  rw [hf.1 178 (by decide), hf.2 50 (by omega), wu_same, wu_f (by decide), wu_f (by decide), wu_f (by decide), h2.2, h2.1, h4]
  exact ⟨⟨hx.fr hf, by omega, hr.2, hr.1.symm, h7⟩, ht, rfl, hv⟩
theorem MdS.nil {w v : Wd} {S : List Int} (hx : TxM w) (hf : FrX w v) (h : PoM v S) (hl : v 141 50 ≤ v 141 51) : FrX w (wu (wu v 141 53 (v 141 51)) 141 52 0) ∧ MdS (wu (wu v 141 53 (v 141 51)) 141 52 0) S := by
  obtain ⟨e, e2⟩ := h.end hl
  have hf2 : FrX w (wu (wu v 141 53 (v 141 51)) 141 52 0) := (hf.u (by omega)).u (by omega)
  refine ⟨hf2, ?_⟩
  have h9 := h
  obtain ⟨h1, h2, h3, h4, h5⟩ := h
  subst e
  unfold MdS PoM KM'
  rw [hf2.1 178 (by decide), hf2.2 50 (by omega), ← hf.1 178 (by decide), ← hf.2 50 (by omega), wu_same, wu_f (by decide), wu_f (by decide), wu_f (by decide), wu_f (by decide), wu_f (by decide), wu_same]
  exact ⟨⟨hx.fr hf2, h2, h3, h4, h5⟩, rfl, e2, fun q => absurd (show (0 : Int) = 1 from q) (by decide)⟩
theorem seV_53 {w : Wd} {x k : Int} : seV (wu w 141 53 x) k = seV w k := by
  unfold seV
  rw [wu_f (by decide), wu_ne (by decide)]
theorem seV_54 {w : Wd} {x k : Int} : seV (wu w 141 54 x) k = seV w k := by
  unfold seV
  rw [wu_f (by decide), wu_ne (by decide)]
theorem seV_fr {w v : Wd} (hf : FrX w v) (k : Int) : seV v k = seV w k := by
  unfold seV
  rw [hf.1 178 (by decide), hf.2 50 (by omega)]
/-- the first digits' value -/
theorem nuF_up {T : Int → Int} {s q : Int} (h : s ≤ q) (h4 : q < s + 4) : nuF T s (if q + 1 - s ≤ 4 then (q + 1 - s).toNat else 4) = 10 * nuF T s (if q - s ≤ 4 then (q - s).toNat else 4) + T q - 48 := by
  rw [if_pos (by omega), if_pos (by omega), show (q + 1 - s).toNat = (q - s).toNat + 1 by omega, nuF, show s + (((q - s).toNat : Nat) : Int) = q by omega]
theorem nuF_no {T : Int → Int} {s q : Int} (h : s ≤ q) (h4 : s + 4 ≤ q) : nuF T s (if q + 1 - s ≤ 4 then (q + 1 - s).toNat else 4) = nuF T s (if q - s ≤ 4 then (q - s).toNat else 4) := by
  rw [if_neg (by omega)]
  by_cases e : q - s ≤ 4
  · rw [if_pos e, show (q - s).toNat = 4 by omega]
  · rw [if_neg e]

theorem TkB.v {w v : Wd} {S : List Int} {s q x : Int} (h : TkB w v S s q) (hx : 0 ≤ x ∧ x ≤ 9999) : TkB w (wu v 141 54 x) S s q := by
  obtain ⟨h1, h2, h3, h4, h5, h6, h7⟩ := h
  exact ⟨h1.u (by omega), ⟨by rw [wu_f (by decide)]; exact h2.1, by rw [wu_f (by decide)]; exact h2.2⟩, h3, h4, h5, h6, by rw [wu_same]; exact hx⟩
theorem TkB.dg {w v : Wd} {S : List Int} {s q : Int} (h : TkB w v S s q) (hd : isDg (w 178 s)) {j : Int} (h1 : s ≤ j) (h2 : j < q) : isDg (w 178 j) := by
  by_cases e : j = s
  · rw [e]; exact hd
  · have hq : q ≤ enT (w 178) (w 141 50) s := by rw [h.2.2.2.2.2.1]; exact exT_ge _ _
    exact tog_dg (enT_in (n := w 141 50) (by omega) (by omega)).2 hd
theorem nu4 {w v : Wd} {S : List Int} {s q : Int} (h : TkB w v S s q) (hd : isDg (w 178 s)) (h4 : q < s + 4) (hq : q < w 141 50) (hdq : isDg (w 178 q)) : 0 ≤ 10 * nuF (w 178) s (if q - s ≤ 4 then (q - s).toNat else 4) + w 178 q - 48 ∧ 10 * nuF (w 178) s (if q - s ≤ 4 then (q - s).toNat else 4) + w 178 q - 48 ≤ 9999 := by
  have h5 := h.2.2.2.2.1
  rw [← nuF_up (by omega) h4]
  exact nuF_4 (by split <;> omega) (fun j a b => by
    rw [if_pos (by omega)] at b
    by_cases e : s + j = q
    · rw [e]; exact hdq
    · exact h.dg hd (by omega) (by omega))
theorem mk_sg {k : Int} (h : 40 ≤ k ∧ k ≤ 62) : mkK k = k := by
  unfold mkK
  rw [if_neg (by omega), if_neg (by omega), if_neg (by omega), if_neg (by omega), if_neg (by omega)]
theorem TkB.sg {w v : Wd} {S : List Int} (hx : TxM w) (hf : FrX w v) (h : PoM v S) (hl : v 141 51 < v 141 50) (hb : ¬ blkT (v 178 (v 141 51))) (hs : ¬ isLt (v 178 (v 141 51)) ∧ ¬ isDg (v 178 (v 141 51))) : TkB w (wu (wu v 141 53 (v 141 51)) 141 51 (v 141 51 + 1)) S (v 141 51) (v 141 51 + 1) := by
  have hst := h.sta hl hb
  obtain ⟨h1, h2, h3, h4, h5⟩ := h
  rw [hf.1 178 (by decide), hf.2 50 (by omega)] at *
  refine ⟨(hf.u (by omega)).u (by omega), ⟨by rw [wu_f (by decide), wu_same], wu_same ..⟩, ⟨h2.1, hl⟩, hst, by omega, ?_, by rw [wu_f (by decide), wu_f (by decide)]; exact h5⟩
  unfold enT
  rw [exT_off (fun z => by omega), exT_off (fun z => by omega)]
theorem TkB.out1 {w v : Wd} {S : List Int} {s : Int} (h : TkB w v S s (s + 1)) (hs : ¬ isLt (w 178 s) ∧ ¬ isDg (w 178 s)) : enT (w 178) (w 141 50) s = s + 1 := h.out (fun z => by omega)
set_option maxRecDepth 100000 in
set_option maxHeartbeats 2000000 in
theorem c_M_next0 {S : List Int} (w : Wd) (hP0 : PoM w S) : CallN 7 mX12_next0 [(2, 141)] w (RUQ (fun w1 => FrX w w1 ∧ MdS w1 S)) := by
  refine CallN.intro (by decide +kernel) (Nat.le_of_ble_eq_true rfl) (fun ρ hR => ?_)
  show AtN mX12_next0 7 ρ 0 [(0, (2, 141))] [] w
  have hx := hP0.1
  have L_76 : ∀ (fu : Nat) (c : Int) (v9 : Wd) (s : Int) (q : Int), TkB w v9 S s q → isLt (w 178 s) → (w 141 50 - q).toNat < fu → AtN mX12_next0 7 ρ 76 [(0, (2, 141)), (1, (0, c))] [] v9 := by
    intro fu
    induction fu with
    | zero => intro c v9 s q hB hlt hm; exact absurd hm (Nat.not_lt_zero _)
    | succ fu ih =>
      intro c v9 s q hB hlt hm
      have hF := hB.1
      have hq9 := hB.2.2.2.2.1
      have hs9 := hB.2.2.1
      have e50 : v9 141 50 = w 141 50 := hF.2 50 (by omega)
      have e178 : v9 178 = w 178 := hF.1 178 (by decide)
      have hx0 := hx.1
      have hsv := seV_c (hx.fr hF).2 (k := q) (by omega)
      rw [e50, e178] at hsv
      have qq := hB.2.1.2
      have qs := hB.2.1.1
      refine s_aload_n dX12_next0_76 0 rfl rfl (s_aload_n dX12_next0_77 0 rfl rfl (n_getf 141 51 0 dX12_next0_78 cf_X12 ff_X12_280 rfl sh_141 rfl (by decide) (v := (v9 141 51)) rfl ?_))
      rw [qq]
      refine n_invV (as := [(0, q)]) dX12_next0_81 kv_X12_see ml_X12_325 (c_M_see q v9 (by omega) (by first | omega | (rw [wu_f (by decide)]; omega))) (by decide) 141 cf_X12 rfl sh_141 rfl rfl rfl (Nat.le_of_ble_eq_true rfl) (n_invS (as := [(0, (seV v9 q))]) dX12_next0_84 kv_X12_isLetter ml_X12_331 (c_M_isLetter (seV v9 q) v9) (by decide) rfl rfl (Nat.le_of_ble_eq_true rfl) (n_ifeq_b 103 dX12_next0_87 (by decide) (fun c_87 => ?_) (fun c_87 => ?_)))
      · skip
        refine s_aload_n dX12_next0_103 0 rfl rfl (s_aload_n dX12_next0_104 0 rfl rfl (n_invV (as := []) dX12_next0_105 kv_X12_word ml_X12_334 (show CallN 6 mX12_word [(2, 141)] v9 (RV (0, (if 0 ≤ kwT (w 178) s (q - s) then mkK (256 + kwT (w 178) s (q - s)) else 1)) v9) from (by have hz := c_M_word v9 (by rw [qs, qq]; omega); rw [qs, qq, e178] at hz; exact hz)) (by decide) 141 cf_X12 rfl sh_141 rfl rfl rfl (Nat.le_of_ble_eq_true rfl) (n_putf 141 52 52 dX12_next0_108 cf_X12 ff_X12_328 rfl rfl sh_141 rfl rfl rfl (s_goto 303 dX12_next0_111 (by decide) (n_ret dX12_next0_303 hR rfl ?_)))))
        have he := hB.out (fun z => by omega)
        exact ⟨rfl, MdS.mk hx (by rw [he]; exact hB) (by unfold kdT; rw [if_pos hlt, he]; split <;> rfl) (fun h => absurd (kdT_1 h).1 (by omega))⟩
      · skip
        refine s_aload_n dX12_next0_90 0 rfl rfl (s_dup dX12_next0_91 (show (2 : Nat) ≠ 1 by decide) (n_getf 141 51 0 dX12_next0_92 cf_X12 ff_X12_280 rfl sh_141 rfl (by decide) (v := (v9 141 51)) rfl (s_iconst dX12_next0_95 (by decide) (n_add (z := ((v9 141 51) + 1)) dX12_next0_96 (wr_id (by omega) (by omega)) (n_putf 141 51 51 dX12_next0_97 cf_X12 ff_X12_280 rfl rfl sh_141 rfl rfl rfl (s_goto 76 dX12_next0_100 (by decide) ?_))))))
        exact ih c (wu v9 141 51 ((v9 141 51) + 1)) s (q + 1) (by rw [qq]; exact hB.stp (by omega) (by omega)) hlt (by omega)
  have L_126 : ∀ (fu : Nat) (c : Int) (v9 : Wd) (s : Int) (q : Int), TkB w v9 S s q → isDg (w 178 s) → v9 141 54 = nuF (w 178) s (if q - s ≤ 4 then (q - s).toNat else 4) → (w 141 50 - q).toNat < fu → AtN mX12_next0 7 ρ 126 [(0, (2, 141)), (1, (0, c))] [] v9 := by
    intro fu
    induction fu with
    | zero => intro c v9 s q hB hdg hvl hm; exact absurd hm (Nat.not_lt_zero _)
    | succ fu ih =>
      intro c v9 s q hB hdg hvl hm
      have hF := hB.1
      have hq9 := hB.2.2.2.2.1
      have hs9 := hB.2.2.1
      have e50 : v9 141 50 = w 141 50 := hF.2 50 (by omega)
      have e178 : v9 178 = w 178 := hF.1 178 (by decide)
      have hx0 := hx.1
      have hsv := seV_c (hx.fr hF).2 (k := q) (by omega)
      rw [e50, e178] at hsv
      have qq := hB.2.1.2
      have qs := hB.2.1.1
      refine s_aload_n dX12_next0_126 0 rfl rfl (s_aload_n dX12_next0_127 0 rfl rfl (n_getf 141 51 0 dX12_next0_128 cf_X12 ff_X12_280 rfl sh_141 rfl (by decide) (v := (v9 141 51)) rfl ?_))
      rw [qq]
      refine n_invV (as := [(0, q)]) dX12_next0_131 kv_X12_see ml_X12_325 (c_M_see q v9 (by omega) (by first | omega | (rw [wu_f (by decide)]; omega))) (by decide) 141 cf_X12 rfl sh_141 rfl rfl rfl (Nat.le_of_ble_eq_true rfl) (n_invS (as := [(0, (seV v9 q))]) dX12_next0_134 kv_X12_isDigit ml_X12_337 (c_M_isDigit (seV v9 q) v9) (by decide) rfl rfl (Nat.le_of_ble_eq_true rfl) (n_ifeq_b 189 dX12_next0_137 (by decide) (fun c_137 => ?_) (fun c_137 => ?_)))
      · skip
        refine s_aload_n dX12_next0_189 0 rfl rfl (s_aload_n dX12_next0_190 0 rfl rfl (n_getf 141 51 0 dX12_next0_191 cf_X12 ff_X12_280 rfl sh_141 rfl (by decide) (v := (v9 141 51)) rfl (s_aload_n dX12_next0_194 0 rfl rfl (n_getf 141 53 0 dX12_next0_195 cf_X12 ff_X12_283 rfl sh_141 rfl (by decide) (v := (v9 141 53)) rfl (n_sub (z := ((v9 141 51) - (v9 141 53))) dX12_next0_198 (wr_id (by omega) (by omega)) (s_iconst dX12_next0_199 (by decide) (s_icmp_ge 207 dX12_next0_200 (by decide) (fun c_200 => ?_) (fun c_200 => ?_))))))))
        · skip
          refine s_iconst dX12_next0_207 (by decide) (n_putf 141 52 52 dX12_next0_208 cf_X12 ff_X12_328 rfl rfl sh_141 rfl rfl rfl (s_goto 303 dX12_next0_211 (by decide) (n_ret dX12_next0_303 hR rfl ?_)))
          have he := hB.out (fun z => by omega)
          have hk : kdT (w 178) (w 141 50) s = 2 := by unfold kdT; rw [if_neg (by omega), if_pos hdg, he, if_neg (by omega)]
          exact ⟨rfl, MdS.mk hx (by rw [he]; exact hB) (by rw [hk]; rfl) (fun h => by rw [hvl]; unfold nuT; rw [he])⟩
        · skip
          refine s_iconst dX12_next0_203 (by decide) (s_goto 208 dX12_next0_204 (by decide) (n_putf 141 52 52 dX12_next0_208 cf_X12 ff_X12_328 rfl rfl sh_141 rfl rfl rfl (s_goto 303 dX12_next0_211 (by decide) (n_ret dX12_next0_303 hR rfl ?_))))
          have he := hB.out (fun z => by omega)
          have hk : kdT (w 178) (w 141 50) s = 1 := by unfold kdT; rw [if_neg (by omega), if_pos hdg, he, if_pos (by omega)]
          exact ⟨rfl, MdS.mk hx (by rw [he]; exact hB) (by rw [hk]; rfl) (fun h => by rw [hvl]; unfold nuT; rw [he])⟩
      · skip
        refine s_aload_n dX12_next0_140 0 rfl rfl (n_getf 141 51 0 dX12_next0_141 cf_X12 ff_X12_280 rfl sh_141 rfl (by decide) (v := (v9 141 51)) rfl (s_aload_n dX12_next0_144 0 rfl rfl (n_getf 141 53 0 dX12_next0_145 cf_X12 ff_X12_283 rfl sh_141 rfl (by decide) (v := (v9 141 53)) rfl (s_iconst dX12_next0_148 (by decide) (n_add (z := ((v9 141 53) + 4)) dX12_next0_149 (wr_id (by omega) (by omega)) (s_icmp_ge 176 dX12_next0_150 (by decide) (fun c_150 => ?_) (fun c_150 => ?_)))))))
        · skip
          refine s_aload_n dX12_next0_176 0 rfl rfl (s_dup dX12_next0_177 (show (2 : Nat) ≠ 1 by decide) (n_getf 141 51 0 dX12_next0_178 cf_X12 ff_X12_280 rfl sh_141 rfl (by decide) (v := (v9 141 51)) rfl (s_iconst dX12_next0_181 (by decide) (n_add (z := ((v9 141 51) + 1)) dX12_next0_182 (wr_id (by omega) (by omega)) (n_putf 141 51 51 dX12_next0_183 cf_X12 ff_X12_280 rfl rfl sh_141 rfl rfl rfl (s_goto 126 dX12_next0_186 (by decide) ?_))))))
          exact ih c (wu v9 141 51 ((v9 141 51) + 1)) s (q + 1) (by rw [qq]; exact hB.stp (by omega) (by omega)) hdg (by rw [wu_f (by decide), nuF_no (by omega) (by omega)]; exact hvl) (by omega)
        · skip
          have hdq : isDg (w 178 q) := by omega
          have hn4 := nu4 hB hdg (by omega) (by omega) hdq
          rw [← hvl] at hn4
          have hn5 : 0 ≤ 10 * v9 141 54 + seV v9 q - 48 ∧ 10 * v9 141 54 + seV v9 q - 48 ≤ 9999 := by omega
          refine s_aload_n dX12_next0_153 0 rfl rfl (s_bipush dX12_next0_154 (by decide) (s_aload_n dX12_next0_156 0 rfl rfl (n_getf 141 54 0 dX12_next0_157 cf_X12 ff_X12_340 rfl sh_141 rfl (by decide) (v := (v9 141 54)) rfl (n_mul (z := (10 * (v9 141 54))) dX12_next0_160 (wr_id (by omega) (by omega)) (s_aload_n dX12_next0_161 0 rfl rfl (s_aload_n dX12_next0_162 0 rfl rfl (n_getf 141 51 0 dX12_next0_163 cf_X12 ff_X12_280 rfl sh_141 rfl (by decide) (v := (v9 141 51)) rfl ?_)))))))
          rw [qq]
          refine n_invV (as := [(0, q)]) dX12_next0_166 kv_X12_see ml_X12_325 (c_M_see q v9 (by omega) (by first | omega | (rw [wu_f (by decide)]; omega))) (by decide) 141 cf_X12 rfl sh_141 rfl rfl rfl (Nat.le_of_ble_eq_true rfl) (n_add (z := ((10 * (v9 141 54)) + (seV v9 q))) dX12_next0_169 (wr_id (by omega) (by omega)) (s_bipush dX12_next0_170 (by decide) (n_sub (z := (((10 * (v9 141 54)) + (seV v9 q)) - 48)) dX12_next0_172 (wr_id (by omega) (by omega)) (n_putf 141 54 54 dX12_next0_173 cf_X12 ff_X12_340 rfl rfl sh_141 rfl rfl rfl (s_aload_n dX12_next0_176 0 rfl rfl (s_dup dX12_next0_177 (show (2 : Nat) ≠ 1 by decide) (n_getf 141 51 0 dX12_next0_178 cf_X12 ff_X12_280 rfl sh_141 rfl (by decide) (v := (v9 141 51)) rfl (s_iconst dX12_next0_181 (by decide) (n_add (z := ((v9 141 51) + 1)) dX12_next0_182 (wr_id (by omega) (by omega)) ?_)))))))))
          refine n_putf 141 51 51 dX12_next0_183 cf_X12 ff_X12_280 rfl rfl sh_141 rfl rfl rfl (s_goto 126 dX12_next0_186 (by decide) ?_)
          exact ih c (wu (wu v9 141 54 (((10 * (v9 141 54)) + (seV v9 q)) - 48)) 141 51 ((v9 141 51) + 1)) s (q + 1) (by rw [qq]; exact (hB.v hn5).stp (by omega) (by omega)) hdg (by rw [wu_f (by decide), wu_same, nuF_up (by omega) (by omega), ← hvl]; omega) (by omega)
  have L_0 : ∀ (fu : Nat) (v9 : Wd), FrX w v9 → PoM v9 S → (v9 141 50 - v9 141 51).toNat < fu → AtN mX12_next0 7 ρ 0 [(0, (2, 141))] [] v9 := by
    intro fu
    induction fu with
    | zero => intro v9 hF hP hm; exact absurd hm (Nat.not_lt_zero _)
    | succ fu ih =>
      intro v9 hF hP hm
      have hsv := seV_c hP.1.2 hP.2.1.1
      have hbd := hP.2.1
      have h600 := hP.1.1
      refine s_aload_n dX12_next0_0 0 rfl rfl (s_aload_n dX12_next0_1 0 rfl rfl (n_getf 141 51 0 dX12_next0_2 cf_X12 ff_X12_280 rfl sh_141 rfl (by decide) (v := (v9 141 51)) rfl (n_invV (as := [(0, (v9 141 51))]) dX12_next0_5 kv_X12_see ml_X12_325 (c_M_see (v9 141 51) v9 (by omega) (by first | omega | (rw [wu_f (by decide)]; omega))) (by decide) 141 cf_X12 rfl sh_141 rfl rfl rfl (Nat.le_of_ble_eq_true rfl) (s_bipush dX12_next0_8 (by decide) (s_icmp_eq 26 dX12_next0_10 (by decide) (fun c_10 => ?_) (fun c_10 => ?_))))))
      · skip
        refine s_aload_n dX12_next0_26 0 rfl rfl (s_dup dX12_next0_27 (show (2 : Nat) ≠ 1 by decide) (n_getf 141 51 0 dX12_next0_28 cf_X12 ff_X12_280 rfl sh_141 rfl (by decide) (v := (v9 141 51)) rfl (s_iconst dX12_next0_31 (by decide) (n_add (z := ((v9 141 51) + 1)) dX12_next0_32 (wr_id (by omega) (by omega)) (n_putf 141 51 51 dX12_next0_33 cf_X12 ff_X12_280 rfl rfl sh_141 rfl rfl rfl (s_goto 0 dX12_next0_36 (by decide) ?_))))))
        exact ih (wu v9 141 51 ((v9 141 51) + 1)) (hF.u (by omega)) (hP.blank (by omega) (by omega)) (by rw [wu_same, wu_f (by decide)]; omega)
      · skip
        refine s_aload_n dX12_next0_13 0 rfl rfl (s_aload_n dX12_next0_14 0 rfl rfl (n_getf 141 51 0 dX12_next0_15 cf_X12 ff_X12_280 rfl sh_141 rfl (by decide) (v := (v9 141 51)) rfl (n_invV (as := [(0, (v9 141 51))]) dX12_next0_18 kv_X12_see ml_X12_325 (c_M_see (v9 141 51) v9 (by omega) (by first | omega | (rw [wu_f (by decide)]; omega))) (by decide) 141 cf_X12 rfl sh_141 rfl rfl rfl (Nat.le_of_ble_eq_true rfl) (s_bipush dX12_next0_21 (by decide) (s_icmp_ne 39 dX12_next0_23 (by decide) (fun c_23 => ?_) (fun c_23 => ?_))))))
        · skip
          refine s_aload_n dX12_next0_39 0 rfl rfl (s_aload_n dX12_next0_40 0 rfl rfl (n_getf 141 51 0 dX12_next0_41 cf_X12 ff_X12_280 rfl sh_141 rfl (by decide) (v := (v9 141 51)) rfl (n_putf 141 53 53 dX12_next0_44 cf_X12 ff_X12_283 rfl rfl sh_141 rfl rfl rfl (s_aload_n dX12_next0_47 0 rfl rfl (s_aload_n dX12_next0_48 0 rfl rfl (n_getf 141 51 0 dX12_next0_49 cf_X12 ff_X12_280 rfl sh_141 rfl (by decide) (v := (v9 141 51)) rfl (n_invV (as := [(0, (v9 141 51))]) dX12_next0_52 kv_X12_see ml_X12_325 (c_M_see (v9 141 51) (wu v9 141 53 (v9 141 51)) (by omega) (by first | omega | (rw [wu_f (by decide)]; omega))) (by decide) 141 cf_X12 rfl sh_141 rfl rfl rfl (Nat.le_of_ble_eq_true rfl) ?_)))))))
          rw [seV_53]
          refine s_istore_n (ls' := [(0, (2, 141)), (1, (0, (seV v9 (v9 141 51))))]) dX12_next0_55 (Nat.le_of_ble_eq_true rfl) rfl (s_iload_n dX12_next0_56 1 rfl (s_iconst dX12_next0_57 (by decide) (s_icmp_ne 69 dX12_next0_58 (by decide) (fun c_58 => ?_) (fun c_58 => ?_))))
          · skip
            refine s_iload_n dX12_next0_69 1 rfl (n_invS (as := [(0, (seV v9 (v9 141 51)))]) dX12_next0_70 kv_X12_isLetter ml_X12_331 (c_M_isLetter (seV v9 (v9 141 51)) (wu v9 141 53 (v9 141 51))) (by decide) rfl rfl (Nat.le_of_ble_eq_true rfl) (n_ifeq_b 114 dX12_next0_73 (by decide) (fun c_73 => ?_) (fun c_73 => ?_)))
            · skip
              refine s_iload_n dX12_next0_114 1 rfl (n_invS (as := [(0, (seV v9 (v9 141 51)))]) dX12_next0_115 kv_X12_isDigit ml_X12_337 (c_M_isDigit (seV v9 (v9 141 51)) (wu v9 141 53 (v9 141 51))) (by decide) rfl rfl (Nat.le_of_ble_eq_true rfl) (n_ifeq_b 214 dX12_next0_118 (by decide) (fun c_118 => ?_) (fun c_118 => ?_)))
              · skip
                refine s_aload_n dX12_next0_214 0 rfl rfl (s_dup dX12_next0_215 (show (2 : Nat) ≠ 1 by decide) (n_getf 141 51 0 dX12_next0_216 cf_X12 ff_X12_280 rfl sh_141 rfl (by decide) (v := (v9 141 51)) rfl (s_iconst dX12_next0_219 (by decide) (n_add (z := ((v9 141 51) + 1)) dX12_next0_220 (wr_id (by omega) (by omega)) (n_putf 141 51 51 dX12_next0_221 cf_X12 ff_X12_280 rfl rfl sh_141 rfl rfl rfl (s_iload_n dX12_next0_224 1 rfl (s_bipush dX12_next0_225 (by decide) (s_icmp_eq 284 dX12_next0_227 (by decide) (fun c_227 => ?_) (fun c_227 => ?_)))))))))
                · skip
                  refine s_iconst dX12_next0_284 (by decide) (s_goto 289 dX12_next0_285 (by decide) (s_istore_n (ls' := [(0, (2, 141)), (1, (0, (seV v9 (v9 141 51)))), (2, (0, 1))]) dX12_next0_289 (Nat.le_of_ble_eq_true rfl) rfl (s_aload_n dX12_next0_290 0 rfl rfl (s_iload_n dX12_next0_291 2 rfl (s_if_eq 299 dX12_next0_292 (by decide) (kt := fun c => absurd c (by decide)) (kf := fun _ => s_iload_n dX12_next0_295 1 rfl (s_goto 300 dX12_next0_296 (by decide) (n_putf 141 52 52 dX12_next0_300 cf_X12 ff_X12_328 rfl rfl sh_141 rfl rfl rfl (n_ret dX12_next0_303 hR rfl ?_)))))))))
                  have e178 : v9 178 = w 178 := hF.1 178 (by decide)
                  have e50 : v9 141 50 = w 141 50 := hF.2 50 (by omega)
                  rw [e178] at hsv
                  have hT := TkB.sg hx hF hP (by omega) (by rw [e178]; omega) (by rw [e178]; omega)
                  have he := hT.out1 (by omega)
                  have hk : kdT (w 178) (w 141 50) (v9 141 51) = w 178 (v9 141 51) := by unfold kdT; rw [if_neg (by omega), if_neg (by omega), if_pos (by omega)]
                  exact ⟨rfl, MdS.mk hx (by rw [he]; exact hT) (by rw [hk]; first | rfl | (rw [mk_sg (by omega)]; omega) | omega) (fun h => absurd (kdT_1 h).1 (by omega))⟩
                · skip
                  refine s_iload_n dX12_next0_230 1 rfl (s_bipush dX12_next0_231 (by decide) (s_icmp_eq 284 dX12_next0_233 (by decide) (fun c_233 => ?_) (fun c_233 => ?_)))
                  · skip
                    refine s_iconst dX12_next0_284 (by decide) (s_goto 289 dX12_next0_285 (by decide) (s_istore_n (ls' := [(0, (2, 141)), (1, (0, (seV v9 (v9 141 51)))), (2, (0, 1))]) dX12_next0_289 (Nat.le_of_ble_eq_true rfl) rfl (s_aload_n dX12_next0_290 0 rfl rfl (s_iload_n dX12_next0_291 2 rfl (s_if_eq 299 dX12_next0_292 (by decide) (kt := fun c => absurd c (by decide)) (kf := fun _ => s_iload_n dX12_next0_295 1 rfl (s_goto 300 dX12_next0_296 (by decide) (n_putf 141 52 52 dX12_next0_300 cf_X12 ff_X12_328 rfl rfl sh_141 rfl rfl rfl (n_ret dX12_next0_303 hR rfl ?_)))))))))
                    have e178 : v9 178 = w 178 := hF.1 178 (by decide)
                    have e50 : v9 141 50 = w 141 50 := hF.2 50 (by omega)
                    rw [e178] at hsv
                    have hT := TkB.sg hx hF hP (by omega) (by rw [e178]; omega) (by rw [e178]; omega)
                    have he := hT.out1 (by omega)
                    have hk : kdT (w 178) (w 141 50) (v9 141 51) = w 178 (v9 141 51) := by unfold kdT; rw [if_neg (by omega), if_neg (by omega), if_pos (by omega)]
                    exact ⟨rfl, MdS.mk hx (by rw [he]; exact hT) (by rw [hk]; first | rfl | (rw [mk_sg (by omega)]; omega) | omega) (fun h => absurd (kdT_1 h).1 (by omega))⟩
                  · skip
                    refine s_iload_n dX12_next0_236 1 rfl (s_bipush dX12_next0_237 (by decide) (s_icmp_eq 284 dX12_next0_239 (by decide) (fun c_239 => ?_) (fun c_239 => ?_)))
                    · skip
                      refine s_iconst dX12_next0_284 (by decide) (s_goto 289 dX12_next0_285 (by decide) (s_istore_n (ls' := [(0, (2, 141)), (1, (0, (seV v9 (v9 141 51)))), (2, (0, 1))]) dX12_next0_289 (Nat.le_of_ble_eq_true rfl) rfl (s_aload_n dX12_next0_290 0 rfl rfl (s_iload_n dX12_next0_291 2 rfl (s_if_eq 299 dX12_next0_292 (by decide) (kt := fun c => absurd c (by decide)) (kf := fun _ => s_iload_n dX12_next0_295 1 rfl (s_goto 300 dX12_next0_296 (by decide) (n_putf 141 52 52 dX12_next0_300 cf_X12 ff_X12_328 rfl rfl sh_141 rfl rfl rfl (n_ret dX12_next0_303 hR rfl ?_)))))))))
                      have e178 : v9 178 = w 178 := hF.1 178 (by decide)
                      have e50 : v9 141 50 = w 141 50 := hF.2 50 (by omega)
                      rw [e178] at hsv
                      have hT := TkB.sg hx hF hP (by omega) (by rw [e178]; omega) (by rw [e178]; omega)
                      have he := hT.out1 (by omega)
                      have hk : kdT (w 178) (w 141 50) (v9 141 51) = w 178 (v9 141 51) := by unfold kdT; rw [if_neg (by omega), if_neg (by omega), if_pos (by omega)]
                      exact ⟨rfl, MdS.mk hx (by rw [he]; exact hT) (by rw [hk]; first | rfl | (rw [mk_sg (by omega)]; omega) | omega) (fun h => absurd (kdT_1 h).1 (by omega))⟩
                    · skip
                      refine s_iload_n dX12_next0_242 1 rfl (s_bipush dX12_next0_243 (by decide) (s_icmp_eq 284 dX12_next0_245 (by decide) (fun c_245 => ?_) (fun c_245 => ?_)))
                      · skip
                        refine s_iconst dX12_next0_284 (by decide) (s_goto 289 dX12_next0_285 (by decide) (s_istore_n (ls' := [(0, (2, 141)), (1, (0, (seV v9 (v9 141 51)))), (2, (0, 1))]) dX12_next0_289 (Nat.le_of_ble_eq_true rfl) rfl (s_aload_n dX12_next0_290 0 rfl rfl (s_iload_n dX12_next0_291 2 rfl (s_if_eq 299 dX12_next0_292 (by decide) (kt := fun c => absurd c (by decide)) (kf := fun _ => s_iload_n dX12_next0_295 1 rfl (s_goto 300 dX12_next0_296 (by decide) (n_putf 141 52 52 dX12_next0_300 cf_X12 ff_X12_328 rfl rfl sh_141 rfl rfl rfl (n_ret dX12_next0_303 hR rfl ?_)))))))))
                        have e178 : v9 178 = w 178 := hF.1 178 (by decide)
                        have e50 : v9 141 50 = w 141 50 := hF.2 50 (by omega)
                        rw [e178] at hsv
                        have hT := TkB.sg hx hF hP (by omega) (by rw [e178]; omega) (by rw [e178]; omega)
                        have he := hT.out1 (by omega)
                        have hk : kdT (w 178) (w 141 50) (v9 141 51) = w 178 (v9 141 51) := by unfold kdT; rw [if_neg (by omega), if_neg (by omega), if_pos (by omega)]
                        exact ⟨rfl, MdS.mk hx (by rw [he]; exact hT) (by rw [hk]; first | rfl | (rw [mk_sg (by omega)]; omega) | omega) (fun h => absurd (kdT_1 h).1 (by omega))⟩
                      · skip
                        refine s_iload_n dX12_next0_248 1 rfl (s_bipush dX12_next0_249 (by decide) (s_icmp_eq 284 dX12_next0_251 (by decide) (fun c_251 => ?_) (fun c_251 => ?_)))
                        · skip
                          refine s_iconst dX12_next0_284 (by decide) (s_goto 289 dX12_next0_285 (by decide) (s_istore_n (ls' := [(0, (2, 141)), (1, (0, (seV v9 (v9 141 51)))), (2, (0, 1))]) dX12_next0_289 (Nat.le_of_ble_eq_true rfl) rfl (s_aload_n dX12_next0_290 0 rfl rfl (s_iload_n dX12_next0_291 2 rfl (s_if_eq 299 dX12_next0_292 (by decide) (kt := fun c => absurd c (by decide)) (kf := fun _ => s_iload_n dX12_next0_295 1 rfl (s_goto 300 dX12_next0_296 (by decide) (n_putf 141 52 52 dX12_next0_300 cf_X12 ff_X12_328 rfl rfl sh_141 rfl rfl rfl (n_ret dX12_next0_303 hR rfl ?_)))))))))
                          have e178 : v9 178 = w 178 := hF.1 178 (by decide)
                          have e50 : v9 141 50 = w 141 50 := hF.2 50 (by omega)
                          rw [e178] at hsv
                          have hT := TkB.sg hx hF hP (by omega) (by rw [e178]; omega) (by rw [e178]; omega)
                          have he := hT.out1 (by omega)
                          have hk : kdT (w 178) (w 141 50) (v9 141 51) = w 178 (v9 141 51) := by unfold kdT; rw [if_neg (by omega), if_neg (by omega), if_pos (by omega)]
                          exact ⟨rfl, MdS.mk hx (by rw [he]; exact hT) (by rw [hk]; first | rfl | (rw [mk_sg (by omega)]; omega) | omega) (fun h => absurd (kdT_1 h).1 (by omega))⟩
                        · skip
                          refine s_iload_n dX12_next0_254 1 rfl (s_bipush dX12_next0_255 (by decide) (s_icmp_eq 284 dX12_next0_257 (by decide) (fun c_257 => ?_) (fun c_257 => ?_)))
                          · skip
                            refine s_iconst dX12_next0_284 (by decide) (s_goto 289 dX12_next0_285 (by decide) (s_istore_n (ls' := [(0, (2, 141)), (1, (0, (seV v9 (v9 141 51)))), (2, (0, 1))]) dX12_next0_289 (Nat.le_of_ble_eq_true rfl) rfl (s_aload_n dX12_next0_290 0 rfl rfl (s_iload_n dX12_next0_291 2 rfl (s_if_eq 299 dX12_next0_292 (by decide) (kt := fun c => absurd c (by decide)) (kf := fun _ => s_iload_n dX12_next0_295 1 rfl (s_goto 300 dX12_next0_296 (by decide) (n_putf 141 52 52 dX12_next0_300 cf_X12 ff_X12_328 rfl rfl sh_141 rfl rfl rfl (n_ret dX12_next0_303 hR rfl ?_)))))))))
                            have e178 : v9 178 = w 178 := hF.1 178 (by decide)
                            have e50 : v9 141 50 = w 141 50 := hF.2 50 (by omega)
                            rw [e178] at hsv
                            have hT := TkB.sg hx hF hP (by omega) (by rw [e178]; omega) (by rw [e178]; omega)
                            have he := hT.out1 (by omega)
                            have hk : kdT (w 178) (w 141 50) (v9 141 51) = w 178 (v9 141 51) := by unfold kdT; rw [if_neg (by omega), if_neg (by omega), if_pos (by omega)]
                            exact ⟨rfl, MdS.mk hx (by rw [he]; exact hT) (by rw [hk]; first | rfl | (rw [mk_sg (by omega)]; omega) | omega) (fun h => absurd (kdT_1 h).1 (by omega))⟩
                          · skip
                            refine s_iload_n dX12_next0_260 1 rfl (s_bipush dX12_next0_261 (by decide) (s_icmp_eq 284 dX12_next0_263 (by decide) (fun c_263 => ?_) (fun c_263 => ?_)))
                            · skip
                              refine s_iconst dX12_next0_284 (by decide) (s_goto 289 dX12_next0_285 (by decide) (s_istore_n (ls' := [(0, (2, 141)), (1, (0, (seV v9 (v9 141 51)))), (2, (0, 1))]) dX12_next0_289 (Nat.le_of_ble_eq_true rfl) rfl (s_aload_n dX12_next0_290 0 rfl rfl (s_iload_n dX12_next0_291 2 rfl (s_if_eq 299 dX12_next0_292 (by decide) (kt := fun c => absurd c (by decide)) (kf := fun _ => s_iload_n dX12_next0_295 1 rfl (s_goto 300 dX12_next0_296 (by decide) (n_putf 141 52 52 dX12_next0_300 cf_X12 ff_X12_328 rfl rfl sh_141 rfl rfl rfl (n_ret dX12_next0_303 hR rfl ?_)))))))))
                              have e178 : v9 178 = w 178 := hF.1 178 (by decide)
                              have e50 : v9 141 50 = w 141 50 := hF.2 50 (by omega)
                              rw [e178] at hsv
                              have hT := TkB.sg hx hF hP (by omega) (by rw [e178]; omega) (by rw [e178]; omega)
                              have he := hT.out1 (by omega)
                              have hk : kdT (w 178) (w 141 50) (v9 141 51) = w 178 (v9 141 51) := by unfold kdT; rw [if_neg (by omega), if_neg (by omega), if_pos (by omega)]
                              exact ⟨rfl, MdS.mk hx (by rw [he]; exact hT) (by rw [hk]; first | rfl | (rw [mk_sg (by omega)]; omega) | omega) (fun h => absurd (kdT_1 h).1 (by omega))⟩
                            · skip
                              refine s_iload_n dX12_next0_266 1 rfl (s_bipush dX12_next0_267 (by decide) (s_icmp_eq 284 dX12_next0_269 (by decide) (fun c_269 => ?_) (fun c_269 => ?_)))
                              · skip
                                refine s_iconst dX12_next0_284 (by decide) (s_goto 289 dX12_next0_285 (by decide) (s_istore_n (ls' := [(0, (2, 141)), (1, (0, (seV v9 (v9 141 51)))), (2, (0, 1))]) dX12_next0_289 (Nat.le_of_ble_eq_true rfl) rfl (s_aload_n dX12_next0_290 0 rfl rfl (s_iload_n dX12_next0_291 2 rfl (s_if_eq 299 dX12_next0_292 (by decide) (kt := fun c => absurd c (by decide)) (kf := fun _ => s_iload_n dX12_next0_295 1 rfl (s_goto 300 dX12_next0_296 (by decide) (n_putf 141 52 52 dX12_next0_300 cf_X12 ff_X12_328 rfl rfl sh_141 rfl rfl rfl (n_ret dX12_next0_303 hR rfl ?_)))))))))
                                have e178 : v9 178 = w 178 := hF.1 178 (by decide)
                                have e50 : v9 141 50 = w 141 50 := hF.2 50 (by omega)
                                rw [e178] at hsv
                                have hT := TkB.sg hx hF hP (by omega) (by rw [e178]; omega) (by rw [e178]; omega)
                                have he := hT.out1 (by omega)
                                have hk : kdT (w 178) (w 141 50) (v9 141 51) = w 178 (v9 141 51) := by unfold kdT; rw [if_neg (by omega), if_neg (by omega), if_pos (by omega)]
                                exact ⟨rfl, MdS.mk hx (by rw [he]; exact hT) (by rw [hk]; first | rfl | (rw [mk_sg (by omega)]; omega) | omega) (fun h => absurd (kdT_1 h).1 (by omega))⟩
                              · skip
                                refine s_iload_n dX12_next0_272 1 rfl (s_bipush dX12_next0_273 (by decide) (s_icmp_eq 284 dX12_next0_275 (by decide) (fun c_275 => ?_) (fun c_275 => ?_)))
                                · skip
                                  refine s_iconst dX12_next0_284 (by decide) (s_goto 289 dX12_next0_285 (by decide) (s_istore_n (ls' := [(0, (2, 141)), (1, (0, (seV v9 (v9 141 51)))), (2, (0, 1))]) dX12_next0_289 (Nat.le_of_ble_eq_true rfl) rfl (s_aload_n dX12_next0_290 0 rfl rfl (s_iload_n dX12_next0_291 2 rfl (s_if_eq 299 dX12_next0_292 (by decide) (kt := fun c => absurd c (by decide)) (kf := fun _ => s_iload_n dX12_next0_295 1 rfl (s_goto 300 dX12_next0_296 (by decide) (n_putf 141 52 52 dX12_next0_300 cf_X12 ff_X12_328 rfl rfl sh_141 rfl rfl rfl (n_ret dX12_next0_303 hR rfl ?_)))))))))
                                  have e178 : v9 178 = w 178 := hF.1 178 (by decide)
                                  have e50 : v9 141 50 = w 141 50 := hF.2 50 (by omega)
                                  rw [e178] at hsv
                                  have hT := TkB.sg hx hF hP (by omega) (by rw [e178]; omega) (by rw [e178]; omega)
                                  have he := hT.out1 (by omega)
                                  have hk : kdT (w 178) (w 141 50) (v9 141 51) = w 178 (v9 141 51) := by unfold kdT; rw [if_neg (by omega), if_neg (by omega), if_pos (by omega)]
                                  exact ⟨rfl, MdS.mk hx (by rw [he]; exact hT) (by rw [hk]; first | rfl | (rw [mk_sg (by omega)]; omega) | omega) (fun h => absurd (kdT_1 h).1 (by omega))⟩
                                · skip
                                  refine s_iload_n dX12_next0_278 1 rfl (s_bipush dX12_next0_279 (by decide) (s_icmp_ne 288 dX12_next0_281 (by decide) (fun c_281 => ?_) (fun c_281 => ?_)))
                                  · skip
                                    refine s_iconst dX12_next0_288 (by decide) (s_istore_n (ls' := [(0, (2, 141)), (1, (0, (seV v9 (v9 141 51)))), (2, (0, 0))]) dX12_next0_289 (Nat.le_of_ble_eq_true rfl) rfl (s_aload_n dX12_next0_290 0 rfl rfl (s_iload_n dX12_next0_291 2 rfl (s_if_eq 299 dX12_next0_292 (by decide) (kf := fun c => absurd c (by decide)) (kt := fun _ => s_iconst dX12_next0_299 (by decide) (n_putf 141 52 52 dX12_next0_300 cf_X12 ff_X12_328 rfl rfl sh_141 rfl rfl rfl (n_ret dX12_next0_303 hR rfl ?_)))))))
                                    have e178 : v9 178 = w 178 := hF.1 178 (by decide)
                                    have e50 : v9 141 50 = w 141 50 := hF.2 50 (by omega)
                                    rw [e178] at hsv
                                    have hT := TkB.sg hx hF hP (by omega) (by rw [e178]; omega) (by rw [e178]; omega)
                                    have he := hT.out1 (by omega)
                                    have hk : kdT (w 178) (w 141 50) (v9 141 51) = 2 := by unfold kdT; rw [if_neg (by omega), if_neg (by omega), if_neg (by omega)]
                                    exact ⟨rfl, MdS.mk hx (by rw [he]; exact hT) (by rw [hk]; first | rfl | (rw [mk_sg (by omega)]; omega) | omega) (fun h => absurd (kdT_1 h).1 (by omega))⟩
                                  · skip
                                    refine s_iconst dX12_next0_284 (by decide) (s_goto 289 dX12_next0_285 (by decide) (s_istore_n (ls' := [(0, (2, 141)), (1, (0, (seV v9 (v9 141 51)))), (2, (0, 1))]) dX12_next0_289 (Nat.le_of_ble_eq_true rfl) rfl (s_aload_n dX12_next0_290 0 rfl rfl (s_iload_n dX12_next0_291 2 rfl (s_if_eq 299 dX12_next0_292 (by decide) (kt := fun c => absurd c (by decide)) (kf := fun _ => s_iload_n dX12_next0_295 1 rfl (s_goto 300 dX12_next0_296 (by decide) (n_putf 141 52 52 dX12_next0_300 cf_X12 ff_X12_328 rfl rfl sh_141 rfl rfl rfl (n_ret dX12_next0_303 hR rfl ?_)))))))))
                                    have e178 : v9 178 = w 178 := hF.1 178 (by decide)
                                    have e50 : v9 141 50 = w 141 50 := hF.2 50 (by omega)
                                    rw [e178] at hsv
                                    have hT := TkB.sg hx hF hP (by omega) (by rw [e178]; omega) (by rw [e178]; omega)
                                    have he := hT.out1 (by omega)
                                    have hk : kdT (w 178) (w 141 50) (v9 141 51) = w 178 (v9 141 51) := by unfold kdT; rw [if_neg (by omega), if_neg (by omega), if_pos (by omega)]
                                    exact ⟨rfl, MdS.mk hx (by rw [he]; exact hT) (by rw [hk]; first | rfl | (rw [mk_sg (by omega)]; omega) | omega) (fun h => absurd (kdT_1 h).1 (by omega))⟩
              · skip
                refine s_aload_n dX12_next0_121 0 rfl rfl (s_iconst dX12_next0_122 (by decide) (n_putf 141 54 54 dX12_next0_123 cf_X12 ff_X12_340 rfl rfl sh_141 rfl rfl rfl ?_))
                exact L_126 _ (seV v9 (v9 141 51)) (wu (wu v9 141 53 (v9 141 51)) 141 54 0) (v9 141 51) (v9 141 51) ((TkB.ini hx hF hP (by omega) (by omega) (by omega)).v ⟨by decide, by decide⟩) (by rw [← hF.1 178 (by decide)]; omega) (by rw [wu_same, if_pos (by omega), show (v9 141 51 - v9 141 51).toNat = 0 by omega]; rfl) (Nat.lt_succ_self _)
            · skip
              exact L_76 _ (seV v9 (v9 141 51)) (wu v9 141 53 (v9 141 51)) (v9 141 51) (v9 141 51) (TkB.ini hx hF hP (by omega) (by omega) (by omega)) (by rw [← hF.1 178 (by decide)]; omega) (Nat.lt_succ_self _)
          · skip
            refine s_aload_n dX12_next0_61 0 rfl rfl (s_iconst dX12_next0_62 (by decide) (n_putf 141 52 52 dX12_next0_63 cf_X12 ff_X12_328 rfl rfl sh_141 rfl rfl rfl (s_goto 303 dX12_next0_66 (by decide) (n_ret dX12_next0_303 hR rfl ?_))))
            exact ⟨rfl, MdS.nil hx hF hP (by omega)⟩
        · skip
          refine s_aload_n dX12_next0_26 0 rfl rfl (s_dup dX12_next0_27 (show (2 : Nat) ≠ 1 by decide) (n_getf 141 51 0 dX12_next0_28 cf_X12 ff_X12_280 rfl sh_141 rfl (by decide) (v := (v9 141 51)) rfl (s_iconst dX12_next0_31 (by decide) (n_add (z := ((v9 141 51) + 1)) dX12_next0_32 (wr_id (by omega) (by omega)) (n_putf 141 51 51 dX12_next0_33 cf_X12 ff_X12_280 rfl rfl sh_141 rfl rfl rfl (s_goto 0 dX12_next0_36 (by decide) ?_))))))
          exact ih (wu v9 141 51 ((v9 141 51) + 1)) (hF.u (by omega)) (hP.blank (by omega) (by omega)) (by rw [wu_same, wu_f (by decide)]; omega)
  exact L_0 _ w FrX.rf hP0 (Nat.lt_succ_self _)

