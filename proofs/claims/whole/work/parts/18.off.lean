/-! OFF. -/
def ok3 (z : Int) : Prop := -3 ≤ z ∧ z ≤ 3
abbrev nok (z : Int) : Prop := ¬ (-3 ≤ z ∧ z ≤ 3)
def xof (to we fr L : Int → Int) (p k : Int) : Nat → Int
  | 0 => -1
  | n + 1 => if (xof to we fr L p k n = -1 ∨ fr n < xof to we fr L p k n) ∧ to n = p ∧ we n ≤ k ∧ nok (L (fr n)) then fr n else xof to we fr L p k n
def mof (to fr L : Int → Int) (p : Int) : Nat → Int
  | 0 => if nok (L 0) then 0 else -1
  | n + 1 => if to n = p ∧ nok (L (fr n)) ∧ (mof to fr L p n = -1 ∨ fr n < mof to fr L p n) then fr n else mof to fr L p n
section OFFS
variable {to we fr ki am L : Int → Int} {p f g k : Int}
theorem xof_s {i : Int} (h : 0 ≤ i) : xof to we fr L p k (i + 1).toNat = if (xof to we fr L p k i.toNat = -1 ∨ fr i < xof to we fr L p k i.toNat) ∧ to i = p ∧ we i ≤ k ∧ nok (L (fr i)) then fr i else xof to we fr L p k i.toNat := by
  rw [toN_s h, xof, toN_c h]
theorem mof_s {i : Int} (h : 0 ≤ i) : mof to fr L p (i + 1).toNat = if to i = p ∧ nok (L (fr i)) ∧ (mof to fr L p i.toNat = -1 ∨ fr i < mof to fr L p i.toNat) then fr i else mof to fr L p i.toNat := by
  rw [toN_s h, mof, toN_c h]
theorem xof_spec : ∀ n : Nat, (∀ j : Int, 0 ≤ j → j < n → 0 ≤ fr j) → (xof to we fr L p k n = -1 ∧ ∀ j : Int, 0 ≤ j → j < n → to j = p → we j ≤ k → ¬ nok (L (fr j))) ∨ (0 ≤ xof to we fr L p k n ∧ (∃ j : Int, (0 ≤ j ∧ j < n) ∧ (to j = p ∧ we j ≤ k) ∧ nok (L (fr j)) ∧ xof to we fr L p k n = fr j) ∧ ∀ j : Int, 0 ≤ j → j < n → to j = p → we j ≤ k → nok (L (fr j)) → xof to we fr L p k n ≤ fr j)
  | 0, _ => Or.inl ⟨rfl, fun j h1 h2 => by omega⟩
  | n + 1, hf => by
    have hn := hf (n : Int) (by omega) (by omega)
    by_cases c : (xof to we fr L p k n = -1 ∨ fr n < xof to we fr L p k n) ∧ to n = p ∧ we n ≤ k ∧ nok (L (fr n))
    · have e : xof to we fr L p k (n + 1) = fr n := by rw [xof, if_pos c]
      right
      rw [e]
      refine ⟨hn, ⟨(n : Int), ⟨by omega, by omega⟩, ⟨c.2.1, c.2.2.1⟩, c.2.2.2, rfl⟩, fun j h1 h2 h3 h4 h5 => ?_⟩
      by_cases ej : j = n
      · rw [ej]; omega
      · rcases xof_spec n (fun j h1 h2 => hf j h1 (by omega)) with ⟨a1, a2⟩ | ⟨a1, a2, a3⟩
        · exact absurd h5 (a2 j h1 (by omega) h3 h4)
        · have := a3 j h1 (by omega) h3 h4 h5
          omega
    · have e : xof to we fr L p k (n + 1) = xof to we fr L p k n := by rw [xof, if_neg c]
      rw [e]
      rcases xof_spec n (fun j h1 h2 => hf j h1 (by omega)) with ⟨a1, a2⟩ | ⟨a1, ⟨j0, b1, b2, b3, b4⟩, a3⟩
      · refine Or.inl ⟨a1, fun j h1 h2 h3 h4 h5 => ?_⟩
        by_cases ej : j = n
        · subst ej
          exact c ⟨Or.inl a1, h3, h4, h5⟩
        · exact a2 j h1 (by omega) h3 h4 h5
      · refine Or.inr ⟨a1, ⟨j0, ⟨b1.1, by omega⟩, b2, b3, b4⟩, fun j h1 h2 h3 h4 h5 => ?_⟩
        by_cases ej : j = n
        · subst ej
          rcases Int.lt_or_le (fr n) (xof to we fr L p k n) with q | q
          · exact absurd ⟨Or.inr q, h3, h4, h5⟩ c
          · exact q
        · exact a3 j h1 (by omega) h3 h4 h5
theorem mof_spec : ∀ n : Nat, (∀ j : Int, 0 ≤ j → j < n → 0 ≤ fr j) → (mof to fr L p n = -1 ∧ ¬ nok (L 0) ∧ ∀ j : Int, 0 ≤ j → j < n → to j = p → ¬ nok (L (fr j))) ∨ (0 ≤ mof to fr L p n ∧ nok (L (mof to fr L p n)) ∧ (nok (L 0) → mof to fr L p n ≤ 0) ∧ ∀ j : Int, 0 ≤ j → j < n → to j = p → nok (L (fr j)) → mof to fr L p n ≤ fr j)
  | 0, _ => by
    by_cases c : nok (L 0)
    · right
      have e : mof to fr L p 0 = 0 := by rw [mof, if_pos c]
      rw [e]
      exact ⟨by omega, c, fun _ => by omega, fun j h1 h2 => by omega⟩
    · left
      have e : mof to fr L p 0 = -1 := by rw [mof, if_neg c]
      exact ⟨e, c, fun j h1 h2 => by omega⟩
  | n + 1, hf => by
    have hn := hf (n : Int) (by omega) (by omega)
    by_cases c : to n = p ∧ nok (L (fr n)) ∧ (mof to fr L p n = -1 ∨ fr n < mof to fr L p n)
    · have e : mof to fr L p (n + 1) = fr n := by rw [mof, if_pos c]
      right
      rw [e]
      refine ⟨hn, c.2.1, fun z => ?_, fun j h1 h2 h3 h5 => ?_⟩
      · rcases mof_spec n (fun j h1 h2 => hf j h1 (by omega)) with ⟨a1, a2, a3⟩ | ⟨a1, a2, a3, a4⟩
        · exact absurd z a2
        · have := a3 z; omega
      · by_cases ej : j = n
        · rw [ej]; omega
        · rcases mof_spec n (fun j h1 h2 => hf j h1 (by omega)) with ⟨a1, a2, a3⟩ | ⟨a1, a2, a3, a4⟩
          · exact absurd h5 (a3 j h1 (by omega) h3)
          · have := a4 j h1 (by omega) h3 h5
            omega
    · have e : mof to fr L p (n + 1) = mof to fr L p n := by rw [mof, if_neg c]
      rw [e]
      rcases mof_spec n (fun j h1 h2 => hf j h1 (by omega)) with ⟨a1, a2, a3⟩ | ⟨a1, a2, a3, a4⟩
      · refine Or.inl ⟨a1, a2, fun j h1 h2 h3 h5 => ?_⟩
        by_cases ej : j = n
        · subst ej
          exact c ⟨h3, h5, Or.inl a1⟩
        · exact a3 j h1 (by omega) h3 h5
      · refine Or.inr ⟨a1, a2, a3, fun j h1 h2 h3 h5 => ?_⟩
        by_cases ej : j = n
        · subst ej
          rcases Int.lt_or_le (fr n) (mof to fr L p n) with q | q
          · exact absurd ⟨h3, h5, Or.inr q⟩ c
          · exact q
        · exact a4 j h1 (by omega) h3 h5
theorem lea_cong : ∀ n : Nat, (∀ j : Int, 0 ≤ j → j < n → to j = p → we j ≤ k → (fr j ≤ f ↔ fr j ≤ g)) → lea to we fr ki am p f k n = lea to we fr ki am p g k n
  | 0, _ => rfl
  | n + 1, h => by
    have ih := lea_cong n (fun j h1 h2 => h j h1 (by omega))
    have h1 := h (n : Int) (by omega) (by omega)
    rw [lea, lea, ih]
    by_cases c : to n = p ∧ we n ≤ k
    · have h2 := h1 c.1 c.2
      by_cases c2 : fr n ≤ f
      · rw [if_pos (show to n = p ∧ we n ≤ k ∧ fr n ≤ f from ⟨c.1, c.2, c2⟩), if_pos (show to n = p ∧ we n ≤ k ∧ fr n ≤ g from ⟨c.1, c.2, h2.mp c2⟩)]
      · rw [if_neg (show ¬ (to n = p ∧ we n ≤ k ∧ fr n ≤ f) from fun z => c2 z.2.2), if_neg (show ¬ (to n = p ∧ we n ≤ k ∧ fr n ≤ g) from fun z => c2 (h2.mpr z.2.2))]
    · rw [if_neg (show ¬ (to n = p ∧ we n ≤ k ∧ fr n ≤ f) from fun z => c ⟨z.1, z.2.1⟩), if_neg (show ¬ (to n = p ∧ we n ≤ k ∧ fr n ≤ g) from fun z => c ⟨z.1, z.2.1⟩)]
theorem sta_cong : ∀ n : Nat, (∀ j : Int, 0 ≤ j → j < n → to j = p → we j ≤ k → (fr j ≤ f ↔ fr j ≤ g)) → sta to we fr ki am p f k n = sta to we fr ki am p g k n
  | 0, _ => rfl
  | n + 1, h => by
    have ih := sta_cong n (fun j h1 h2 => h j h1 (by omega))
    have h1 := h (n : Int) (by omega) (by omega)
    rw [sta, sta, ih]
    by_cases c : to n = p ∧ we n ≤ k
    · have h2 := h1 c.1 c.2
      by_cases c2 : fr n ≤ f
      · by_cases c3 : ki n = 3
        · rw [if_pos ⟨c.1, c.2, c2, c3⟩, if_pos ⟨c.1, c.2, h2.mp c2, c3⟩]
        · rw [if_neg (fun z => c3 z.2.2.2), if_neg (fun z => c3 z.2.2.2)]
      · rw [if_neg (fun z => c2 z.2.2.1), if_neg (fun z => c2 (h2.mpr z.2.2.1))]
    · rw [if_neg (fun z => c ⟨z.1, z.2.1⟩), if_neg (fun z => c ⟨z.1, z.2.1⟩)]
theorem lea_none : ∀ n : Nat, (∀ j : Int, 0 ≤ j → j < n → to j = p → we j ≤ k → ¬ fr j ≤ f) → lea to we fr ki am p f k n = 0 ∧ sta to we fr ki am p f k n = 0
  | 0, _ => ⟨rfl, rfl⟩
  | n + 1, h => by
    have ih := lea_none n (fun j h1 h2 => h j h1 (by omega))
    have h1 := h (n : Int) (by omega) (by omega)
    rw [lea, sta, if_neg (fun z => h1 z.1 z.2.1 z.2.2), if_neg (fun z => h1 z.1 z.2.1 z.2.2.1)]
    exact ih
/-- among those below n that P names, one with the greatest v -/
theorem pick_max (P : Int → Prop) (v : Int → Int) : ∀ n : Nat, (∃ j : Int, (0 ≤ j ∧ j < n) ∧ P j) → ∃ j : Int, (0 ≤ j ∧ j < n) ∧ P j ∧ ∀ i : Int, 0 ≤ i → i < n → P i → v i ≤ v j
  | 0, ⟨j, h, _⟩ => by omega
  | n + 1, ⟨j, h, hj⟩ => by
    by_cases hn : P n
    · by_cases he : ∃ j : Int, (0 ≤ j ∧ j < n) ∧ P j
      · obtain ⟨m, m1, m2, m3⟩ := pick_max P v n he
        rcases Int.le_total (v n) (v m) with q | q
        · exact ⟨m, ⟨m1.1, by omega⟩, m2, fun i h1 h2 h3 => by
            by_cases ei : i = n
            · rw [ei]; exact q
            · exact m3 i h1 (by omega) h3⟩
        · exact ⟨n, ⟨by omega, by omega⟩, hn, fun i h1 h2 h3 => by
            by_cases ei : i = n
            · rw [ei]; omega
            · have := m3 i h1 (by omega) h3; omega⟩
      · exact ⟨n, ⟨by omega, by omega⟩, hn, fun i h1 h2 h3 => by
          by_cases ei : i = n
          · rw [ei]; omega
          · exact absurd ⟨i, ⟨h1, by omega⟩, h3⟩ he⟩
    · have hjn : j ≠ n := fun z => hn (z ▸ hj)
      obtain ⟨m, m1, m2, m3⟩ := pick_max P v n ⟨j, ⟨h.1, by omega⟩, hj⟩
      exact ⟨m, ⟨m1.1, by omega⟩, m2, fun i h1 h2 h3 => m3 i h1 (by have : i ≠ n := fun z => hn (z ▸ h3); omega) h3⟩
/-- where the lead is off, it is as at some event's frame before -/
theorem near {tr N : Int} (htr : tr = 0) (h : nok (leadV tr to we fr ki am N p f k)) : ∃ j : Int, (0 ≤ j ∧ j < N.toNat) ∧ (to j = p ∧ we j ≤ k ∧ fr j ≤ f) ∧ leadV tr to we fr ki am N p (fr j) k = leadV tr to we fr ki am N p f k := by
  unfold leadV at h ⊢
  simp only [if_pos htr] at h ⊢
  by_cases he : ∃ j : Int, (0 ≤ j ∧ j < N.toNat) ∧ (to j = p ∧ we j ≤ k ∧ fr j ≤ f)
  · obtain ⟨j, j1, j2, j3⟩ := pick_max (fun j => to j = p ∧ we j ≤ k ∧ fr j ≤ f) fr N.toNat he
    refine ⟨j, j1, j2, ?_⟩
    have hc : ∀ i : Int, 0 ≤ i → i < N.toNat → to i = p → we i ≤ k → (fr i ≤ fr j ↔ fr i ≤ f) := fun i h1 h2 h3 h4 => ⟨fun q => by have := j2.2.2; omega, fun q => j3 i h1 h2 ⟨h3, h4, q⟩⟩
    rw [lea_cong _ hc, sta_cong _ hc]
  · have hn := lea_none (to := to) (we := we) (fr := fr) (ki := ki) (am := am) (p := p) (f := f) (k := k) N.toNat (fun j h1 h2 h3 h4 h5 => he ⟨j, ⟨h1, h2⟩, h3, h4, h5⟩)
    rw [hn.1, hn.2] at h
    exact absurd (by omega) h
end OFFS
def offX (tr : Int) (to we fr ki am : Int → Int) (N p k : Int) : Int := if tr = 0 then xof to we fr (fun f => leadV tr to we fr ki am N p f k) p k N.toNat else -1
def offM (tr : Int) (to we fr ki am : Int → Int) (N p k : Int) : Int := mof to fr (fun f => leadV tr to we fr ki am N p f k) p N.toNat
theorem off_eq {tr : Int} {to we fr ki am : Int → Int} {N p k : Int} (hf : ∀ j : Int, 0 ≤ j → j < N → 0 ≤ fr j) : offX tr to we fr ki am N p k = offM tr to we fr ki am N p k := by
  have hf2 : ∀ j : Int, 0 ≤ j → j < N.toNat → 0 ≤ fr j := fun j h1 h2 => hf j h1 (by omega)
  have hm := mof_spec (to := to) (fr := fr) (L := fun f => leadV tr to we fr ki am N p f k) (p := p) N.toNat hf2
  unfold offX offM
  by_cases htr : tr = 0
  · rw [if_pos htr]
    have hx := xof_spec (to := to) (we := we) (fr := fr) (L := fun f => leadV tr to we fr ki am N p f k) (p := p) (k := k) N.toNat hf2
    generalize xof to we fr (fun f => leadV tr to we fr ki am N p f k) p k N.toNat = X at hx ⊢
    generalize mof to fr (fun f => leadV tr to we fr ki am N p f k) p N.toNat = Y at hm ⊢
    rcases hx with ⟨x1, x2⟩ | ⟨x1, ⟨j, j1, j2, j3, j4⟩, x3⟩ <;> rcases hm with ⟨m1, m2, m3⟩ | ⟨m1, m2, m3, m4⟩
    · omega
    · obtain ⟨i, i1, i2, i3⟩ := near htr m2
      exact absurd (by rw [i3]; exact m2) (x2 i i1.1 i1.2 i2.1 i2.2.1)
    · exact absurd j3 (m3 j j1.1 j1.2 j2.1)
    · have h1 := m4 j j1.1 j1.2 j2.1 j3
      obtain ⟨i, i1, i2, i3⟩ := near htr m2
      have h2 := x3 i i1.1 i1.2 i2.1 i2.2.1 (by rw [i3]; exact m2)
      have := i2.2.2
      omega
  · rw [if_neg htr]
    have hz : ∀ f, leadV tr to we fr ki am N p f k = 0 := fun f => by unfold leadV; rw [if_neg htr]
    rcases hm with ⟨m1, -⟩ | ⟨m1, m2, -⟩
    · exact m1.symm
    · skip
      rw [hz] at m2
      exact absurd (by omega) m2

set_option maxRecDepth 100000 in
theorem c_X_isOff (p f k : Int) (w : Wd) (hp : 0 ≤ p ∧ p < 30) (hq : 0 ≤ w 7 p ∧ w 7 p < 12) (hev : EVB (w 11) (w 13) (w 1 15)) : CallN 2 mX5_isOff [(2, 1), (0, p), (0, f), (0, k)] w (RV (0, bi (nok (leadV (w 5 (w 7 p)) (w 10) (w 14) (w 12) (w 11) (w 13) (w 1 15) p f k))) w) := by
  refine CallN.intro (by decide +kernel) (Nat.le_of_ble_eq_true rfl) (fun ρ hR => ?_)
  show AtN mX5_isOff 2 ρ 0 [(0, (2, 1)), (1, (0, p)), (2, (0, f)), (3, (0, k))] [] w
  refine s_aload_n dX5_isOff_0 0 rfl rfl (s_iload_n dX5_isOff_1 1 rfl (s_iload_n dX5_isOff_2 2 rfl (s_iload_n dX5_isOff_3 3 rfl (n_invV (as := [(0, p), (0, f), (0, k)]) dX5_isOff_4 kv_X5_leadAt ml_X5_82 (c_X_leadAt p f k w (by omega) (by omega) hev) (by decide) 1 cf_X5 rfl sh_1 rfl rfl rfl (Nat.le_of_ble_eq_true rfl) (s_bipush dX5_isOff_7 (by decide) (s_iconst dX5_isOff_9 (by decide) (n_invT (as := [(0, (leadV (w 5 (w 7 p)) (w 10) (w 14) (w 12) (w 11) (w 13) (w 1 15) p f k)), (0, (-3)), (0, 3)]) dX5_isOff_10 kv_X11_within ml_X5_51 (c_within (leadV (w 5 (w 7 p)) (w 10) (w 14) (w 12) (w 11) (w 13) (w 1 15) p f k) (-3) 3 w) (by decide) rfl rfl (Nat.le_of_ble_eq_true rfl) (n_ifne_b 20 dX5_isOff_13 (by decide) (fun c_13 => ?_) (fun c_13 => ?_)))))))))
  · skip
    refine s_iconst dX5_isOff_20 (by decide) (n_zret dX5_isOff_21 hR rfl (by first | exact Or.inl rfl | exact Or.inr rfl | exact bi_01 _ | omega) ?_)
    refine ⟨congrArg (fun z => some ((0 : Nat), z)) ?_, rfl⟩
    first | exact (bi_t (by omega)).symm | exact (bi_f (by omega)).symm | exact bi_congr (by omega)
  · skip
    refine s_iconst dX5_isOff_16 (by decide) (s_goto 21 dX5_isOff_17 (by decide) (n_zret dX5_isOff_21 hR rfl (by first | exact Or.inl rfl | exact Or.inr rfl | exact bi_01 _ | omega) ?_))
    refine ⟨congrArg (fun z => some ((0 : Nat), z)) ?_, rfl⟩
    first | exact (bi_t (by omega)).symm | exact (bi_f (by omega)).symm | exact bi_congr (by omega)

set_option maxRecDepth 100000 in
theorem c_X_firstOff (p k : Int) (w : Wd) (hp : 0 ≤ p ∧ p < 30) (hq : 0 ≤ w 7 p ∧ w 7 p < 12) (hev : EVB (w 11) (w 13) (w 1 15)) (hfr : ∀ j, 0 ≤ j → j < w 1 15 → 0 ≤ w 12 j ∧ w 12 j ≤ 9999) : CallN 3 mX5_firstOff [(2, 1), (0, p), (0, k)] w (RV (0, offX (w 5 (w 7 p)) (w 10) (w 14) (w 12) (w 11) (w 13) (w 1 15) p k) w) := by
  refine CallN.intro (by decide +kernel) (Nat.le_of_ble_eq_true rfl) (fun ρ hR => ?_)
  show AtN mX5_firstOff 3 ρ 0 [(0, (2, 1)), (1, (0, p)), (2, (0, k))] [] w
  have hN0 := hev.1
  obtain ⟨L, hL⟩ : ∃ L : Int → Int, L = fun f => leadV (w 5 (w 7 p)) (w 10) (w 14) (w 12) (w 11) (w 13) (w 1 15) p f k := ⟨_, rfl⟩
  have L_21 : ∀ (fu : Nat) (i : Int) (b : Int), w 5 (w 7 p) = 0 → 0 ≤ i ∧ i ≤ w 1 15 → b = xof (w 10) (w 14) (w 12) L p k i.toNat → (w 1 15 - i).toNat < fu → AtN mX5_firstOff 3 ρ 21 [(0, (2, 1)), (1, (0, p)), (2, (0, k)), (3, (0, b)), (4, (0, i))] [] w := by
    intro fu
    induction fu with
    | zero => intro i b ht hi hb hm; exact absurd hm (Nat.not_lt_zero _)
    | succ fu ih =>
      intro i b ht hi hb hm
      have hN := hev.1
      refine s_iload dX5_firstOff_21 4 rfl (s_aload_n dX5_firstOff_23 0 rfl rfl (n_getf 1 15 0 dX5_firstOff_24 cf_X5 ff_X5_73 rfl sh_1 rfl (by decide) (v := (w 1 15)) rfl (s_icmp_ge 110 dX5_firstOff_27 (by decide) (fun c_27 => ?_) (fun c_27 => ?_))))
      · skip
        refine s_iload_n dX5_firstOff_110 3 rfl (n_iret dX5_firstOff_111 hR rfl ?_)
        have e9 : i = w 1 15 := by omega
        rw [e9] at hb
        exact ⟨congrArg (fun z => some ((0 : Nat), z)) (by unfold offX; rw [if_pos ht, ← hL]; exact hb), rfl⟩
      · skip
        refine s_iload_n dX5_firstOff_30 3 rfl (s_iconst dX5_firstOff_31 (by decide) (s_icmp_eq 46 dX5_firstOff_32 (by decide) (fun c_32 => ?_) (fun c_32 => ?_)))
        · skip
          refine s_iconst dX5_firstOff_46 (by decide) (s_goto 51 dX5_firstOff_47 (by decide) (s_istore (ls' := [(0, (2, 1)), (1, (0, p)), (2, (0, k)), (3, (0, b)), (4, (0, i)), (5, (0, 1))]) dX5_firstOff_51 (Nat.le_of_ble_eq_true rfl) rfl (s_aload_n dX5_firstOff_53 0 rfl rfl (n_getc (q := 10) 1 10 20 dX5_firstOff_54 cf_X5 ff_X5_36 rfl sh_1 rfl (by decide) rfl (by decide) (s_iload dX5_firstOff_57 4 rfl (n_iald 10 dX5_firstOff_59 rfl sh_10 (by decide) ⟨(by omega), (by omega)⟩ (v := (w 10 i)) rfl (s_iload_n dX5_firstOff_60 1 rfl (s_icmp_ne 104 dX5_firstOff_61 (by decide) (fun c_61 => ?_) (fun c_61 => ?_)))))))))
          · skip
            refine s_iinc (z := (i + 1)) (ls' := [(0, (2, 1)), (1, (0, p)), (2, (0, k)), (3, (0, b)), (4, (0, (i + 1))), (5, (0, 1))]) dX5_firstOff_104 4 rfl (Nat.le_of_ble_eq_true rfl) (wr_id (by omega) (by omega)) rfl (s_goto 21 dX5_firstOff_107 (by decide) ?_)
            exact At.keep (ls' := [(0, (2, 1)), (1, (0, p)), (2, (0, k)), (3, (0, b)), (4, (0, (i + 1)))]) [0, 1, 2, 3, 4] rfl (ih (i + 1) b ht (by omega) (by rw [xof_s hi.1, ← hb]; split <;> omega) (by omega))
          · skip
            refine s_aload_n dX5_firstOff_64 0 rfl rfl (n_getc (q := 14) 1 14 24 dX5_firstOff_65 cf_X5 ff_X5_48 rfl sh_1 rfl (by decide) rfl (by decide) (s_iload dX5_firstOff_68 4 rfl (n_iald 14 dX5_firstOff_70 rfl sh_14 (by decide) ⟨(by omega), (by omega)⟩ (v := (w 14 i)) rfl (s_iload_n dX5_firstOff_71 2 rfl (s_icmp_gt 104 dX5_firstOff_72 (by decide) (fun c_72 => ?_) (fun c_72 => ?_))))))
            · skip
              refine s_iinc (z := (i + 1)) (ls' := [(0, (2, 1)), (1, (0, p)), (2, (0, k)), (3, (0, b)), (4, (0, (i + 1))), (5, (0, 1))]) dX5_firstOff_104 4 rfl (Nat.le_of_ble_eq_true rfl) (wr_id (by omega) (by omega)) rfl (s_goto 21 dX5_firstOff_107 (by decide) ?_)
              exact At.keep (ls' := [(0, (2, 1)), (1, (0, p)), (2, (0, k)), (3, (0, b)), (4, (0, (i + 1)))]) [0, 1, 2, 3, 4] rfl (ih (i + 1) b ht (by omega) (by rw [xof_s hi.1, ← hb]; split <;> omega) (by omega))
            · skip
              refine s_iload dX5_firstOff_75 5 rfl (s_if_eq 104 dX5_firstOff_77 (by decide) (kt := fun c => absurd c (by decide)) (kf := fun _ => s_aload_n dX5_firstOff_80 0 rfl rfl (s_iload_n dX5_firstOff_81 1 rfl (s_aload_n dX5_firstOff_82 0 rfl rfl (n_getc (q := 12) 1 12 22 dX5_firstOff_83 cf_X5 ff_X5_42 rfl sh_1 rfl (by decide) rfl (by decide) (s_iload dX5_firstOff_86 4 rfl (n_iald 12 dX5_firstOff_88 rfl sh_12 (by decide) ⟨(by omega), (by omega)⟩ (v := (w 12 i)) rfl (s_iload_n dX5_firstOff_89 2 rfl (n_invV (as := [(0, p), (0, (w 12 i)), (0, k)]) dX5_firstOff_90 kv_X5_isOff ml_X5_79 (c_X_isOff p (w 12 i) k w (by omega) (by omega) hev) (by decide) 1 cf_X5 rfl sh_1 rfl rfl rfl (Nat.le_of_ble_eq_true rfl) ?_)))))))))
              refine n_top (y := bi (nok (L (w 12 i)))) (by rw [hL]) ?_
              refine n_ifeq_b 104 dX5_firstOff_93 (by decide) (fun c_93 => ?_) (fun c_93 => ?_)
              · skip
                refine s_iinc (z := (i + 1)) (ls' := [(0, (2, 1)), (1, (0, p)), (2, (0, k)), (3, (0, b)), (4, (0, (i + 1))), (5, (0, 1))]) dX5_firstOff_104 4 rfl (Nat.le_of_ble_eq_true rfl) (wr_id (by omega) (by omega)) rfl (s_goto 21 dX5_firstOff_107 (by decide) ?_)
                exact At.keep (ls' := [(0, (2, 1)), (1, (0, p)), (2, (0, k)), (3, (0, b)), (4, (0, (i + 1)))]) [0, 1, 2, 3, 4] rfl (ih (i + 1) b ht (by omega) (by rw [xof_s hi.1, ← hb]; split <;> omega) (by omega))
              · skip
                refine s_aload_n dX5_firstOff_96 0 rfl rfl (n_getc (q := 12) 1 12 22 dX5_firstOff_97 cf_X5 ff_X5_42 rfl sh_1 rfl (by decide) rfl (by decide) (s_iload dX5_firstOff_100 4 rfl (n_iald 12 dX5_firstOff_102 rfl sh_12 (by decide) ⟨(by omega), (by omega)⟩ (v := (w 12 i)) rfl (s_istore_n (ls' := [(0, (2, 1)), (1, (0, p)), (2, (0, k)), (3, (0, (w 12 i))), (4, (0, i)), (5, (0, 1))]) dX5_firstOff_103 (Nat.le_of_ble_eq_true rfl) rfl (s_iinc (z := (i + 1)) (ls' := [(0, (2, 1)), (1, (0, p)), (2, (0, k)), (3, (0, (w 12 i))), (4, (0, (i + 1))), (5, (0, 1))]) dX5_firstOff_104 4 rfl (Nat.le_of_ble_eq_true rfl) (wr_id (by omega) (by omega)) rfl (s_goto 21 dX5_firstOff_107 (by decide) ?_))))))
                exact At.keep (ls' := [(0, (2, 1)), (1, (0, p)), (2, (0, k)), (3, (0, (w 12 i))), (4, (0, (i + 1)))]) [0, 1, 2, 3, 4] rfl (ih (i + 1) (w 12 i) ht (by omega) (by rw [xof_s hi.1, ← hb]; split <;> omega) (by omega))
        · skip
          refine s_aload_n dX5_firstOff_35 0 rfl rfl (n_getc (q := 12) 1 12 22 dX5_firstOff_36 cf_X5 ff_X5_42 rfl sh_1 rfl (by decide) rfl (by decide) (s_iload dX5_firstOff_39 4 rfl (n_iald 12 dX5_firstOff_41 rfl sh_12 (by decide) ⟨(by omega), (by omega)⟩ (v := (w 12 i)) rfl (s_iload_n dX5_firstOff_42 3 rfl (s_icmp_ge 50 dX5_firstOff_43 (by decide) (fun c_43 => ?_) (fun c_43 => ?_))))))
          · skip
            refine s_iconst dX5_firstOff_50 (by decide) (s_istore (ls' := [(0, (2, 1)), (1, (0, p)), (2, (0, k)), (3, (0, b)), (4, (0, i)), (5, (0, 0))]) dX5_firstOff_51 (Nat.le_of_ble_eq_true rfl) rfl (s_aload_n dX5_firstOff_53 0 rfl rfl (n_getc (q := 10) 1 10 20 dX5_firstOff_54 cf_X5 ff_X5_36 rfl sh_1 rfl (by decide) rfl (by decide) (s_iload dX5_firstOff_57 4 rfl (n_iald 10 dX5_firstOff_59 rfl sh_10 (by decide) ⟨(by omega), (by omega)⟩ (v := (w 10 i)) rfl (s_iload_n dX5_firstOff_60 1 rfl (s_icmp_ne 104 dX5_firstOff_61 (by decide) (fun c_61 => ?_) (fun c_61 => ?_))))))))
            · skip
              refine s_iinc (z := (i + 1)) (ls' := [(0, (2, 1)), (1, (0, p)), (2, (0, k)), (3, (0, b)), (4, (0, (i + 1))), (5, (0, 0))]) dX5_firstOff_104 4 rfl (Nat.le_of_ble_eq_true rfl) (wr_id (by omega) (by omega)) rfl (s_goto 21 dX5_firstOff_107 (by decide) ?_)
              exact At.keep (ls' := [(0, (2, 1)), (1, (0, p)), (2, (0, k)), (3, (0, b)), (4, (0, (i + 1)))]) [0, 1, 2, 3, 4] rfl (ih (i + 1) b ht (by omega) (by rw [xof_s hi.1, ← hb]; split <;> omega) (by omega))
            · skip
              refine s_aload_n dX5_firstOff_64 0 rfl rfl (n_getc (q := 14) 1 14 24 dX5_firstOff_65 cf_X5 ff_X5_48 rfl sh_1 rfl (by decide) rfl (by decide) (s_iload dX5_firstOff_68 4 rfl (n_iald 14 dX5_firstOff_70 rfl sh_14 (by decide) ⟨(by omega), (by omega)⟩ (v := (w 14 i)) rfl (s_iload_n dX5_firstOff_71 2 rfl (s_icmp_gt 104 dX5_firstOff_72 (by decide) (fun c_72 => ?_) (fun c_72 => ?_))))))
              · skip
                refine s_iinc (z := (i + 1)) (ls' := [(0, (2, 1)), (1, (0, p)), (2, (0, k)), (3, (0, b)), (4, (0, (i + 1))), (5, (0, 0))]) dX5_firstOff_104 4 rfl (Nat.le_of_ble_eq_true rfl) (wr_id (by omega) (by omega)) rfl (s_goto 21 dX5_firstOff_107 (by decide) ?_)
                exact At.keep (ls' := [(0, (2, 1)), (1, (0, p)), (2, (0, k)), (3, (0, b)), (4, (0, (i + 1)))]) [0, 1, 2, 3, 4] rfl (ih (i + 1) b ht (by omega) (by rw [xof_s hi.1, ← hb]; split <;> omega) (by omega))
              · skip
                refine s_iload dX5_firstOff_75 5 rfl (s_if_eq 104 dX5_firstOff_77 (by decide) (kf := fun c => absurd c (by decide)) (kt := fun _ => s_iinc (z := (i + 1)) (ls' := [(0, (2, 1)), (1, (0, p)), (2, (0, k)), (3, (0, b)), (4, (0, (i + 1))), (5, (0, 0))]) dX5_firstOff_104 4 rfl (Nat.le_of_ble_eq_true rfl) (wr_id (by omega) (by omega)) rfl (s_goto 21 dX5_firstOff_107 (by decide) ?_)))
                exact At.keep (ls' := [(0, (2, 1)), (1, (0, p)), (2, (0, k)), (3, (0, b)), (4, (0, (i + 1)))]) [0, 1, 2, 3, 4] rfl (ih (i + 1) b ht (by omega) (by rw [xof_s hi.1, ← hb]; split <;> omega) (by omega))
          · skip
            refine s_iconst dX5_firstOff_46 (by decide) (s_goto 51 dX5_firstOff_47 (by decide) (s_istore (ls' := [(0, (2, 1)), (1, (0, p)), (2, (0, k)), (3, (0, b)), (4, (0, i)), (5, (0, 1))]) dX5_firstOff_51 (Nat.le_of_ble_eq_true rfl) rfl (s_aload_n dX5_firstOff_53 0 rfl rfl (n_getc (q := 10) 1 10 20 dX5_firstOff_54 cf_X5 ff_X5_36 rfl sh_1 rfl (by decide) rfl (by decide) (s_iload dX5_firstOff_57 4 rfl (n_iald 10 dX5_firstOff_59 rfl sh_10 (by decide) ⟨(by omega), (by omega)⟩ (v := (w 10 i)) rfl (s_iload_n dX5_firstOff_60 1 rfl (s_icmp_ne 104 dX5_firstOff_61 (by decide) (fun c_61 => ?_) (fun c_61 => ?_)))))))))
            · skip
              refine s_iinc (z := (i + 1)) (ls' := [(0, (2, 1)), (1, (0, p)), (2, (0, k)), (3, (0, b)), (4, (0, (i + 1))), (5, (0, 1))]) dX5_firstOff_104 4 rfl (Nat.le_of_ble_eq_true rfl) (wr_id (by omega) (by omega)) rfl (s_goto 21 dX5_firstOff_107 (by decide) ?_)
              exact At.keep (ls' := [(0, (2, 1)), (1, (0, p)), (2, (0, k)), (3, (0, b)), (4, (0, (i + 1)))]) [0, 1, 2, 3, 4] rfl (ih (i + 1) b ht (by omega) (by rw [xof_s hi.1, ← hb]; split <;> omega) (by omega))
            · skip
              refine s_aload_n dX5_firstOff_64 0 rfl rfl (n_getc (q := 14) 1 14 24 dX5_firstOff_65 cf_X5 ff_X5_48 rfl sh_1 rfl (by decide) rfl (by decide) (s_iload dX5_firstOff_68 4 rfl (n_iald 14 dX5_firstOff_70 rfl sh_14 (by decide) ⟨(by omega), (by omega)⟩ (v := (w 14 i)) rfl (s_iload_n dX5_firstOff_71 2 rfl (s_icmp_gt 104 dX5_firstOff_72 (by decide) (fun c_72 => ?_) (fun c_72 => ?_))))))
              · skip
                refine s_iinc (z := (i + 1)) (ls' := [(0, (2, 1)), (1, (0, p)), (2, (0, k)), (3, (0, b)), (4, (0, (i + 1))), (5, (0, 1))]) dX5_firstOff_104 4 rfl (Nat.le_of_ble_eq_true rfl) (wr_id (by omega) (by omega)) rfl (s_goto 21 dX5_firstOff_107 (by decide) ?_)
                exact At.keep (ls' := [(0, (2, 1)), (1, (0, p)), (2, (0, k)), (3, (0, b)), (4, (0, (i + 1)))]) [0, 1, 2, 3, 4] rfl (ih (i + 1) b ht (by omega) (by rw [xof_s hi.1, ← hb]; split <;> omega) (by omega))
              · skip
                refine s_iload dX5_firstOff_75 5 rfl (s_if_eq 104 dX5_firstOff_77 (by decide) (kt := fun c => absurd c (by decide)) (kf := fun _ => s_aload_n dX5_firstOff_80 0 rfl rfl (s_iload_n dX5_firstOff_81 1 rfl (s_aload_n dX5_firstOff_82 0 rfl rfl (n_getc (q := 12) 1 12 22 dX5_firstOff_83 cf_X5 ff_X5_42 rfl sh_1 rfl (by decide) rfl (by decide) (s_iload dX5_firstOff_86 4 rfl (n_iald 12 dX5_firstOff_88 rfl sh_12 (by decide) ⟨(by omega), (by omega)⟩ (v := (w 12 i)) rfl (s_iload_n dX5_firstOff_89 2 rfl (n_invV (as := [(0, p), (0, (w 12 i)), (0, k)]) dX5_firstOff_90 kv_X5_isOff ml_X5_79 (c_X_isOff p (w 12 i) k w (by omega) (by omega) hev) (by decide) 1 cf_X5 rfl sh_1 rfl rfl rfl (Nat.le_of_ble_eq_true rfl) ?_)))))))))
                refine n_top (y := bi (nok (L (w 12 i)))) (by rw [hL]) ?_
                refine n_ifeq_b 104 dX5_firstOff_93 (by decide) (fun c_93 => ?_) (fun c_93 => ?_)
                · skip
                  refine s_iinc (z := (i + 1)) (ls' := [(0, (2, 1)), (1, (0, p)), (2, (0, k)), (3, (0, b)), (4, (0, (i + 1))), (5, (0, 1))]) dX5_firstOff_104 4 rfl (Nat.le_of_ble_eq_true rfl) (wr_id (by omega) (by omega)) rfl (s_goto 21 dX5_firstOff_107 (by decide) ?_)
                  exact At.keep (ls' := [(0, (2, 1)), (1, (0, p)), (2, (0, k)), (3, (0, b)), (4, (0, (i + 1)))]) [0, 1, 2, 3, 4] rfl (ih (i + 1) b ht (by omega) (by rw [xof_s hi.1, ← hb]; split <;> omega) (by omega))
                · skip
                  refine s_aload_n dX5_firstOff_96 0 rfl rfl (n_getc (q := 12) 1 12 22 dX5_firstOff_97 cf_X5 ff_X5_42 rfl sh_1 rfl (by decide) rfl (by decide) (s_iload dX5_firstOff_100 4 rfl (n_iald 12 dX5_firstOff_102 rfl sh_12 (by decide) ⟨(by omega), (by omega)⟩ (v := (w 12 i)) rfl (s_istore_n (ls' := [(0, (2, 1)), (1, (0, p)), (2, (0, k)), (3, (0, (w 12 i))), (4, (0, i)), (5, (0, 1))]) dX5_firstOff_103 (Nat.le_of_ble_eq_true rfl) rfl (s_iinc (z := (i + 1)) (ls' := [(0, (2, 1)), (1, (0, p)), (2, (0, k)), (3, (0, (w 12 i))), (4, (0, (i + 1))), (5, (0, 1))]) dX5_firstOff_104 4 rfl (Nat.le_of_ble_eq_true rfl) (wr_id (by omega) (by omega)) rfl (s_goto 21 dX5_firstOff_107 (by decide) ?_))))))
                  exact At.keep (ls' := [(0, (2, 1)), (1, (0, p)), (2, (0, k)), (3, (0, (w 12 i))), (4, (0, (i + 1)))]) [0, 1, 2, 3, 4] rfl (ih (i + 1) (w 12 i) ht (by omega) (by rw [xof_s hi.1, ← hb]; split <;> omega) (by omega))
  refine s_aload_n dX5_firstOff_0 0 rfl rfl (n_getc (q := 5) 1 3 15 dX5_firstOff_1 cf_X5 ff_X5_21 rfl sh_1 rfl (by decide) rfl (by decide) (s_aload_n dX5_firstOff_4 0 rfl rfl (n_getc (q := 7) 1 6 17 dX5_firstOff_5 cf_X5 ff_X5_27 rfl sh_1 rfl (by decide) rfl (by decide) (s_iload_n dX5_firstOff_8 1 rfl (n_iald 7 dX5_firstOff_9 rfl sh_7 (by decide) ⟨(by omega), (by omega)⟩ (v := (w 7 p)) rfl (n_iald 5 dX5_firstOff_10 rfl sh_5 (by decide) ⟨(by omega), (by omega)⟩ (v := (w 5 (w 7 p))) rfl (s_if_eq 16 dX5_firstOff_11 (by decide) (fun c_11 => ?_) (fun c_11 => ?_))))))))
  · skip
    refine s_iconst dX5_firstOff_16 (by decide) (s_istore_n (ls' := [(0, (2, 1)), (1, (0, p)), (2, (0, k)), (3, (0, (-1)))]) dX5_firstOff_17 (Nat.le_of_ble_eq_true rfl) rfl (s_iconst dX5_firstOff_18 (by decide) (s_istore (ls' := [(0, (2, 1)), (1, (0, p)), (2, (0, k)), (3, (0, (-1))), (4, (0, 0))]) dX5_firstOff_19 (Nat.le_of_ble_eq_true rfl) rfl ?_)))
    exact L_21 _ 0 (-1) c_11 (by omega) rfl (Nat.lt_succ_self _)
  · skip
    refine s_iconst dX5_firstOff_14 (by decide) (n_iret dX5_firstOff_15 hR rfl ?_)
    exact ⟨congrArg (fun z => some ((0 : Nat), z)) (by unfold offX; rw [if_neg (by assumption)]), rfl⟩

set_option maxRecDepth 100000 in
set_option maxHeartbeats 4000000 in
theorem c_M_offOf (p k : Int) (w : Wd) (hp : 0 ≤ p ∧ p < 30) (hq : 0 ≤ w 147 p ∧ w 147 p < 12) (hev : EVB (w 151) (w 153) (w 141 3)) (hfr : ∀ j, 0 ≤ j → j < w 141 3 → 0 ≤ w 152 j ∧ w 152 j ≤ 9999) : CallN 2 mX12_offOf [(2, 141), (0, p), (0, k)] w (RV (0, offM (w 145 (w 147 p)) (w 150) (w 154) (w 152) (w 151) (w 153) (w 141 3) p k) w) := by
  refine CallN.intro (by decide +kernel) (Nat.le_of_ble_eq_true rfl) (fun ρ hR => ?_)
  show AtN mX12_offOf 2 ρ 0 [(0, (2, 141)), (1, (0, p)), (2, (0, k))] [] w
  have hN0 := hev.1
  obtain ⟨L, hL⟩ : ∃ L : Int → Int, L = fun f => leadV (w 145 (w 147 p)) (w 150) (w 154) (w 152) (w 151) (w 153) (w 141 3) p f k := ⟨_, rfl⟩
  have L_5 : ∀ (fu : Nat) (i : Int) (b : Int), 0 ≤ i ∧ i ≤ w 141 3 → b = mof (w 150) (w 152) L p i.toNat → (w 141 3 - i).toNat < fu → AtN mX12_offOf 2 ρ 5 [(0, (2, 141)), (1, (0, p)), (2, (0, k)), (3, (0, b)), (4, (0, i))] [] w := by
    intro fu
    induction fu with
    | zero => intro i b hi hb hm; exact absurd hm (Nat.not_lt_zero _)
    | succ fu ih =>
      intro i b hi hb hm
      have hN := hev.1
      refine s_iload dX12_offOf_5 4 rfl (s_aload_n dX12_offOf_7 0 rfl rfl (n_getf 141 3 0 dX12_offOf_8 cf_X12 ff_X12_250 rfl sh_141 rfl (by decide) (v := (w 141 3)) rfl (s_icmp_ge 94 dX12_offOf_11 (by decide) (fun c_11 => ?_) (fun c_11 => ?_))))
      · skip
        refine s_iload_n dX12_offOf_94 3 rfl (n_iret dX12_offOf_95 hR rfl ?_)
        have e9 : i = w 141 3 := by omega
        rw [e9] at hb
        exact ⟨congrArg (fun z => some ((0 : Nat), z)) (by unfold offM; rw [← hL]; exact hb), rfl⟩
      · skip
        refine s_iload dX12_offOf_14 4 rfl (s_if_lt 33 dX12_offOf_16 (by decide) (fun c_16 => ?_) (fun c_16 => ?_))
        · skip
          exact absurd c_16 (by omega)
        · skip
          refine s_aload_n dX12_offOf_19 0 rfl rfl (n_getc (q := 150) 141 18 160 dX12_offOf_20 cf_X12 ff_X12_34 rfl sh_141 rfl (by decide) rfl (by decide) (s_iload dX12_offOf_23 4 rfl (n_iald 150 dX12_offOf_25 rfl sh_150 (by decide) ⟨(by omega), (by omega)⟩ (v := (w 150 i)) rfl (s_iload_n dX12_offOf_26 1 rfl (s_icmp_eq 33 dX12_offOf_27 (by decide) (fun c_27 => ?_) (fun c_27 => ?_))))))
          · skip
            refine s_iload dX12_offOf_33 4 rfl (s_if_ge 42 dX12_offOf_35 (by decide) (fun c_35 => ?_) (fun c_35 => ?_))
            · skip
              refine s_aload_n dX12_offOf_42 0 rfl rfl (n_getc (q := 152) 141 20 162 dX12_offOf_43 cf_X12 ff_X12_40 rfl sh_141 rfl (by decide) rfl (by decide) (s_iload dX12_offOf_46 4 rfl (n_iald 152 dX12_offOf_48 rfl sh_152 (by decide) ⟨(by omega), (by omega)⟩ (v := (w 152 i)) rfl (s_istore (ls' := [(0, (2, 141)), (1, (0, p)), (2, (0, k)), (3, (0, b)), (4, (0, i)), (5, (0, (w 152 i)))]) dX12_offOf_49 (Nat.le_of_ble_eq_true rfl) rfl (s_aload_n dX12_offOf_51 0 rfl rfl (s_iload_n dX12_offOf_52 1 rfl (s_iload dX12_offOf_53 5 rfl (s_iload_n dX12_offOf_55 2 rfl (n_invV (as := [(0, p), (0, (w 152 i)), (0, k)]) dX12_offOf_56 kv_X12_leadOf ml_X12_256 (c_M_leadOf p (w 152 i) k w (by omega) (by omega) hev) (by decide) 141 cf_X12 rfl sh_141 rfl rfl rfl (Nat.le_of_ble_eq_true rfl) ?_)))))))))
              obtain ⟨zz, hzz⟩ : ∃ zz : Int, zz = L (w 152 i) := ⟨_, rfl⟩
              refine n_top (y := zz) (by rw [hzz, hL]) ?_
              refine s_istore (ls' := [(0, (2, 141)), (1, (0, p)), (2, (0, k)), (3, (0, b)), (4, (0, i)), (5, (0, (w 152 i))), (6, (0, zz))]) dX12_offOf_59 (Nat.le_of_ble_eq_true rfl) rfl (s_iload dX12_offOf_61 6 rfl (s_iconst dX12_offOf_63 (by decide) (s_icmp_gt 74 dX12_offOf_64 (by decide) (fun c_64 => ?_) (fun c_64 => ?_))))
              · skip
                refine s_iload_n dX12_offOf_74 3 rfl (s_iconst dX12_offOf_75 (by decide) (s_icmp_eq 85 dX12_offOf_76 (by decide) (fun c_76 => ?_) (fun c_76 => ?_)))
                · skip
                  refine s_iload dX12_offOf_85 5 rfl (s_istore_n (ls' := [(0, (2, 141)), (1, (0, p)), (2, (0, k)), (3, (0, (w 152 i))), (4, (0, i)), (5, (0, (w 152 i))), (6, (0, zz))]) dX12_offOf_87 (Nat.le_of_ble_eq_true rfl) rfl (s_iinc (z := (i + 1)) (ls' := [(0, (2, 141)), (1, (0, p)), (2, (0, k)), (3, (0, (w 152 i))), (4, (0, (i + 1))), (5, (0, (w 152 i))), (6, (0, zz))]) dX12_offOf_88 4 rfl (Nat.le_of_ble_eq_true rfl) (wr_id (by omega) (by omega)) rfl (s_goto 5 dX12_offOf_91 (by decide) ?_)))
                  exact At.keep (ls' := [(0, (2, 141)), (1, (0, p)), (2, (0, k)), (3, (0, (w 152 i))), (4, (0, (i + 1)))]) [0, 1, 2, 3, 4] rfl (ih (i + 1) (w 152 i) (by omega) (by rw [mof_s hi.1, ← hb]; split <;> omega) (by omega))
                · skip
                  refine s_iload dX12_offOf_79 5 rfl (s_iload_n dX12_offOf_81 3 rfl (s_icmp_ge 88 dX12_offOf_82 (by decide) (fun c_82 => ?_) (fun c_82 => ?_)))
                  · skip
                    refine s_iinc (z := (i + 1)) (ls' := [(0, (2, 141)), (1, (0, p)), (2, (0, k)), (3, (0, b)), (4, (0, (i + 1))), (5, (0, (w 152 i))), (6, (0, zz))]) dX12_offOf_88 4 rfl (Nat.le_of_ble_eq_true rfl) (wr_id (by omega) (by omega)) rfl (s_goto 5 dX12_offOf_91 (by decide) ?_)
                    exact At.keep (ls' := [(0, (2, 141)), (1, (0, p)), (2, (0, k)), (3, (0, b)), (4, (0, (i + 1)))]) [0, 1, 2, 3, 4] rfl (ih (i + 1) b (by omega) (by rw [mof_s hi.1, ← hb]; split <;> omega) (by omega))
                  · skip
                    refine s_iload dX12_offOf_85 5 rfl (s_istore_n (ls' := [(0, (2, 141)), (1, (0, p)), (2, (0, k)), (3, (0, (w 152 i))), (4, (0, i)), (5, (0, (w 152 i))), (6, (0, zz))]) dX12_offOf_87 (Nat.le_of_ble_eq_true rfl) rfl (s_iinc (z := (i + 1)) (ls' := [(0, (2, 141)), (1, (0, p)), (2, (0, k)), (3, (0, (w 152 i))), (4, (0, (i + 1))), (5, (0, (w 152 i))), (6, (0, zz))]) dX12_offOf_88 4 rfl (Nat.le_of_ble_eq_true rfl) (wr_id (by omega) (by omega)) rfl (s_goto 5 dX12_offOf_91 (by decide) ?_)))
                    exact At.keep (ls' := [(0, (2, 141)), (1, (0, p)), (2, (0, k)), (3, (0, (w 152 i))), (4, (0, (i + 1)))]) [0, 1, 2, 3, 4] rfl (ih (i + 1) (w 152 i) (by omega) (by rw [mof_s hi.1, ← hb]; split <;> omega) (by omega))
              · skip
                refine s_iload dX12_offOf_67 6 rfl (s_bipush dX12_offOf_69 (by decide) (s_icmp_ge 88 dX12_offOf_71 (by decide) (fun c_71 => ?_) (fun c_71 => ?_)))
                · skip
                  refine s_iinc (z := (i + 1)) (ls' := [(0, (2, 141)), (1, (0, p)), (2, (0, k)), (3, (0, b)), (4, (0, (i + 1))), (5, (0, (w 152 i))), (6, (0, zz))]) dX12_offOf_88 4 rfl (Nat.le_of_ble_eq_true rfl) (wr_id (by omega) (by omega)) rfl (s_goto 5 dX12_offOf_91 (by decide) ?_)
                  exact At.keep (ls' := [(0, (2, 141)), (1, (0, p)), (2, (0, k)), (3, (0, b)), (4, (0, (i + 1)))]) [0, 1, 2, 3, 4] rfl (ih (i + 1) b (by omega) (by rw [mof_s hi.1, ← hb]; split <;> omega) (by omega))
                · skip
                  refine s_iload_n dX12_offOf_74 3 rfl (s_iconst dX12_offOf_75 (by decide) (s_icmp_eq 85 dX12_offOf_76 (by decide) (fun c_76 => ?_) (fun c_76 => ?_)))
                  · skip
                    refine s_iload dX12_offOf_85 5 rfl (s_istore_n (ls' := [(0, (2, 141)), (1, (0, p)), (2, (0, k)), (3, (0, (w 152 i))), (4, (0, i)), (5, (0, (w 152 i))), (6, (0, zz))]) dX12_offOf_87 (Nat.le_of_ble_eq_true rfl) rfl (s_iinc (z := (i + 1)) (ls' := [(0, (2, 141)), (1, (0, p)), (2, (0, k)), (3, (0, (w 152 i))), (4, (0, (i + 1))), (5, (0, (w 152 i))), (6, (0, zz))]) dX12_offOf_88 4 rfl (Nat.le_of_ble_eq_true rfl) (wr_id (by omega) (by omega)) rfl (s_goto 5 dX12_offOf_91 (by decide) ?_)))
                    exact At.keep (ls' := [(0, (2, 141)), (1, (0, p)), (2, (0, k)), (3, (0, (w 152 i))), (4, (0, (i + 1)))]) [0, 1, 2, 3, 4] rfl (ih (i + 1) (w 152 i) (by omega) (by rw [mof_s hi.1, ← hb]; split <;> omega) (by omega))
                  · skip
                    refine s_iload dX12_offOf_79 5 rfl (s_iload_n dX12_offOf_81 3 rfl (s_icmp_ge 88 dX12_offOf_82 (by decide) (fun c_82 => ?_) (fun c_82 => ?_)))
                    · skip
                      refine s_iinc (z := (i + 1)) (ls' := [(0, (2, 141)), (1, (0, p)), (2, (0, k)), (3, (0, b)), (4, (0, (i + 1))), (5, (0, (w 152 i))), (6, (0, zz))]) dX12_offOf_88 4 rfl (Nat.le_of_ble_eq_true rfl) (wr_id (by omega) (by omega)) rfl (s_goto 5 dX12_offOf_91 (by decide) ?_)
                      exact At.keep (ls' := [(0, (2, 141)), (1, (0, p)), (2, (0, k)), (3, (0, b)), (4, (0, (i + 1)))]) [0, 1, 2, 3, 4] rfl (ih (i + 1) b (by omega) (by rw [mof_s hi.1, ← hb]; split <;> omega) (by omega))
                    · skip
                      refine s_iload dX12_offOf_85 5 rfl (s_istore_n (ls' := [(0, (2, 141)), (1, (0, p)), (2, (0, k)), (3, (0, (w 152 i))), (4, (0, i)), (5, (0, (w 152 i))), (6, (0, zz))]) dX12_offOf_87 (Nat.le_of_ble_eq_true rfl) rfl (s_iinc (z := (i + 1)) (ls' := [(0, (2, 141)), (1, (0, p)), (2, (0, k)), (3, (0, (w 152 i))), (4, (0, (i + 1))), (5, (0, (w 152 i))), (6, (0, zz))]) dX12_offOf_88 4 rfl (Nat.le_of_ble_eq_true rfl) (wr_id (by omega) (by omega)) rfl (s_goto 5 dX12_offOf_91 (by decide) ?_)))
                      exact At.keep (ls' := [(0, (2, 141)), (1, (0, p)), (2, (0, k)), (3, (0, (w 152 i))), (4, (0, (i + 1)))]) [0, 1, 2, 3, 4] rfl (ih (i + 1) (w 152 i) (by omega) (by rw [mof_s hi.1, ← hb]; split <;> omega) (by omega))
            · skip
              exact absurd hi.1 c_35
          · skip
            refine s_goto 88 dX12_offOf_30 (by decide) (s_iinc (z := (i + 1)) (ls' := [(0, (2, 141)), (1, (0, p)), (2, (0, k)), (3, (0, b)), (4, (0, (i + 1)))]) dX12_offOf_88 4 rfl (Nat.le_of_ble_eq_true rfl) (wr_id (by omega) (by omega)) rfl (s_goto 5 dX12_offOf_91 (by decide) ?_))
            exact ih (i + 1) b (by omega) (by rw [mof_s hi.1, ← hb]; split <;> omega) (by omega)
  refine s_iconst dX12_offOf_0 (by decide) (s_istore_n (ls' := [(0, (2, 141)), (1, (0, p)), (2, (0, k)), (3, (0, (-1)))]) dX12_offOf_1 (Nat.le_of_ble_eq_true rfl) rfl (s_iconst dX12_offOf_2 (by decide) (s_istore (ls' := [(0, (2, 141)), (1, (0, p)), (2, (0, k)), (3, (0, (-1))), (4, (0, (-1)))]) dX12_offOf_3 (Nat.le_of_ble_eq_true rfl) rfl (s_iload dX12_offOf_5 4 rfl (s_aload_n dX12_offOf_7 0 rfl rfl (n_getf 141 3 0 dX12_offOf_8 cf_X12 ff_X12_250 rfl sh_141 rfl (by decide) (v := (w 141 3)) rfl (s_icmp_ge 94 dX12_offOf_11 (by decide) (fun c_11 => ?_) (fun c_11 => ?_))))))))
  · skip
    refine s_iload_n dX12_offOf_94 3 rfl (n_iret dX12_offOf_95 hR rfl ?_)
    exact absurd c_11 (by omega)
  · skip
    refine s_iload dX12_offOf_14 4 rfl (s_if_lt 33 dX12_offOf_16 (by decide) (kf := fun c => absurd c (by decide)) (kt := fun _ => s_iload dX12_offOf_33 4 rfl (s_if_ge 42 dX12_offOf_35 (by decide) (kt := fun c => absurd c (by decide)) (kf := fun _ => s_iconst dX12_offOf_38 (by decide) (s_goto 49 dX12_offOf_39 (by decide) (s_istore (ls' := [(0, (2, 141)), (1, (0, p)), (2, (0, k)), (3, (0, (-1))), (4, (0, (-1))), (5, (0, 0))]) dX12_offOf_49 (Nat.le_of_ble_eq_true rfl) rfl (s_aload_n dX12_offOf_51 0 rfl rfl (s_iload_n dX12_offOf_52 1 rfl (s_iload dX12_offOf_53 5 rfl ?_)))))))))
    refine s_iload_n dX12_offOf_55 2 rfl (n_invV (as := [(0, p), (0, 0), (0, k)]) dX12_offOf_56 kv_X12_leadOf ml_X12_256 (c_M_leadOf p 0 k w (by omega) (by omega) hev) (by decide) 141 cf_X12 rfl sh_141 rfl rfl rfl (Nat.le_of_ble_eq_true rfl) ?_)
    obtain ⟨zz, hzz⟩ : ∃ zz : Int, zz = L 0 := ⟨_, rfl⟩
    refine n_top (y := zz) (by rw [hzz, hL]) ?_
    refine s_istore (ls' := [(0, (2, 141)), (1, (0, p)), (2, (0, k)), (3, (0, (-1))), (4, (0, (-1))), (5, (0, 0)), (6, (0, zz))]) dX12_offOf_59 (Nat.le_of_ble_eq_true rfl) rfl (s_iload dX12_offOf_61 6 rfl (s_iconst dX12_offOf_63 (by decide) (s_icmp_gt 74 dX12_offOf_64 (by decide) (fun c_64 => ?_) (fun c_64 => ?_))))
    · skip
      refine s_iload_n dX12_offOf_74 3 rfl (s_iconst dX12_offOf_75 (by decide) (s_icmp_eq 85 dX12_offOf_76 (by decide) (kf := fun c => absurd c (by decide)) (kt := fun _ => s_iload dX12_offOf_85 5 rfl (s_istore_n (ls' := [(0, (2, 141)), (1, (0, p)), (2, (0, k)), (3, (0, 0)), (4, (0, (-1))), (5, (0, 0)), (6, (0, zz))]) dX12_offOf_87 (Nat.le_of_ble_eq_true rfl) rfl (s_iinc (z := 0) (ls' := [(0, (2, 141)), (1, (0, p)), (2, (0, k)), (3, (0, 0)), (4, (0, 0)), (5, (0, 0)), (6, (0, zz))]) dX12_offOf_88 4 rfl (Nat.le_of_ble_eq_true rfl) (by decide) rfl (s_goto 5 dX12_offOf_91 (by decide) ?_))))))
      exact At.keep (ls' := [(0, (2, 141)), (1, (0, p)), (2, (0, k)), (3, (0, 0)), (4, (0, 0))]) [0, 1, 2, 3, 4] rfl (L_5 _ 0 0 (by omega) (by show _ = mof _ _ _ _ 0; rw [mof]; split <;> omega) (Nat.lt_succ_self _))
    · skip
      refine s_iload dX12_offOf_67 6 rfl (s_bipush dX12_offOf_69 (by decide) (s_icmp_ge 88 dX12_offOf_71 (by decide) (fun c_71 => ?_) (fun c_71 => ?_)))
      · skip
        refine s_iinc (z := 0) (ls' := [(0, (2, 141)), (1, (0, p)), (2, (0, k)), (3, (0, (-1))), (4, (0, 0)), (5, (0, 0)), (6, (0, zz))]) dX12_offOf_88 4 rfl (Nat.le_of_ble_eq_true rfl) (by decide) rfl (s_goto 5 dX12_offOf_91 (by decide) ?_)
        exact At.keep (ls' := [(0, (2, 141)), (1, (0, p)), (2, (0, k)), (3, (0, (-1))), (4, (0, 0))]) [0, 1, 2, 3, 4] rfl (L_5 _ 0 (-1) (by omega) (by show _ = mof _ _ _ _ 0; rw [mof]; split <;> omega) (Nat.lt_succ_self _))
      · skip
        refine s_iload_n dX12_offOf_74 3 rfl (s_iconst dX12_offOf_75 (by decide) (s_icmp_eq 85 dX12_offOf_76 (by decide) (kf := fun c => absurd c (by decide)) (kt := fun _ => s_iload dX12_offOf_85 5 rfl (s_istore_n (ls' := [(0, (2, 141)), (1, (0, p)), (2, (0, k)), (3, (0, 0)), (4, (0, (-1))), (5, (0, 0)), (6, (0, zz))]) dX12_offOf_87 (Nat.le_of_ble_eq_true rfl) rfl (s_iinc (z := 0) (ls' := [(0, (2, 141)), (1, (0, p)), (2, (0, k)), (3, (0, 0)), (4, (0, 0)), (5, (0, 0)), (6, (0, zz))]) dX12_offOf_88 4 rfl (Nat.le_of_ble_eq_true rfl) (by decide) rfl (s_goto 5 dX12_offOf_91 (by decide) ?_))))))
        exact At.keep (ls' := [(0, (2, 141)), (1, (0, p)), (2, (0, k)), (3, (0, 0)), (4, (0, 0))]) [0, 1, 2, 3, 4] rfl (L_5 _ 0 0 (by omega) (by show _ = mof _ _ _ _ 0; rw [mof]; split <;> omega) (Nat.lt_succ_self _))

set_option maxRecDepth 100000 in
theorem x_off (p k : Int) (w : Wd) (h : 0 ≤ w 1 9 ∧ w 1 9 ≤ 30) (hp : ∀ j, 0 ≤ j → j < w 1 9 → 0 ≤ w 7 j ∧ w 7 j < 12) (hev : EVB (w 11) (w 13) (w 1 15)) (hfr : ∀ j, 0 ≤ j → j < w 1 15 → 0 ≤ w 12 j ∧ w 12 j ≤ 9999) : CallN 4 mX11_off [(2, 0), (0, p), (0, k)] w (RQ (fun z w1 => w1 = w ∧ (((0 ≤ p ∧ p < w 1 9) ∧ (0 ≤ k ∧ k ≤ w 0 10)) ∧ z = offX (w 5 (w 7 p)) (w 10) (w 14) (w 12) (w 11) (w 13) (w 1 15) p k ∨ ¬ ((0 ≤ p ∧ p < w 1 9) ∧ (0 ≤ k ∧ k ≤ w 0 10)) ∧ z = -1))) := by
  refine CallN.intro (by decide +kernel) (Nat.le_of_ble_eq_true rfl) (fun ρ hR => ?_)
  show AtN mX11_off 4 ρ 0 [(0, (2, 0)), (1, (0, p)), (2, (0, k))] [] w
  refine s_iload_n dX11_off_0 2 rfl (s_iconst dX11_off_1 (by decide) (s_aload_n dX11_off_2 0 rfl rfl (n_getf 0 10 0 dX11_off_3 cf_X11 ff_X11_87 rfl sh_0 rfl (by decide) (v := (w 0 10)) rfl (n_invS (as := [(0, k), (0, 0), (0, (w 0 10))]) dX11_off_6 kv_X11_within ml_X11_102 (c_within k 0 (w 0 10) w) (by decide) rfl rfl (Nat.le_of_ble_eq_true rfl) (n_ifeq_b 23 dX11_off_9 (by decide) (fun c_9 => ?_) (fun c_9 => ?_))))))
  · skip
    refine s_iconst dX11_off_23 (by decide) (n_iret dX11_off_24 hR rfl ?_)
    first | exact ⟨_, rfl, rfl, Or.inl ⟨by omega, rfl⟩⟩ | exact ⟨_, rfl, rfl, Or.inr ⟨by omega, rfl⟩⟩
  · skip
    refine s_aload_n dX11_off_12 0 rfl rfl (n_getc (q := 1) 0 0 11 dX11_off_13 cf_X11 ff_X11_10 rfl sh_0 rfl (by decide) rfl (by decide) (s_iload_n dX11_off_16 1 rfl (n_invV (as := [(0, p)]) dX11_off_17 kv_X5_hasPrint ml_X11_114 (c_X_hasPrint p w) (by decide) 1 cf_X5 rfl sh_1 rfl rfl rfl (Nat.le_of_ble_eq_true rfl) (n_ifne_b 25 dX11_off_20 (by decide) (fun c_20 => ?_) (fun c_20 => ?_)))))
    · skip
      have h7 := hp p (by omega) (by omega)
      refine s_aload_n dX11_off_25 0 rfl rfl (n_getc (q := 1) 0 0 11 dX11_off_26 cf_X11 ff_X11_10 rfl sh_0 rfl (by decide) rfl (by decide) (s_iload_n dX11_off_29 1 rfl (s_iload_n dX11_off_30 2 rfl (n_invV (as := [(0, p), (0, k)]) dX11_off_31 kv_X5_firstOff ml_X11_118 (c_X_firstOff p k w (by omega) (by omega) hev hfr) (by decide) 1 cf_X5 rfl sh_1 rfl rfl rfl (Nat.le_of_ble_eq_true rfl) (n_iret dX11_off_34 hR rfl ?_)))))
      first | exact ⟨_, rfl, rfl, Or.inl ⟨by omega, rfl⟩⟩ | exact ⟨_, rfl, rfl, Or.inr ⟨by omega, rfl⟩⟩
    · skip
      refine s_iconst dX11_off_23 (by decide) (n_iret dX11_off_24 hR rfl ?_)
      first | exact ⟨_, rfl, rfl, Or.inl ⟨by omega, rfl⟩⟩ | exact ⟨_, rfl, rfl, Or.inr ⟨by omega, rfl⟩⟩

set_option maxRecDepth 100000 in
theorem m_off (p k : Int) (w : Wd) (h : 0 ≤ w 141 2 ∧ w 141 2 ≤ 30) (hp : ∀ j, 0 ≤ j → j < w 141 2 → 0 ≤ w 147 j ∧ w 147 j < 12) (hf : ∀ j, 0 ≤ j → j < 12 → 0 ≤ w 146 j ∧ w 146 j ≤ 9999) (hev : EVB (w 151) (w 153) (w 141 3)) (hfr : ∀ j, 0 ≤ j → j < w 141 3 → 0 ≤ w 152 j ∧ w 152 j ≤ 9999) : CallN 3 mX12_off [(2, 141), (0, p), (0, k)] w (RQ (fun z w1 => w1 = w ∧ (((0 ≤ p ∧ p < w 141 2) ∧ (0 ≤ k ∧ k ≤ w 141 0)) ∧ z = offM (w 145 (w 147 p)) (w 150) (w 154) (w 152) (w 151) (w 153) (w 141 3) p k ∨ ¬ ((0 ≤ p ∧ p < w 141 2) ∧ (0 ≤ k ∧ k ≤ w 141 0)) ∧ z = -1))) := by
  refine CallN.intro (by decide +kernel) (Nat.le_of_ble_eq_true rfl) (fun ρ hR => ?_)
  show AtN mX12_off 3 ρ 0 [(0, (2, 141)), (1, (0, p)), (2, (0, k))] [] w
  refine s_aload_n dX12_off_0 0 rfl rfl (s_iload_n dX12_off_1 1 rfl (n_invV (as := [(0, p)]) dX12_off_2 kv_X12_isPrint ml_X12_243 (c_M_isPrint p w (by omega)) (by decide) 141 cf_X12 rfl sh_141 rfl rfl rfl (Nat.le_of_ble_eq_true rfl) (n_ifeq_b 29 dX12_off_5 (by decide) (fun c_5 => ?_) (fun c_5 => ?_))))
  · skip
    refine s_iconst dX12_off_29 (by decide) (n_iret dX12_off_30 hR rfl ?_)
    first | exact ⟨_, rfl, rfl, Or.inl ⟨by omega, rfl⟩⟩ | exact ⟨_, rfl, rfl, Or.inr ⟨by omega, rfl⟩⟩
  · skip
    refine s_iload_n dX12_off_8 2 rfl (s_iconst dX12_off_9 (by decide) (s_aload_n dX12_off_10 0 rfl rfl (n_getf 141 0 0 dX12_off_11 cf_X12 ff_X12_253 rfl sh_141 rfl (by decide) (v := (w 141 0)) rfl (n_invS (as := [(0, k), (0, 0), (0, (w 141 0))]) dX12_off_14 kv_X12_isIn ml_X12_223 (c_isIn k 0 (w 141 0) w) (by decide) rfl rfl (Nat.le_of_ble_eq_true rfl) (n_ifeq_b 29 dX12_off_17 (by decide) (fun c_17 => ?_) (fun c_17 => ?_))))))
    · skip
      refine s_iconst dX12_off_29 (by decide) (n_iret dX12_off_30 hR rfl ?_)
      first | exact ⟨_, rfl, rfl, Or.inl ⟨by omega, rfl⟩⟩ | exact ⟨_, rfl, rfl, Or.inr ⟨by omega, rfl⟩⟩
    · skip
      have h7 := hp p (by omega) (by omega)
      refine s_aload_n dX12_off_20 0 rfl rfl (s_iload_n dX12_off_21 1 rfl (s_iload_n dX12_off_22 2 rfl (n_invV (as := [(0, p), (0, k)]) dX12_off_23 kv_X12_offOf ml_X12_260 (c_M_offOf p k w (by omega) (by omega) hev hfr) (by decide) 141 cf_X12 rfl sh_141 rfl rfl rfl (Nat.le_of_ble_eq_true rfl) (s_goto 30 dX12_off_26 (by decide) (n_iret dX12_off_30 hR rfl ?_)))))
      first | exact ⟨_, rfl, rfl, Or.inl ⟨by omega, rfl⟩⟩ | exact ⟨_, rfl, rfl, Or.inr ⟨by omega, rfl⟩⟩
