/-! WHO GOES WHERE. -/
/-- the best hall below n: worth W, places left pl, prices pr -/
def bhV (W pl pr : Int → Int) : Nat → Int
  | 0 => -1
  | n + 1 => if (0 < pl n ∧ 0 < W n) ∧ (bhV W pl pr n = -1 ∨ W (bhV W pl pr n) < W n ∨ (W n = W (bhV W pl pr n) ∧ pr n < pr (bhV W pl pr n))) then n else bhV W pl pr n
theorem bhV_s {W pl pr : Int → Int} {i : Int} (h : 0 ≤ i) : bhV W pl pr (i + 1).toNat = if (0 < pl i ∧ 0 < W i) ∧ (bhV W pl pr i.toNat = -1 ∨ W (bhV W pl pr i.toNat) < W i ∨ (W i = W (bhV W pl pr i.toNat) ∧ pr i < pr (bhV W pl pr i.toNat))) then i else bhV W pl pr i.toNat := by rw [toN_s h, bhV, toN_c h]
theorem bhV_p {W pl pr : Int → Int} : ∀ n : Nat, bhV W pl pr n = -1 ∨ (0 ≤ bhV W pl pr n ∧ bhV W pl pr n < n ∧ 0 < pl (bhV W pl pr n) ∧ 0 < W (bhV W pl pr n))
  | 0 => Or.inl rfl
  | n + 1 => by
    have ih := bhV_p (W := W) (pl := pl) (pr := pr) n
    rw [bhV]
    split
    · rename_i c
      exact Or.inr ⟨by omega, by omega, c.1.1, c.1.2⟩
    · rcases ih with q | ⟨q1, q2, q3⟩
      · exact Or.inl q
      · exact Or.inr ⟨q1, by omega, q3⟩
theorem bhV_c {W W' pl pl' pr pr' : Int → Int} : ∀ n : Nat, (∀ h : Int, 0 ≤ h → h < n → W h = W' h ∧ (0 < pl h ↔ 0 < pl' h) ∧ pr h = pr' h) → bhV W pl pr n = bhV W' pl' pr' n
  | 0, _ => rfl
  | n + 1, h => by
    have e := bhV_c n (fun k a b => h k a (by omega))
    obtain ⟨h1, h2, h3⟩ := h n (by omega) (by omega)
    rw [bhV, bhV, e, h1, h3]
    rcases bhV_p (W := W') (pl := pl') (pr := pr') n with q | ⟨q1, q2, -⟩
    · simp only [q, h2, true_or]
    · obtain ⟨k1, -, k3⟩ := h (bhV W' pl' pr' n) q1 (by omega)
      rw [k1, k3]
      simp only [h2]
def updF (f : Int → Int) (b x : Int) : Int → Int := fun i => if i = b then x else f i
/-- how many are left of a crowd, the lookers, the goings: crowd and hall -/
abbrev Sn := Int × (Int → Int) × List (Int × Int)
abbrev bhS (W cap pr : Int → Int) (n : Nat) (S : Sn) : Int := bhV W (fun h => cap h - S.2.1 h) pr n
def sn1 (W cap pr : Int → Int) (n : Nat) (c : Int) (S : Sn) : Sn := (S.1 - mnL S.1 (cap (bhS W cap pr n S) - S.2.1 (bhS W cap pr n S)), updF S.2.1 (bhS W cap pr n S) (S.2.1 (bhS W cap pr n S) + mnL S.1 (cap (bhS W cap pr n S) - S.2.1 (bhS W cap pr n S))), S.2.2 ++ [(c, bhS W cap pr n S)])
def snG (W cap pr : Int → Int) (n : Nat) (c : Int) : Nat → Sn → Sn
  | 0, S => S
  | f + 1, S => if 0 < S.1 ∧ bhS W cap pr n S ≠ -1 then snG W cap pr n c f (sn1 W cap pr n c S) else S
section SN
variable {W cap pr : Int → Int} {n : Nat} {c : Int}
def stuS (W cap pr : Int → Int) (n : Nat) (S : Sn) : Prop := ¬ (0 < S.1 ∧ bhS W cap pr n S ≠ -1)
theorem snG_st {f : Nat} {S : Sn} (h : stuS W cap pr n S) : snG W cap pr n c f S = S := by
  cases f with
  | zero => rfl
  | succ f => rw [snG, if_neg h]
theorem snG_go {f : Nat} {S : Sn} (h : 0 < S.1 ∧ bhS W cap pr n S ≠ -1) : snG W cap pr n c (f + 1) S = snG W cap pr n c f (sn1 W cap pr n c S) := by rw [snG, if_pos h]
theorem snG_more : ∀ (f k : Nat) (S : Sn), stuS W cap pr n (snG W cap pr n c f S) → snG W cap pr n c (f + k) S = snG W cap pr n c f S
  | 0, k, S, h => snG_st h
  | f + 1, k, S, h => by
    by_cases q : 0 < S.1 ∧ bhS W cap pr n S ≠ -1
    · rw [show f + 1 + k = (f + k) + 1 by omega, snG_go q, snG_go q]
      rw [snG_go q] at h
      exact snG_more f k _ h
    · rw [snG_st q, snG_st q]
/-- how many halls have places -/
def opS (cap : Int → Int) (lk : Int → Int) : Nat → Nat
  | 0 => 0
  | n + 1 => opS cap lk n + (if 0 < cap n - lk n then 1 else 0)
theorem opS_le {cap lk : Int → Int} : ∀ n : Nat, opS cap lk n ≤ n
  | 0 => Nat.le_refl _
  | n + 1 => by
    have := opS_le (cap := cap) (lk := lk) n
    rw [opS]
    split <;> omega
theorem opS_pos {cap lk : Int → Int} {b : Int} (h0 : 0 ≤ b) (hp : 0 < cap b - lk b) : ∀ n : Nat, b < n → 0 < opS cap lk n
  | 0, h => absurd h (by omega)
  | n + 1, h => by
    rw [opS]
    by_cases e : b = n
    · subst e; rw [if_pos hp]; omega
    · have := opS_pos h0 hp n (by omega); omega
/-- a hall that is filled -/
theorem opS_fill {cap lk : Int → Int} {b x : Int} (h0 : 0 ≤ b) (hp : 0 < cap b - lk b) (hx : ¬ 0 < cap b - x) : ∀ n : Nat, (b < n → opS cap (updF lk b x) n + 1 = opS cap lk n) ∧ (¬ b < n → opS cap (updF lk b x) n = opS cap lk n)
  | 0 => ⟨fun h => absurd h (by omega), fun _ => rfl⟩
  | n + 1 => by
    have ih := opS_fill (lk := lk) h0 hp hx n
    rw [opS, opS]
    by_cases e : (n : Int) = b
    · have e2 : updF lk b x n = x := if_pos e
      rw [e2, e, if_neg hx, if_pos hp]
      have := ih.2 (by omega)
      refine ⟨fun _ => by omega, fun q => absurd q (by omega)⟩
    · have e2 : updF lk b x n = lk n := if_neg e
      rw [e2]
      refine ⟨fun q => ?_, fun q => ?_⟩
      · have := ih.1 (by omega); omega
      · have := ih.2 (by omega); omega
theorem opS_up {cap lk : Int → Int} {b x : Int} (hx : lk b ≤ x) : ∀ n : Nat, opS cap (updF lk b x) n ≤ opS cap lk n
  | 0 => Nat.le_refl _
  | n + 1 => by
    have ih := opS_up (cap := cap) hx n
    rw [opS, opS]
    by_cases e : (n : Int) = b
    · have e2 : updF lk b x n = x := if_pos e
      rw [e2]
      subst e
      split <;> split <;> omega
    · have e2 : updF lk b x n = lk n := if_neg e
      rw [e2]
      omega
/-- one step: the rest shrinks, and a hall is full or nobody is left -/
theorem sn1_p {S : Sn} (h : 0 < S.1 ∧ bhS W cap pr n S ≠ -1) : (0 ≤ (sn1 W cap pr n c S).1 ∧ (sn1 W cap pr n c S).1 < S.1) ∧ ((sn1 W cap pr n c S).1 = 0 ∧ opS cap (sn1 W cap pr n c S).2.1 n ≤ opS cap S.2.1 n ∨ opS cap (sn1 W cap pr n c S).2.1 n + 1 = opS cap S.2.1 n) ∧ (sn1 W cap pr n c S).2.2.length = S.2.2.length + 1 ∧ 0 < opS cap S.2.1 n := by
  obtain ⟨r, lk, gs⟩ := S
  rcases bhV_p (W := W) (pl := fun h => cap h - lk h) (pr := pr) n with q | ⟨q1, q2, q3, q4⟩
  · exact absurd q h.2
  · have h1 : 0 < r := h.1
    have hop := opS_pos (cap := cap) (lk := lk) q1 q3 n q2
    show (0 ≤ r - mnL r (cap (bhV W (fun h => cap h - lk h) pr n) - lk (bhV W (fun h => cap h - lk h) pr n)) ∧ r - mnL r (cap (bhV W (fun h => cap h - lk h) pr n) - lk (bhV W (fun h => cap h - lk h) pr n)) < r) ∧ (r - mnL r (cap (bhV W (fun h => cap h - lk h) pr n) - lk (bhV W (fun h => cap h - lk h) pr n)) = 0 ∧ opS cap (updF lk (bhV W (fun h => cap h - lk h) pr n) (lk (bhV W (fun h => cap h - lk h) pr n) + mnL r (cap (bhV W (fun h => cap h - lk h) pr n) - lk (bhV W (fun h => cap h - lk h) pr n)))) n ≤ opS cap lk n ∨ opS cap (updF lk (bhV W (fun h => cap h - lk h) pr n) (lk (bhV W (fun h => cap h - lk h) pr n) + mnL r (cap (bhV W (fun h => cap h - lk h) pr n) - lk (bhV W (fun h => cap h - lk h) pr n)))) n + 1 = opS cap lk n) ∧ (gs ++ [(c, bhV W (fun h => cap h - lk h) pr n)]).length = gs.length + 1 ∧ 0 < opS cap lk n
    have q3' : 0 < cap (bhV W (fun h => cap h - lk h) pr n) - lk (bhV W (fun h => cap h - lk h) pr n) := q3
    generalize bhV W (fun h => cap h - lk h) pr n = b at q1 q2 q3' hop ⊢
    refine ⟨?_, ?_, by simp, hop⟩
    · unfold mnL; split <;> omega
    · by_cases cc : r ≤ cap b - lk b
      · have e : mnL r (cap b - lk b) = r := if_pos cc
        rw [e]
        exact Or.inl ⟨by omega, opS_up (by omega) n⟩
      · have e : mnL r (cap b - lk b) = cap b - lk b := if_neg cc
        rw [e]
        exact Or.inr ((opS_fill q1 q3' (by omega) n).1 q2)
theorem snG_r : ∀ (f : Nat) (S : Sn), S.1 ≤ f → stuS W cap pr n (snG W cap pr n c f S)
  | 0, S, h => fun q => by have : 0 < S.1 := q.1; omega
  | f + 1, S, h => by
    by_cases q : 0 < S.1 ∧ bhS W cap pr n S ≠ -1
    · rw [snG_go q]
      have := (sn1_p (c := c) q).1
      exact snG_r f _ (by omega)
    · rw [snG_st q]; exact q
theorem snG_o : ∀ (f : Nat) (S : Sn), opS cap S.2.1 n ≤ f → stuS W cap pr n (snG W cap pr n c f S)
  | 0, S, h => by
    show stuS W cap pr n S
    intro q
    have := (sn1_p (c := c) q).2.2.2
    omega
  | f + 1, S, h => by
    by_cases q : 0 < S.1 ∧ bhS W cap pr n S ≠ -1
    · rw [snG_go q]
      obtain ⟨p1, p2, p3, p4⟩ := sn1_p (c := c) q
      rcases p2 with p2 | p2
      · have hst : stuS W cap pr n (sn1 W cap pr n c S) := fun z => by have := z.1; omega
        rw [snG_st hst]; exact hst
      · exact snG_o f _ (by omega)
    · rw [snG_st q]; exact q
/-- enough rounds are enough -/
theorem snG_eq {S : Sn} {f : Nat} (h : S.1 ≤ f) : snG W cap pr n c f S = snG W cap pr n c n S := by
  have h1 := snG_r (W := W) (cap := cap) (pr := pr) (n := n) (c := c) f S h
  have h2 := snG_o (W := W) (cap := cap) (pr := pr) (n := n) (c := c) n S (opS_le n)
  rw [← snG_more f n S h1, ← snG_more n f S h2, Nat.add_comm]
end SN
/-- goings as they stand in two rows -/
def GoS (A B : Int → Int) (gs : List (Int × Int)) : Prop := ∀ j : Nat, j < gs.length → A j = (gs.getD j (0, 0)).1 ∧ B j = (gs.getD j (0, 0)).2
theorem GoS_app {A B : Int → Int} {gs : List (Int × Int)} {c b m : Int} (h : GoS A B gs) (hm : m = gs.length) : GoS (updF A m c) (updF B m b) (gs ++ [(c, b)]) := fun j hj => by
  subst hm
  simp only [List.length_append, List.length_cons, List.length_nil] at hj
  unfold updF
  by_cases e : j = gs.length
  · subst e
    rw [if_pos rfl, if_pos rfl]
    simp
  · rw [if_neg (by omega), if_neg (by omega)]
    have := h j (by omega)
    rw [List.getD_eq_getElem?_getD, List.getElem?_append_left (by omega), ← List.getD_eq_getElem?_getD]
    exact this

set_option maxRecDepth 100000 in
theorem c_X_places (h : Int) (w : Wd) (hh : 0 ≤ h ∧ h < 16) (hs : 0 ≤ w 17 h ∧ w 17 h ≤ 999) (hl : 0 ≤ w 21 h ∧ w 21 h ≤ 7000) : CallN 1 mX3_places [(2, 15), (0, h)] w (RV (0, 7 * w 17 h - w 21 h) w) := by
  refine CallN.intro (by decide +kernel) (Nat.le_of_ble_eq_true rfl) (fun ρ hR => ?_)
  show AtN mX3_places 1 ρ 0 [(0, (2, 15)), (1, (0, h))] [] w
  refine s_bipush dX3_places_0 (by decide) (s_aload_n dX3_places_2 0 rfl rfl (n_getc (q := 17) 15 1 27 dX3_places_3 cf_X3 ff_X3_15 rfl sh_15 rfl (by decide) rfl (by decide) (s_iload_n dX3_places_6 1 rfl (n_iald 17 dX3_places_7 rfl sh_17 (by decide) ⟨(by omega), (by omega)⟩ (v := (w 17 h)) rfl (n_mul (z := (7 * (w 17 h))) dX3_places_8 (wr_id (by omega) (by omega)) (s_aload_n dX3_places_9 0 rfl rfl (n_getc (q := 21) 15 5 31 dX3_places_10 cf_X3 ff_X3_28 rfl sh_15 rfl (by decide) rfl (by decide) (s_iload_n dX3_places_13 1 rfl (n_iald 21 dX3_places_14 rfl sh_21 (by decide) ⟨(by omega), (by omega)⟩ (v := (w 21 h)) rfl ?_)))))))))
  refine n_sub (z := ((7 * (w 17 h)) - (w 21 h))) dX3_places_15 (wr_id (by omega) (by omega)) (n_iret dX3_places_16 hR rfl ?_)
  exact ⟨rfl, rfl⟩

set_option maxRecDepth 100000 in
set_option maxHeartbeats 2000000 in
theorem c_X_bestHall (c : Int) (w : Wd) (hc : 0 ≤ c ∧ c < 16) (hn : 0 ≤ w 15 10 ∧ w 15 10 ≤ 16) (hn1 : w 1 9 ≤ 30) (hpi : ∀ j, 0 ≤ j → j < w 1 9 → 0 ≤ w 7 j ∧ w 7 j < 12) (hhd : ∀ j, 0 ≤ j → j < 12 → -3 ≤ w (66 + Int.toNat c) j ∧ w (66 + Int.toNat c) j ≤ 3) (hb01 : ∀ h, 0 ≤ h → h < w 15 10 → (w 82 h = 0 ∨ w 82 h = 1) ∧ (w 83 h = 0 ∨ w 83 h = 1)) (hst : ∀ h, 0 ≤ h → h < w 15 10 → (0 ≤ w 17 h ∧ w 17 h ≤ 999) ∧ (0 ≤ w 21 h ∧ w 21 h ≤ 7 * w 17 h)) : CallN 3 mX0_bestHall [(2, 59), (0, c)] w (RV (0, bhV (woX w c) (fun h => 7 * w 17 h - w 21 h) (w 18) (w 15 10).toNat) w) := by
  refine CallN.intro (by decide +kernel) (Nat.le_of_ble_eq_true rfl) (fun ρ hR => ?_)
  show AtN mX0_bestHall 3 ρ 0 [(0, (2, 59)), (1, (0, c))] [] w
  have L_7 : ∀ (fu : Nat) (b : Int) (m : Int) (i : Int), 0 ≤ i ∧ i ≤ w 15 10 → b = bhV (woX w c) (fun h => 7 * w 17 h - w 21 h) (w 18) i.toNat → ((b = -1 → m = 0) ∧ (b ≠ -1 → m = woX w c b)) → (w 15 10 - i).toNat < fu → AtN mX0_bestHall 3 ρ 7 [(0, (2, 59)), (1, (0, c)), (2, (0, b)), (3, (0, m)), (4, (0, i))] [] w := by
    intro fu
    induction fu with
    | zero => intro b m i hi hbe hmo hm; exact absurd hm (Nat.not_lt_zero _)
    | succ fu ih =>
      intro b m i hi hbe hmo hm
      have hbp := bhV_p (W := woX w c) (pl := (fun h => 7 * w 17 h - w 21 h)) (pr := w 18) i.toNat
      rw [← hbe] at hbp
      have hbp2 : b = -1 ∨ (0 ≤ b ∧ b < i ∧ 0 < woX w c b) := by rcases hbp with q | ⟨q1, q2, q3, q4⟩; exact Or.inl q; exact Or.inr ⟨q1, by omega, q4⟩
      clear hbp
      refine s_iload dX0_bestHall_7 4 rfl (s_aload_n dX0_bestHall_9 0 rfl rfl (n_getc (q := 15) 59 1 25 dX0_bestHall_10 cf_X0 ff_X0_55 rfl sh_59 rfl (by decide) rfl (by decide) (n_getf 15 10 0 dX0_bestHall_13 cf_X3 ff_X0_111 rfl sh_15 rfl (by decide) (v := (w 15 10)) rfl (s_icmp_ge 108 dX0_bestHall_16 (by decide) (fun c_16 => ?_) (fun c_16 => ?_)))))
      · skip
        refine s_iload_n dX0_bestHall_108 2 rfl (n_iret dX0_bestHall_109 hR rfl ?_)
        have e9 : i = w 15 10 := by omega
        rw [e9] at hbe
        exact ⟨congrArg (fun z => some ((0 : Nat), z)) hbe, rfl⟩
      · skip
        have hs9 := hst i hi.1 (by omega)
        have hb9 := hb01 i hi.1 (by omega)
        refine s_aload_n dX0_bestHall_19 0 rfl rfl (n_getc (q := 15) 59 1 25 dX0_bestHall_20 cf_X0 ff_X0_55 rfl sh_59 rfl (by decide) rfl (by decide) (s_iload dX0_bestHall_23 4 rfl (n_invV (as := [(0, i)]) dX0_bestHall_25 kv_X3_places ml_X0_135 (c_X_places i w ⟨by omega, by omega⟩ (by omega) (by omega)) (by decide) 15 cf_X3 rfl sh_15 rfl rfl rfl (Nat.le_of_ble_eq_true rfl) (s_if_le 41 dX0_bestHall_28 (by decide) (fun c_28 => ?_) (fun c_28 => ?_)))))
        · skip
          refine s_bipush dX0_bestHall_41 (by decide) (s_istore (ls' := [(0, (2, 59)), (1, (0, c)), (2, (0, b)), (3, (0, m)), (4, (0, i)), (5, (0, (-99)))]) dX0_bestHall_43 (Nat.le_of_ble_eq_true rfl) rfl (s_iload_n dX0_bestHall_45 2 rfl (s_iconst dX0_bestHall_46 (by decide) (s_icmp_eq 82 dX0_bestHall_47 (by decide) (fun c_47 => ?_) (fun c_47 => ?_)))))
          · skip
            refine s_iconst dX0_bestHall_82 (by decide) (s_istore (ls' := [(0, (2, 59)), (1, (0, c)), (2, (0, b)), (3, (0, m)), (4, (0, i)), (5, (0, (-99))), (6, (0, 0))]) dX0_bestHall_83 (Nat.le_of_ble_eq_true rfl) rfl (s_iload dX0_bestHall_85 5 rfl (s_iload_n dX0_bestHall_87 3 rfl (s_icmp_gt 96 dX0_bestHall_88 (by decide) (fun c_88 => ?_) (fun c_88 => ?_)))))
            · skip
              refine s_iload dX0_bestHall_96 4 rfl (s_istore_n (ls' := [(0, (2, 59)), (1, (0, c)), (2, (0, i)), (3, (0, m)), (4, (0, i)), (5, (0, (-99))), (6, (0, 0))]) dX0_bestHall_98 (Nat.le_of_ble_eq_true rfl) rfl (s_iload dX0_bestHall_99 5 rfl (s_istore_n (ls' := [(0, (2, 59)), (1, (0, c)), (2, (0, i)), (3, (0, (-99))), (4, (0, i)), (5, (0, (-99))), (6, (0, 0))]) dX0_bestHall_101 (Nat.le_of_ble_eq_true rfl) rfl (s_iinc (z := (i + 1)) (ls' := [(0, (2, 59)), (1, (0, c)), (2, (0, i)), (3, (0, (-99))), (4, (0, (i + 1))), (5, (0, (-99))), (6, (0, 0))]) dX0_bestHall_102 4 rfl (Nat.le_of_ble_eq_true rfl) (wr_id (by omega) (by omega)) rfl (s_goto 7 dX0_bestHall_105 (by decide) ?_)))))
              exact At.keep (ls' := [(0, (2, 59)), (1, (0, c)), (2, (0, i)), (3, (0, (-99))), (4, (0, (i + 1)))]) [0, 1, 2, 3, 4] rfl (ih i (-99) (i + 1) (by omega) (by rw [bhV_s hi.1, ← hbe]; show _ = if (0 < 7 * w 17 i - w 21 i ∧ 0 < woX w c i) ∧ (b = -1 ∨ woX w c b < woX w c i ∨ (woX w c i = woX w c b ∧ w 18 i < w 18 b)) then i else b; first | exact (if_pos (by omega)).symm | exact (if_neg (by omega)).symm) (by first | exact hmo | exact ⟨fun q => by omega, fun q => rfl⟩ | exact ⟨fun q => by omega, fun q => by omega⟩) (by omega))
            · skip
              refine s_iload dX0_bestHall_91 6 rfl (s_if_eq 102 dX0_bestHall_93 (by decide) (kf := fun c => absurd c (by decide)) (kt := fun _ => s_iinc (z := (i + 1)) (ls' := [(0, (2, 59)), (1, (0, c)), (2, (0, b)), (3, (0, m)), (4, (0, (i + 1))), (5, (0, (-99))), (6, (0, 0))]) dX0_bestHall_102 4 rfl (Nat.le_of_ble_eq_true rfl) (wr_id (by omega) (by omega)) rfl (s_goto 7 dX0_bestHall_105 (by decide) ?_)))
              exact At.keep (ls' := [(0, (2, 59)), (1, (0, c)), (2, (0, b)), (3, (0, m)), (4, (0, (i + 1)))]) [0, 1, 2, 3, 4] rfl (ih b m (i + 1) (by omega) (by rw [bhV_s hi.1, ← hbe]; show _ = if (0 < 7 * w 17 i - w 21 i ∧ 0 < woX w c i) ∧ (b = -1 ∨ woX w c b < woX w c i ∨ (woX w c i = woX w c b ∧ w 18 i < w 18 b)) then i else b; first | exact (if_pos (by omega)).symm | exact (if_neg (by omega)).symm) (by first | exact hmo | exact ⟨fun q => by omega, fun q => rfl⟩ | exact ⟨fun q => by omega, fun q => by omega⟩) (by omega))
          · skip
            refine s_iload dX0_bestHall_50 5 rfl (s_iload_n dX0_bestHall_52 3 rfl (s_icmp_ne 82 dX0_bestHall_53 (by decide) (fun c_53 => ?_) (fun c_53 => ?_)))
            · skip
              refine s_iconst dX0_bestHall_82 (by decide) (s_istore (ls' := [(0, (2, 59)), (1, (0, c)), (2, (0, b)), (3, (0, m)), (4, (0, i)), (5, (0, (-99))), (6, (0, 0))]) dX0_bestHall_83 (Nat.le_of_ble_eq_true rfl) rfl (s_iload dX0_bestHall_85 5 rfl (s_iload_n dX0_bestHall_87 3 rfl (s_icmp_gt 96 dX0_bestHall_88 (by decide) (fun c_88 => ?_) (fun c_88 => ?_)))))
              · skip
                refine s_iload dX0_bestHall_96 4 rfl (s_istore_n (ls' := [(0, (2, 59)), (1, (0, c)), (2, (0, i)), (3, (0, m)), (4, (0, i)), (5, (0, (-99))), (6, (0, 0))]) dX0_bestHall_98 (Nat.le_of_ble_eq_true rfl) rfl (s_iload dX0_bestHall_99 5 rfl (s_istore_n (ls' := [(0, (2, 59)), (1, (0, c)), (2, (0, i)), (3, (0, (-99))), (4, (0, i)), (5, (0, (-99))), (6, (0, 0))]) dX0_bestHall_101 (Nat.le_of_ble_eq_true rfl) rfl (s_iinc (z := (i + 1)) (ls' := [(0, (2, 59)), (1, (0, c)), (2, (0, i)), (3, (0, (-99))), (4, (0, (i + 1))), (5, (0, (-99))), (6, (0, 0))]) dX0_bestHall_102 4 rfl (Nat.le_of_ble_eq_true rfl) (wr_id (by omega) (by omega)) rfl (s_goto 7 dX0_bestHall_105 (by decide) ?_)))))
                exact At.keep (ls' := [(0, (2, 59)), (1, (0, c)), (2, (0, i)), (3, (0, (-99))), (4, (0, (i + 1)))]) [0, 1, 2, 3, 4] rfl (ih i (-99) (i + 1) (by omega) (by rw [bhV_s hi.1, ← hbe]; show _ = if (0 < 7 * w 17 i - w 21 i ∧ 0 < woX w c i) ∧ (b = -1 ∨ woX w c b < woX w c i ∨ (woX w c i = woX w c b ∧ w 18 i < w 18 b)) then i else b; first | exact (if_pos (by omega)).symm | exact (if_neg (by omega)).symm) (by first | exact hmo | exact ⟨fun q => by omega, fun q => rfl⟩ | exact ⟨fun q => by omega, fun q => by omega⟩) (by omega))
              · skip
                refine s_iload dX0_bestHall_91 6 rfl (s_if_eq 102 dX0_bestHall_93 (by decide) (kf := fun c => absurd c (by decide)) (kt := fun _ => s_iinc (z := (i + 1)) (ls' := [(0, (2, 59)), (1, (0, c)), (2, (0, b)), (3, (0, m)), (4, (0, (i + 1))), (5, (0, (-99))), (6, (0, 0))]) dX0_bestHall_102 4 rfl (Nat.le_of_ble_eq_true rfl) (wr_id (by omega) (by omega)) rfl (s_goto 7 dX0_bestHall_105 (by decide) ?_)))
                exact At.keep (ls' := [(0, (2, 59)), (1, (0, c)), (2, (0, b)), (3, (0, m)), (4, (0, (i + 1)))]) [0, 1, 2, 3, 4] rfl (ih b m (i + 1) (by omega) (by rw [bhV_s hi.1, ← hbe]; show _ = if (0 < 7 * w 17 i - w 21 i ∧ 0 < woX w c i) ∧ (b = -1 ∨ woX w c b < woX w c i ∨ (woX w c i = woX w c b ∧ w 18 i < w 18 b)) then i else b; first | exact (if_pos (by omega)).symm | exact (if_neg (by omega)).symm) (by first | exact hmo | exact ⟨fun q => by omega, fun q => rfl⟩ | exact ⟨fun q => by omega, fun q => by omega⟩) (by omega))
            · skip
              refine s_aload_n dX0_bestHall_56 0 rfl rfl (n_getc (q := 15) 59 1 25 dX0_bestHall_57 cf_X0 ff_X0_55 rfl sh_59 rfl (by decide) rfl (by decide) (n_getc (q := 18) 15 2 28 dX0_bestHall_60 cf_X3 ff_X0_100 rfl sh_15 rfl (by decide) rfl (by decide) (s_iload dX0_bestHall_63 4 rfl (n_iald 18 dX0_bestHall_65 rfl sh_18 (by decide) ⟨(by omega), (by omega)⟩ (v := (w 18 i)) rfl (s_aload_n dX0_bestHall_66 0 rfl rfl (n_getc (q := 15) 59 1 25 dX0_bestHall_67 cf_X0 ff_X0_55 rfl sh_59 rfl (by decide) rfl (by decide) (n_getc (q := 18) 15 2 28 dX0_bestHall_70 cf_X3 ff_X0_100 rfl sh_15 rfl (by decide) rfl (by decide) (s_iload_n dX0_bestHall_73 2 rfl (n_iald 18 dX0_bestHall_74 rfl sh_18 (by decide) ⟨(by omega), (by omega)⟩ (v := (w 18 b)) rfl ?_)))))))))
              refine s_icmp_ge 82 dX0_bestHall_75 (by decide) (fun c_75 => ?_) (fun c_75 => ?_)
              · skip
                refine s_iconst dX0_bestHall_82 (by decide) (s_istore (ls' := [(0, (2, 59)), (1, (0, c)), (2, (0, b)), (3, (0, m)), (4, (0, i)), (5, (0, (-99))), (6, (0, 0))]) dX0_bestHall_83 (Nat.le_of_ble_eq_true rfl) rfl (s_iload dX0_bestHall_85 5 rfl (s_iload_n dX0_bestHall_87 3 rfl (s_icmp_gt 96 dX0_bestHall_88 (by decide) (fun c_88 => ?_) (fun c_88 => ?_)))))
                · skip
                  refine s_iload dX0_bestHall_96 4 rfl (s_istore_n (ls' := [(0, (2, 59)), (1, (0, c)), (2, (0, i)), (3, (0, m)), (4, (0, i)), (5, (0, (-99))), (6, (0, 0))]) dX0_bestHall_98 (Nat.le_of_ble_eq_true rfl) rfl (s_iload dX0_bestHall_99 5 rfl (s_istore_n (ls' := [(0, (2, 59)), (1, (0, c)), (2, (0, i)), (3, (0, (-99))), (4, (0, i)), (5, (0, (-99))), (6, (0, 0))]) dX0_bestHall_101 (Nat.le_of_ble_eq_true rfl) rfl (s_iinc (z := (i + 1)) (ls' := [(0, (2, 59)), (1, (0, c)), (2, (0, i)), (3, (0, (-99))), (4, (0, (i + 1))), (5, (0, (-99))), (6, (0, 0))]) dX0_bestHall_102 4 rfl (Nat.le_of_ble_eq_true rfl) (wr_id (by omega) (by omega)) rfl (s_goto 7 dX0_bestHall_105 (by decide) ?_)))))
                  exact At.keep (ls' := [(0, (2, 59)), (1, (0, c)), (2, (0, i)), (3, (0, (-99))), (4, (0, (i + 1)))]) [0, 1, 2, 3, 4] rfl (ih i (-99) (i + 1) (by omega) (by rw [bhV_s hi.1, ← hbe]; show _ = if (0 < 7 * w 17 i - w 21 i ∧ 0 < woX w c i) ∧ (b = -1 ∨ woX w c b < woX w c i ∨ (woX w c i = woX w c b ∧ w 18 i < w 18 b)) then i else b; first | exact (if_pos (by omega)).symm | exact (if_neg (by omega)).symm) (by first | exact hmo | exact ⟨fun q => by omega, fun q => rfl⟩ | exact ⟨fun q => by omega, fun q => by omega⟩) (by omega))
                · skip
                  refine s_iload dX0_bestHall_91 6 rfl (s_if_eq 102 dX0_bestHall_93 (by decide) (kf := fun c => absurd c (by decide)) (kt := fun _ => s_iinc (z := (i + 1)) (ls' := [(0, (2, 59)), (1, (0, c)), (2, (0, b)), (3, (0, m)), (4, (0, (i + 1))), (5, (0, (-99))), (6, (0, 0))]) dX0_bestHall_102 4 rfl (Nat.le_of_ble_eq_true rfl) (wr_id (by omega) (by omega)) rfl (s_goto 7 dX0_bestHall_105 (by decide) ?_)))
                  exact At.keep (ls' := [(0, (2, 59)), (1, (0, c)), (2, (0, b)), (3, (0, m)), (4, (0, (i + 1)))]) [0, 1, 2, 3, 4] rfl (ih b m (i + 1) (by omega) (by rw [bhV_s hi.1, ← hbe]; show _ = if (0 < 7 * w 17 i - w 21 i ∧ 0 < woX w c i) ∧ (b = -1 ∨ woX w c b < woX w c i ∨ (woX w c i = woX w c b ∧ w 18 i < w 18 b)) then i else b; first | exact (if_pos (by omega)).symm | exact (if_neg (by omega)).symm) (by first | exact hmo | exact ⟨fun q => by omega, fun q => rfl⟩ | exact ⟨fun q => by omega, fun q => by omega⟩) (by omega))
              · skip
                refine s_iconst dX0_bestHall_78 (by decide) (s_goto 83 dX0_bestHall_79 (by decide) (s_istore (ls' := [(0, (2, 59)), (1, (0, c)), (2, (0, b)), (3, (0, m)), (4, (0, i)), (5, (0, (-99))), (6, (0, 1))]) dX0_bestHall_83 (Nat.le_of_ble_eq_true rfl) rfl (s_iload dX0_bestHall_85 5 rfl (s_iload_n dX0_bestHall_87 3 rfl (s_icmp_gt 96 dX0_bestHall_88 (by decide) (fun c_88 => ?_) (fun c_88 => ?_))))))
                · skip
                  refine s_iload dX0_bestHall_96 4 rfl (s_istore_n (ls' := [(0, (2, 59)), (1, (0, c)), (2, (0, i)), (3, (0, m)), (4, (0, i)), (5, (0, (-99))), (6, (0, 1))]) dX0_bestHall_98 (Nat.le_of_ble_eq_true rfl) rfl (s_iload dX0_bestHall_99 5 rfl (s_istore_n (ls' := [(0, (2, 59)), (1, (0, c)), (2, (0, i)), (3, (0, (-99))), (4, (0, i)), (5, (0, (-99))), (6, (0, 1))]) dX0_bestHall_101 (Nat.le_of_ble_eq_true rfl) rfl (s_iinc (z := (i + 1)) (ls' := [(0, (2, 59)), (1, (0, c)), (2, (0, i)), (3, (0, (-99))), (4, (0, (i + 1))), (5, (0, (-99))), (6, (0, 1))]) dX0_bestHall_102 4 rfl (Nat.le_of_ble_eq_true rfl) (wr_id (by omega) (by omega)) rfl (s_goto 7 dX0_bestHall_105 (by decide) ?_)))))
                  exact At.keep (ls' := [(0, (2, 59)), (1, (0, c)), (2, (0, i)), (3, (0, (-99))), (4, (0, (i + 1)))]) [0, 1, 2, 3, 4] rfl (ih i (-99) (i + 1) (by omega) (by rw [bhV_s hi.1, ← hbe]; show _ = if (0 < 7 * w 17 i - w 21 i ∧ 0 < woX w c i) ∧ (b = -1 ∨ woX w c b < woX w c i ∨ (woX w c i = woX w c b ∧ w 18 i < w 18 b)) then i else b; first | exact (if_pos (by omega)).symm | exact (if_neg (by omega)).symm) (by first | exact hmo | exact ⟨fun q => by omega, fun q => rfl⟩ | exact ⟨fun q => by omega, fun q => by omega⟩) (by omega))
                · skip
                  refine s_iload dX0_bestHall_91 6 rfl (s_if_eq 102 dX0_bestHall_93 (by decide) (kt := fun c => absurd c (by decide)) (kf := fun _ => s_iload dX0_bestHall_96 4 rfl (s_istore_n (ls' := [(0, (2, 59)), (1, (0, c)), (2, (0, i)), (3, (0, m)), (4, (0, i)), (5, (0, (-99))), (6, (0, 1))]) dX0_bestHall_98 (Nat.le_of_ble_eq_true rfl) rfl (s_iload dX0_bestHall_99 5 rfl (s_istore_n (ls' := [(0, (2, 59)), (1, (0, c)), (2, (0, i)), (3, (0, (-99))), (4, (0, i)), (5, (0, (-99))), (6, (0, 1))]) dX0_bestHall_101 (Nat.le_of_ble_eq_true rfl) rfl (s_iinc (z := (i + 1)) (ls' := [(0, (2, 59)), (1, (0, c)), (2, (0, i)), (3, (0, (-99))), (4, (0, (i + 1))), (5, (0, (-99))), (6, (0, 1))]) dX0_bestHall_102 4 rfl (Nat.le_of_ble_eq_true rfl) (wr_id (by omega) (by omega)) rfl (s_goto 7 dX0_bestHall_105 (by decide) ?_)))))))
                  exact At.keep (ls' := [(0, (2, 59)), (1, (0, c)), (2, (0, i)), (3, (0, (-99))), (4, (0, (i + 1)))]) [0, 1, 2, 3, 4] rfl (ih i (-99) (i + 1) (by omega) (by rw [bhV_s hi.1, ← hbe]; show _ = if (0 < 7 * w 17 i - w 21 i ∧ 0 < woX w c i) ∧ (b = -1 ∨ woX w c b < woX w c i ∨ (woX w c i = woX w c b ∧ w 18 i < w 18 b)) then i else b; first | exact (if_pos (by omega)).symm | exact (if_neg (by omega)).symm) (by first | exact hmo | exact ⟨fun q => by omega, fun q => rfl⟩ | exact ⟨fun q => by omega, fun q => by omega⟩) (by omega))
        · skip
          refine s_aload_n dX0_bestHall_31 0 rfl rfl (s_iload_n dX0_bestHall_32 1 rfl (s_iload dX0_bestHall_33 4 rfl (n_invV (as := [(0, c), (0, i)]) dX0_bestHall_35 kv_X0_worthOf ml_X0_146 (c_X_worthOf c i w hc ⟨by omega, by omega⟩ hn1 hpi hhd hb9) (by decide) 59 cf_X0 rfl sh_59 rfl rfl rfl (Nat.le_of_ble_eq_true rfl) (s_goto 43 dX0_bestHall_38 (by decide) (s_istore (ls' := [(0, (2, 59)), (1, (0, c)), (2, (0, b)), (3, (0, m)), (4, (0, i)), (5, (0, (woX w c i)))]) dX0_bestHall_43 (Nat.le_of_ble_eq_true rfl) rfl (s_iload_n dX0_bestHall_45 2 rfl (s_iconst dX0_bestHall_46 (by decide) (s_icmp_eq 82 dX0_bestHall_47 (by decide) (fun c_47 => ?_) (fun c_47 => ?_)))))))))
          · skip
            refine s_iconst dX0_bestHall_82 (by decide) (s_istore (ls' := [(0, (2, 59)), (1, (0, c)), (2, (0, b)), (3, (0, m)), (4, (0, i)), (5, (0, (woX w c i))), (6, (0, 0))]) dX0_bestHall_83 (Nat.le_of_ble_eq_true rfl) rfl (s_iload dX0_bestHall_85 5 rfl (s_iload_n dX0_bestHall_87 3 rfl (s_icmp_gt 96 dX0_bestHall_88 (by decide) (fun c_88 => ?_) (fun c_88 => ?_)))))
            · skip
              refine s_iload dX0_bestHall_96 4 rfl (s_istore_n (ls' := [(0, (2, 59)), (1, (0, c)), (2, (0, i)), (3, (0, m)), (4, (0, i)), (5, (0, (woX w c i))), (6, (0, 0))]) dX0_bestHall_98 (Nat.le_of_ble_eq_true rfl) rfl (s_iload dX0_bestHall_99 5 rfl (s_istore_n (ls' := [(0, (2, 59)), (1, (0, c)), (2, (0, i)), (3, (0, (woX w c i))), (4, (0, i)), (5, (0, (woX w c i))), (6, (0, 0))]) dX0_bestHall_101 (Nat.le_of_ble_eq_true rfl) rfl (s_iinc (z := (i + 1)) (ls' := [(0, (2, 59)), (1, (0, c)), (2, (0, i)), (3, (0, (woX w c i))), (4, (0, (i + 1))), (5, (0, (woX w c i))), (6, (0, 0))]) dX0_bestHall_102 4 rfl (Nat.le_of_ble_eq_true rfl) (wr_id (by omega) (by omega)) rfl (s_goto 7 dX0_bestHall_105 (by decide) ?_)))))
              exact At.keep (ls' := [(0, (2, 59)), (1, (0, c)), (2, (0, i)), (3, (0, (woX w c i))), (4, (0, (i + 1)))]) [0, 1, 2, 3, 4] rfl (ih i (woX w c i) (i + 1) (by omega) (by rw [bhV_s hi.1, ← hbe]; show _ = if (0 < 7 * w 17 i - w 21 i ∧ 0 < woX w c i) ∧ (b = -1 ∨ woX w c b < woX w c i ∨ (woX w c i = woX w c b ∧ w 18 i < w 18 b)) then i else b; first | exact (if_pos (by omega)).symm | exact (if_neg (by omega)).symm) (by first | exact hmo | exact ⟨fun q => by omega, fun q => rfl⟩ | exact ⟨fun q => by omega, fun q => by omega⟩) (by omega))
            · skip
              refine s_iload dX0_bestHall_91 6 rfl (s_if_eq 102 dX0_bestHall_93 (by decide) (kf := fun c => absurd c (by decide)) (kt := fun _ => s_iinc (z := (i + 1)) (ls' := [(0, (2, 59)), (1, (0, c)), (2, (0, b)), (3, (0, m)), (4, (0, (i + 1))), (5, (0, (woX w c i))), (6, (0, 0))]) dX0_bestHall_102 4 rfl (Nat.le_of_ble_eq_true rfl) (wr_id (by omega) (by omega)) rfl (s_goto 7 dX0_bestHall_105 (by decide) ?_)))
              exact At.keep (ls' := [(0, (2, 59)), (1, (0, c)), (2, (0, b)), (3, (0, m)), (4, (0, (i + 1)))]) [0, 1, 2, 3, 4] rfl (ih b m (i + 1) (by omega) (by rw [bhV_s hi.1, ← hbe]; show _ = if (0 < 7 * w 17 i - w 21 i ∧ 0 < woX w c i) ∧ (b = -1 ∨ woX w c b < woX w c i ∨ (woX w c i = woX w c b ∧ w 18 i < w 18 b)) then i else b; first | exact (if_pos (by omega)).symm | exact (if_neg (by omega)).symm) (by first | exact hmo | exact ⟨fun q => by omega, fun q => rfl⟩ | exact ⟨fun q => by omega, fun q => by omega⟩) (by omega))
          · skip
            refine s_iload dX0_bestHall_50 5 rfl (s_iload_n dX0_bestHall_52 3 rfl (s_icmp_ne 82 dX0_bestHall_53 (by decide) (fun c_53 => ?_) (fun c_53 => ?_)))
            · skip
              refine s_iconst dX0_bestHall_82 (by decide) (s_istore (ls' := [(0, (2, 59)), (1, (0, c)), (2, (0, b)), (3, (0, m)), (4, (0, i)), (5, (0, (woX w c i))), (6, (0, 0))]) dX0_bestHall_83 (Nat.le_of_ble_eq_true rfl) rfl (s_iload dX0_bestHall_85 5 rfl (s_iload_n dX0_bestHall_87 3 rfl (s_icmp_gt 96 dX0_bestHall_88 (by decide) (fun c_88 => ?_) (fun c_88 => ?_)))))
              · skip
                refine s_iload dX0_bestHall_96 4 rfl (s_istore_n (ls' := [(0, (2, 59)), (1, (0, c)), (2, (0, i)), (3, (0, m)), (4, (0, i)), (5, (0, (woX w c i))), (6, (0, 0))]) dX0_bestHall_98 (Nat.le_of_ble_eq_true rfl) rfl (s_iload dX0_bestHall_99 5 rfl (s_istore_n (ls' := [(0, (2, 59)), (1, (0, c)), (2, (0, i)), (3, (0, (woX w c i))), (4, (0, i)), (5, (0, (woX w c i))), (6, (0, 0))]) dX0_bestHall_101 (Nat.le_of_ble_eq_true rfl) rfl (s_iinc (z := (i + 1)) (ls' := [(0, (2, 59)), (1, (0, c)), (2, (0, i)), (3, (0, (woX w c i))), (4, (0, (i + 1))), (5, (0, (woX w c i))), (6, (0, 0))]) dX0_bestHall_102 4 rfl (Nat.le_of_ble_eq_true rfl) (wr_id (by omega) (by omega)) rfl (s_goto 7 dX0_bestHall_105 (by decide) ?_)))))
                exact At.keep (ls' := [(0, (2, 59)), (1, (0, c)), (2, (0, i)), (3, (0, (woX w c i))), (4, (0, (i + 1)))]) [0, 1, 2, 3, 4] rfl (ih i (woX w c i) (i + 1) (by omega) (by rw [bhV_s hi.1, ← hbe]; show _ = if (0 < 7 * w 17 i - w 21 i ∧ 0 < woX w c i) ∧ (b = -1 ∨ woX w c b < woX w c i ∨ (woX w c i = woX w c b ∧ w 18 i < w 18 b)) then i else b; first | exact (if_pos (by omega)).symm | exact (if_neg (by omega)).symm) (by first | exact hmo | exact ⟨fun q => by omega, fun q => rfl⟩ | exact ⟨fun q => by omega, fun q => by omega⟩) (by omega))
              · skip
                refine s_iload dX0_bestHall_91 6 rfl (s_if_eq 102 dX0_bestHall_93 (by decide) (kf := fun c => absurd c (by decide)) (kt := fun _ => s_iinc (z := (i + 1)) (ls' := [(0, (2, 59)), (1, (0, c)), (2, (0, b)), (3, (0, m)), (4, (0, (i + 1))), (5, (0, (woX w c i))), (6, (0, 0))]) dX0_bestHall_102 4 rfl (Nat.le_of_ble_eq_true rfl) (wr_id (by omega) (by omega)) rfl (s_goto 7 dX0_bestHall_105 (by decide) ?_)))
                exact At.keep (ls' := [(0, (2, 59)), (1, (0, c)), (2, (0, b)), (3, (0, m)), (4, (0, (i + 1)))]) [0, 1, 2, 3, 4] rfl (ih b m (i + 1) (by omega) (by rw [bhV_s hi.1, ← hbe]; show _ = if (0 < 7 * w 17 i - w 21 i ∧ 0 < woX w c i) ∧ (b = -1 ∨ woX w c b < woX w c i ∨ (woX w c i = woX w c b ∧ w 18 i < w 18 b)) then i else b; first | exact (if_pos (by omega)).symm | exact (if_neg (by omega)).symm) (by first | exact hmo | exact ⟨fun q => by omega, fun q => rfl⟩ | exact ⟨fun q => by omega, fun q => by omega⟩) (by omega))
            · skip
              refine s_aload_n dX0_bestHall_56 0 rfl rfl (n_getc (q := 15) 59 1 25 dX0_bestHall_57 cf_X0 ff_X0_55 rfl sh_59 rfl (by decide) rfl (by decide) (n_getc (q := 18) 15 2 28 dX0_bestHall_60 cf_X3 ff_X0_100 rfl sh_15 rfl (by decide) rfl (by decide) (s_iload dX0_bestHall_63 4 rfl (n_iald 18 dX0_bestHall_65 rfl sh_18 (by decide) ⟨(by omega), (by omega)⟩ (v := (w 18 i)) rfl (s_aload_n dX0_bestHall_66 0 rfl rfl (n_getc (q := 15) 59 1 25 dX0_bestHall_67 cf_X0 ff_X0_55 rfl sh_59 rfl (by decide) rfl (by decide) (n_getc (q := 18) 15 2 28 dX0_bestHall_70 cf_X3 ff_X0_100 rfl sh_15 rfl (by decide) rfl (by decide) (s_iload_n dX0_bestHall_73 2 rfl (n_iald 18 dX0_bestHall_74 rfl sh_18 (by decide) ⟨(by omega), (by omega)⟩ (v := (w 18 b)) rfl ?_)))))))))
              refine s_icmp_ge 82 dX0_bestHall_75 (by decide) (fun c_75 => ?_) (fun c_75 => ?_)
              · skip
                refine s_iconst dX0_bestHall_82 (by decide) (s_istore (ls' := [(0, (2, 59)), (1, (0, c)), (2, (0, b)), (3, (0, m)), (4, (0, i)), (5, (0, (woX w c i))), (6, (0, 0))]) dX0_bestHall_83 (Nat.le_of_ble_eq_true rfl) rfl (s_iload dX0_bestHall_85 5 rfl (s_iload_n dX0_bestHall_87 3 rfl (s_icmp_gt 96 dX0_bestHall_88 (by decide) (fun c_88 => ?_) (fun c_88 => ?_)))))
                · skip
                  refine s_iload dX0_bestHall_96 4 rfl (s_istore_n (ls' := [(0, (2, 59)), (1, (0, c)), (2, (0, i)), (3, (0, m)), (4, (0, i)), (5, (0, (woX w c i))), (6, (0, 0))]) dX0_bestHall_98 (Nat.le_of_ble_eq_true rfl) rfl (s_iload dX0_bestHall_99 5 rfl (s_istore_n (ls' := [(0, (2, 59)), (1, (0, c)), (2, (0, i)), (3, (0, (woX w c i))), (4, (0, i)), (5, (0, (woX w c i))), (6, (0, 0))]) dX0_bestHall_101 (Nat.le_of_ble_eq_true rfl) rfl (s_iinc (z := (i + 1)) (ls' := [(0, (2, 59)), (1, (0, c)), (2, (0, i)), (3, (0, (woX w c i))), (4, (0, (i + 1))), (5, (0, (woX w c i))), (6, (0, 0))]) dX0_bestHall_102 4 rfl (Nat.le_of_ble_eq_true rfl) (wr_id (by omega) (by omega)) rfl (s_goto 7 dX0_bestHall_105 (by decide) ?_)))))
                  exact At.keep (ls' := [(0, (2, 59)), (1, (0, c)), (2, (0, i)), (3, (0, (woX w c i))), (4, (0, (i + 1)))]) [0, 1, 2, 3, 4] rfl (ih i (woX w c i) (i + 1) (by omega) (by rw [bhV_s hi.1, ← hbe]; show _ = if (0 < 7 * w 17 i - w 21 i ∧ 0 < woX w c i) ∧ (b = -1 ∨ woX w c b < woX w c i ∨ (woX w c i = woX w c b ∧ w 18 i < w 18 b)) then i else b; first | exact (if_pos (by omega)).symm | exact (if_neg (by omega)).symm) (by first | exact hmo | exact ⟨fun q => by omega, fun q => rfl⟩ | exact ⟨fun q => by omega, fun q => by omega⟩) (by omega))
                · skip
                  refine s_iload dX0_bestHall_91 6 rfl (s_if_eq 102 dX0_bestHall_93 (by decide) (kf := fun c => absurd c (by decide)) (kt := fun _ => s_iinc (z := (i + 1)) (ls' := [(0, (2, 59)), (1, (0, c)), (2, (0, b)), (3, (0, m)), (4, (0, (i + 1))), (5, (0, (woX w c i))), (6, (0, 0))]) dX0_bestHall_102 4 rfl (Nat.le_of_ble_eq_true rfl) (wr_id (by omega) (by omega)) rfl (s_goto 7 dX0_bestHall_105 (by decide) ?_)))
                  exact At.keep (ls' := [(0, (2, 59)), (1, (0, c)), (2, (0, b)), (3, (0, m)), (4, (0, (i + 1)))]) [0, 1, 2, 3, 4] rfl (ih b m (i + 1) (by omega) (by rw [bhV_s hi.1, ← hbe]; show _ = if (0 < 7 * w 17 i - w 21 i ∧ 0 < woX w c i) ∧ (b = -1 ∨ woX w c b < woX w c i ∨ (woX w c i = woX w c b ∧ w 18 i < w 18 b)) then i else b; first | exact (if_pos (by omega)).symm | exact (if_neg (by omega)).symm) (by first | exact hmo | exact ⟨fun q => by omega, fun q => rfl⟩ | exact ⟨fun q => by omega, fun q => by omega⟩) (by omega))
              · skip
                refine s_iconst dX0_bestHall_78 (by decide) (s_goto 83 dX0_bestHall_79 (by decide) (s_istore (ls' := [(0, (2, 59)), (1, (0, c)), (2, (0, b)), (3, (0, m)), (4, (0, i)), (5, (0, (woX w c i))), (6, (0, 1))]) dX0_bestHall_83 (Nat.le_of_ble_eq_true rfl) rfl (s_iload dX0_bestHall_85 5 rfl (s_iload_n dX0_bestHall_87 3 rfl (s_icmp_gt 96 dX0_bestHall_88 (by decide) (fun c_88 => ?_) (fun c_88 => ?_))))))
                · skip
                  refine s_iload dX0_bestHall_96 4 rfl (s_istore_n (ls' := [(0, (2, 59)), (1, (0, c)), (2, (0, i)), (3, (0, m)), (4, (0, i)), (5, (0, (woX w c i))), (6, (0, 1))]) dX0_bestHall_98 (Nat.le_of_ble_eq_true rfl) rfl (s_iload dX0_bestHall_99 5 rfl (s_istore_n (ls' := [(0, (2, 59)), (1, (0, c)), (2, (0, i)), (3, (0, (woX w c i))), (4, (0, i)), (5, (0, (woX w c i))), (6, (0, 1))]) dX0_bestHall_101 (Nat.le_of_ble_eq_true rfl) rfl (s_iinc (z := (i + 1)) (ls' := [(0, (2, 59)), (1, (0, c)), (2, (0, i)), (3, (0, (woX w c i))), (4, (0, (i + 1))), (5, (0, (woX w c i))), (6, (0, 1))]) dX0_bestHall_102 4 rfl (Nat.le_of_ble_eq_true rfl) (wr_id (by omega) (by omega)) rfl (s_goto 7 dX0_bestHall_105 (by decide) ?_)))))
                  exact At.keep (ls' := [(0, (2, 59)), (1, (0, c)), (2, (0, i)), (3, (0, (woX w c i))), (4, (0, (i + 1)))]) [0, 1, 2, 3, 4] rfl (ih i (woX w c i) (i + 1) (by omega) (by rw [bhV_s hi.1, ← hbe]; show _ = if (0 < 7 * w 17 i - w 21 i ∧ 0 < woX w c i) ∧ (b = -1 ∨ woX w c b < woX w c i ∨ (woX w c i = woX w c b ∧ w 18 i < w 18 b)) then i else b; first | exact (if_pos (by omega)).symm | exact (if_neg (by omega)).symm) (by first | exact hmo | exact ⟨fun q => by omega, fun q => rfl⟩ | exact ⟨fun q => by omega, fun q => by omega⟩) (by omega))
                · skip
                  refine s_iload dX0_bestHall_91 6 rfl (s_if_eq 102 dX0_bestHall_93 (by decide) (kt := fun c => absurd c (by decide)) (kf := fun _ => s_iload dX0_bestHall_96 4 rfl (s_istore_n (ls' := [(0, (2, 59)), (1, (0, c)), (2, (0, i)), (3, (0, m)), (4, (0, i)), (5, (0, (woX w c i))), (6, (0, 1))]) dX0_bestHall_98 (Nat.le_of_ble_eq_true rfl) rfl (s_iload dX0_bestHall_99 5 rfl (s_istore_n (ls' := [(0, (2, 59)), (1, (0, c)), (2, (0, i)), (3, (0, (woX w c i))), (4, (0, i)), (5, (0, (woX w c i))), (6, (0, 1))]) dX0_bestHall_101 (Nat.le_of_ble_eq_true rfl) rfl (s_iinc (z := (i + 1)) (ls' := [(0, (2, 59)), (1, (0, c)), (2, (0, i)), (3, (0, (woX w c i))), (4, (0, (i + 1))), (5, (0, (woX w c i))), (6, (0, 1))]) dX0_bestHall_102 4 rfl (Nat.le_of_ble_eq_true rfl) (wr_id (by omega) (by omega)) rfl (s_goto 7 dX0_bestHall_105 (by decide) ?_)))))))
                  exact At.keep (ls' := [(0, (2, 59)), (1, (0, c)), (2, (0, i)), (3, (0, (woX w c i))), (4, (0, (i + 1)))]) [0, 1, 2, 3, 4] rfl (ih i (woX w c i) (i + 1) (by omega) (by rw [bhV_s hi.1, ← hbe]; show _ = if (0 < 7 * w 17 i - w 21 i ∧ 0 < woX w c i) ∧ (b = -1 ∨ woX w c b < woX w c i ∨ (woX w c i = woX w c b ∧ w 18 i < w 18 b)) then i else b; first | exact (if_pos (by omega)).symm | exact (if_neg (by omega)).symm) (by first | exact hmo | exact ⟨fun q => by omega, fun q => rfl⟩ | exact ⟨fun q => by omega, fun q => by omega⟩) (by omega))
  refine s_iconst dX0_bestHall_0 (by decide) (s_istore_n (ls' := [(0, (2, 59)), (1, (0, c)), (2, (0, (-1)))]) dX0_bestHall_1 (Nat.le_of_ble_eq_true rfl) rfl (s_iconst dX0_bestHall_2 (by decide) (s_istore_n (ls' := [(0, (2, 59)), (1, (0, c)), (2, (0, (-1))), (3, (0, 0))]) dX0_bestHall_3 (Nat.le_of_ble_eq_true rfl) rfl (s_iconst dX0_bestHall_4 (by decide) (s_istore (ls' := [(0, (2, 59)), (1, (0, c)), (2, (0, (-1))), (3, (0, 0)), (4, (0, 0))]) dX0_bestHall_5 (Nat.le_of_ble_eq_true rfl) rfl ?_)))))
  exact L_7 _ (-1) 0 0 (by omega) rfl ⟨fun _ => rfl, fun q => absurd rfl q⟩ (Nat.lt_succ_self _)

set_option maxRecDepth 100000 in
set_option maxHeartbeats 2000000 in
theorem c_M_choice (c : Int) (w : Wd) (hn : 0 ≤ w 141 4 ∧ w 141 4 ≤ 16) (hc : 0 ≤ c ∧ c < 16) (hl : ∀ h, 0 ≤ h → h < w 141 4 → 0 ≤ w 187 h) : CallN 1 mX12_choice [(2, 141), (0, c)] w (RV (0, bhV (fun h => w 188 (16 * c + h)) (w 187) (w 157) (w 141 4).toNat) w) := by
  refine CallN.intro (by decide +kernel) (Nat.le_of_ble_eq_true rfl) (fun ρ hR => ?_)
  show AtN mX12_choice 1 ρ 0 [(0, (2, 141)), (1, (0, c))] [] w
  have L_4 : ∀ (fu : Nat) (b : Int) (i : Int), 0 ≤ i ∧ i ≤ w 141 4 → b = bhV (fun h => w 188 (16 * c + h)) (w 187) (w 157) i.toNat → (w 141 4 - i).toNat < fu → AtN mX12_choice 1 ρ 4 [(0, (2, 141)), (1, (0, c)), (2, (0, b)), (3, (0, i))] [] w := by
    intro fu
    induction fu with
    | zero => intro b i hi hbe hm; exact absurd hm (Nat.not_lt_zero _)
    | succ fu ih =>
      intro b i hi hbe hm
      have hbp := bhV_p (W := fun h => w 188 (16 * c + h)) (pl := w 187) (pr := w 157) i.toNat
      rw [← hbe] at hbp
      have hbp2 : b = -1 ∨ (0 ≤ b ∧ b < i ∧ 0 < w 188 (16 * c + b)) := by rcases hbp with q | ⟨q1, q2, q3, q4⟩; exact Or.inl q; exact Or.inr ⟨q1, by omega, q4⟩
      clear hbp
      refine s_iload_n dX12_choice_4 3 rfl (s_aload_n dX12_choice_5 0 rfl rfl (n_getf 141 4 0 dX12_choice_6 cf_X12 ff_X12_230 rfl sh_141 rfl (by decide) (v := (w 141 4)) rfl (s_icmp_ge 101 dX12_choice_9 (by decide) (fun c_9 => ?_) (fun c_9 => ?_))))
      · skip
        refine s_iload_n dX12_choice_101 2 rfl (n_iret dX12_choice_102 hR rfl ?_)
        have e9 : i = w 141 4 := by omega
        rw [e9] at hbe
        exact ⟨congrArg (fun z => some ((0 : Nat), z)) hbe, rfl⟩
      · skip
        have hl9 := hl i hi.1 (by omega)
        refine s_aload_n dX12_choice_12 0 rfl rfl (n_getc (q := 188) 141 72 198 dX12_choice_13 cf_X12 ff_X12_153 rfl sh_141 rfl (by decide) rfl (by decide) (s_bipush dX12_choice_16 (by decide) (s_iload_n dX12_choice_18 1 rfl (n_mul (z := (16 * c)) dX12_choice_19 (wr_id (by omega) (by omega)) (s_iload_n dX12_choice_20 3 rfl (n_add (z := ((16 * c) + i)) dX12_choice_21 (wr_id (by omega) (by omega)) (n_iald 188 dX12_choice_22 rfl sh_188 (by decide) ⟨(by omega), (by omega)⟩ (v := (w 188 ((16 * c) + i))) rfl (s_istore (ls' := [(0, (2, 141)), (1, (0, c)), (2, (0, b)), (3, (0, i)), (4, (0, (w 188 ((16 * c) + i))))]) dX12_choice_23 (Nat.le_of_ble_eq_true rfl) rfl (s_iload dX12_choice_25 4 rfl ?_)))))))))
        refine s_if_le 95 dX12_choice_27 (by decide) (fun c_27 => ?_) (fun c_27 => ?_)
        · skip
          refine s_iinc (z := (i + 1)) (ls' := [(0, (2, 141)), (1, (0, c)), (2, (0, b)), (3, (0, (i + 1))), (4, (0, (w 188 ((16 * c) + i))))]) dX12_choice_95 3 rfl (Nat.le_of_ble_eq_true rfl) (wr_id (by omega) (by omega)) rfl (s_goto 4 dX12_choice_98 (by decide) ?_)
          exact At.keep (ls' := [(0, (2, 141)), (1, (0, c)), (2, (0, b)), (3, (0, (i + 1)))]) [0, 1, 2, 3] rfl (ih b (i + 1) (by omega) (by rw [bhV_s hi.1, ← hbe]; show _ = if (0 < w 187 i ∧ 0 < w 188 (16 * c + i)) ∧ (b = -1 ∨ w 188 (16 * c + b) < w 188 (16 * c + i) ∨ (w 188 (16 * c + i) = w 188 (16 * c + b) ∧ w 157 i < w 157 b)) then i else b; first | exact (if_pos (by omega)).symm | exact (if_neg (by omega)).symm) (by omega))
        · skip
          refine s_aload_n dX12_choice_30 0 rfl rfl (n_getc (q := 187) 141 71 197 dX12_choice_31 cf_X12 ff_X12_150 rfl sh_141 rfl (by decide) rfl (by decide) (s_iload_n dX12_choice_34 3 rfl (n_iald 187 dX12_choice_35 rfl sh_187 (by decide) ⟨(by omega), (by omega)⟩ (v := (w 187 i)) rfl (s_if_ne 42 dX12_choice_36 (by decide) (fun c_36 => ?_) (fun c_36 => ?_)))))
          · skip
            refine s_iload_n dX12_choice_42 2 rfl (s_iconst dX12_choice_43 (by decide) (s_icmp_ne 51 dX12_choice_44 (by decide) (fun c_44 => ?_) (fun c_44 => ?_)))
            · skip
              refine s_aload_n dX12_choice_51 0 rfl rfl (n_getc (q := 188) 141 72 198 dX12_choice_52 cf_X12 ff_X12_153 rfl sh_141 rfl (by decide) rfl (by decide) (s_bipush dX12_choice_55 (by decide) (s_iload_n dX12_choice_57 1 rfl (n_mul (z := (16 * c)) dX12_choice_58 (wr_id (by omega) (by omega)) (s_iload_n dX12_choice_59 2 rfl (n_add (z := ((16 * c) + b)) dX12_choice_60 (wr_id (by omega) (by omega)) (n_iald 188 dX12_choice_61 rfl sh_188 (by decide) ⟨(by omega), (by omega)⟩ (v := (w 188 ((16 * c) + b))) rfl (s_istore (ls' := [(0, (2, 141)), (1, (0, c)), (2, (0, b)), (3, (0, i)), (4, (0, (w 188 ((16 * c) + i)))), (5, (0, (w 188 ((16 * c) + b))))]) dX12_choice_62 (Nat.le_of_ble_eq_true rfl) rfl (s_iload dX12_choice_64 4 rfl ?_)))))))))
              refine s_iload dX12_choice_66 5 rfl (s_icmp_gt 93 dX12_choice_68 (by decide) (fun c_68 => ?_) (fun c_68 => ?_))
              · skip
                refine s_iload_n dX12_choice_93 3 rfl (s_istore_n (ls' := [(0, (2, 141)), (1, (0, c)), (2, (0, i)), (3, (0, i)), (4, (0, (w 188 ((16 * c) + i)))), (5, (0, (w 188 ((16 * c) + b))))]) dX12_choice_94 (Nat.le_of_ble_eq_true rfl) rfl (s_iinc (z := (i + 1)) (ls' := [(0, (2, 141)), (1, (0, c)), (2, (0, i)), (3, (0, (i + 1))), (4, (0, (w 188 ((16 * c) + i)))), (5, (0, (w 188 ((16 * c) + b))))]) dX12_choice_95 3 rfl (Nat.le_of_ble_eq_true rfl) (wr_id (by omega) (by omega)) rfl (s_goto 4 dX12_choice_98 (by decide) ?_)))
                exact At.keep (ls' := [(0, (2, 141)), (1, (0, c)), (2, (0, i)), (3, (0, (i + 1)))]) [0, 1, 2, 3] rfl (ih i (i + 1) (by omega) (by rw [bhV_s hi.1, ← hbe]; show _ = if (0 < w 187 i ∧ 0 < w 188 (16 * c + i)) ∧ (b = -1 ∨ w 188 (16 * c + b) < w 188 (16 * c + i) ∨ (w 188 (16 * c + i) = w 188 (16 * c + b) ∧ w 157 i < w 157 b)) then i else b; first | exact (if_pos (by omega)).symm | exact (if_neg (by omega)).symm) (by omega))
              · skip
                refine s_iload dX12_choice_71 4 rfl (s_iload dX12_choice_73 5 rfl (s_icmp_ne 95 dX12_choice_75 (by decide) (fun c_75 => ?_) (fun c_75 => ?_)))
                · skip
                  refine s_iinc (z := (i + 1)) (ls' := [(0, (2, 141)), (1, (0, c)), (2, (0, b)), (3, (0, (i + 1))), (4, (0, (w 188 ((16 * c) + i)))), (5, (0, (w 188 ((16 * c) + b))))]) dX12_choice_95 3 rfl (Nat.le_of_ble_eq_true rfl) (wr_id (by omega) (by omega)) rfl (s_goto 4 dX12_choice_98 (by decide) ?_)
                  exact At.keep (ls' := [(0, (2, 141)), (1, (0, c)), (2, (0, b)), (3, (0, (i + 1)))]) [0, 1, 2, 3] rfl (ih b (i + 1) (by omega) (by rw [bhV_s hi.1, ← hbe]; show _ = if (0 < w 187 i ∧ 0 < w 188 (16 * c + i)) ∧ (b = -1 ∨ w 188 (16 * c + b) < w 188 (16 * c + i) ∨ (w 188 (16 * c + i) = w 188 (16 * c + b) ∧ w 157 i < w 157 b)) then i else b; first | exact (if_pos (by omega)).symm | exact (if_neg (by omega)).symm) (by omega))
                · skip
                  refine s_aload_n dX12_choice_78 0 rfl rfl (n_getc (q := 157) 141 25 167 dX12_choice_79 cf_X12 ff_X12_55 rfl sh_141 rfl (by decide) rfl (by decide) (s_iload_n dX12_choice_82 3 rfl (n_iald 157 dX12_choice_83 rfl sh_157 (by decide) ⟨(by omega), (by omega)⟩ (v := (w 157 i)) rfl (s_aload_n dX12_choice_84 0 rfl rfl (n_getc (q := 157) 141 25 167 dX12_choice_85 cf_X12 ff_X12_55 rfl sh_141 rfl (by decide) rfl (by decide) (s_iload_n dX12_choice_88 2 rfl (n_iald 157 dX12_choice_89 rfl sh_157 (by decide) ⟨(by omega), (by omega)⟩ (v := (w 157 b)) rfl (s_icmp_ge 95 dX12_choice_90 (by decide) (fun c_90 => ?_) (fun c_90 => ?_)))))))))
                  · skip
                    refine s_iinc (z := (i + 1)) (ls' := [(0, (2, 141)), (1, (0, c)), (2, (0, b)), (3, (0, (i + 1))), (4, (0, (w 188 ((16 * c) + i)))), (5, (0, (w 188 ((16 * c) + b))))]) dX12_choice_95 3 rfl (Nat.le_of_ble_eq_true rfl) (wr_id (by omega) (by omega)) rfl (s_goto 4 dX12_choice_98 (by decide) ?_)
                    exact At.keep (ls' := [(0, (2, 141)), (1, (0, c)), (2, (0, b)), (3, (0, (i + 1)))]) [0, 1, 2, 3] rfl (ih b (i + 1) (by omega) (by rw [bhV_s hi.1, ← hbe]; show _ = if (0 < w 187 i ∧ 0 < w 188 (16 * c + i)) ∧ (b = -1 ∨ w 188 (16 * c + b) < w 188 (16 * c + i) ∨ (w 188 (16 * c + i) = w 188 (16 * c + b) ∧ w 157 i < w 157 b)) then i else b; first | exact (if_pos (by omega)).symm | exact (if_neg (by omega)).symm) (by omega))
                  · skip
                    refine s_iload_n dX12_choice_93 3 rfl (s_istore_n (ls' := [(0, (2, 141)), (1, (0, c)), (2, (0, i)), (3, (0, i)), (4, (0, (w 188 ((16 * c) + i)))), (5, (0, (w 188 ((16 * c) + b))))]) dX12_choice_94 (Nat.le_of_ble_eq_true rfl) rfl (s_iinc (z := (i + 1)) (ls' := [(0, (2, 141)), (1, (0, c)), (2, (0, i)), (3, (0, (i + 1))), (4, (0, (w 188 ((16 * c) + i)))), (5, (0, (w 188 ((16 * c) + b))))]) dX12_choice_95 3 rfl (Nat.le_of_ble_eq_true rfl) (wr_id (by omega) (by omega)) rfl (s_goto 4 dX12_choice_98 (by decide) ?_)))
                    exact At.keep (ls' := [(0, (2, 141)), (1, (0, c)), (2, (0, i)), (3, (0, (i + 1)))]) [0, 1, 2, 3] rfl (ih i (i + 1) (by omega) (by rw [bhV_s hi.1, ← hbe]; show _ = if (0 < w 187 i ∧ 0 < w 188 (16 * c + i)) ∧ (b = -1 ∨ w 188 (16 * c + b) < w 188 (16 * c + i) ∨ (w 188 (16 * c + i) = w 188 (16 * c + b) ∧ w 157 i < w 157 b)) then i else b; first | exact (if_pos (by omega)).symm | exact (if_neg (by omega)).symm) (by omega))
            · skip
              refine s_iconst dX12_choice_47 (by decide) (s_goto 62 dX12_choice_48 (by decide) (s_istore (ls' := [(0, (2, 141)), (1, (0, c)), (2, (0, b)), (3, (0, i)), (4, (0, (w 188 ((16 * c) + i)))), (5, (0, 0))]) dX12_choice_62 (Nat.le_of_ble_eq_true rfl) rfl (s_iload dX12_choice_64 4 rfl (s_iload dX12_choice_66 5 rfl (s_icmp_gt 93 dX12_choice_68 (by decide) (fun c_68 => ?_) (fun c_68 => ?_))))))
              · skip
                refine s_iload_n dX12_choice_93 3 rfl (s_istore_n (ls' := [(0, (2, 141)), (1, (0, c)), (2, (0, i)), (3, (0, i)), (4, (0, (w 188 ((16 * c) + i)))), (5, (0, 0))]) dX12_choice_94 (Nat.le_of_ble_eq_true rfl) rfl (s_iinc (z := (i + 1)) (ls' := [(0, (2, 141)), (1, (0, c)), (2, (0, i)), (3, (0, (i + 1))), (4, (0, (w 188 ((16 * c) + i)))), (5, (0, 0))]) dX12_choice_95 3 rfl (Nat.le_of_ble_eq_true rfl) (wr_id (by omega) (by omega)) rfl (s_goto 4 dX12_choice_98 (by decide) ?_)))
                exact At.keep (ls' := [(0, (2, 141)), (1, (0, c)), (2, (0, i)), (3, (0, (i + 1)))]) [0, 1, 2, 3] rfl (ih i (i + 1) (by omega) (by rw [bhV_s hi.1, ← hbe]; show _ = if (0 < w 187 i ∧ 0 < w 188 (16 * c + i)) ∧ (b = -1 ∨ w 188 (16 * c + b) < w 188 (16 * c + i) ∨ (w 188 (16 * c + i) = w 188 (16 * c + b) ∧ w 157 i < w 157 b)) then i else b; first | exact (if_pos (by omega)).symm | exact (if_neg (by omega)).symm) (by omega))
              · skip
                refine s_iload dX12_choice_71 4 rfl (s_iload dX12_choice_73 5 rfl (s_icmp_ne 95 dX12_choice_75 (by decide) (fun c_75 => ?_) (fun c_75 => ?_)))
                · skip
                  refine s_iinc (z := (i + 1)) (ls' := [(0, (2, 141)), (1, (0, c)), (2, (0, b)), (3, (0, (i + 1))), (4, (0, (w 188 ((16 * c) + i)))), (5, (0, 0))]) dX12_choice_95 3 rfl (Nat.le_of_ble_eq_true rfl) (wr_id (by omega) (by omega)) rfl (s_goto 4 dX12_choice_98 (by decide) ?_)
                  exact At.keep (ls' := [(0, (2, 141)), (1, (0, c)), (2, (0, b)), (3, (0, (i + 1)))]) [0, 1, 2, 3] rfl (ih b (i + 1) (by omega) (by rw [bhV_s hi.1, ← hbe]; show _ = if (0 < w 187 i ∧ 0 < w 188 (16 * c + i)) ∧ (b = -1 ∨ w 188 (16 * c + b) < w 188 (16 * c + i) ∨ (w 188 (16 * c + i) = w 188 (16 * c + b) ∧ w 157 i < w 157 b)) then i else b; first | exact (if_pos (by omega)).symm | exact (if_neg (by omega)).symm) (by omega))
                · skip
                  refine s_aload_n dX12_choice_78 0 rfl rfl (n_getc (q := 157) 141 25 167 dX12_choice_79 cf_X12 ff_X12_55 rfl sh_141 rfl (by decide) rfl (by decide) (s_iload_n dX12_choice_82 3 rfl (n_iald 157 dX12_choice_83 rfl sh_157 (by decide) ⟨(by omega), (by omega)⟩ (v := (w 157 i)) rfl (s_aload_n dX12_choice_84 0 rfl rfl (n_getc (q := 157) 141 25 167 dX12_choice_85 cf_X12 ff_X12_55 rfl sh_141 rfl (by decide) rfl (by decide) (s_iload_n dX12_choice_88 2 rfl (n_iald 157 dX12_choice_89 rfl sh_157 (by decide) ⟨(by omega), (by omega)⟩ (v := (w 157 b)) rfl (s_icmp_ge 95 dX12_choice_90 (by decide) (fun c_90 => ?_) (fun c_90 => ?_)))))))))
                  · skip
                    refine s_iinc (z := (i + 1)) (ls' := [(0, (2, 141)), (1, (0, c)), (2, (0, b)), (3, (0, (i + 1))), (4, (0, (w 188 ((16 * c) + i)))), (5, (0, 0))]) dX12_choice_95 3 rfl (Nat.le_of_ble_eq_true rfl) (wr_id (by omega) (by omega)) rfl (s_goto 4 dX12_choice_98 (by decide) ?_)
                    exact At.keep (ls' := [(0, (2, 141)), (1, (0, c)), (2, (0, b)), (3, (0, (i + 1)))]) [0, 1, 2, 3] rfl (ih b (i + 1) (by omega) (by rw [bhV_s hi.1, ← hbe]; show _ = if (0 < w 187 i ∧ 0 < w 188 (16 * c + i)) ∧ (b = -1 ∨ w 188 (16 * c + b) < w 188 (16 * c + i) ∨ (w 188 (16 * c + i) = w 188 (16 * c + b) ∧ w 157 i < w 157 b)) then i else b; first | exact (if_pos (by omega)).symm | exact (if_neg (by omega)).symm) (by omega))
                  · skip
                    refine s_iload_n dX12_choice_93 3 rfl (s_istore_n (ls' := [(0, (2, 141)), (1, (0, c)), (2, (0, i)), (3, (0, i)), (4, (0, (w 188 ((16 * c) + i)))), (5, (0, 0))]) dX12_choice_94 (Nat.le_of_ble_eq_true rfl) rfl (s_iinc (z := (i + 1)) (ls' := [(0, (2, 141)), (1, (0, c)), (2, (0, i)), (3, (0, (i + 1))), (4, (0, (w 188 ((16 * c) + i)))), (5, (0, 0))]) dX12_choice_95 3 rfl (Nat.le_of_ble_eq_true rfl) (wr_id (by omega) (by omega)) rfl (s_goto 4 dX12_choice_98 (by decide) ?_)))
                    exact At.keep (ls' := [(0, (2, 141)), (1, (0, c)), (2, (0, i)), (3, (0, (i + 1)))]) [0, 1, 2, 3] rfl (ih i (i + 1) (by omega) (by rw [bhV_s hi.1, ← hbe]; show _ = if (0 < w 187 i ∧ 0 < w 188 (16 * c + i)) ∧ (b = -1 ∨ w 188 (16 * c + b) < w 188 (16 * c + i) ∨ (w 188 (16 * c + i) = w 188 (16 * c + b) ∧ w 157 i < w 157 b)) then i else b; first | exact (if_pos (by omega)).symm | exact (if_neg (by omega)).symm) (by omega))
          · skip
            refine s_goto 95 dX12_choice_39 (by decide) (s_iinc (z := (i + 1)) (ls' := [(0, (2, 141)), (1, (0, c)), (2, (0, b)), (3, (0, (i + 1))), (4, (0, (w 188 ((16 * c) + i))))]) dX12_choice_95 3 rfl (Nat.le_of_ble_eq_true rfl) (wr_id (by omega) (by omega)) rfl (s_goto 4 dX12_choice_98 (by decide) ?_))
            exact At.keep (ls' := [(0, (2, 141)), (1, (0, c)), (2, (0, b)), (3, (0, (i + 1)))]) [0, 1, 2, 3] rfl (ih b (i + 1) (by omega) (by rw [bhV_s hi.1, ← hbe]; show _ = if (0 < w 187 i ∧ 0 < w 188 (16 * c + i)) ∧ (b = -1 ∨ w 188 (16 * c + b) < w 188 (16 * c + i) ∨ (w 188 (16 * c + i) = w 188 (16 * c + b) ∧ w 157 i < w 157 b)) then i else b; first | exact (if_pos (by omega)).symm | exact (if_neg (by omega)).symm) (by omega))
  refine s_iconst dX12_choice_0 (by decide) (s_istore_n (ls' := [(0, (2, 141)), (1, (0, c)), (2, (0, (-1)))]) dX12_choice_1 (Nat.le_of_ble_eq_true rfl) rfl (s_iconst dX12_choice_2 (by decide) (s_istore_n (ls' := [(0, (2, 141)), (1, (0, c)), (2, (0, (-1))), (3, (0, 0))]) dX12_choice_3 (Nat.le_of_ble_eq_true rfl) rfl ?_)))
  exact L_4 _ (-1) 0 (by omega) rfl (Nat.lt_succ_self _)
