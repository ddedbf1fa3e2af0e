/-! WHAT IS BEST FIRST, OVER WHAT IS LEFT. -/
abbrev Ps := Nat → Bool
/-- the first of the least below n, -1 if none -/
def amN (P : Ps) (f : Nat → Int) : Nat → Int
  | 0 => -1
  | n + 1 => if P n = true ∧ (amN P f n = -1 ∨ f n < f (amN P f n).toNat) then n else amN P f n
theorem amN_spec (P : Ps) (f : Nat → Int) : ∀ n : Nat, (amN P f n = -1 ∧ ∀ k, k < n → P k = false) ∨ ∃ b : Nat, amN P f n = b ∧ b < n ∧ P b = true ∧ (∀ k, k < n → P k = true → f b ≤ f k) ∧ ∀ k, k < b → P k = true → f b < f k
  | 0 => Or.inl ⟨rfl, fun k h => absurd h (by omega)⟩
  | n + 1 => by
    rcases amN_spec P f n with ⟨h1, h2⟩ | ⟨b, h1, h2, h3, h4, h5⟩
    · rw [amN, h1]
      by_cases c : P n = true
      · rw [if_pos ⟨c, Or.inl rfl⟩]
        refine Or.inr ⟨n, rfl, by omega, c, fun k hk hp => ?_, fun k hk hp => ?_⟩
        · by_cases e : k = n
          · subst e; exact Int.le_refl _
          · rw [h2 k (by omega)] at hp; cases hp
        · rw [h2 k hk] at hp; cases hp
      · rw [if_neg (fun q => c q.1)]
        refine Or.inl ⟨rfl, fun k hk => ?_⟩
        by_cases e : k = n
        · subst e; exact Bool.eq_false_iff.mpr c
        · exact h2 k (by omega)
    · rw [amN, h1]
      by_cases c : P n = true ∧ ((b : Int) = -1 ∨ f n < f ((b : Int)).toNat)
      · rw [if_pos c]
        have hlt : f n < f b := by
          rcases c.2 with q | q
          · omega
          · exact q
        refine Or.inr ⟨n, rfl, by omega, c.1, fun k hk hp => ?_, fun k hk hp => ?_⟩
        · by_cases e : k = n
          · subst e; exact Int.le_refl _
          · have := h4 k (by omega) hp; omega
        · have := h4 k hk hp; omega
      · rw [if_neg c]
        refine Or.inr ⟨b, rfl, by omega, h3, fun k hk hp => ?_, h5⟩
        by_cases e : k = n
        · subst e
          have : ¬ f k < f b := fun q => c ⟨hp, Or.inr q⟩
          omega
        · exact h4 k (by omega) hp
theorem amN_u {P : Ps} {f : Nat → Int} {n b : Nat} (h1 : b < n) (h2 : P b = true) (h3 : ∀ k, k < n → P k = true → f b ≤ f k) (h4 : ∀ k, k < b → P k = true → f b < f k) : amN P f n = b := by
  rcases amN_spec P f n with ⟨a1, a2⟩ | ⟨c, c1, c2, c3, c4, c5⟩
  · rw [a2 b h1] at h2; cases h2
  · rw [c1]
    rcases Nat.lt_trichotomy b c with q | q | q
    · have := c5 b q h2; have := h3 c c2 c3; omega
    · subst q; rfl
    · have := h4 c q c3; have := c4 b h1 h2; omega
theorem amN_c {P : Ps} {f g : Nat → Int} {n : Nat} (h : ∀ k, k < n → P k = true → f k = g k) : amN P f n = amN P g n := by
  rcases amN_spec P g n with ⟨a1, a2⟩ | ⟨b, c1, c2, c3, c4, c5⟩
  · rcases amN_spec P f n with ⟨b1, b2⟩ | ⟨c, d1, d2, d3, d4, d5⟩
    · rw [a1, b1]
    · rw [a2 c d2] at d3; cases d3
  · rw [c1]
    exact amN_u c2 c3 (fun k hk hp => by rw [h b c2 c3, h k hk hp]; exact c4 k hk hp) (fun k hk hp => by rw [h b c2 c3, h k (by omega) hp]; exact c5 k hk hp)
theorem amN_s {P : Ps} {f : Nat → Int} {i : Int} (h : 0 ≤ i) : amN P f (i + 1).toNat = if P i.toNat = true ∧ (amN P f i.toNat = -1 ∨ f i.toNat < f (amN P f i.toNat).toNat) then i else amN P f i.toNat := by
  rw [toN_s h, amN, toN_c h]
theorem amN_bd (P : Ps) (f : Nat → Int) (n : Nat) : -1 ≤ amN P f n ∧ amN P f n < n := by
  rcases amN_spec P f n with ⟨h1, h2⟩ | ⟨b, h1, h2, h3, h4, h5⟩ <;> omega
/-- without j -/
def rmP (P : Ps) (j : Nat) : Ps := fun x => P x && !decide (x = j)
theorem rmP_t {P : Ps} {j x : Nat} : rmP P j x = true ↔ P x = true ∧ x ≠ j := by unfold rmP; simp
/-- how many below n -/
def cdP (P : Ps) : Nat → Nat
  | 0 => 0
  | n + 1 => cdP P n + (if P n = true then 1 else 0)
theorem cdP_c {P Q : Ps} : ∀ n : Nat, (∀ k, k < n → P k = Q k) → cdP P n = cdP Q n
  | 0, _ => rfl
  | n + 1, h => by rw [cdP, cdP, cdP_c n (fun k hk => h k (by omega)), h n (by omega)]
theorem cdP_rm {P : Ps} {j : Nat} (hj : P j = true) : ∀ n : Nat, j < n → cdP (rmP P j) n + 1 = cdP P n
  | 0, h => absurd h (by omega)
  | n + 1, h => by
    rw [cdP, cdP]
    by_cases e : j = n
    · subst e
      have e1 : cdP (rmP P j) j = cdP P j := cdP_c j (fun k hk => by unfold rmP; rw [decide_eq_false (by omega)]; simp)
      have e2 : rmP P j j = false := by unfold rmP; simp
      rw [e1, e2, hj]
      rfl
    · have ih := cdP_rm hj n (by omega)
      have e2 : rmP P j n = P n := by unfold rmP; rw [decide_eq_false (by omega)]; simp
      rw [e2]
      omega
theorem cdP_0 {P : Ps} : ∀ n : Nat, cdP P n = 0 ↔ ∀ k, k < n → P k = false
  | 0 => ⟨fun _ k h => absurd h (by omega), fun _ => rfl⟩
  | n + 1 => by
    have ih := cdP_0 (P := P) n
    rw [cdP]
    constructor
    · intro h k hk
      by_cases e : k = n
      · subst e
        cases hc : P k with
        | false => rfl
        | true => rw [hc] at h; simp at h
      · exact ih.mp (by omega) k (by omega)
    · intro h
      rw [ih.mpr (fun k hk => h k (by omega)), h n (by omega)]
      rfl
theorem cdP_le (P : Ps) : ∀ n : Nat, cdP P n ≤ n
  | 0 => Nat.le_refl _
  | n + 1 => by
    have := cdP_le P n
    rw [cdP]
    split <;> omega
section VG
variable {c : Int → Ps → Nat → Int} {t : Nat → Int} {n : Nat}
/-- what is left costs at least, with fuel -/
def VG (c : Int → Ps → Nat → Int) (t : Nat → Int) (n : Nat) : Nat → Int → Ps → Int
  | 0, _, _ => 0
  | f + 1, i, P => if amN P (fun j => c i P j + VG c t n f (t j) (rmP P j)) n = -1 then 0 else c i P (amN P (fun j => c i P j + VG c t n f (t j) (rmP P j)) n).toNat + VG c t n f (t (amN P (fun j => c i P j + VG c t n f (t j) (rmP P j)) n).toNat) (rmP P (amN P (fun j => c i P j + VG c t n f (t j) (rmP P j)) n).toNat)
theorem VG_f : ∀ (f : Nat) (i : Int) (P : Ps), cdP P n ≤ f → VG c t n f i P = VG c t n (cdP P n) i P
  | 0, i, P, h => by rw [show cdP P n = 0 by omega]
  | f + 1, i, P, h => by
    rcases Nat.eq_zero_or_pos (cdP P n) with e | e
    · have h0 := (cdP_0 n).mp e
      rw [e, VG, VG]
      have : amN P (fun j => c i P j + VG c t n f (t j) (rmP P j)) n = -1 := by
        rcases amN_spec P (fun j => c i P j + VG c t n f (t j) (rmP P j)) n with q | ⟨b, b1, b2, b3, -⟩
        · exact q.1
        · rw [h0 b b2] at b3; cases b3
      rw [if_pos this]
    · obtain ⟨g, hg⟩ : ∃ g, cdP P n = g + 1 := ⟨cdP P n - 1, by omega⟩
      rw [hg]
      have hk : ∀ k, k < n → P k = true → VG c t n f (t k) (rmP P k) = VG c t n g (t k) (rmP P k) := fun k hk hp => by
        have h1 := cdP_rm hp n hk
        rw [VG_f f (t k) (rmP P k) (by omega), show g = cdP (rmP P k) n by omega]
      have ha : amN P (fun j => c i P j + VG c t n f (t j) (rmP P j)) n = amN P (fun j => c i P j + VG c t n g (t j) (rmP P j)) n := amN_c (fun k h1 h2 => by rw [hk k h1 h2])
      rw [VG, VG, ha]
      rcases amN_spec P (fun j => c i P j + VG c t n g (t j) (rmP P j)) n with ⟨q, -⟩ | ⟨b, b1, b2, b3, -⟩
      · rw [if_pos q, if_pos q]
      · rw [b1, if_neg (by omega), if_neg (by omega), show ((b : Nat) : Int).toNat = b from rfl, hk b b2 b3]
def VV (c : Int → Ps → Nat → Int) (t : Nat → Int) (n : Nat) (i : Int) (P : Ps) : Int := VG c t n (cdP P n) i P
/-- what is left costs if j goes first -/
def afV (c : Int → Ps → Nat → Int) (t : Nat → Int) (n : Nat) (i : Int) (P : Ps) (j : Nat) : Int := c i P j + VV c t n (t j) (rmP P j)
def nxV (c : Int → Ps → Nat → Int) (t : Nat → Int) (n : Nat) (i : Int) (P : Ps) : Int := amN P (afV c t n i P) n
theorem VV_0 {i : Int} {P : Ps} (h : ∀ k, k < n → P k = false) : VV c t n i P = 0 := by
  unfold VV
  rw [(cdP_0 n).mpr h]
  rfl
theorem VV_eq {i : Int} {P : Ps} {b : Nat} (h : nxV c t n i P = b) : VV c t n i P = afV c t n i P b := by
  rcases amN_spec P (afV c t n i P) n with ⟨q, -⟩ | ⟨b', b1, b2, b3, -⟩
  · unfold nxV at h; omega
  · have e : b' = b := by unfold nxV at h; omega
    subst e
    have h1 := cdP_rm b3 n b2
    unfold VV
    rw [← h1, VG]
    have hk : ∀ k, k < n → P k = true → VG c t n (cdP (rmP P b') n) (t k) (rmP P k) = VV c t n (t k) (rmP P k) := fun k hk hp => by
      have h2 := cdP_rm hp n hk
      unfold VV
      rw [show cdP (rmP P b') n = cdP (rmP P k) n by omega]
    have ha : amN P (fun j => c i P j + VG c t n (cdP (rmP P b') n) (t j) (rmP P j)) n = b' := by
      rw [← b1]
      exact amN_c (fun k a d => by show _ = c i P k + VV c t n (t k) (rmP P k); rw [hk k a d])
    rw [ha, if_neg (by omega)]
    show c i P b' + VG c t n (cdP (rmP P b') n) (t b') (rmP P b') = c i P b' + VV c t n (t b') (rmP P b')
    rw [hk b' b2 b3]
theorem nxV_spec (i : Int) (P : Ps) (h : ∃ k, k < n ∧ P k = true) : ∃ b : Nat, nxV c t n i P = b ∧ b < n ∧ P b = true ∧ VV c t n i P = afV c t n i P b ∧ (∀ k, k < n → P k = true → VV c t n i P ≤ afV c t n i P k) ∧ ∀ k, k < b → P k = true → VV c t n i P < afV c t n i P k := by
  rcases amN_spec P (afV c t n i P) n with ⟨q, h0⟩ | ⟨b, b1, b2, b3, b4, b5⟩
  · obtain ⟨k, k1, k2⟩ := h
    rw [h0 k k1] at k2; cases k2
  · have e := VV_eq (c := c) (t := t) (n := n) (i := i) (P := P) (b := b) b1
    exact ⟨b, b1, b2, b3, e, fun k h1 h2 => by rw [e]; exact b4 k h1 h2, fun k h1 h2 => by rw [e]; exact b5 k h1 h2⟩
theorem VV_bd {C : Int} (hC : 0 ≤ C) (hc : ∀ i P j, j < n → P j = true → 0 ≤ c i P j ∧ c i P j ≤ C) : ∀ (m : Nat) (i : Int) (P : Ps), cdP P n = m → 0 ≤ VV c t n i P ∧ VV c t n i P ≤ C * m
  | 0, i, P, h => by rw [VV_0 ((cdP_0 n).mp h)]; simp
  | m + 1, i, P, h => by
    have hex : ∃ k, k < n ∧ P k = true := by
      rcases amN_spec P (fun _ => 0) n with ⟨-, q⟩ | ⟨b, -, b2, b3, -⟩
      · rw [(cdP_0 n).mpr q] at h; omega
      · exact ⟨b, b2, b3⟩
    obtain ⟨b, b1, b2, b3, b4, -⟩ := nxV_spec (c := c) (t := t) (n := n) i P hex
    have h1 := cdP_rm b3 n b2
    have ih := VV_bd hC hc m (t b) (rmP P b) (by omega)
    have h2 := hc i P b b2 b3
    rw [b4]
    unfold afV
    have e : C * ((m + 1 : Nat) : Int) = C * m + C := by rw [Int.natCast_add, Int.mul_add]; simp
    omega
/-- what goes k-th, where the gang or the stage stands then, what is left -/
def sqV (c : Int → Ps → Nat → Int) (t : Nat → Int) (n : Nat) (i : Int) (P : Ps) : Nat → Int × Int × Ps
  | 0 => (-1, i, P)
  | k + 1 => (nxV c t n (sqV c t n i P k).2.1 (sqV c t n i P k).2.2, t (nxV c t n (sqV c t n i P k).2.1 (sqV c t n i P k).2.2).toNat, rmP (sqV c t n i P k).2.2 (nxV c t n (sqV c t n i P k).2.1 (sqV c t n i P k).2.2).toNat)
theorem sqV_cd {i : Int} {P : Ps} : ∀ k : Nat, k ≤ cdP P n → cdP (sqV c t n i P k).2.2 n + k = cdP P n
  | 0, _ => rfl
  | k + 1, h => by
    have ih := sqV_cd (i := i) (P := P) k (by omega)
    rw [sqV]
    generalize sqV c t n i P k = S at ih ⊢
    obtain ⟨o, j, Q⟩ := S
    dsimp only at ih ⊢
    have hex : ∃ k, k < n ∧ Q k = true := by
      rcases amN_spec Q (fun _ => 0) n with ⟨-, q⟩ | ⟨b, -, b2, b3, -⟩
      · rw [(cdP_0 n).mpr q] at ih; omega
      · exact ⟨b, b2, b3⟩
    obtain ⟨b, b1, b2, b3, -⟩ := nxV_spec (c := c) (t := t) (n := n) j Q hex
    rw [b1]
    show cdP (rmP Q b) n + (k + 1) = _
    have h1 := cdP_rm b3 n b2
    omega
end VG
/-- a set as its members -/
def mbP (s : Int) : Ps := fun j => s.toNat.testBit j
theorem mbP_bt {s j : Int} (h0 : 0 ≤ s) (h1 : s < 65536) (hj : 0 ≤ j) (hj1 : j < 32) : bt s j = 1 ↔ mbP s j.toNat = true := by
  rw [btI h0 (by omega) hj hj1]
  unfold mbP
  split <;> simp_all
theorem cd_pp {s n : Int} (h0 : 0 ≤ s) (h1 : s < 65536) (hn : 0 ≤ n) (hs : s < 2 ^ n.toNat) : ((cdP (mbP s) n.toNat : Nat) : Int) = ppI s := by
  have hz : ∀ k : Nat, n.toNat ≤ k → mbP s k = false := fun k hk => by
    have e : ((2 ^ n.toNat : Nat) : Int) = 2 ^ n.toNat := by simp
    exact Nat.testBit_lt_two_pow (Nat.lt_of_lt_of_le (show s.toNat < 2 ^ n.toNat by omega) (Nat.pow_le_pow_right (by omega) hk))
  have hz2 : ∀ k : Nat, 16 ≤ k → mbP s k = false := fun k hk =>
    Nat.testBit_lt_two_pow (Nat.lt_of_lt_of_le (show s.toNat < 2 ^ 16 by omega) (Nat.pow_le_pow_right (by omega) hk))
  have hs1 : ∀ m : Nat, m ≤ 20 → sumI (fun k => bt s k) m = ((cdP (mbP s) m : Nat) : Int) := by
    intro m
    induction m with
    | zero => intro _; rfl
    | succ m ih =>
      intro hm
      rw [sumI, cdP, ih (by omega)]
      have hb := mbP_bt (s := s) (j := (m : Int)) h0 h1 (by omega) (by omega)
      have h01 := bt01 s m
      rw [show ((m : Int)).toNat = m from rfl] at hb
      by_cases c : mbP s m = true
      · rw [if_pos c, hb.mpr c]; rfl
      · rw [if_neg c]
        have : ¬ bt s m = 1 := fun q => c (hb.mp q)
        rw [show bt s m = 0 by omega]
        rfl
  have hext : ∀ (a d : Nat), (∀ k, a ≤ k → mbP s k = false) → cdP (mbP s) (a + d) = cdP (mbP s) a := by
    intro a d h
    induction d with
    | zero => rfl
    | succ d ih => rw [← Nat.add_assoc, cdP, ih, h (a + d) (by omega)]; rfl
  unfold ppI
  rw [hs1 20 (by omega)]
  rcases Nat.le_total n.toNat 20 with q | q
  · have := hext n.toNat (20 - n.toNat) hz
    rw [show n.toNat + (20 - n.toNat) = 20 by omega] at this
    rw [this]
  · have h2 := hext 16 (n.toNat - 16) hz2
    have h3 := hext 16 4 hz2
    rw [show 16 + (n.toNat - 16) = n.toNat by omega] at h2
    rw [show 16 + 4 = 20 from rfl] at h3
    rw [h2, h3]
theorem mbP_clr {s j : Int} (h0 : 0 ≤ s) (h1 : s < 65536) (hj : 0 ≤ j) (hj1 : j < 31) : ∃ l : Nat, iand s (ixor (ishl 1 j) (-1)) = (l : Int) ∧ (l : Int) ≤ s ∧ mbP (l : Int) = rmP (mbP s) j.toNat ∧ (mbP s j.toNat = true → (l : Int) < s) := by
  have e := iclr_N (a := s.toNat) (k := j.toNat) (by omega) (by omega)
  rw [show ((s.toNat : Nat) : Int) = s by omega, show ((j.toNat : Nat) : Int) = j by omega] at e
  have hl := clr_le s.toNat j.toNat
  refine ⟨_, e, by omega, ?_, fun h => ?_⟩
  · funext x
    unfold mbP rmP
    exact clr_bit (a := s.toNat) (k := j.toNat) (by omega) (by omega)
  · rcases Nat.lt_or_ge (clr s.toNat j.toNat) s.toNat with q | q
    · omega
    · have e2 : clr s.toNat j.toNat = s.toNat := by omega
      have h3 := clr_bit (a := s.toNat) (k := j.toNat) (j := j.toNat) (by omega) (by omega)
      rw [e2] at h3
      unfold mbP at h
      rw [h] at h3
      simp at h3
theorem mbP_0 {s : Int} (h0 : 0 ≤ s) (h : ∀ k, mbP s k = false) : s = 0 := by
  have : s.toNat = 0 := Nat.eq_of_testBit_eq (fun j => by rw [Nat.zero_testBit]; exact h j)
  omega
theorem mbP_lt {s : Int} {n k : Nat} (h0 : 0 ≤ s) (h : s < 2 ^ n) (hk : mbP s k = true) : k < n := by
  rcases Nat.lt_or_ge k n with q | q
  · exact q
  · have e : ((2 ^ n : Nat) : Int) = 2 ^ n := by simp
    have : s.toNat.testBit k = false := Nat.testBit_lt_two_pow (Nat.lt_of_lt_of_le (show s.toNat < 2 ^ n by omega) (Nat.pow_le_pow_right (by omega) q))
    unfold mbP at hk
    rw [this] at hk; cases hk
theorem ishl1_pow {c : Int} (h0 : 0 ≤ c) (h1 : c ≤ 16) : ishl 1 c = 2 ^ c.toNat := by
  have := ishl1 c.toNat (by omega)
  rw [show ((c.toNat : Nat) : Int) = c by omega] at this
  rw [this]
  simp
