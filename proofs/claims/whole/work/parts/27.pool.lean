/-! POOL. -/
theorem sumI_bd2 {f : Int → Int} {B : Int} : ∀ n : Nat, (∀ j : Int, 0 ≤ j → j < n → -B ≤ f j ∧ f j ≤ B) → -(B * n) ≤ sumI f n ∧ sumI f n ≤ B * n
  | 0, _ => by simp [sumI]
  | n + 1, h => by
    have ih := sumI_bd2 n (fun j h1 h2 => h j h1 (by omega))
    have h2 := h n (by omega) (by omega)
    rw [sumI]
    have e : B * ((n + 1 : Nat) : Int) = B * n + B := by rw [Int.natCast_add, Int.mul_add]; simp
    omega
/-- what the clauses of a set are worth -/
def wtS (g : Int → Int) (s : Int) (n : Int) : Int := sumI (fun i => bt s i * g i) n.toNat
theorem bt_mul {s i x B : Int} (h : -B ≤ x ∧ x ≤ B) : -B ≤ bt s i * x ∧ bt s i * x ≤ B := by
  rcases bt01 s i with e | e <;> rw [e] <;> omega
theorem wtS_bd {g : Int → Int} {s n : Int} (h0 : 0 ≤ n) (h : ∀ j, 0 ≤ j → j < n → -99 ≤ g j ∧ g j ≤ 99) : -(99 * n) ≤ wtS g s n ∧ wtS g s n ≤ 99 * n := by
  have h2 := sumI_bd2 (f := fun i => bt s i * g i) (B := 99) n.toNat (fun j a b => bt_mul (h j a (by omega)))
  rwa [toN_c h0] at h2
theorem wtS_s {g : Int → Int} {s i : Int} (h : 0 ≤ i) : wtS g s (i + 1) = wtS g s i + bt s i * g i := sumI_s h
theorem wtS_c {g g' : Int → Int} {s n : Int} (h : ∀ j, 0 ≤ j → j < n → g j = g' j) : wtS g s n = wtS g' s n :=
  sumI_cong _ (fun j a b => by show bt s j * g j = bt s j * g' j; rw [h j a (by omega)])
def wX (w : Wd) (s f : Int) : Int := wtS (w (137 + Int.toNat f)) s (w 135 2)
def wM (w : Wd) (s f : Int) : Int := wtS (fun i => w 208 (3 * i + f)) s (w 141 9)
def allX (w : Wd) (s : Int) : Int := wX w s 0 + wX w s 1 + wX w s 2
def allM (w : Wd) (s : Int) : Int := wM w s 0 + wM w s 1 + wM w s 2
def sgV (a b c : Prop) [Decidable a] [Decidable b] [Decidable c] : Int := (if a then 1 else 0) + (if b then 2 else 0) + (if c then 4 else 0)
def sgX (w : Wd) (s : Int) : Int := sgV (w 140 0 ≤ wX w s 0) (w 140 1 ≤ wX w s 1) (w 140 2 ≤ wX w s 2)
def outV (z : Int) : Int := if ior z (ishl 1 0) = 7 then 0 else if ior z (ishl 1 1) = 7 then 1 else if ior z (ishl 1 2) = 7 then 2 else 3
theorem sg_f : ∀ a b c : Bool, let o := outV (sgV (a = true) (b = true) (c = true)); (sgV (a = true) (b = true) (c = true) = 7 ↔ (a && b && c) = true) ∧ 0 ≤ o ∧ o ≤ 3 ∧ (0 < o → (b && c) = false) ∧ (1 < o → (c && a) = false) ∧ (2 < o → (a && b) = false) ∧ (o = 0 → (b && c) = true) ∧ (o = 1 → (c && a) = true) ∧ (o = 2 → (a && b) = true) := by decide +kernel
theorem sgV_b (a b c : Prop) [Decidable a] [Decidable b] [Decidable c] : sgV a b c = sgV (decide a = true) (decide b = true) (decide c = true) := by
  unfold sgV; simp only [decide_eq_true_eq]
theorem sg_f' (a b c : Prop) [Decidable a] [Decidable b] [Decidable c] : (sgV a b c = 7 ↔ a ∧ b ∧ c) ∧ 0 ≤ outV (sgV a b c) ∧ outV (sgV a b c) ≤ 3 ∧ (0 < outV (sgV a b c) → ¬ (b ∧ c)) ∧ (1 < outV (sgV a b c) → ¬ (c ∧ a)) ∧ (2 < outV (sgV a b c) → ¬ (a ∧ b)) ∧ (outV (sgV a b c) = 0 → b ∧ c) ∧ (outV (sgV a b c) = 1 → c ∧ a) ∧ (outV (sgV a b c) = 2 → a ∧ b) := by
  have h := sg_f (decide a) (decide b) (decide c)
  simp only [← sgV_b, Bool.and_eq_true, Bool.and_eq_false_iff, decide_eq_true_eq, decide_eq_false_iff_not] at h
  obtain ⟨h1, h2, h3, h4, h5, h6, h7, h8, h9⟩ := h
  exact ⟨h1.trans ⟨fun q => ⟨q.1.1, q.1.2, q.2⟩, fun q => ⟨⟨q.1, q.2.1⟩, q.2.2⟩⟩, h2, h3, fun q r => by rcases h4 q with z | z; exact z r.1; exact z r.2, fun q r => by rcases h5 q with z | z; exact z r.1; exact z r.2, fun q r => by rcases h6 q with z | z; exact z r.1; exact z r.2, h7, h8, h9⟩
/-- the pool among the first n sets -/
def bsI (σ A : Int → Int) : Nat → Int
  | 0 => -1
  | n + 1 => if σ n = 7 ∧ (bsI σ A n = -1 ∨ A (bsI σ A n) < A n) then n else bsI σ A n
theorem bsI_s {σ A : Int → Int} {i : Int} (h : 0 ≤ i) : bsI σ A (i + 1).toNat = if σ i = 7 ∧ (bsI σ A i.toNat = -1 ∨ A (bsI σ A i.toNat) < A i) then i else bsI σ A i.toNat := by rw [toN_s h, bsI, toN_c h]
theorem bsI_bd (σ A : Int → Int) : ∀ n : Nat, -1 ≤ bsI σ A n ∧ bsI σ A n < n
  | 0 => by simp [bsI]
  | n + 1 => by
    have ih := bsI_bd σ A n
    rw [bsI]
    split <;> omega
theorem bsI_c {σ σ' A A' : Int → Int} : ∀ n : Nat, (∀ j : Int, 0 ≤ j → j < n → (σ j = 7 ↔ σ' j = 7)) → (∀ j : Int, 0 ≤ j → j < n → A j = A' j) → bsI σ A n = bsI σ' A' n
  | 0, _, _ => rfl
  | n + 1, h, h2 => by
    rw [bsI, bsI, bsI_c n (fun j a b => h j a (by omega)) (fun j a b => h2 j a (by omega)), ← h2 n (by omega) (by omega)]
    have e1 := h n (by omega) (by omega)
    have hb := bsI_bd σ' A' n
    by_cases hq : bsI σ' A' n = -1
    · simp only [hq, e1, true_or]
    · rw [← h2 (bsI σ' A' n) (by omega) (by omega)]
      simp only [e1]
/-- the least firm that may be shut out, among the first n sets -/
def loI (σ : Int → Int) : Nat → Int
  | 0 => 3
  | n + 1 => mnL (loI σ n) (outV (σ n))
theorem loI_s {σ : Int → Int} {i : Int} (h : 0 ≤ i) : loI σ (i + 1).toNat = mnL (loI σ i.toNat) (outV (σ i)) := by rw [toN_s h, loI, toN_c h]
def ShO (B : Int → Int → Prop) (N z : Int) : Prop := (0 ≤ z ∧ z ≤ 3) ∧ (∀ f n, 0 ≤ f → f < z → 0 ≤ n → n < N → ¬ (B ((f + 1) % 3) n ∧ B ((f + 2) % 3) n)) ∧ (z < 3 → ∃ n, 0 ≤ n ∧ n < N ∧ B ((z + 1) % 3) n ∧ B ((z + 2) % 3) n)
theorem ShO_u {B : Int → Int → Prop} {N z z' : Int} (h : ShO B N z) (h' : ShO B N z') : z = z' := by
  obtain ⟨⟨a1, a2⟩, a3, a4⟩ := h
  obtain ⟨⟨b1, b2⟩, b3, b4⟩ := h'
  rcases Int.lt_trichotomy z z' with c | c | c
  · obtain ⟨n, n1, n2, n3, n4⟩ := a4 (by omega)
    exact absurd ⟨n3, n4⟩ (b3 z n a1 c n1 n2)
  · exact c
  · obtain ⟨n, n1, n2, n3, n4⟩ := b4 (by omega)
    exact absurd ⟨n3, n4⟩ (a3 z' n b1 c n1 n2)
theorem ShO_lo {B : Int → Int → Prop} {d0 : DecidablePred (B 0)} {d1 : DecidablePred (B 1)} {d2 : DecidablePred (B 2)} : ∀ n : Nat, ShO B n (loI (fun s => sgV (B 0 s) (B 1 s) (B 2 s)) n)
  | 0 => ⟨by simp [loI], fun f n _ _ a b => absurd a (by omega), fun h => absurd h (by simp [loI])⟩
  | n + 1 => by
    obtain ⟨a1, a3, a4⟩ := ShO_lo (d0 := d0) (d1 := d1) (d2 := d2) n
    have g := sg_f' (B 0 n) (B 1 n) (B 2 n)
    rw [loI]
    generalize loI (fun s => sgV (B 0 s) (B 1 s) (B 2 s)) n = l at a1 a3 a4 ⊢
    show ShO B _ (mnL l (outV (sgV (B 0 n) (B 1 n) (B 2 n))))
    generalize outV (sgV (B 0 n) (B 1 n) (B 2 n)) = o at g ⊢
    obtain ⟨-, g2, g3, g4, g5, g6, g7, g8, g9⟩ := g
    unfold mnL
    refine ⟨by split <;> omega, fun f m h0 h1 m0 m1 => ?_, fun h => ?_⟩
    · have h1' : f < l ∧ f < o := by split at h1 <;> omega
      by_cases e : m = n
      · subst e
        rcases (show f = 0 ∨ f = 1 ∨ f = 2 from by omega) with rfl | rfl | rfl
        · exact g4 (by omega)
        · exact g5 (by omega)
        · exact g6 (by omega)
      · exact a3 f m h0 h1'.1 m0 (by omega)
    · split at h
      · rename_i c
        rw [if_pos c]
        obtain ⟨m, m0, m1, m2⟩ := a4 h
        exact ⟨m, m0, by omega, m2⟩
      · rename_i c
        rw [if_neg c]
        refine ⟨n, by omega, by omega, ?_⟩
        rcases (show o = 0 ∨ o = 1 ∨ o = 2 from by omega) with e | e | e
        · rw [e]; exact g7 e
        · rw [e]; exact g8 e
        · rw [e]; exact g9 e

set_option maxRecDepth 100000 in
theorem c_X_worthTo (f s : Int) (w : Wd) (hf : 0 ≤ f ∧ f < 3) (h : 0 ≤ w 135 2 ∧ w 135 2 ≤ 9) (hb : ∀ f j, 0 ≤ f → f < 3 → 0 ≤ j → j < w 135 2 → -99 ≤ w (137 + Int.toNat f) j ∧ w (137 + Int.toNat f) j ≤ 99) : CallN 2 mX9_worthTo [(2, 135), (0, f), (0, s)] w (RV (0, wX w s f) w) := by
  refine CallN.intro (by decide +kernel) (Nat.le_of_ble_eq_true rfl) (fun ρ hR => ?_)
  show AtN mX9_worthTo 2 ρ 0 [(0, (2, 135)), (1, (0, f)), (2, (0, s))] [] w
  have L_5 : ∀ (fu : Nat) (i : Int) (a : Int), 0 ≤ i ∧ i ≤ w 135 2 → a = wtS (w (137 + Int.toNat f)) s i → (w 135 2 - i).toNat < fu → AtN mX9_worthTo 2 ρ 5 [(0, (2, 135)), (1, (0, f)), (2, (0, s)), (3, (0, a)), (4, (0, i))] [] w := by
    intro fu
    induction fu with
    | zero => intro i a hi ha hm; exact absurd hm (Nat.not_lt_zero _)
    | succ fu ih =>
      intro i a hi ha hm
      have qa := wtS_bd (g := w (137 + Int.toNat f)) (s := s) hi.1 (fun j a b => hb f j hf.1 hf.2 a (by omega))
      rw [← ha] at qa
      refine s_iload dX9_worthTo_5 4 rfl (s_aload_n dX9_worthTo_7 0 rfl rfl (n_getf 135 2 0 dX9_worthTo_8 cf_X9 ff_X9_24 rfl sh_135 rfl (by decide) (v := (w 135 2)) rfl (s_icmp_ge 41 dX9_worthTo_11 (by decide) (fun c_11 => ?_) (fun c_11 => ?_))))
      · skip
        refine s_iload_n dX9_worthTo_41 3 rfl (n_iret dX9_worthTo_42 hR rfl ?_)
        have e9 : i = w 135 2 := by omega
        rw [e9] at ha
        exact ⟨congrArg (fun z => some ((0 : Nat), z)) ha, rfl⟩
      · skip
        refine s_iload_n dX9_worthTo_14 2 rfl (s_iload dX9_worthTo_15 4 rfl (n_invT (as := [(0, s), (0, i)]) dX9_worthTo_17 kv_X11_has ml_X9_28 (c_X_has s i w) (by decide) rfl rfl (Nat.le_of_ble_eq_true rfl) (n_ifeq_b 35 dX9_worthTo_20 (by decide) (fun c_20 => ?_) (fun c_20 => ?_))))
        · skip
          refine s_iinc (z := (i + 1)) (ls' := [(0, (2, 135)), (1, (0, f)), (2, (0, s)), (3, (0, a)), (4, (0, (i + 1)))]) dX9_worthTo_35 4 rfl (Nat.le_of_ble_eq_true rfl) (wr_id (by omega) (by omega)) rfl (s_goto 5 dX9_worthTo_38 (by decide) ?_)
          exact ih (i + 1) a (by omega) (by rw [wtS_s hi.1, ← ha]; have hb := bt01 s i; first | (rw [show bt s i = 0 by omega]; omega) | (rw [show bt s i = 1 by omega]; omega)) (by omega)
        · skip
          have hb9 := hb f i hf.1 hf.2 hi.1 (by omega)
          refine s_iload_n dX9_worthTo_23 3 rfl (s_aload_n dX9_worthTo_24 0 rfl rfl (n_getc (q := 136) 135 0 146 dX9_worthTo_25 cf_X9 ff_X9_11 rfl sh_135 rfl (by decide) rfl (by decide) (s_iload_n dX9_worthTo_28 1 rfl (s_aaload6 136 dX9_worthTo_29 rfl sh_136 (by decide) ⟨(by omega), (by omega)⟩ (s_iload dX9_worthTo_30 4 rfl (n_iald (137 + Int.toNat f) dX9_worthTo_32 rfl (rowsh_137 _ (by omega)) (by decide) ⟨(by omega), (by omega)⟩ (v := (w (137 + Int.toNat f) i)) rfl (n_add (z := (a + (w (137 + Int.toNat f) i))) dX9_worthTo_33 (wr_id (by omega) (by omega)) (s_istore_n (ls' := [(0, (2, 135)), (1, (0, f)), (2, (0, s)), (3, (0, (a + (w (137 + Int.toNat f) i)))), (4, (0, i))]) dX9_worthTo_34 (Nat.le_of_ble_eq_true rfl) rfl (s_iinc (z := (i + 1)) (ls' := [(0, (2, 135)), (1, (0, f)), (2, (0, s)), (3, (0, (a + (w (137 + Int.toNat f) i)))), (4, (0, (i + 1)))]) dX9_worthTo_35 4 rfl (Nat.le_of_ble_eq_true rfl) (wr_id (by omega) (by omega)) rfl ?_)))))))))
          refine s_goto 5 dX9_worthTo_38 (by decide) ?_
          exact ih (i + 1) (a + (w (137 + Int.toNat f) i)) (by omega) (by rw [wtS_s hi.1, ← ha]; have hb := bt01 s i; first | (rw [show bt s i = 0 by omega]; omega) | (rw [show bt s i = 1 by omega]; omega)) (by omega)
  refine s_iconst dX9_worthTo_0 (by decide) (s_istore_n (ls' := [(0, (2, 135)), (1, (0, f)), (2, (0, s)), (3, (0, 0))]) dX9_worthTo_1 (Nat.le_of_ble_eq_true rfl) rfl (s_iconst dX9_worthTo_2 (by decide) (s_istore (ls' := [(0, (2, 135)), (1, (0, f)), (2, (0, s)), (3, (0, 0)), (4, (0, 0))]) dX9_worthTo_3 (Nat.le_of_ble_eq_true rfl) rfl ?_)))
  exact L_5 _ 0 0 (by omega) rfl (Nat.lt_succ_self _)

theorem wX_bd {w : Wd} {s : Int} (h : 0 ≤ w 135 2 ∧ w 135 2 ≤ 9) (hb : ∀ f j, 0 ≤ f → f < 3 → 0 ≤ j → j < w 135 2 → -99 ≤ w (137 + Int.toNat f) j ∧ w (137 + Int.toNat f) j ≤ 99) (f : Int) (h0 : 0 ≤ f) (h1 : f < 3) : -891 ≤ wX w s f ∧ wX w s f ≤ 891 := by
  have h2 := wtS_bd (g := w (137 + Int.toNat f)) (s := s) h.1 (fun j a b => hb f j h0 h1 a b)
  unfold wX
  omega
set_option maxRecDepth 100000 in
set_option maxHeartbeats 1000000 in
theorem c_X_signers (s : Int) (w : Wd) (h : 0 ≤ w 135 2 ∧ w 135 2 ≤ 9) (hb : ∀ f j, 0 ≤ f → f < 3 → 0 ≤ j → j < w 135 2 → -99 ≤ w (137 + Int.toNat f) j ∧ w (137 + Int.toNat f) j ≤ 99) : CallN 3 mX9_signers [(2, 135), (0, s)] w (RV (0, sgX w s) w) := by
  refine CallN.intro (by decide +kernel) (Nat.le_of_ble_eq_true rfl) (fun ρ hR => ?_)
  show AtN mX9_signers 3 ρ 0 [(0, (2, 135)), (1, (0, s))] [] w
  refine s_iconst dX9_signers_0 (by decide) (s_istore_n (ls' := [(0, (2, 135)), (1, (0, s)), (2, (0, 0))]) dX9_signers_1 (Nat.le_of_ble_eq_true rfl) rfl (s_iconst dX9_signers_2 (by decide) (s_istore_n (ls' := [(0, (2, 135)), (1, (0, s)), (2, (0, 0)), (3, (0, 0))]) dX9_signers_3 (Nat.le_of_ble_eq_true rfl) rfl (s_iload_n dX9_signers_4 3 rfl (s_iconst dX9_signers_5 (by decide) (s_icmp_ge 36 dX9_signers_6 (by decide) (kt := fun c => absurd c (by decide)) (kf := fun _ => s_aload_n dX9_signers_9 0 rfl rfl (s_iload_n dX9_signers_10 3 rfl (s_iload_n dX9_signers_11 1 rfl ?_)))))))))
  refine n_invV (as := [(0, 0), (0, s)]) dX9_signers_12 kv_X9_worthTo ml_X9_58 (c_X_worthTo 0 s w ⟨by decide, by decide⟩ h hb) (by decide) 135 cf_X9 rfl sh_135 rfl rfl rfl (Nat.le_of_ble_eq_true rfl) (s_aload_n dX9_signers_15 0 rfl rfl (n_getc (q := 140) 135 1 150 dX9_signers_16 cf_X9 ff_X9_16 rfl sh_135 rfl (by decide) rfl (by decide) (s_iload_n dX9_signers_19 3 rfl (n_iald 140 dX9_signers_20 rfl sh_140 (by decide) (by decide) (v := (w 140 0)) rfl (s_icmp_lt 30 dX9_signers_21 (by decide) (fun c_21 => ?_) (fun c_21 => ?_))))))
  · skip
    refine s_iinc (z := 1) (ls' := [(0, (2, 135)), (1, (0, s)), (2, (0, 0)), (3, (0, 1))]) dX9_signers_30 3 rfl (Nat.le_of_ble_eq_true rfl) (by decide) rfl (s_goto 4 dX9_signers_33 (by decide) (s_iload_n dX9_signers_4 3 rfl (s_iconst dX9_signers_5 (by decide) (s_icmp_ge 36 dX9_signers_6 (by decide) (kt := fun c => absurd c (by decide)) (kf := fun _ => s_aload_n dX9_signers_9 0 rfl rfl (s_iload_n dX9_signers_10 3 rfl (s_iload_n dX9_signers_11 1 rfl (n_invV (as := [(0, 1), (0, s)]) dX9_signers_12 kv_X9_worthTo ml_X9_58 (c_X_worthTo 1 s w ⟨by decide, by decide⟩ h hb) (by decide) 135 cf_X9 rfl sh_135 rfl rfl rfl (Nat.le_of_ble_eq_true rfl) (s_aload_n dX9_signers_15 0 rfl rfl ?_)))))))))
    refine n_getc (q := 140) 135 1 150 dX9_signers_16 cf_X9 ff_X9_16 rfl sh_135 rfl (by decide) rfl (by decide) (s_iload_n dX9_signers_19 3 rfl (n_iald 140 dX9_signers_20 rfl sh_140 (by decide) (by decide) (v := (w 140 1)) rfl (s_icmp_lt 30 dX9_signers_21 (by decide) (fun c_21 => ?_) (fun c_21 => ?_))))
    · skip
      refine s_iinc (z := 2) (ls' := [(0, (2, 135)), (1, (0, s)), (2, (0, 0)), (3, (0, 2))]) dX9_signers_30 3 rfl (Nat.le_of_ble_eq_true rfl) (by decide) rfl (s_goto 4 dX9_signers_33 (by decide) (s_iload_n dX9_signers_4 3 rfl (s_iconst dX9_signers_5 (by decide) (s_icmp_ge 36 dX9_signers_6 (by decide) (kt := fun c => absurd c (by decide)) (kf := fun _ => s_aload_n dX9_signers_9 0 rfl rfl (s_iload_n dX9_signers_10 3 rfl (s_iload_n dX9_signers_11 1 rfl (n_invV (as := [(0, 2), (0, s)]) dX9_signers_12 kv_X9_worthTo ml_X9_58 (c_X_worthTo 2 s w ⟨by decide, by decide⟩ h hb) (by decide) 135 cf_X9 rfl sh_135 rfl rfl rfl (Nat.le_of_ble_eq_true rfl) (s_aload_n dX9_signers_15 0 rfl rfl ?_)))))))))
      refine n_getc (q := 140) 135 1 150 dX9_signers_16 cf_X9 ff_X9_16 rfl sh_135 rfl (by decide) rfl (by decide) (s_iload_n dX9_signers_19 3 rfl (n_iald 140 dX9_signers_20 rfl sh_140 (by decide) (by decide) (v := (w 140 2)) rfl (s_icmp_lt 30 dX9_signers_21 (by decide) (fun c_21 => ?_) (fun c_21 => ?_))))
      · skip
        refine s_iinc (z := 3) (ls' := [(0, (2, 135)), (1, (0, s)), (2, (0, 0)), (3, (0, 3))]) dX9_signers_30 3 rfl (Nat.le_of_ble_eq_true rfl) (by decide) rfl (s_goto 4 dX9_signers_33 (by decide) (s_iload_n dX9_signers_4 3 rfl (s_iconst dX9_signers_5 (by decide) (s_icmp_ge 36 dX9_signers_6 (by decide) (kf := fun c => absurd c (by decide)) (kt := fun _ => s_iload_n dX9_signers_36 2 rfl (n_iret dX9_signers_37 hR rfl ?_))))))
        refine ⟨congrArg (fun z => some ((0 : Nat), z)) ?_, rfl⟩
        unfold sgX sgV
        repeat' split
        all_goals first | (exfalso; omega) | decide +kernel
      · skip
        refine s_iload_n dX9_signers_24 2 rfl (s_iconst dX9_signers_25 (by decide) (s_iload_n dX9_signers_26 3 rfl (s_ishl dX9_signers_27 (s_ior dX9_signers_28 (s_istore_n (ls' := [(0, (2, 135)), (1, (0, s)), (2, (0, (ior 0 (ishl 1 2)))), (3, (0, 2))]) dX9_signers_29 (Nat.le_of_ble_eq_true rfl) rfl (s_iinc (z := 3) (ls' := [(0, (2, 135)), (1, (0, s)), (2, (0, (ior 0 (ishl 1 2)))), (3, (0, 3))]) dX9_signers_30 3 rfl (Nat.le_of_ble_eq_true rfl) (by decide) rfl (s_goto 4 dX9_signers_33 (by decide) (s_iload_n dX9_signers_4 3 rfl (s_iconst dX9_signers_5 (by decide) ?_)))))))))
        refine s_icmp_ge 36 dX9_signers_6 (by decide) (kf := fun c => absurd c (by decide)) (kt := fun _ => s_iload_n dX9_signers_36 2 rfl (n_iret dX9_signers_37 hR rfl ?_))
        refine ⟨congrArg (fun z => some ((0 : Nat), z)) ?_, rfl⟩
        unfold sgX sgV
        repeat' split
        all_goals first | (exfalso; omega) | decide +kernel
    · skip
      refine s_iload_n dX9_signers_24 2 rfl (s_iconst dX9_signers_25 (by decide) (s_iload_n dX9_signers_26 3 rfl (s_ishl dX9_signers_27 (s_ior dX9_signers_28 (s_istore_n (ls' := [(0, (2, 135)), (1, (0, s)), (2, (0, (ior 0 (ishl 1 1)))), (3, (0, 1))]) dX9_signers_29 (Nat.le_of_ble_eq_true rfl) rfl (s_iinc (z := 2) (ls' := [(0, (2, 135)), (1, (0, s)), (2, (0, (ior 0 (ishl 1 1)))), (3, (0, 2))]) dX9_signers_30 3 rfl (Nat.le_of_ble_eq_true rfl) (by decide) rfl (s_goto 4 dX9_signers_33 (by decide) (s_iload_n dX9_signers_4 3 rfl (s_iconst dX9_signers_5 (by decide) ?_)))))))))
      refine s_icmp_ge 36 dX9_signers_6 (by decide) (kt := fun c => absurd c (by decide)) (kf := fun _ => s_aload_n dX9_signers_9 0 rfl rfl (s_iload_n dX9_signers_10 3 rfl (s_iload_n dX9_signers_11 1 rfl (n_invV (as := [(0, 2), (0, s)]) dX9_signers_12 kv_X9_worthTo ml_X9_58 (c_X_worthTo 2 s w ⟨by decide, by decide⟩ h hb) (by decide) 135 cf_X9 rfl sh_135 rfl rfl rfl (Nat.le_of_ble_eq_true rfl) (s_aload_n dX9_signers_15 0 rfl rfl (n_getc (q := 140) 135 1 150 dX9_signers_16 cf_X9 ff_X9_16 rfl sh_135 rfl (by decide) rfl (by decide) (s_iload_n dX9_signers_19 3 rfl (n_iald 140 dX9_signers_20 rfl sh_140 (by decide) (by decide) (v := (w 140 2)) rfl (s_icmp_lt 30 dX9_signers_21 (by decide) (fun c_21 => ?_) (fun c_21 => ?_))))))))))
      · skip
        refine s_iinc (z := 3) (ls' := [(0, (2, 135)), (1, (0, s)), (2, (0, (ior 0 (ishl 1 1)))), (3, (0, 3))]) dX9_signers_30 3 rfl (Nat.le_of_ble_eq_true rfl) (by decide) rfl (s_goto 4 dX9_signers_33 (by decide) (s_iload_n dX9_signers_4 3 rfl (s_iconst dX9_signers_5 (by decide) (s_icmp_ge 36 dX9_signers_6 (by decide) (kf := fun c => absurd c (by decide)) (kt := fun _ => s_iload_n dX9_signers_36 2 rfl (n_iret dX9_signers_37 hR rfl ?_))))))
        refine ⟨congrArg (fun z => some ((0 : Nat), z)) ?_, rfl⟩
        unfold sgX sgV
        repeat' split
        all_goals first | (exfalso; omega) | decide +kernel
      · skip
        refine s_iload_n dX9_signers_24 2 rfl (s_iconst dX9_signers_25 (by decide) (s_iload_n dX9_signers_26 3 rfl (s_ishl dX9_signers_27 (s_ior dX9_signers_28 (s_istore_n (ls' := [(0, (2, 135)), (1, (0, s)), (2, (0, (ior (ior 0 (ishl 1 1)) (ishl 1 2)))), (3, (0, 2))]) dX9_signers_29 (Nat.le_of_ble_eq_true rfl) rfl (s_iinc (z := 3) (ls' := [(0, (2, 135)), (1, (0, s)), (2, (0, (ior (ior 0 (ishl 1 1)) (ishl 1 2)))), (3, (0, 3))]) dX9_signers_30 3 rfl (Nat.le_of_ble_eq_true rfl) (by decide) rfl (s_goto 4 dX9_signers_33 (by decide) (s_iload_n dX9_signers_4 3 rfl (s_iconst dX9_signers_5 (by decide) ?_)))))))))
        refine s_icmp_ge 36 dX9_signers_6 (by decide) (kf := fun c => absurd c (by decide)) (kt := fun _ => s_iload_n dX9_signers_36 2 rfl (n_iret dX9_signers_37 hR rfl ?_))
        refine ⟨congrArg (fun z => some ((0 : Nat), z)) ?_, rfl⟩
        unfold sgX sgV
        repeat' split
        all_goals first | (exfalso; omega) | decide +kernel
  · skip
    refine s_iload_n dX9_signers_24 2 rfl (s_iconst dX9_signers_25 (by decide) (s_iload_n dX9_signers_26 3 rfl (s_ishl dX9_signers_27 (s_ior dX9_signers_28 (s_istore_n (ls' := [(0, (2, 135)), (1, (0, s)), (2, (0, (ior 0 (ishl 1 0)))), (3, (0, 0))]) dX9_signers_29 (Nat.le_of_ble_eq_true rfl) rfl (s_iinc (z := 1) (ls' := [(0, (2, 135)), (1, (0, s)), (2, (0, (ior 0 (ishl 1 0)))), (3, (0, 1))]) dX9_signers_30 3 rfl (Nat.le_of_ble_eq_true rfl) (by decide) rfl (s_goto 4 dX9_signers_33 (by decide) (s_iload_n dX9_signers_4 3 rfl (s_iconst dX9_signers_5 (by decide) ?_)))))))))
    refine s_icmp_ge 36 dX9_signers_6 (by decide) (kt := fun c => absurd c (by decide)) (kf := fun _ => s_aload_n dX9_signers_9 0 rfl rfl (s_iload_n dX9_signers_10 3 rfl (s_iload_n dX9_signers_11 1 rfl (n_invV (as := [(0, 1), (0, s)]) dX9_signers_12 kv_X9_worthTo ml_X9_58 (c_X_worthTo 1 s w ⟨by decide, by decide⟩ h hb) (by decide) 135 cf_X9 rfl sh_135 rfl rfl rfl (Nat.le_of_ble_eq_true rfl) (s_aload_n dX9_signers_15 0 rfl rfl (n_getc (q := 140) 135 1 150 dX9_signers_16 cf_X9 ff_X9_16 rfl sh_135 rfl (by decide) rfl (by decide) (s_iload_n dX9_signers_19 3 rfl (n_iald 140 dX9_signers_20 rfl sh_140 (by decide) (by decide) (v := (w 140 1)) rfl (s_icmp_lt 30 dX9_signers_21 (by decide) (fun c_21 => ?_) (fun c_21 => ?_))))))))))
    · skip
      refine s_iinc (z := 2) (ls' := [(0, (2, 135)), (1, (0, s)), (2, (0, (ior 0 (ishl 1 0)))), (3, (0, 2))]) dX9_signers_30 3 rfl (Nat.le_of_ble_eq_true rfl) (by decide) rfl (s_goto 4 dX9_signers_33 (by decide) (s_iload_n dX9_signers_4 3 rfl (s_iconst dX9_signers_5 (by decide) (s_icmp_ge 36 dX9_signers_6 (by decide) (kt := fun c => absurd c (by decide)) (kf := fun _ => s_aload_n dX9_signers_9 0 rfl rfl (s_iload_n dX9_signers_10 3 rfl (s_iload_n dX9_signers_11 1 rfl (n_invV (as := [(0, 2), (0, s)]) dX9_signers_12 kv_X9_worthTo ml_X9_58 (c_X_worthTo 2 s w ⟨by decide, by decide⟩ h hb) (by decide) 135 cf_X9 rfl sh_135 rfl rfl rfl (Nat.le_of_ble_eq_true rfl) (s_aload_n dX9_signers_15 0 rfl rfl ?_)))))))))
      refine n_getc (q := 140) 135 1 150 dX9_signers_16 cf_X9 ff_X9_16 rfl sh_135 rfl (by decide) rfl (by decide) (s_iload_n dX9_signers_19 3 rfl (n_iald 140 dX9_signers_20 rfl sh_140 (by decide) (by decide) (v := (w 140 2)) rfl (s_icmp_lt 30 dX9_signers_21 (by decide) (fun c_21 => ?_) (fun c_21 => ?_))))
      · skip
        refine s_iinc (z := 3) (ls' := [(0, (2, 135)), (1, (0, s)), (2, (0, (ior 0 (ishl 1 0)))), (3, (0, 3))]) dX9_signers_30 3 rfl (Nat.le_of_ble_eq_true rfl) (by decide) rfl (s_goto 4 dX9_signers_33 (by decide) (s_iload_n dX9_signers_4 3 rfl (s_iconst dX9_signers_5 (by decide) (s_icmp_ge 36 dX9_signers_6 (by decide) (kf := fun c => absurd c (by decide)) (kt := fun _ => s_iload_n dX9_signers_36 2 rfl (n_iret dX9_signers_37 hR rfl ?_))))))
        refine ⟨congrArg (fun z => some ((0 : Nat), z)) ?_, rfl⟩
        unfold sgX sgV
        repeat' split
        all_goals first | (exfalso; omega) | decide +kernel
      · skip
        refine s_iload_n dX9_signers_24 2 rfl (s_iconst dX9_signers_25 (by decide) (s_iload_n dX9_signers_26 3 rfl (s_ishl dX9_signers_27 (s_ior dX9_signers_28 (s_istore_n (ls' := [(0, (2, 135)), (1, (0, s)), (2, (0, (ior (ior 0 (ishl 1 0)) (ishl 1 2)))), (3, (0, 2))]) dX9_signers_29 (Nat.le_of_ble_eq_true rfl) rfl (s_iinc (z := 3) (ls' := [(0, (2, 135)), (1, (0, s)), (2, (0, (ior (ior 0 (ishl 1 0)) (ishl 1 2)))), (3, (0, 3))]) dX9_signers_30 3 rfl (Nat.le_of_ble_eq_true rfl) (by decide) rfl (s_goto 4 dX9_signers_33 (by decide) (s_iload_n dX9_signers_4 3 rfl (s_iconst dX9_signers_5 (by decide) ?_)))))))))
        refine s_icmp_ge 36 dX9_signers_6 (by decide) (kf := fun c => absurd c (by decide)) (kt := fun _ => s_iload_n dX9_signers_36 2 rfl (n_iret dX9_signers_37 hR rfl ?_))
        refine ⟨congrArg (fun z => some ((0 : Nat), z)) ?_, rfl⟩
        unfold sgX sgV
        repeat' split
        all_goals first | (exfalso; omega) | decide +kernel
    · skip
      refine s_iload_n dX9_signers_24 2 rfl (s_iconst dX9_signers_25 (by decide) (s_iload_n dX9_signers_26 3 rfl (s_ishl dX9_signers_27 (s_ior dX9_signers_28 (s_istore_n (ls' := [(0, (2, 135)), (1, (0, s)), (2, (0, (ior (ior 0 (ishl 1 0)) (ishl 1 1)))), (3, (0, 1))]) dX9_signers_29 (Nat.le_of_ble_eq_true rfl) rfl (s_iinc (z := 2) (ls' := [(0, (2, 135)), (1, (0, s)), (2, (0, (ior (ior 0 (ishl 1 0)) (ishl 1 1)))), (3, (0, 2))]) dX9_signers_30 3 rfl (Nat.le_of_ble_eq_true rfl) (by decide) rfl (s_goto 4 dX9_signers_33 (by decide) (s_iload_n dX9_signers_4 3 rfl (s_iconst dX9_signers_5 (by decide) ?_)))))))))
      refine s_icmp_ge 36 dX9_signers_6 (by decide) (kt := fun c => absurd c (by decide)) (kf := fun _ => s_aload_n dX9_signers_9 0 rfl rfl (s_iload_n dX9_signers_10 3 rfl (s_iload_n dX9_signers_11 1 rfl (n_invV (as := [(0, 2), (0, s)]) dX9_signers_12 kv_X9_worthTo ml_X9_58 (c_X_worthTo 2 s w ⟨by decide, by decide⟩ h hb) (by decide) 135 cf_X9 rfl sh_135 rfl rfl rfl (Nat.le_of_ble_eq_true rfl) (s_aload_n dX9_signers_15 0 rfl rfl (n_getc (q := 140) 135 1 150 dX9_signers_16 cf_X9 ff_X9_16 rfl sh_135 rfl (by decide) rfl (by decide) (s_iload_n dX9_signers_19 3 rfl (n_iald 140 dX9_signers_20 rfl sh_140 (by decide) (by decide) (v := (w 140 2)) rfl (s_icmp_lt 30 dX9_signers_21 (by decide) (fun c_21 => ?_) (fun c_21 => ?_))))))))))
      · skip
        refine s_iinc (z := 3) (ls' := [(0, (2, 135)), (1, (0, s)), (2, (0, (ior (ior 0 (ishl 1 0)) (ishl 1 1)))), (3, (0, 3))]) dX9_signers_30 3 rfl (Nat.le_of_ble_eq_true rfl) (by decide) rfl (s_goto 4 dX9_signers_33 (by decide) (s_iload_n dX9_signers_4 3 rfl (s_iconst dX9_signers_5 (by decide) (s_icmp_ge 36 dX9_signers_6 (by decide) (kf := fun c => absurd c (by decide)) (kt := fun _ => s_iload_n dX9_signers_36 2 rfl (n_iret dX9_signers_37 hR rfl ?_))))))
        refine ⟨congrArg (fun z => some ((0 : Nat), z)) ?_, rfl⟩
        unfold sgX sgV
        repeat' split
        all_goals first | (exfalso; omega) | decide +kernel
      · skip
        refine s_iload_n dX9_signers_24 2 rfl (s_iconst dX9_signers_25 (by decide) (s_iload_n dX9_signers_26 3 rfl (s_ishl dX9_signers_27 (s_ior dX9_signers_28 (s_istore_n (ls' := [(0, (2, 135)), (1, (0, s)), (2, (0, (ior (ior (ior 0 (ishl 1 0)) (ishl 1 1)) (ishl 1 2)))), (3, (0, 2))]) dX9_signers_29 (Nat.le_of_ble_eq_true rfl) rfl (s_iinc (z := 3) (ls' := [(0, (2, 135)), (1, (0, s)), (2, (0, (ior (ior (ior 0 (ishl 1 0)) (ishl 1 1)) (ishl 1 2)))), (3, (0, 3))]) dX9_signers_30 3 rfl (Nat.le_of_ble_eq_true rfl) (by decide) rfl (s_goto 4 dX9_signers_33 (by decide) (s_iload_n dX9_signers_4 3 rfl (s_iconst dX9_signers_5 (by decide) ?_)))))))))
        refine s_icmp_ge 36 dX9_signers_6 (by decide) (kf := fun c => absurd c (by decide)) (kt := fun _ => s_iload_n dX9_signers_36 2 rfl (n_iret dX9_signers_37 hR rfl ?_))
        refine ⟨congrArg (fun z => some ((0 : Nat), z)) ?_, rfl⟩
        unfold sgX sgV
        repeat' split
        all_goals first | (exfalso; omega) | decide +kernel

set_option maxRecDepth 100000 in
theorem c_X_outOf (z : Int) (w : Wd) : CallN 1 mX9_outOf [(0, z)] w (RV (0, outV z) w) := by
  refine CallN.intro (by decide +kernel) (Nat.le_of_ble_eq_true rfl) (fun ρ hR => ?_)
  show AtN mX9_outOf 1 ρ 0 [(0, (0, z))] [] w
  refine s_iconst dX9_outOf_0 (by decide) (s_istore_n (ls' := [(0, (0, z)), (1, (0, 0))]) dX9_outOf_1 (Nat.le_of_ble_eq_true rfl) rfl (s_iload_n dX9_outOf_2 1 rfl (s_iconst dX9_outOf_3 (by decide) (s_icmp_ge 25 dX9_outOf_4 (by decide) (kt := fun c => absurd c (by decide)) (kf := fun _ => s_iload_n dX9_outOf_7 0 rfl (s_iconst dX9_outOf_8 (by decide) (s_iload_n dX9_outOf_9 1 rfl (s_ishl dX9_outOf_10 (s_ior dX9_outOf_11 ?_)))))))))
  refine s_bipush dX9_outOf_12 (by decide) (s_icmp_ne 19 dX9_outOf_14 (by decide) (fun c_14 => ?_) (fun c_14 => ?_))
  · skip
    refine s_iinc (z := 1) (ls' := [(0, (0, z)), (1, (0, 1))]) dX9_outOf_19 1 rfl (Nat.le_of_ble_eq_true rfl) (by decide) rfl (s_goto 2 dX9_outOf_22 (by decide) (s_iload_n dX9_outOf_2 1 rfl (s_iconst dX9_outOf_3 (by decide) (s_icmp_ge 25 dX9_outOf_4 (by decide) (kt := fun c => absurd c (by decide)) (kf := fun _ => s_iload_n dX9_outOf_7 0 rfl (s_iconst dX9_outOf_8 (by decide) (s_iload_n dX9_outOf_9 1 rfl (s_ishl dX9_outOf_10 (s_ior dX9_outOf_11 ?_)))))))))
    refine s_bipush dX9_outOf_12 (by decide) (s_icmp_ne 19 dX9_outOf_14 (by decide) (fun c_14 => ?_) (fun c_14 => ?_))
    · skip
      refine s_iinc (z := 2) (ls' := [(0, (0, z)), (1, (0, 2))]) dX9_outOf_19 1 rfl (Nat.le_of_ble_eq_true rfl) (by decide) rfl (s_goto 2 dX9_outOf_22 (by decide) (s_iload_n dX9_outOf_2 1 rfl (s_iconst dX9_outOf_3 (by decide) (s_icmp_ge 25 dX9_outOf_4 (by decide) (kt := fun c => absurd c (by decide)) (kf := fun _ => s_iload_n dX9_outOf_7 0 rfl (s_iconst dX9_outOf_8 (by decide) (s_iload_n dX9_outOf_9 1 rfl (s_ishl dX9_outOf_10 (s_ior dX9_outOf_11 ?_)))))))))
      refine s_bipush dX9_outOf_12 (by decide) (s_icmp_ne 19 dX9_outOf_14 (by decide) (fun c_14 => ?_) (fun c_14 => ?_))
      · skip
        refine s_iinc (z := 3) (ls' := [(0, (0, z)), (1, (0, 3))]) dX9_outOf_19 1 rfl (Nat.le_of_ble_eq_true rfl) (by decide) rfl (s_goto 2 dX9_outOf_22 (by decide) (s_iload_n dX9_outOf_2 1 rfl (s_iconst dX9_outOf_3 (by decide) (s_icmp_ge 25 dX9_outOf_4 (by decide) (kf := fun c => absurd c (by decide)) (kt := fun _ => s_iconst dX9_outOf_25 (by decide) (n_iret dX9_outOf_26 hR rfl ?_))))))
        refine ⟨congrArg (fun z => some ((0 : Nat), z)) ?_, rfl⟩
        unfold outV
        repeat' split
        all_goals first | rfl | (exfalso; omega)
      · skip
        refine s_iload_n dX9_outOf_17 1 rfl (n_iret dX9_outOf_18 hR rfl ?_)
        refine ⟨congrArg (fun z => some ((0 : Nat), z)) ?_, rfl⟩
        unfold outV
        repeat' split
        all_goals first | rfl | (exfalso; omega)
    · skip
      refine s_iload_n dX9_outOf_17 1 rfl (n_iret dX9_outOf_18 hR rfl ?_)
      refine ⟨congrArg (fun z => some ((0 : Nat), z)) ?_, rfl⟩
      unfold outV
      repeat' split
      all_goals first | rfl | (exfalso; omega)
  · skip
    refine s_iload_n dX9_outOf_17 1 rfl (n_iret dX9_outOf_18 hR rfl ?_)
    refine ⟨congrArg (fun z => some ((0 : Nat), z)) ?_, rfl⟩
    unfold outV
    repeat' split
    all_goals first | rfl | (exfalso; omega)

def offW (w : Wd) (s : Int) : Wd := if w 135 3 = -1 ∨ w 135 4 < allX w s then wu (wu w 135 3 s) 135 4 (allX w s) else w
set_option maxRecDepth 100000 in
theorem c_X_offer (s : Int) (w : Wd) (h : 0 ≤ w 135 2 ∧ w 135 2 ≤ 9) (hb : ∀ f j, 0 ≤ f → f < 3 → 0 ≤ j → j < w 135 2 → -99 ≤ w (137 + Int.toNat f) j ∧ w (137 + Int.toNat f) j ≤ 99) : CallN 3 mX9_offer [(2, 135), (0, s)] w (RUQ (fun w1 => w1 = offW w s)) := by
  refine CallN.intro (by decide +kernel) (Nat.le_of_ble_eq_true rfl) (fun ρ hR => ?_)
  show AtN mX9_offer 3 ρ 0 [(0, (2, 135)), (1, (0, s))] [] w
  have hx0 := wX_bd (s := s) h hb 0 (by decide) (by decide)
  have hx1 := wX_bd (s := s) h hb 1 (by decide) (by decide)
  have hx2 := wX_bd (s := s) h hb 2 (by decide) (by decide)
  refine s_aload_n dX9_offer_0 0 rfl rfl (s_iconst dX9_offer_1 (by decide) (s_iload_n dX9_offer_2 1 rfl (n_invV (as := [(0, 0), (0, s)]) dX9_offer_3 kv_X9_worthTo ml_X9_58 (c_X_worthTo 0 s w ⟨by decide, by decide⟩ h hb) (by decide) 135 cf_X9 rfl sh_135 rfl rfl rfl (Nat.le_of_ble_eq_true rfl) (s_aload_n dX9_offer_6 0 rfl rfl (s_iconst dX9_offer_7 (by decide) (s_iload_n dX9_offer_8 1 rfl (n_invV (as := [(0, 1), (0, s)]) dX9_offer_9 kv_X9_worthTo ml_X9_58 (c_X_worthTo 1 s w ⟨by decide, by decide⟩ h hb) (by decide) 135 cf_X9 rfl sh_135 rfl rfl rfl (Nat.le_of_ble_eq_true rfl) (n_add (z := ((wX w s 0) + (wX w s 1))) dX9_offer_12 (wr_id (by omega) (by omega)) (s_aload_n dX9_offer_13 0 rfl rfl ?_)))))))))
  refine s_iconst dX9_offer_14 (by decide) (s_iload_n dX9_offer_15 1 rfl (n_invV (as := [(0, 2), (0, s)]) dX9_offer_16 kv_X9_worthTo ml_X9_58 (c_X_worthTo 2 s w ⟨by decide, by decide⟩ h hb) (by decide) 135 cf_X9 rfl sh_135 rfl rfl rfl (Nat.le_of_ble_eq_true rfl) (n_add (z := (((wX w s 0) + (wX w s 1)) + (wX w s 2))) dX9_offer_19 (wr_id (by omega) (by omega)) (s_istore_n (ls' := [(0, (2, 135)), (1, (0, s)), (2, (0, (((wX w s 0) + (wX w s 1)) + (wX w s 2))))]) dX9_offer_20 (Nat.le_of_ble_eq_true rfl) rfl (s_aload_n dX9_offer_21 0 rfl rfl (n_getf 135 3 0 dX9_offer_22 cf_X9 ff_X9_32 rfl sh_135 rfl (by decide) (v := (w 135 3)) rfl (s_iconst dX9_offer_25 (by decide) (s_icmp_eq 37 dX9_offer_26 (by decide) (fun c_26 => ?_) (fun c_26 => ?_)))))))))
  · skip
    refine s_aload_n dX9_offer_37 0 rfl rfl (s_iload_n dX9_offer_38 1 rfl (n_putf 135 3 3 dX9_offer_39 cf_X9 ff_X9_32 rfl rfl sh_135 rfl rfl rfl (s_aload_n dX9_offer_42 0 rfl rfl (s_iload_n dX9_offer_43 2 rfl (n_putf 135 4 4 dX9_offer_44 cf_X9 ff_X9_35 rfl rfl sh_135 rfl rfl rfl (n_ret dX9_offer_47 hR rfl ?_))))))
    refine ⟨rfl, ?_⟩
    unfold offW allX
    rw [if_pos (by omega)]
  · skip
    refine s_iload_n dX9_offer_29 2 rfl (s_aload_n dX9_offer_30 0 rfl rfl (n_getf 135 4 0 dX9_offer_31 cf_X9 ff_X9_35 rfl sh_135 rfl (by decide) (v := (w 135 4)) rfl (s_icmp_le 47 dX9_offer_34 (by decide) (fun c_34 => ?_) (fun c_34 => ?_))))
    · skip
      refine n_ret dX9_offer_47 hR rfl ?_
      refine ⟨rfl, ?_⟩
      unfold offW allX
      rw [if_neg (by omega)]
    · skip
      refine s_aload_n dX9_offer_37 0 rfl rfl (s_iload_n dX9_offer_38 1 rfl (n_putf 135 3 3 dX9_offer_39 cf_X9 ff_X9_32 rfl rfl sh_135 rfl rfl rfl (s_aload_n dX9_offer_42 0 rfl rfl (s_iload_n dX9_offer_43 2 rfl (n_putf 135 4 4 dX9_offer_44 cf_X9 ff_X9_35 rfl rfl sh_135 rfl rfl rfl (n_ret dX9_offer_47 hR rfl ?_))))))
      refine ⟨rfl, ?_⟩
      unfold offW allX
      rw [if_pos (by omega)]

/-- the fields 3 to 5 of Terms tell nothing of clauses -/
theorem wX_u {w : Wd} {a b s f : Int} (h0 : 0 ≤ f) (h1 : f < 3) : wX (wu (wu w 135 3 a) 135 4 b) s f = wX w s f := by
  rcases (show f = 0 ∨ f = 1 ∨ f = 2 from by omega) with rfl | rfl | rfl <;> rfl
theorem allX_u {w : Wd} {a b s : Int} : allX (wu (wu w 135 3 a) 135 4 b) s = allX w s := rfl
theorem sgX_u {w : Wd} {a b s : Int} : sgX (wu (wu w 135 3 a) 135 4 b) s = sgX w s := rfl
theorem wu2 {w : Wd} {k : Nat} {i j a b a' b' : Int} (hij : i ≠ j) : wu (wu (wu (wu w k i a) k j b) k i a') k j b' = wu (wu w k i a') k j b' := by
  funext c q
  unfold wu
  by_cases hc : c = k
  · subst hc
    simp only [if_true]
    repeat' split
    all_goals first | rfl | (exfalso; omega)
  · simp only [if_neg hc]
theorem off_step {w v : Wd} {i : Int} (h0 : 0 ≤ i) (hv : v = wu (wu w 135 3 (bsI (sgX w) (allX w) i.toNat)) 135 4 (if bsI (sgX w) (allX w) i.toNat = -1 then 0 else allX w (bsI (sgX w) (allX w) i.toNat))) (hσ : sgX w i = 7) : offW v i = wu (wu w 135 3 (bsI (sgX w) (allX w) (i + 1).toNat)) 135 4 (if bsI (sgX w) (allX w) (i + 1).toNat = -1 then 0 else allX w (bsI (sgX w) (allX w) (i + 1).toNat)) := by
  subst hv
  rw [bsI_s h0]
  unfold offW
  rw [allX_u]
  have hb := bsI_bd (sgX w) (allX w) i.toNat
  generalize bsI (sgX w) (allX w) i.toNat = b at hb ⊢
  show (if b = -1 ∨ (if b = -1 then 0 else allX w b) < allX w i then _ else _) = _
  by_cases c1 : b = -1
  · have e1 : (if sgX w i = 7 ∧ (b = -1 ∨ allX w b < allX w i) then i else b) = i := if_pos ⟨hσ, Or.inl c1⟩
    rw [e1, if_pos (show b = -1 ∨ (if b = -1 then 0 else allX w b) < allX w i from Or.inl c1), if_neg (show ¬ i = -1 by omega)]
    exact wu2 (by decide)
  · by_cases c2 : allX w b < allX w i
    · have e1 : (if sgX w i = 7 ∧ (b = -1 ∨ allX w b < allX w i) then i else b) = i := if_pos ⟨hσ, Or.inr c2⟩
      rw [e1, if_pos (show b = -1 ∨ (if b = -1 then 0 else allX w b) < allX w i from Or.inr (by rw [if_neg c1]; exact c2)), if_neg (show ¬ i = -1 by omega)]
      exact wu2 (by decide)
    · have e1 : (if sgX w i = 7 ∧ (b = -1 ∨ allX w b < allX w i) then i else b) = b := if_neg (fun q => q.2.elim c1 c2)
      rw [e1, if_neg (show ¬ (b = -1 ∨ (if b = -1 then 0 else allX w b) < allX w i) from fun q => q.elim c1 (fun z => by rw [if_neg c1] at z; exact c2 z))]
theorem no_step {w v : Wd} {i : Int} (h0 : 0 ≤ i) (hv : v = wu (wu w 135 3 (bsI (sgX w) (allX w) i.toNat)) 135 4 (if bsI (sgX w) (allX w) i.toNat = -1 then 0 else allX w (bsI (sgX w) (allX w) i.toNat))) (hσ : sgX w i ≠ 7) : v = wu (wu w 135 3 (bsI (sgX w) (allX w) (i + 1).toNat)) 135 4 (if bsI (sgX w) (allX w) (i + 1).toNat = -1 then 0 else allX w (bsI (sgX w) (allX w) (i + 1).toNat)) := by
  rw [bsI_s h0, if_neg (fun q => hσ q.1)]
  exact hv

def bargW (w : Wd) : Wd := wu (wu (wu w 135 3 (bsI (sgX w) (allX w) (ishl 1 (w 135 2)).toNat)) 135 4 (if bsI (sgX w) (allX w) (ishl 1 (w 135 2)).toNat = -1 then 0 else allX w (bsI (sgX w) (allX w) (ishl 1 (w 135 2)).toNat))) 135 5 (if bsI (sgX w) (allX w) (ishl 1 (w 135 2)).toNat = -1 then loI (sgX w) (ishl 1 (w 135 2)).toNat else -1)
set_option maxRecDepth 100000 in
theorem c_X_bargain (w : Wd) (h : 0 ≤ w 135 2 ∧ w 135 2 ≤ 9) (hb : ∀ f j, 0 ≤ f → f < 3 → 0 ≤ j → j < w 135 2 → -99 ≤ w (137 + Int.toNat f) j ∧ w (137 + Int.toNat f) j ≤ 99) : CallN 4 mX9_bargain [(2, 135)] w (RUQ (fun w1 => w1 = bargW w)) := by
  refine CallN.intro (by decide +kernel) (Nat.le_of_ble_eq_true rfl) (fun ρ hR => ?_)
  show AtN mX9_bargain 4 ρ 0 [(0, (2, 135))] [] w
  have qb := ishl1_bd h.1 (show w 135 2 ≤ 16 by omega)
  have L_14 : ∀ (fu : Nat) (i : Int) (a : Int) (v9 : Wd), 0 ≤ i ∧ i ≤ ishl 1 (w 135 2) → a = loI (sgX w) i.toNat → v9 = wu (wu w 135 3 (bsI (sgX w) (allX w) i.toNat)) 135 4 (if bsI (sgX w) (allX w) i.toNat = -1 then 0 else allX w (bsI (sgX w) (allX w) i.toNat)) → (ishl 1 (w 135 2) - i).toNat < fu → AtN mX9_bargain 4 ρ 14 [(0, (2, 135)), (1, (0, a)), (2, (0, i))] [] v9 := by
    intro fu
    induction fu with
    | zero => intro i a v9 hi ha hw hm; exact absurd hm (Nat.not_lt_zero _)
    | succ fu ih =>
      intro i a v9 hi ha hw hm
      have q2 : v9 135 2 = w 135 2 := by rw [hw]; rfl
      have qn : ishl 1 (v9 135 2) = ishl 1 (w 135 2) := by rw [q2]
      have qs : sgX v9 i = sgX w i := by rw [hw]; rfl
      have h9 : 0 ≤ v9 135 2 ∧ v9 135 2 ≤ 9 := by rw [q2]; exact h
      have hb9 : ∀ f j, 0 ≤ f → f < 3 → 0 ≤ j → j < v9 135 2 → -99 ≤ v9 (137 + Int.toNat f) j ∧ v9 (137 + Int.toNat f) j ≤ 99 := by
        intro f j a b c d
        rw [q2] at d
        have e : v9 (137 + Int.toNat f) = w (137 + Int.toNat f) := by rw [hw]; rw [wu_ne (by omega), wu_ne (by omega)]
        rw [e]
        exact hb f j a b c d
      refine s_iload_n dX9_bargain_14 2 rfl (s_iconst dX9_bargain_15 (by decide) (s_aload_n dX9_bargain_16 0 rfl rfl (n_getf 135 2 0 dX9_bargain_17 cf_X9 ff_X9_24 rfl sh_135 rfl (by decide) (v := (v9 135 2)) rfl (s_ishl dX9_bargain_20 (s_icmp_ge 56 dX9_bargain_21 (by decide) (fun c_21 => ?_) (fun c_21 => ?_))))))
      · skip
        have e9 : i = ishl 1 (w 135 2) := by omega
        rw [e9] at ha hw
        have q3 : v9 135 3 = bsI (sgX w) (allX w) (ishl 1 (w 135 2)).toNat := by rw [hw]; rfl
        refine s_aload_n dX9_bargain_56 0 rfl rfl (s_aload_n dX9_bargain_57 0 rfl rfl (n_getf 135 3 0 dX9_bargain_58 cf_X9 ff_X9_32 rfl sh_135 rfl (by decide) (v := (v9 135 3)) rfl (s_iconst dX9_bargain_61 (by decide) (s_icmp_ne 69 dX9_bargain_62 (by decide) (fun c_62 => ?_) (fun c_62 => ?_)))))
        · skip
          refine s_iconst dX9_bargain_69 (by decide) (n_putf 135 5 5 dX9_bargain_70 cf_X9 ff_X9_55 rfl rfl sh_135 rfl rfl rfl (n_ret dX9_bargain_73 hR rfl ?_))
          refine ⟨rfl, ?_⟩
          unfold bargW
          rw [← hw]
          first
          | (rw [if_pos (show bsI (sgX w) (allX w) (ishl 1 (w 135 2)).toNat = -1 by omega), ← ha]; done)
          | (rw [if_neg (show ¬ bsI (sgX w) (allX w) (ishl 1 (w 135 2)).toNat = -1 by omega)]; done)
        · skip
          refine s_iload_n dX9_bargain_65 1 rfl (s_goto 70 dX9_bargain_66 (by decide) (n_putf 135 5 5 dX9_bargain_70 cf_X9 ff_X9_55 rfl rfl sh_135 rfl rfl rfl (n_ret dX9_bargain_73 hR rfl ?_)))
          refine ⟨rfl, ?_⟩
          unfold bargW
          rw [← hw]
          first
          | (rw [if_pos (show bsI (sgX w) (allX w) (ishl 1 (w 135 2)).toNat = -1 by omega), ← ha]; done)
          | (rw [if_neg (show ¬ bsI (sgX w) (allX w) (ishl 1 (w 135 2)).toNat = -1 by omega)]; done)
      · skip
        refine s_aload_n dX9_bargain_24 0 rfl rfl (s_iload_n dX9_bargain_25 2 rfl (n_invV (as := [(0, i)]) dX9_bargain_26 kv_X9_signers ml_X9_38 (c_X_signers i v9 h9 hb9) (by decide) 135 cf_X9 rfl sh_135 rfl rfl rfl (Nat.le_of_ble_eq_true rfl) (s_istore_n (ls' := [(0, (2, 135)), (1, (0, a)), (2, (0, i)), (3, (0, (sgX v9 i)))]) dX9_bargain_29 (Nat.le_of_ble_eq_true rfl) rfl (s_iload_n dX9_bargain_30 3 rfl (s_bipush dX9_bargain_31 (by decide) (s_icmp_ne 41 dX9_bargain_33 (by decide) (fun c_33 => ?_) (fun c_33 => ?_)))))))
        · skip
          refine s_iload_n dX9_bargain_41 1 rfl (s_iload_n dX9_bargain_42 3 rfl (n_invS (as := [(0, (sgX v9 i))]) dX9_bargain_43 kv_X9_outOf ml_X9_46 (c_X_outOf (sgX v9 i) v9) (by decide) rfl rfl (Nat.le_of_ble_eq_true rfl) (n_invS (as := [(0, a), (0, (outV (sgX v9 i)))]) dX9_bargain_46 kv_J9_min_7cf53 ml_X9_49 (j_minI a (outV (sgX v9 i)) v9) (by decide) rfl rfl (Nat.le_of_ble_eq_true rfl) (s_istore_n (ls' := [(0, (2, 135)), (1, (0, (mnL a (outV (sgX v9 i))))), (2, (0, i)), (3, (0, (sgX v9 i)))]) dX9_bargain_49 (Nat.le_of_ble_eq_true rfl) rfl (s_iinc (z := (i + 1)) (ls' := [(0, (2, 135)), (1, (0, (mnL a (outV (sgX v9 i))))), (2, (0, (i + 1))), (3, (0, (sgX v9 i)))]) dX9_bargain_50 2 rfl (Nat.le_of_ble_eq_true rfl) (wr_id (by omega) (by omega)) rfl (s_goto 14 dX9_bargain_53 (by decide) ?_))))))
          exact At.keep (ls' := [(0, (2, 135)), (1, (0, (mnL a (outV (sgX v9 i))))), (2, (0, (i + 1)))]) [0, 1, 2] rfl (ih (i + 1) (mnL a (outV (sgX v9 i))) v9 (by omega) (by rw [loI_s hi.1, ← ha, ← qs]) (no_step hi.1 hw (by rw [← qs]; omega)) (by omega))
        · skip
          refine s_aload_n dX9_bargain_36 0 rfl rfl (s_iload_n dX9_bargain_37 2 rfl (n_invV' (as := [(0, i)]) dX9_bargain_38 kv_X9_offer ml_X9_42 (c_X_offer i v9 h9 hb9) (by decide) 135 cf_X9 rfl sh_135 rfl rfl rfl (Nat.le_of_ble_eq_true rfl) ?_))
          rintro r_38 w_38 ⟨rfl, hz_38⟩
          refine s_iload_n dX9_bargain_41 1 rfl (s_iload_n dX9_bargain_42 3 rfl (n_invS (as := [(0, (sgX v9 i))]) dX9_bargain_43 kv_X9_outOf ml_X9_46 (c_X_outOf (sgX v9 i) w_38) (by decide) rfl rfl (Nat.le_of_ble_eq_true rfl) (n_invS (as := [(0, a), (0, (outV (sgX v9 i)))]) dX9_bargain_46 kv_J9_min_7cf53 ml_X9_49 (j_minI a (outV (sgX v9 i)) w_38) (by decide) rfl rfl (Nat.le_of_ble_eq_true rfl) (s_istore_n (ls' := [(0, (2, 135)), (1, (0, (mnL a (outV (sgX v9 i))))), (2, (0, i)), (3, (0, (sgX v9 i)))]) dX9_bargain_49 (Nat.le_of_ble_eq_true rfl) rfl (s_iinc (z := (i + 1)) (ls' := [(0, (2, 135)), (1, (0, (mnL a (outV (sgX v9 i))))), (2, (0, (i + 1))), (3, (0, (sgX v9 i)))]) dX9_bargain_50 2 rfl (Nat.le_of_ble_eq_true rfl) (wr_id (by omega) (by omega)) rfl (s_goto 14 dX9_bargain_53 (by decide) ?_))))))
          exact At.keep (ls' := [(0, (2, 135)), (1, (0, (mnL a (outV (sgX v9 i))))), (2, (0, (i + 1)))]) [0, 1, 2] rfl (ih (i + 1) (mnL a (outV (sgX v9 i))) w_38 (by omega) (by rw [loI_s hi.1, ← ha, ← qs]) (by rw [hz_38]; exact off_step hi.1 hw (by rw [← qs]; omega)) (by omega))
  refine s_iconst dX9_bargain_0 (by decide) (s_istore_n (ls' := [(0, (2, 135)), (1, (0, 3))]) dX9_bargain_1 (Nat.le_of_ble_eq_true rfl) rfl (s_aload_n dX9_bargain_2 0 rfl rfl (s_iconst dX9_bargain_3 (by decide) (n_putf 135 3 3 dX9_bargain_4 cf_X9 ff_X9_32 rfl rfl sh_135 rfl rfl rfl (s_aload_n dX9_bargain_7 0 rfl rfl (s_iconst dX9_bargain_8 (by decide) (n_putf 135 4 4 dX9_bargain_9 cf_X9 ff_X9_35 rfl rfl sh_135 rfl rfl rfl (s_iconst dX9_bargain_12 (by decide) (s_istore_n (ls' := [(0, (2, 135)), (1, (0, 3)), (2, (0, 0))]) dX9_bargain_13 (Nat.le_of_ble_eq_true rfl) rfl ?_)))))))))
  exact L_14 _ 0 3 (wu (wu w 135 3 (-1)) 135 4 0) (by omega) rfl rfl (Nat.lt_succ_self _)

/-- what the answer is: pool p, shut out s, all of it A, a firm's part F -/
def poolV (p s : Int) (A : Int → Int) (F : Int → Int → Int) (q : Int) : Int := if q = 0 then p else if q = 1 then (if p = -1 then 0 else A p) else if q = 2 then (if p = -1 then s else -1) else if 10 ≤ q ∧ q ≤ 12 then (if p = -1 then 0 else F p (q - 10)) else -1

set_option maxRecDepth 100000 in
theorem x_pool (q : Int) (w : Wd) (h : 0 ≤ w 135 2 ∧ w 135 2 ≤ 9) (hb : ∀ f j, 0 ≤ f → f < 3 → 0 ≤ j → j < w 135 2 → -99 ≤ w (137 + Int.toNat f) j ∧ w (137 + Int.toNat f) j ≤ 99) : CallN 5 mX11_pool [(2, 0), (0, q)] w (RQ (fun z w1 => w1 = bargW w ∧ z = poolV (bsI (sgX w) (allX w) (ishl 1 (w 135 2)).toNat) (loI (sgX w) (ishl 1 (w 135 2)).toNat) (allX w) (wX w) q)) := by
  refine CallN.intro (by decide +kernel) (Nat.le_of_ble_eq_true rfl) (fun ρ hR => ?_)
  show AtN mX11_pool 5 ρ 0 [(0, (2, 0)), (1, (0, q))] [] w
  refine s_aload_n dX11_pool_0 0 rfl rfl (n_getc (q := 135) 0 9 145 dX11_pool_1 cf_X11 ff_X11_83 rfl sh_0 rfl (by decide) rfl (by decide) (n_invV' (as := []) dX11_pool_4 kv_X9_bargain ml_X11_293 (c_X_bargain  w h hb) (by decide) 135 cf_X9 rfl sh_135 rfl rfl rfl (Nat.le_of_ble_eq_true rfl) ?_))
  rintro r_4 w_4 ⟨rfl, hz_4⟩
  have e3 : w_4 135 3 = bsI (sgX w) (allX w) (ishl 1 (w 135 2)).toNat := by rw [hz_4]; rfl
  have e4 : w_4 135 4 = if bsI (sgX w) (allX w) (ishl 1 (w 135 2)).toNat = -1 then 0 else allX w (bsI (sgX w) (allX w) (ishl 1 (w 135 2)).toNat) := by rw [hz_4]; rfl
  have e5 : w_4 135 5 = if bsI (sgX w) (allX w) (ishl 1 (w 135 2)).toNat = -1 then loI (sgX w) (ishl 1 (w 135 2)).toNat else -1 := by rw [hz_4]; rfl
  have e2 : w_4 135 2 = w 135 2 := by rw [hz_4]; rfl
  have h9 : 0 ≤ w_4 135 2 ∧ w_4 135 2 ≤ 9 := by rw [e2]; exact h
  have hb9 : ∀ f j, 0 ≤ f → f < 3 → 0 ≤ j → j < w_4 135 2 → -99 ≤ w_4 (137 + Int.toNat f) j ∧ w_4 (137 + Int.toNat f) j ≤ 99 := by
    intro f j a b c d
    rw [e2] at d
    have e : w_4 (137 + Int.toNat f) = w (137 + Int.toNat f) := by rw [hz_4]; unfold bargW; rw [wu_ne (by omega), wu_ne (by omega), wu_ne (by omega)]
    rw [e]
    exact hb f j a b c d
  have ex : ∀ s, wX w_4 s 0 = wX w s 0 ∧ wX w_4 s 1 = wX w s 1 ∧ wX w_4 s 2 = wX w s 2 := fun s => by rw [hz_4]; exact ⟨rfl, rfl, rfl⟩
  refine s_iload_n dX11_pool_7 1 rfl ?_
  rcases (show (q < 0 ∨ 12 < q) ∨ q = 0 ∨ q = 1 ∨ q = 2 ∨ q = 3 ∨ q = 4 ∨ q = 5 ∨ q = 6 ∨ q = 7 ∨ q = 8 ∨ q = 9 ∨ q = 10 ∨ q = 11 ∨ q = 12 from by omega) with c_8 | c_8 | c_8 | c_8 | c_8 | c_8 | c_8 | c_8 | c_8 | c_8 | c_8 | c_8 | c_8 | c_8
  · refine s_tableOut 134 dX11_pool_8 c_8 (by decide) ?_
    refine s_iconst dX11_pool_134 (by decide) (n_iret dX11_pool_135 hR rfl ?_)
    refine ⟨_, rfl, hz_4, ?_⟩
    unfold poolV
    first
    | (rw [if_pos (show q = 0 by omega)]; exact e3)
    | (rw [if_neg (show ¬ q = 0 by omega), if_pos (show q = 1 by omega)]; exact e4)
    | (rw [if_neg (show ¬ q = 0 by omega), if_neg (show ¬ q = 1 by omega), if_pos (show q = 2 by omega)]; exact e5)
    | (rw [if_neg (show ¬ q = 0 by omega), if_neg (show ¬ q = 1 by omega), if_neg (show ¬ q = 2 by omega), if_neg (show ¬ (10 ≤ q ∧ q ≤ 12) by omega)]; done)
    | (rw [if_neg (show ¬ q = 0 by omega), if_neg (show ¬ q = 1 by omega), if_neg (show ¬ q = 2 by omega), if_pos (show (10 ≤ q ∧ q ≤ 12) by omega), ← e3]
       first
       | (rw [if_pos (show w_4 135 3 = -1 by omega)]; done)
       | (rw [if_neg (show ¬ w_4 135 3 = -1 by omega)]
          subst c_8
          first | exact (ex _).1 | exact (ex _).2.1 | exact (ex _).2.2))
  · refine s_tableIn 76 0 dX11_pool_8 (by rw [c_8]; rfl) (by decide) rfl (by decide) ?_
    refine s_aload_n dX11_pool_76 0 rfl rfl (n_getc (q := 135) 0 9 145 dX11_pool_77 cf_X11 ff_X11_83 rfl sh_0 rfl (by decide) rfl (by decide) (n_getf 135 3 0 dX11_pool_80 cf_X9 ff_X11_296 rfl sh_135 rfl (by decide) (v := (w_4 135 3)) rfl (n_iret dX11_pool_83 hR rfl ?_)))
    refine ⟨_, rfl, hz_4, ?_⟩
    unfold poolV
    first
    | (rw [if_pos (show q = 0 by omega)]; exact e3)
    | (rw [if_neg (show ¬ q = 0 by omega), if_pos (show q = 1 by omega)]; exact e4)
    | (rw [if_neg (show ¬ q = 0 by omega), if_neg (show ¬ q = 1 by omega), if_pos (show q = 2 by omega)]; exact e5)
    | (rw [if_neg (show ¬ q = 0 by omega), if_neg (show ¬ q = 1 by omega), if_neg (show ¬ q = 2 by omega), if_neg (show ¬ (10 ≤ q ∧ q ≤ 12) by omega)]; done)
    | (rw [if_neg (show ¬ q = 0 by omega), if_neg (show ¬ q = 1 by omega), if_neg (show ¬ q = 2 by omega), if_pos (show (10 ≤ q ∧ q ≤ 12) by omega), ← e3]
       first
       | (rw [if_pos (show w_4 135 3 = -1 by omega)]; done)
       | (rw [if_neg (show ¬ w_4 135 3 = -1 by omega)]
          subst c_8
          first | exact (ex _).1 | exact (ex _).2.1 | exact (ex _).2.2))
  · refine s_tableIn 84 1 dX11_pool_8 (by rw [c_8]; rfl) (by decide) rfl (by decide) ?_
    refine s_aload_n dX11_pool_84 0 rfl rfl (n_getc (q := 135) 0 9 145 dX11_pool_85 cf_X11 ff_X11_83 rfl sh_0 rfl (by decide) rfl (by decide) (n_getf 135 4 0 dX11_pool_88 cf_X9 ff_X11_299 rfl sh_135 rfl (by decide) (v := (w_4 135 4)) rfl (n_iret dX11_pool_91 hR rfl ?_)))
    refine ⟨_, rfl, hz_4, ?_⟩
    unfold poolV
    first
    | (rw [if_pos (show q = 0 by omega)]; exact e3)
    | (rw [if_neg (show ¬ q = 0 by omega), if_pos (show q = 1 by omega)]; exact e4)
    | (rw [if_neg (show ¬ q = 0 by omega), if_neg (show ¬ q = 1 by omega), if_pos (show q = 2 by omega)]; exact e5)
    | (rw [if_neg (show ¬ q = 0 by omega), if_neg (show ¬ q = 1 by omega), if_neg (show ¬ q = 2 by omega), if_neg (show ¬ (10 ≤ q ∧ q ≤ 12) by omega)]; done)
    | (rw [if_neg (show ¬ q = 0 by omega), if_neg (show ¬ q = 1 by omega), if_neg (show ¬ q = 2 by omega), if_pos (show (10 ≤ q ∧ q ≤ 12) by omega), ← e3]
       first
       | (rw [if_pos (show w_4 135 3 = -1 by omega)]; done)
       | (rw [if_neg (show ¬ w_4 135 3 = -1 by omega)]
          subst c_8
          first | exact (ex _).1 | exact (ex _).2.1 | exact (ex _).2.2))
  · refine s_tableIn 92 2 dX11_pool_8 (by rw [c_8]; rfl) (by decide) rfl (by decide) ?_
    refine s_aload_n dX11_pool_92 0 rfl rfl (n_getc (q := 135) 0 9 145 dX11_pool_93 cf_X11 ff_X11_83 rfl sh_0 rfl (by decide) rfl (by decide) (n_getf 135 5 0 dX11_pool_96 cf_X9 ff_X11_302 rfl sh_135 rfl (by decide) (v := (w_4 135 5)) rfl (n_iret dX11_pool_99 hR rfl ?_)))
    refine ⟨_, rfl, hz_4, ?_⟩
    unfold poolV
    first
    | (rw [if_pos (show q = 0 by omega)]; exact e3)
    | (rw [if_neg (show ¬ q = 0 by omega), if_pos (show q = 1 by omega)]; exact e4)
    | (rw [if_neg (show ¬ q = 0 by omega), if_neg (show ¬ q = 1 by omega), if_pos (show q = 2 by omega)]; exact e5)
    | (rw [if_neg (show ¬ q = 0 by omega), if_neg (show ¬ q = 1 by omega), if_neg (show ¬ q = 2 by omega), if_neg (show ¬ (10 ≤ q ∧ q ≤ 12) by omega)]; done)
    | (rw [if_neg (show ¬ q = 0 by omega), if_neg (show ¬ q = 1 by omega), if_neg (show ¬ q = 2 by omega), if_pos (show (10 ≤ q ∧ q ≤ 12) by omega), ← e3]
       first
       | (rw [if_pos (show w_4 135 3 = -1 by omega)]; done)
       | (rw [if_neg (show ¬ w_4 135 3 = -1 by omega)]
          subst c_8
          first | exact (ex _).1 | exact (ex _).2.1 | exact (ex _).2.2))
  · refine s_tableIn 134 3 dX11_pool_8 (by rw [c_8]; rfl) (by decide) rfl (by decide) ?_
    refine s_iconst dX11_pool_134 (by decide) (n_iret dX11_pool_135 hR rfl ?_)
    refine ⟨_, rfl, hz_4, ?_⟩
    unfold poolV
    first
    | (rw [if_pos (show q = 0 by omega)]; exact e3)
    | (rw [if_neg (show ¬ q = 0 by omega), if_pos (show q = 1 by omega)]; exact e4)
    | (rw [if_neg (show ¬ q = 0 by omega), if_neg (show ¬ q = 1 by omega), if_pos (show q = 2 by omega)]; exact e5)
    | (rw [if_neg (show ¬ q = 0 by omega), if_neg (show ¬ q = 1 by omega), if_neg (show ¬ q = 2 by omega), if_neg (show ¬ (10 ≤ q ∧ q ≤ 12) by omega)]; done)
    | (rw [if_neg (show ¬ q = 0 by omega), if_neg (show ¬ q = 1 by omega), if_neg (show ¬ q = 2 by omega), if_pos (show (10 ≤ q ∧ q ≤ 12) by omega), ← e3]
       first
       | (rw [if_pos (show w_4 135 3 = -1 by omega)]; done)
       | (rw [if_neg (show ¬ w_4 135 3 = -1 by omega)]
          subst c_8
          first | exact (ex _).1 | exact (ex _).2.1 | exact (ex _).2.2))
  · refine s_tableIn 134 4 dX11_pool_8 (by rw [c_8]; rfl) (by decide) rfl (by decide) ?_
    refine s_iconst dX11_pool_134 (by decide) (n_iret dX11_pool_135 hR rfl ?_)
    refine ⟨_, rfl, hz_4, ?_⟩
    unfold poolV
    first
    | (rw [if_pos (show q = 0 by omega)]; exact e3)
    | (rw [if_neg (show ¬ q = 0 by omega), if_pos (show q = 1 by omega)]; exact e4)
    | (rw [if_neg (show ¬ q = 0 by omega), if_neg (show ¬ q = 1 by omega), if_pos (show q = 2 by omega)]; exact e5)
    | (rw [if_neg (show ¬ q = 0 by omega), if_neg (show ¬ q = 1 by omega), if_neg (show ¬ q = 2 by omega), if_neg (show ¬ (10 ≤ q ∧ q ≤ 12) by omega)]; done)
    | (rw [if_neg (show ¬ q = 0 by omega), if_neg (show ¬ q = 1 by omega), if_neg (show ¬ q = 2 by omega), if_pos (show (10 ≤ q ∧ q ≤ 12) by omega), ← e3]
       first
       | (rw [if_pos (show w_4 135 3 = -1 by omega)]; done)
       | (rw [if_neg (show ¬ w_4 135 3 = -1 by omega)]
          subst c_8
          first | exact (ex _).1 | exact (ex _).2.1 | exact (ex _).2.2))
  · refine s_tableIn 134 5 dX11_pool_8 (by rw [c_8]; rfl) (by decide) rfl (by decide) ?_
    refine s_iconst dX11_pool_134 (by decide) (n_iret dX11_pool_135 hR rfl ?_)
    refine ⟨_, rfl, hz_4, ?_⟩
    unfold poolV
    first
    | (rw [if_pos (show q = 0 by omega)]; exact e3)
    | (rw [if_neg (show ¬ q = 0 by omega), if_pos (show q = 1 by omega)]; exact e4)
    | (rw [if_neg (show ¬ q = 0 by omega), if_neg (show ¬ q = 1 by omega), if_pos (show q = 2 by omega)]; exact e5)
    | (rw [if_neg (show ¬ q = 0 by omega), if_neg (show ¬ q = 1 by omega), if_neg (show ¬ q = 2 by omega), if_neg (show ¬ (10 ≤ q ∧ q ≤ 12) by omega)]; done)
    | (rw [if_neg (show ¬ q = 0 by omega), if_neg (show ¬ q = 1 by omega), if_neg (show ¬ q = 2 by omega), if_pos (show (10 ≤ q ∧ q ≤ 12) by omega), ← e3]
       first
       | (rw [if_pos (show w_4 135 3 = -1 by omega)]; done)
       | (rw [if_neg (show ¬ w_4 135 3 = -1 by omega)]
          subst c_8
          first | exact (ex _).1 | exact (ex _).2.1 | exact (ex _).2.2))
  · refine s_tableIn 134 6 dX11_pool_8 (by rw [c_8]; rfl) (by decide) rfl (by decide) ?_
    refine s_iconst dX11_pool_134 (by decide) (n_iret dX11_pool_135 hR rfl ?_)
    refine ⟨_, rfl, hz_4, ?_⟩
    unfold poolV
    first
    | (rw [if_pos (show q = 0 by omega)]; exact e3)
    | (rw [if_neg (show ¬ q = 0 by omega), if_pos (show q = 1 by omega)]; exact e4)
    | (rw [if_neg (show ¬ q = 0 by omega), if_neg (show ¬ q = 1 by omega), if_pos (show q = 2 by omega)]; exact e5)
    | (rw [if_neg (show ¬ q = 0 by omega), if_neg (show ¬ q = 1 by omega), if_neg (show ¬ q = 2 by omega), if_neg (show ¬ (10 ≤ q ∧ q ≤ 12) by omega)]; done)
    | (rw [if_neg (show ¬ q = 0 by omega), if_neg (show ¬ q = 1 by omega), if_neg (show ¬ q = 2 by omega), if_pos (show (10 ≤ q ∧ q ≤ 12) by omega), ← e3]
       first
       | (rw [if_pos (show w_4 135 3 = -1 by omega)]; done)
       | (rw [if_neg (show ¬ w_4 135 3 = -1 by omega)]
          subst c_8
          first | exact (ex _).1 | exact (ex _).2.1 | exact (ex _).2.2))
  · refine s_tableIn 134 7 dX11_pool_8 (by rw [c_8]; rfl) (by decide) rfl (by decide) ?_
    refine s_iconst dX11_pool_134 (by decide) (n_iret dX11_pool_135 hR rfl ?_)
    refine ⟨_, rfl, hz_4, ?_⟩
    unfold poolV
    first
    | (rw [if_pos (show q = 0 by omega)]; exact e3)
    | (rw [if_neg (show ¬ q = 0 by omega), if_pos (show q = 1 by omega)]; exact e4)
    | (rw [if_neg (show ¬ q = 0 by omega), if_neg (show ¬ q = 1 by omega), if_pos (show q = 2 by omega)]; exact e5)
    | (rw [if_neg (show ¬ q = 0 by omega), if_neg (show ¬ q = 1 by omega), if_neg (show ¬ q = 2 by omega), if_neg (show ¬ (10 ≤ q ∧ q ≤ 12) by omega)]; done)
    | (rw [if_neg (show ¬ q = 0 by omega), if_neg (show ¬ q = 1 by omega), if_neg (show ¬ q = 2 by omega), if_pos (show (10 ≤ q ∧ q ≤ 12) by omega), ← e3]
       first
       | (rw [if_pos (show w_4 135 3 = -1 by omega)]; done)
       | (rw [if_neg (show ¬ w_4 135 3 = -1 by omega)]
          subst c_8
          first | exact (ex _).1 | exact (ex _).2.1 | exact (ex _).2.2))
  · refine s_tableIn 134 8 dX11_pool_8 (by rw [c_8]; rfl) (by decide) rfl (by decide) ?_
    refine s_iconst dX11_pool_134 (by decide) (n_iret dX11_pool_135 hR rfl ?_)
    refine ⟨_, rfl, hz_4, ?_⟩
    unfold poolV
    first
    | (rw [if_pos (show q = 0 by omega)]; exact e3)
    | (rw [if_neg (show ¬ q = 0 by omega), if_pos (show q = 1 by omega)]; exact e4)
    | (rw [if_neg (show ¬ q = 0 by omega), if_neg (show ¬ q = 1 by omega), if_pos (show q = 2 by omega)]; exact e5)
    | (rw [if_neg (show ¬ q = 0 by omega), if_neg (show ¬ q = 1 by omega), if_neg (show ¬ q = 2 by omega), if_neg (show ¬ (10 ≤ q ∧ q ≤ 12) by omega)]; done)
    | (rw [if_neg (show ¬ q = 0 by omega), if_neg (show ¬ q = 1 by omega), if_neg (show ¬ q = 2 by omega), if_pos (show (10 ≤ q ∧ q ≤ 12) by omega), ← e3]
       first
       | (rw [if_pos (show w_4 135 3 = -1 by omega)]; done)
       | (rw [if_neg (show ¬ w_4 135 3 = -1 by omega)]
          subst c_8
          first | exact (ex _).1 | exact (ex _).2.1 | exact (ex _).2.2))
  · refine s_tableIn 134 9 dX11_pool_8 (by rw [c_8]; rfl) (by decide) rfl (by decide) ?_
    refine s_iconst dX11_pool_134 (by decide) (n_iret dX11_pool_135 hR rfl ?_)
    refine ⟨_, rfl, hz_4, ?_⟩
    unfold poolV
    first
    | (rw [if_pos (show q = 0 by omega)]; exact e3)
    | (rw [if_neg (show ¬ q = 0 by omega), if_pos (show q = 1 by omega)]; exact e4)
    | (rw [if_neg (show ¬ q = 0 by omega), if_neg (show ¬ q = 1 by omega), if_pos (show q = 2 by omega)]; exact e5)
    | (rw [if_neg (show ¬ q = 0 by omega), if_neg (show ¬ q = 1 by omega), if_neg (show ¬ q = 2 by omega), if_neg (show ¬ (10 ≤ q ∧ q ≤ 12) by omega)]; done)
    | (rw [if_neg (show ¬ q = 0 by omega), if_neg (show ¬ q = 1 by omega), if_neg (show ¬ q = 2 by omega), if_pos (show (10 ≤ q ∧ q ≤ 12) by omega), ← e3]
       first
       | (rw [if_pos (show w_4 135 3 = -1 by omega)]; done)
       | (rw [if_neg (show ¬ w_4 135 3 = -1 by omega)]
          subst c_8
          first | exact (ex _).1 | exact (ex _).2.1 | exact (ex _).2.2))
  · refine s_tableIn 100 10 dX11_pool_8 (by rw [c_8]; rfl) (by decide) rfl (by decide) ?_
    refine s_aload_n dX11_pool_100 0 rfl rfl (n_getc (q := 135) 0 9 145 dX11_pool_101 cf_X11 ff_X11_83 rfl sh_0 rfl (by decide) rfl (by decide) (n_getf 135 3 0 dX11_pool_104 cf_X9 ff_X11_296 rfl sh_135 rfl (by decide) (v := (w_4 135 3)) rfl (s_iconst dX11_pool_107 (by decide) (s_icmp_ne 115 dX11_pool_108 (by decide) (fun c_108 => ?_) (fun c_108 => ?_)))))
    · skip
      refine s_aload_n dX11_pool_115 0 rfl rfl (n_getc (q := 135) 0 9 145 dX11_pool_116 cf_X11 ff_X11_83 rfl sh_0 rfl (by decide) rfl (by decide) (s_iload_n dX11_pool_119 1 rfl (s_bipush dX11_pool_120 (by decide) (n_sub (z := (q - 10)) dX11_pool_122 (wr_id (by omega) (by omega)) (s_aload_n dX11_pool_123 0 rfl rfl (n_getc (q := 135) 0 9 145 dX11_pool_124 cf_X11 ff_X11_83 rfl sh_0 rfl (by decide) rfl (by decide) (n_getf 135 3 0 dX11_pool_127 cf_X9 ff_X11_296 rfl sh_135 rfl (by decide) (v := (w_4 135 3)) rfl (n_invV (as := [(0, (q - 10)), (0, (w_4 135 3))]) dX11_pool_130 kv_X9_worthTo ml_X11_305 (c_X_worthTo (q - 10) (w_4 135 3) w_4 ⟨by omega, by omega⟩ h9 hb9) (by decide) 135 cf_X9 rfl sh_135 rfl rfl rfl (Nat.le_of_ble_eq_true rfl) (n_iret dX11_pool_133 hR rfl ?_)))))))))
      refine ⟨_, rfl, hz_4, ?_⟩
      unfold poolV
      first
      | (rw [if_pos (show q = 0 by omega)]; exact e3)
      | (rw [if_neg (show ¬ q = 0 by omega), if_pos (show q = 1 by omega)]; exact e4)
      | (rw [if_neg (show ¬ q = 0 by omega), if_neg (show ¬ q = 1 by omega), if_pos (show q = 2 by omega)]; exact e5)
      | (rw [if_neg (show ¬ q = 0 by omega), if_neg (show ¬ q = 1 by omega), if_neg (show ¬ q = 2 by omega), if_neg (show ¬ (10 ≤ q ∧ q ≤ 12) by omega)]; done)
      | (rw [if_neg (show ¬ q = 0 by omega), if_neg (show ¬ q = 1 by omega), if_neg (show ¬ q = 2 by omega), if_pos (show (10 ≤ q ∧ q ≤ 12) by omega), ← e3]
         first
         | (rw [if_pos (show w_4 135 3 = -1 by omega)]; done)
         | (rw [if_neg (show ¬ w_4 135 3 = -1 by omega)]
            subst c_8
            first | exact (ex _).1 | exact (ex _).2.1 | exact (ex _).2.2))
    · skip
      refine s_iconst dX11_pool_111 (by decide) (s_goto 133 dX11_pool_112 (by decide) (n_iret dX11_pool_133 hR rfl ?_))
      refine ⟨_, rfl, hz_4, ?_⟩
      unfold poolV
      first
      | (rw [if_pos (show q = 0 by omega)]; exact e3)
      | (rw [if_neg (show ¬ q = 0 by omega), if_pos (show q = 1 by omega)]; exact e4)
      | (rw [if_neg (show ¬ q = 0 by omega), if_neg (show ¬ q = 1 by omega), if_pos (show q = 2 by omega)]; exact e5)
      | (rw [if_neg (show ¬ q = 0 by omega), if_neg (show ¬ q = 1 by omega), if_neg (show ¬ q = 2 by omega), if_neg (show ¬ (10 ≤ q ∧ q ≤ 12) by omega)]; done)
      | (rw [if_neg (show ¬ q = 0 by omega), if_neg (show ¬ q = 1 by omega), if_neg (show ¬ q = 2 by omega), if_pos (show (10 ≤ q ∧ q ≤ 12) by omega), ← e3]
         first
         | (rw [if_pos (show w_4 135 3 = -1 by omega)]; done)
         | (rw [if_neg (show ¬ w_4 135 3 = -1 by omega)]
            subst c_8
            first | exact (ex _).1 | exact (ex _).2.1 | exact (ex _).2.2))
  · refine s_tableIn 100 11 dX11_pool_8 (by rw [c_8]; rfl) (by decide) rfl (by decide) ?_
    refine s_aload_n dX11_pool_100 0 rfl rfl (n_getc (q := 135) 0 9 145 dX11_pool_101 cf_X11 ff_X11_83 rfl sh_0 rfl (by decide) rfl (by decide) (n_getf 135 3 0 dX11_pool_104 cf_X9 ff_X11_296 rfl sh_135 rfl (by decide) (v := (w_4 135 3)) rfl (s_iconst dX11_pool_107 (by decide) (s_icmp_ne 115 dX11_pool_108 (by decide) (fun c_108 => ?_) (fun c_108 => ?_)))))
    · skip
      refine s_aload_n dX11_pool_115 0 rfl rfl (n_getc (q := 135) 0 9 145 dX11_pool_116 cf_X11 ff_X11_83 rfl sh_0 rfl (by decide) rfl (by decide) (s_iload_n dX11_pool_119 1 rfl (s_bipush dX11_pool_120 (by decide) (n_sub (z := (q - 10)) dX11_pool_122 (wr_id (by omega) (by omega)) (s_aload_n dX11_pool_123 0 rfl rfl (n_getc (q := 135) 0 9 145 dX11_pool_124 cf_X11 ff_X11_83 rfl sh_0 rfl (by decide) rfl (by decide) (n_getf 135 3 0 dX11_pool_127 cf_X9 ff_X11_296 rfl sh_135 rfl (by decide) (v := (w_4 135 3)) rfl (n_invV (as := [(0, (q - 10)), (0, (w_4 135 3))]) dX11_pool_130 kv_X9_worthTo ml_X11_305 (c_X_worthTo (q - 10) (w_4 135 3) w_4 ⟨by omega, by omega⟩ h9 hb9) (by decide) 135 cf_X9 rfl sh_135 rfl rfl rfl (Nat.le_of_ble_eq_true rfl) (n_iret dX11_pool_133 hR rfl ?_)))))))))
      refine ⟨_, rfl, hz_4, ?_⟩
      unfold poolV
      first
      | (rw [if_pos (show q = 0 by omega)]; exact e3)
      | (rw [if_neg (show ¬ q = 0 by omega), if_pos (show q = 1 by omega)]; exact e4)
      | (rw [if_neg (show ¬ q = 0 by omega), if_neg (show ¬ q = 1 by omega), if_pos (show q = 2 by omega)]; exact e5)
      | (rw [if_neg (show ¬ q = 0 by omega), if_neg (show ¬ q = 1 by omega), if_neg (show ¬ q = 2 by omega), if_neg (show ¬ (10 ≤ q ∧ q ≤ 12) by omega)]; done)
      | (rw [if_neg (show ¬ q = 0 by omega), if_neg (show ¬ q = 1 by omega), if_neg (show ¬ q = 2 by omega), if_pos (show (10 ≤ q ∧ q ≤ 12) by omega), ← e3]
         first
         | (rw [if_pos (show w_4 135 3 = -1 by omega)]; done)
         | (rw [if_neg (show ¬ w_4 135 3 = -1 by omega)]
            subst c_8
            first | exact (ex _).1 | exact (ex _).2.1 | exact (ex _).2.2))
    · skip
      refine s_iconst dX11_pool_111 (by decide) (s_goto 133 dX11_pool_112 (by decide) (n_iret dX11_pool_133 hR rfl ?_))
      refine ⟨_, rfl, hz_4, ?_⟩
      unfold poolV
      first
      | (rw [if_pos (show q = 0 by omega)]; exact e3)
      | (rw [if_neg (show ¬ q = 0 by omega), if_pos (show q = 1 by omega)]; exact e4)
      | (rw [if_neg (show ¬ q = 0 by omega), if_neg (show ¬ q = 1 by omega), if_pos (show q = 2 by omega)]; exact e5)
      | (rw [if_neg (show ¬ q = 0 by omega), if_neg (show ¬ q = 1 by omega), if_neg (show ¬ q = 2 by omega), if_neg (show ¬ (10 ≤ q ∧ q ≤ 12) by omega)]; done)
      | (rw [if_neg (show ¬ q = 0 by omega), if_neg (show ¬ q = 1 by omega), if_neg (show ¬ q = 2 by omega), if_pos (show (10 ≤ q ∧ q ≤ 12) by omega), ← e3]
         first
         | (rw [if_pos (show w_4 135 3 = -1 by omega)]; done)
         | (rw [if_neg (show ¬ w_4 135 3 = -1 by omega)]
            subst c_8
            first | exact (ex _).1 | exact (ex _).2.1 | exact (ex _).2.2))
  · refine s_tableIn 100 12 dX11_pool_8 (by rw [c_8]; rfl) (by decide) rfl (by decide) ?_
    refine s_aload_n dX11_pool_100 0 rfl rfl (n_getc (q := 135) 0 9 145 dX11_pool_101 cf_X11 ff_X11_83 rfl sh_0 rfl (by decide) rfl (by decide) (n_getf 135 3 0 dX11_pool_104 cf_X9 ff_X11_296 rfl sh_135 rfl (by decide) (v := (w_4 135 3)) rfl (s_iconst dX11_pool_107 (by decide) (s_icmp_ne 115 dX11_pool_108 (by decide) (fun c_108 => ?_) (fun c_108 => ?_)))))
    · skip
      refine s_aload_n dX11_pool_115 0 rfl rfl (n_getc (q := 135) 0 9 145 dX11_pool_116 cf_X11 ff_X11_83 rfl sh_0 rfl (by decide) rfl (by decide) (s_iload_n dX11_pool_119 1 rfl (s_bipush dX11_pool_120 (by decide) (n_sub (z := (q - 10)) dX11_pool_122 (wr_id (by omega) (by omega)) (s_aload_n dX11_pool_123 0 rfl rfl (n_getc (q := 135) 0 9 145 dX11_pool_124 cf_X11 ff_X11_83 rfl sh_0 rfl (by decide) rfl (by decide) (n_getf 135 3 0 dX11_pool_127 cf_X9 ff_X11_296 rfl sh_135 rfl (by decide) (v := (w_4 135 3)) rfl (n_invV (as := [(0, (q - 10)), (0, (w_4 135 3))]) dX11_pool_130 kv_X9_worthTo ml_X11_305 (c_X_worthTo (q - 10) (w_4 135 3) w_4 ⟨by omega, by omega⟩ h9 hb9) (by decide) 135 cf_X9 rfl sh_135 rfl rfl rfl (Nat.le_of_ble_eq_true rfl) (n_iret dX11_pool_133 hR rfl ?_)))))))))
      refine ⟨_, rfl, hz_4, ?_⟩
      unfold poolV
      first
      | (rw [if_pos (show q = 0 by omega)]; exact e3)
      | (rw [if_neg (show ¬ q = 0 by omega), if_pos (show q = 1 by omega)]; exact e4)
      | (rw [if_neg (show ¬ q = 0 by omega), if_neg (show ¬ q = 1 by omega), if_pos (show q = 2 by omega)]; exact e5)
      | (rw [if_neg (show ¬ q = 0 by omega), if_neg (show ¬ q = 1 by omega), if_neg (show ¬ q = 2 by omega), if_neg (show ¬ (10 ≤ q ∧ q ≤ 12) by omega)]; done)
      | (rw [if_neg (show ¬ q = 0 by omega), if_neg (show ¬ q = 1 by omega), if_neg (show ¬ q = 2 by omega), if_pos (show (10 ≤ q ∧ q ≤ 12) by omega), ← e3]
         first
         | (rw [if_pos (show w_4 135 3 = -1 by omega)]; done)
         | (rw [if_neg (show ¬ w_4 135 3 = -1 by omega)]
            subst c_8
            first | exact (ex _).1 | exact (ex _).2.1 | exact (ex _).2.2))
    · skip
      refine s_iconst dX11_pool_111 (by decide) (s_goto 133 dX11_pool_112 (by decide) (n_iret dX11_pool_133 hR rfl ?_))
      refine ⟨_, rfl, hz_4, ?_⟩
      unfold poolV
      first
      | (rw [if_pos (show q = 0 by omega)]; exact e3)
      | (rw [if_neg (show ¬ q = 0 by omega), if_pos (show q = 1 by omega)]; exact e4)
      | (rw [if_neg (show ¬ q = 0 by omega), if_neg (show ¬ q = 1 by omega), if_pos (show q = 2 by omega)]; exact e5)
      | (rw [if_neg (show ¬ q = 0 by omega), if_neg (show ¬ q = 1 by omega), if_neg (show ¬ q = 2 by omega), if_neg (show ¬ (10 ≤ q ∧ q ≤ 12) by omega)]; done)
      | (rw [if_neg (show ¬ q = 0 by omega), if_neg (show ¬ q = 1 by omega), if_neg (show ¬ q = 2 by omega), if_pos (show (10 ≤ q ∧ q ≤ 12) by omega), ← e3]
         first
         | (rw [if_pos (show w_4 135 3 = -1 by omega)]; done)
         | (rw [if_neg (show ¬ w_4 135 3 = -1 by omega)]
            subst c_8
            first | exact (ex _).1 | exact (ex _).2.1 | exact (ex _).2.2))

set_option maxRecDepth 100000 in
theorem c_M_worthTo (f s : Int) (w : Wd) (hf : 0 ≤ f ∧ f < 3) (h : 0 ≤ w 141 9 ∧ w 141 9 ≤ 9) (hb : ∀ f j, 0 ≤ f → f < 3 → 0 ≤ j → j < w 141 9 → -99 ≤ w 208 (3 * j + f) ∧ w 208 (3 * j + f) ≤ 99) : CallN 1 mX12_worthTo [(2, 141), (0, f), (0, s)] w (RV (0, wM w s f) w) := by
  refine CallN.intro (by decide +kernel) (Nat.le_of_ble_eq_true rfl) (fun ρ hR => ?_)
  show AtN mX12_worthTo 1 ρ 0 [(0, (2, 141)), (1, (0, f)), (2, (0, s))] [] w
  have L_5 : ∀ (fu : Nat) (i : Int) (a : Int), 0 ≤ i ∧ i ≤ w 141 9 → a = wtS (fun i => w 208 (3 * i + f)) s i → (w 141 9 - i).toNat < fu → AtN mX12_worthTo 1 ρ 5 [(0, (2, 141)), (1, (0, f)), (2, (0, s)), (3, (0, a)), (4, (0, i))] [] w := by
    intro fu
    induction fu with
    | zero => intro i a hi ha hm; exact absurd hm (Nat.not_lt_zero _)
    | succ fu ih =>
      intro i a hi ha hm
      have qa := wtS_bd (g := fun i => w 208 (3 * i + f)) (s := s) hi.1 (fun j a b => hb f j hf.1 hf.2 a (by omega))
      rw [← ha] at qa
      refine s_iload dX12_worthTo_5 4 rfl (s_aload_n dX12_worthTo_7 0 rfl rfl (n_getf 141 9 0 dX12_worthTo_8 cf_X12 ff_X12_494 rfl sh_141 rfl (by decide) (v := (w 141 9)) rfl (s_icmp_ge 41 dX12_worthTo_11 (by decide) (fun c_11 => ?_) (fun c_11 => ?_))))
      · skip
        refine s_iload_n dX12_worthTo_41 3 rfl (n_iret dX12_worthTo_42 hR rfl ?_)
        have e9 : i = w 141 9 := by omega
        rw [e9] at ha
        exact ⟨congrArg (fun z => some ((0 : Nat), z)) ha, rfl⟩
      · skip
        have hb9 := hb f i hf.1 hf.2 hi.1 (by omega)
        have hb8 := bt_mul (s := s) (i := i) (B := 99) hb9
        refine s_iload_n dX12_worthTo_14 3 rfl (s_iload_n dX12_worthTo_15 2 rfl (s_iload dX12_worthTo_16 4 rfl (s_ishr dX12_worthTo_18 (s_iconst dX12_worthTo_19 (by decide) (n_bt dX12_worthTo_20 (s_aload_n dX12_worthTo_21 0 rfl rfl (n_getc (q := 208) 141 96 218 dX12_worthTo_22 cf_X12 ff_X12_214 rfl sh_141 rfl (by decide) rfl (by decide) (s_iconst dX12_worthTo_25 (by decide) (s_iload dX12_worthTo_26 4 rfl ?_)))))))))
        refine n_mul (z := (3 * i)) dX12_worthTo_28 (wr_id (by omega) (by omega)) (s_iload_n dX12_worthTo_29 1 rfl (n_add (z := ((3 * i) + f)) dX12_worthTo_30 (wr_id (by omega) (by omega)) (n_iald 208 dX12_worthTo_31 rfl sh_208 (by decide) ⟨(by omega), (by omega)⟩ (v := (w 208 ((3 * i) + f))) rfl (n_mul (z := ((bt s i) * (w 208 ((3 * i) + f)))) dX12_worthTo_32 (wr_id (by omega) (by omega)) (n_add (z := (a + ((bt s i) * (w 208 ((3 * i) + f))))) dX12_worthTo_33 (wr_id (by omega) (by omega)) (s_istore_n (ls' := [(0, (2, 141)), (1, (0, f)), (2, (0, s)), (3, (0, (a + ((bt s i) * (w 208 ((3 * i) + f)))))), (4, (0, i))]) dX12_worthTo_34 (Nat.le_of_ble_eq_true rfl) rfl (s_iinc (z := (i + 1)) (ls' := [(0, (2, 141)), (1, (0, f)), (2, (0, s)), (3, (0, (a + ((bt s i) * (w 208 ((3 * i) + f)))))), (4, (0, (i + 1)))]) dX12_worthTo_35 4 rfl (Nat.le_of_ble_eq_true rfl) (wr_id (by omega) (by omega)) rfl (s_goto 5 dX12_worthTo_38 (by decide) ?_))))))))
        exact ih (i + 1) (a + ((bt s i) * (w 208 ((3 * i) + f)))) (by omega) (by rw [wtS_s hi.1, ← ha]) (by omega)
  refine s_iconst dX12_worthTo_0 (by decide) (s_istore_n (ls' := [(0, (2, 141)), (1, (0, f)), (2, (0, s)), (3, (0, 0))]) dX12_worthTo_1 (Nat.le_of_ble_eq_true rfl) rfl (s_iconst dX12_worthTo_2 (by decide) (s_istore (ls' := [(0, (2, 141)), (1, (0, f)), (2, (0, s)), (3, (0, 0)), (4, (0, 0))]) dX12_worthTo_3 (Nat.le_of_ble_eq_true rfl) rfl ?_)))
  exact L_5 _ 0 0 (by omega) rfl (Nat.lt_succ_self _)

theorem wM_bd {w : Wd} {s : Int} (h : 0 ≤ w 141 9 ∧ w 141 9 ≤ 9) (hb : ∀ f j, 0 ≤ f → f < 3 → 0 ≤ j → j < w 141 9 → -99 ≤ w 208 (3 * j + f) ∧ w 208 (3 * j + f) ≤ 99) (f : Int) (h0 : 0 ≤ f) (h1 : f < 3) : -891 ≤ wM w s f ∧ wM w s f ≤ 891 := by
  have h2 := wtS_bd (g := fun i => w 208 (3 * i + f)) (s := s) h.1 (fun j a b => hb f j h0 h1 a b)
  unfold wM
  omega
set_option maxRecDepth 100000 in
theorem c_M_signs (f s : Int) (w : Wd) (hf : 0 ≤ f ∧ f < 3) (h : 0 ≤ w 141 9 ∧ w 141 9 ≤ 9) (hb : ∀ f j, 0 ≤ f → f < 3 → 0 ≤ j → j < w 141 9 → -99 ≤ w 208 (3 * j + f) ∧ w 208 (3 * j + f) ≤ 99) : CallN 2 mX12_signs [(2, 141), (0, f), (0, s)] w (RV (0, bi (w 209 f ≤ wM w s f)) w) := by
  refine CallN.intro (by decide +kernel) (Nat.le_of_ble_eq_true rfl) (fun ρ hR => ?_)
  show AtN mX12_signs 2 ρ 0 [(0, (2, 141)), (1, (0, f)), (2, (0, s))] [] w
  refine s_aload_n dX12_signs_0 0 rfl rfl (s_iload_n dX12_signs_1 1 rfl (s_iload_n dX12_signs_2 2 rfl (n_invV (as := [(0, f), (0, s)]) dX12_signs_3 kv_X12_worthTo ml_X12_497 (c_M_worthTo f s w ⟨by omega, by omega⟩ h hb) (by decide) 141 cf_X12 rfl sh_141 rfl rfl rfl (Nat.le_of_ble_eq_true rfl) (s_aload_n dX12_signs_6 0 rfl rfl (n_getc (q := 209) 141 97 219 dX12_signs_7 cf_X12 ff_X12_217 rfl sh_141 rfl (by decide) rfl (by decide) (s_iload_n dX12_signs_10 1 rfl (n_iald 209 dX12_signs_11 rfl sh_209 (by decide) ⟨(by omega), (by omega)⟩ (v := (w 209 f)) rfl (s_icmp_lt 19 dX12_signs_12 (by decide) (fun c_12 => ?_) (fun c_12 => ?_)))))))))
  · skip
    refine s_iconst dX12_signs_19 (by decide) (n_zret dX12_signs_20 hR rfl (by first | exact Or.inl rfl | exact Or.inr rfl | exact bi_01 _ | omega) ?_)
    refine ⟨congrArg (fun z => some ((0 : Nat), z)) ?_, rfl⟩
    first | exact (bi_t (by omega)).symm | exact (bi_f (by omega)).symm | exact bi_congr (by omega)
  · skip
    refine s_iconst dX12_signs_15 (by decide) (s_goto 20 dX12_signs_16 (by decide) (n_zret dX12_signs_20 hR rfl (by first | exact Or.inl rfl | exact Or.inr rfl | exact bi_01 _ | omega) ?_))
    refine ⟨congrArg (fun z => some ((0 : Nat), z)) ?_, rfl⟩
    first | exact (bi_t (by omega)).symm | exact (bi_f (by omega)).symm | exact bi_congr (by omega)

set_option maxRecDepth 100000 in
theorem c_M_worthAll (s : Int) (w : Wd) (h : 0 ≤ w 141 9 ∧ w 141 9 ≤ 9) (hb : ∀ f j, 0 ≤ f → f < 3 → 0 ≤ j → j < w 141 9 → -99 ≤ w 208 (3 * j + f) ∧ w 208 (3 * j + f) ≤ 99) : CallN 2 mX12_worthAll [(2, 141), (0, s)] w (RV (0, allM w s) w) := by
  refine CallN.intro (by decide +kernel) (Nat.le_of_ble_eq_true rfl) (fun ρ hR => ?_)
  show AtN mX12_worthAll 2 ρ 0 [(0, (2, 141)), (1, (0, s))] [] w
  have hx0 := wM_bd (s := s) h hb 0 (by decide) (by decide)
  have hx1 := wM_bd (s := s) h hb 1 (by decide) (by decide)
  have hx2 := wM_bd (s := s) h hb 2 (by decide) (by decide)
  refine s_aload_n dX12_worthAll_0 0 rfl rfl (s_iconst dX12_worthAll_1 (by decide) (s_iload_n dX12_worthAll_2 1 rfl (n_invV (as := [(0, 0), (0, s)]) dX12_worthAll_3 kv_X12_worthTo ml_X12_497 (c_M_worthTo 0 s w ⟨by decide, by decide⟩ h hb) (by decide) 141 cf_X12 rfl sh_141 rfl rfl rfl (Nat.le_of_ble_eq_true rfl) (s_aload_n dX12_worthAll_6 0 rfl rfl (s_iconst dX12_worthAll_7 (by decide) (s_iload_n dX12_worthAll_8 1 rfl (n_invV (as := [(0, 1), (0, s)]) dX12_worthAll_9 kv_X12_worthTo ml_X12_497 (c_M_worthTo 1 s w ⟨by decide, by decide⟩ h hb) (by decide) 141 cf_X12 rfl sh_141 rfl rfl rfl (Nat.le_of_ble_eq_true rfl) (n_add (z := ((wM w s 0) + (wM w s 1))) dX12_worthAll_12 (wr_id (by omega) (by omega)) (s_aload_n dX12_worthAll_13 0 rfl rfl ?_)))))))))
  refine s_iconst dX12_worthAll_14 (by decide) (s_iload_n dX12_worthAll_15 1 rfl (n_invV (as := [(0, 2), (0, s)]) dX12_worthAll_16 kv_X12_worthTo ml_X12_497 (c_M_worthTo 2 s w ⟨by decide, by decide⟩ h hb) (by decide) 141 cf_X12 rfl sh_141 rfl rfl rfl (Nat.le_of_ble_eq_true rfl) (n_add (z := (((wM w s 0) + (wM w s 1)) + (wM w s 2))) dX12_worthAll_19 (wr_id (by omega) (by omega)) (n_iret dX12_worthAll_20 hR rfl ?_))))
  exact ⟨rfl, rfl⟩

def sgM (w : Wd) (s : Int) : Int := sgV (w 209 0 ≤ wM w s 0) (w 209 1 ≤ wM w s 1) (w 209 2 ≤ wM w s 2)
set_option maxRecDepth 100000 in
theorem c_M_poolOf (w : Wd) (h : 0 ≤ w 141 9 ∧ w 141 9 ≤ 9) (hb : ∀ f j, 0 ≤ f → f < 3 → 0 ≤ j → j < w 141 9 → -99 ≤ w 208 (3 * j + f) ∧ w 208 (3 * j + f) ≤ 99) : CallN 3 mX12_poolOf [(2, 141)] w (RV (0, bsI (sgM w) (allM w) (ishl 1 (w 141 9)).toNat) w) := by
  refine CallN.intro (by decide +kernel) (Nat.le_of_ble_eq_true rfl) (fun ρ hR => ?_)
  show AtN mX12_poolOf 3 ρ 0 [(0, (2, 141))] [] w
  have qb := ishl1_bd h.1 (show w 141 9 ≤ 16 by omega)
  have L_4 : ∀ (fu : Nat) (i : Int) (b : Int), 0 ≤ i ∧ i ≤ ishl 1 (w 141 9) → b = bsI (sgM w) (allM w) i.toNat → (ishl 1 (w 141 9) - i).toNat < fu → AtN mX12_poolOf 3 ρ 4 [(0, (2, 141)), (1, (0, b)), (2, (0, i))] [] w := by
    intro fu
    induction fu with
    | zero => intro i b hi ha hm; exact absurd hm (Nat.not_lt_zero _)
    | succ fu ih =>
      intro i b hi ha hm
      refine s_iload_n dX12_poolOf_4 2 rfl (s_iconst dX12_poolOf_5 (by decide) (s_aload_n dX12_poolOf_6 0 rfl rfl (n_getf 141 9 0 dX12_poolOf_7 cf_X12 ff_X12_494 rfl sh_141 rfl (by decide) (v := (w 141 9)) rfl (s_ishl dX12_poolOf_10 (s_icmp_ge 70 dX12_poolOf_11 (by decide) (fun c_11 => ?_) (fun c_11 => ?_))))))
      · skip
        refine s_iload_n dX12_poolOf_70 1 rfl (n_iret dX12_poolOf_71 hR rfl ?_)
        have e9 : i = ishl 1 (w 141 9) := by omega
        rw [e9] at ha
        exact ⟨congrArg (fun z => some ((0 : Nat), z)) ha, rfl⟩
      · skip
        refine s_aload_n dX12_poolOf_14 0 rfl rfl (s_iconst dX12_poolOf_15 (by decide) (s_iload_n dX12_poolOf_16 2 rfl (n_invV (as := [(0, 0), (0, i)]) dX12_poolOf_17 kv_X12_signs ml_X12_500 (c_M_signs 0 i w ⟨by decide, by decide⟩ h hb) (by decide) 141 cf_X12 rfl sh_141 rfl rfl rfl (Nat.le_of_ble_eq_true rfl) (n_ifeq_b 64 dX12_poolOf_20 (by decide) (fun c_20 => ?_) (fun c_20 => ?_)))))
        · skip
          refine s_iinc (z := (i + 1)) (ls' := [(0, (2, 141)), (1, (0, b)), (2, (0, (i + 1)))]) dX12_poolOf_64 2 rfl (Nat.le_of_ble_eq_true rfl) (wr_id (by omega) (by omega)) rfl (s_goto 4 dX12_poolOf_67 (by decide) ?_)
          exact ih (i + 1) b (by omega) (by have g := (sg_f' (w 209 0 ≤ wM w i 0) (w 209 1 ≤ wM w i 1) (w 209 2 ≤ wM w i 2)).1; rw [bsI_s hi.1, ← ha]; rw [if_neg]; rintro ⟨g1, g2⟩; have g3 := g.mp g1; omega) (by omega)
        · skip
          refine s_aload_n dX12_poolOf_23 0 rfl rfl (s_iconst dX12_poolOf_24 (by decide) (s_iload_n dX12_poolOf_25 2 rfl (n_invV (as := [(0, 1), (0, i)]) dX12_poolOf_26 kv_X12_signs ml_X12_500 (c_M_signs 1 i w ⟨by decide, by decide⟩ h hb) (by decide) 141 cf_X12 rfl sh_141 rfl rfl rfl (Nat.le_of_ble_eq_true rfl) (n_ifeq_b 64 dX12_poolOf_29 (by decide) (fun c_29 => ?_) (fun c_29 => ?_)))))
          · skip
            refine s_iinc (z := (i + 1)) (ls' := [(0, (2, 141)), (1, (0, b)), (2, (0, (i + 1)))]) dX12_poolOf_64 2 rfl (Nat.le_of_ble_eq_true rfl) (wr_id (by omega) (by omega)) rfl (s_goto 4 dX12_poolOf_67 (by decide) ?_)
            exact ih (i + 1) b (by omega) (by have g := (sg_f' (w 209 0 ≤ wM w i 0) (w 209 1 ≤ wM w i 1) (w 209 2 ≤ wM w i 2)).1; rw [bsI_s hi.1, ← ha]; rw [if_neg]; rintro ⟨g1, g2⟩; have g3 := g.mp g1; omega) (by omega)
          · skip
            refine s_aload_n dX12_poolOf_32 0 rfl rfl (s_iconst dX12_poolOf_33 (by decide) (s_iload_n dX12_poolOf_34 2 rfl (n_invV (as := [(0, 2), (0, i)]) dX12_poolOf_35 kv_X12_signs ml_X12_500 (c_M_signs 2 i w ⟨by decide, by decide⟩ h hb) (by decide) 141 cf_X12 rfl sh_141 rfl rfl rfl (Nat.le_of_ble_eq_true rfl) (n_ifne_b 44 dX12_poolOf_38 (by decide) (fun c_38 => ?_) (fun c_38 => ?_)))))
            · skip
              refine s_iload_n dX12_poolOf_44 1 rfl (s_iconst dX12_poolOf_45 (by decide) (s_icmp_eq 62 dX12_poolOf_46 (by decide) (fun c_46 => ?_) (fun c_46 => ?_)))
              · skip
                refine s_iload_n dX12_poolOf_62 2 rfl (s_istore_n (ls' := [(0, (2, 141)), (1, (0, i)), (2, (0, i))]) dX12_poolOf_63 (Nat.le_of_ble_eq_true rfl) rfl (s_iinc (z := (i + 1)) (ls' := [(0, (2, 141)), (1, (0, i)), (2, (0, (i + 1)))]) dX12_poolOf_64 2 rfl (Nat.le_of_ble_eq_true rfl) (wr_id (by omega) (by omega)) rfl (s_goto 4 dX12_poolOf_67 (by decide) ?_)))
                exact ih (i + 1) i (by omega) (by have g := (sg_f' (w 209 0 ≤ wM w i 0) (w 209 1 ≤ wM w i 1) (w 209 2 ≤ wM w i 2)).1; rw [bsI_s hi.1, ← ha]; rw [if_pos]; exact ⟨g.mpr ⟨by omega, by omega, by omega⟩, by omega⟩) (by omega)
              · skip
                refine s_aload_n dX12_poolOf_49 0 rfl rfl (s_iload_n dX12_poolOf_50 2 rfl (n_invV (as := [(0, i)]) dX12_poolOf_51 kv_X12_worthAll ml_X12_503 (c_M_worthAll i w h hb) (by decide) 141 cf_X12 rfl sh_141 rfl rfl rfl (Nat.le_of_ble_eq_true rfl) (s_aload_n dX12_poolOf_54 0 rfl rfl (s_iload_n dX12_poolOf_55 1 rfl (n_invV (as := [(0, b)]) dX12_poolOf_56 kv_X12_worthAll ml_X12_503 (c_M_worthAll b w h hb) (by decide) 141 cf_X12 rfl sh_141 rfl rfl rfl (Nat.le_of_ble_eq_true rfl) (s_icmp_le 64 dX12_poolOf_59 (by decide) (fun c_59 => ?_) (fun c_59 => ?_)))))))
                · skip
                  refine s_iinc (z := (i + 1)) (ls' := [(0, (2, 141)), (1, (0, b)), (2, (0, (i + 1)))]) dX12_poolOf_64 2 rfl (Nat.le_of_ble_eq_true rfl) (wr_id (by omega) (by omega)) rfl (s_goto 4 dX12_poolOf_67 (by decide) ?_)
                  exact ih (i + 1) b (by omega) (by have g := (sg_f' (w 209 0 ≤ wM w i 0) (w 209 1 ≤ wM w i 1) (w 209 2 ≤ wM w i 2)).1; rw [bsI_s hi.1, ← ha]; rw [if_neg]; rintro ⟨g1, g2⟩; have g3 := g.mp g1; omega) (by omega)
                · skip
                  refine s_iload_n dX12_poolOf_62 2 rfl (s_istore_n (ls' := [(0, (2, 141)), (1, (0, i)), (2, (0, i))]) dX12_poolOf_63 (Nat.le_of_ble_eq_true rfl) rfl (s_iinc (z := (i + 1)) (ls' := [(0, (2, 141)), (1, (0, i)), (2, (0, (i + 1)))]) dX12_poolOf_64 2 rfl (Nat.le_of_ble_eq_true rfl) (wr_id (by omega) (by omega)) rfl (s_goto 4 dX12_poolOf_67 (by decide) ?_)))
                  exact ih (i + 1) i (by omega) (by have g := (sg_f' (w 209 0 ≤ wM w i 0) (w 209 1 ≤ wM w i 1) (w 209 2 ≤ wM w i 2)).1; rw [bsI_s hi.1, ← ha]; rw [if_pos]; exact ⟨g.mpr ⟨by omega, by omega, by omega⟩, by omega⟩) (by omega)
            · skip
              refine s_goto 64 dX12_poolOf_41 (by decide) (s_iinc (z := (i + 1)) (ls' := [(0, (2, 141)), (1, (0, b)), (2, (0, (i + 1)))]) dX12_poolOf_64 2 rfl (Nat.le_of_ble_eq_true rfl) (wr_id (by omega) (by omega)) rfl (s_goto 4 dX12_poolOf_67 (by decide) ?_))
              exact ih (i + 1) b (by omega) (by have g := (sg_f' (w 209 0 ≤ wM w i 0) (w 209 1 ≤ wM w i 1) (w 209 2 ≤ wM w i 2)).1; rw [bsI_s hi.1, ← ha]; rw [if_neg]; rintro ⟨g1, g2⟩; have g3 := g.mp g1; omega) (by omega)
  refine s_iconst dX12_poolOf_0 (by decide) (s_istore_n (ls' := [(0, (2, 141)), (1, (0, (-1)))]) dX12_poolOf_1 (Nat.le_of_ble_eq_true rfl) rfl (s_iconst dX12_poolOf_2 (by decide) (s_istore_n (ls' := [(0, (2, 141)), (1, (0, (-1))), (2, (0, 0))]) dX12_poolOf_3 (Nat.le_of_ble_eq_true rfl) rfl ?_)))
  exact L_4 _ 0 (-1) (by omega) rfl (Nat.lt_succ_self _)

set_option maxRecDepth 100000 in
theorem c_M_shutOut (w : Wd) (h : 0 ≤ w 141 9 ∧ w 141 9 ≤ 9) (hb : ∀ f j, 0 ≤ f → f < 3 → 0 ≤ j → j < w 141 9 → -99 ≤ w 208 (3 * j + f) ∧ w 208 (3 * j + f) ≤ 99) : CallN 3 mX12_shutOut [(2, 141)] w (RQ (fun z w1 => w1 = w ∧ ShO (fun f n => w 209 f ≤ wM w n f) (ishl 1 (w 141 9)) z)) := by
  refine CallN.intro (by decide +kernel) (Nat.le_of_ble_eq_true rfl) (fun ρ hR => ?_)
  show AtN mX12_shutOut 3 ρ 0 [(0, (2, 141))] [] w
  have qb := ishl1_bd h.1 (show w 141 9 ≤ 16 by omega)
  have L_9 : ∀ (fu : Nat) (f : Int) (i : Int), 0 ≤ f ∧ f < 3 → 0 ≤ i ∧ i ≤ ishl 1 (w 141 9) → (∀ g n, 0 ≤ g → g < f → 0 ≤ n → n < ishl 1 (w 141 9) → ¬ (w 209 ((g + 1) % 3) ≤ wM w n ((g + 1) % 3) ∧ w 209 ((g + 2) % 3) ≤ wM w n ((g + 2) % 3))) → (∀ n, 0 ≤ n → n < i → ¬ (w 209 ((f + 1) % 3) ≤ wM w n ((f + 1) % 3) ∧ w 209 ((f + 2) % 3) ≤ wM w n ((f + 2) % 3))) → (∀ f1, f1 = f + 1 → (∀ g n, 0 ≤ g → g < f1 → 0 ≤ n → n < ishl 1 (w 141 9) → ¬ (w 209 ((g + 1) % 3) ≤ wM w n ((g + 1) % 3) ∧ w 209 ((g + 2) % 3) ≤ wM w n ((g + 2) % 3))) → AtN mX12_shutOut 3 ρ 2 [(0, (2, 141)), (1, (0, f1))] [] w) → (ishl 1 (w 141 9) - i).toNat < fu → AtN mX12_shutOut 3 ρ 9 [(0, (2, 141)), (1, (0, f)), (2, (0, i))] [] w := by
    intro fu
    induction fu with
    | zero => intro f i hf hi ho hp hK hm; exact absurd hm (Nat.not_lt_zero _)
    | succ fu ih =>
      intro f i hf hi ho hp hK hm
      refine s_iload_n dX12_shutOut_9 2 rfl (s_iconst dX12_shutOut_10 (by decide) (s_aload_n dX12_shutOut_11 0 rfl rfl (n_getf 141 9 0 dX12_shutOut_12 cf_X12 ff_X12_494 rfl sh_141 rfl (by decide) (v := (w 141 9)) rfl (s_ishl dX12_shutOut_15 (s_icmp_ge 53 dX12_shutOut_16 (by decide) (fun c_16 => ?_) (fun c_16 => ?_))))))
      · skip
        refine At.keep (ls' := [(0, (2, 141)), (1, (0, f))]) [0, 1] rfl (s_iinc (z := (f + 1)) (ls' := [(0, (2, 141)), (1, (0, (f + 1)))]) dX12_shutOut_53 1 rfl (Nat.le_of_ble_eq_true rfl) (wr_id (by omega) (by omega)) rfl (s_goto 2 dX12_shutOut_56 (by decide) (hK (f + 1) rfl (fun g n a b c d => ?_))))
        by_cases e : g = f
        · subst e; exact hp n c (by omega)
        · exact ho g n a (by omega) c d
      · skip
        refine s_aload_n dX12_shutOut_19 0 rfl rfl (s_iload_n dX12_shutOut_20 1 rfl (s_iconst dX12_shutOut_21 (by decide) (n_add (z := (f + 1)) dX12_shutOut_22 (wr_id (by omega) (by omega)) (s_iconst dX12_shutOut_23 (by decide) (s_irem dX12_shutOut_24 (by omega) (by omega) (s_iload_n dX12_shutOut_25 2 rfl (n_invV (as := [(0, ((f + 1) % 3)), (0, i)]) dX12_shutOut_26 kv_X12_signs ml_X12_500 (c_M_signs ((f + 1) % 3) i w ⟨by omega, by omega⟩ h hb) (by decide) 141 cf_X12 rfl sh_141 rfl rfl rfl (Nat.le_of_ble_eq_true rfl) (n_ifeq_b 47 dX12_shutOut_29 (by decide) (fun c_29 => ?_) (fun c_29 => ?_)))))))))
        · skip
          refine s_iinc (z := (i + 1)) (ls' := [(0, (2, 141)), (1, (0, f)), (2, (0, (i + 1)))]) dX12_shutOut_47 2 rfl (Nat.le_of_ble_eq_true rfl) (wr_id (by omega) (by omega)) rfl (s_goto 9 dX12_shutOut_50 (by decide) ?_)
          exact ih f (i + 1) (by omega) (by omega) ho (fun n n0 n1 => by by_cases e : n = i; (subst e; omega); exact hp n n0 (by omega)) hK (by omega)
        · skip
          refine s_aload_n dX12_shutOut_32 0 rfl rfl (s_iload_n dX12_shutOut_33 1 rfl (s_iconst dX12_shutOut_34 (by decide) (n_add (z := (f + 2)) dX12_shutOut_35 (wr_id (by omega) (by omega)) (s_iconst dX12_shutOut_36 (by decide) (s_irem dX12_shutOut_37 (by omega) (by omega) (s_iload_n dX12_shutOut_38 2 rfl (n_invV (as := [(0, ((f + 2) % 3)), (0, i)]) dX12_shutOut_39 kv_X12_signs ml_X12_500 (c_M_signs ((f + 2) % 3) i w ⟨by omega, by omega⟩ h hb) (by decide) 141 cf_X12 rfl sh_141 rfl rfl rfl (Nat.le_of_ble_eq_true rfl) (n_ifeq_b 47 dX12_shutOut_42 (by decide) (fun c_42 => ?_) (fun c_42 => ?_)))))))))
          · skip
            refine s_iinc (z := (i + 1)) (ls' := [(0, (2, 141)), (1, (0, f)), (2, (0, (i + 1)))]) dX12_shutOut_47 2 rfl (Nat.le_of_ble_eq_true rfl) (wr_id (by omega) (by omega)) rfl (s_goto 9 dX12_shutOut_50 (by decide) ?_)
            exact ih f (i + 1) (by omega) (by omega) ho (fun n n0 n1 => by by_cases e : n = i; (subst e; omega); exact hp n n0 (by omega)) hK (by omega)
          · skip
            refine s_iload_n dX12_shutOut_45 1 rfl (n_iret dX12_shutOut_46 hR rfl ?_)
            exact ⟨_, rfl, rfl, ⟨by omega, by omega⟩, fun g n a b c d => ho g n a b c d, fun q => ⟨i, by omega, by omega, by omega, by omega⟩⟩
  have L_2 : ∀ (fu : Nat) (f : Int), 0 ≤ f ∧ f ≤ 3 → (∀ g n, 0 ≤ g → g < f → 0 ≤ n → n < ishl 1 (w 141 9) → ¬ (w 209 ((g + 1) % 3) ≤ wM w n ((g + 1) % 3) ∧ w 209 ((g + 2) % 3) ≤ wM w n ((g + 2) % 3))) → (3 - f).toNat < fu → AtN mX12_shutOut 3 ρ 2 [(0, (2, 141)), (1, (0, f))] [] w := by
    intro fu
    induction fu with
    | zero => intro f hf ho hm; exact absurd hm (Nat.not_lt_zero _)
    | succ fu ih =>
      intro f hf ho hm
      refine s_iload_n dX12_shutOut_2 1 rfl (s_iconst dX12_shutOut_3 (by decide) (s_icmp_ge 59 dX12_shutOut_4 (by decide) (fun c_4 => ?_) (fun c_4 => ?_)))
      · skip
        refine s_iconst dX12_shutOut_59 (by decide) (n_iret dX12_shutOut_60 hR rfl ?_)
        exact ⟨_, rfl, rfl, ⟨by omega, by omega⟩, fun g n a b c d => ho g n a (by omega) c d, fun q => absurd q (by omega)⟩
      · skip
        refine s_iconst dX12_shutOut_7 (by decide) (s_istore_n (ls' := [(0, (2, 141)), (1, (0, f)), (2, (0, 0))]) dX12_shutOut_8 (Nat.le_of_ble_eq_true rfl) rfl ?_)
        exact L_9 _ f 0 (by omega) (by omega) ho (fun n n0 n1 => absurd n1 (by omega)) (fun f1 e1 h1 => ih f1 (by omega) h1 (by omega)) (Nat.lt_succ_self _)
  refine s_iconst dX12_shutOut_0 (by decide) (s_istore_n (ls' := [(0, (2, 141)), (1, (0, 0))]) dX12_shutOut_1 (Nat.le_of_ble_eq_true rfl) rfl ?_)
  exact L_2 _ 0 (by omega) (fun g n a b => absurd b (by omega)) (Nat.lt_succ_self _)

set_option maxRecDepth 100000 in
theorem m_pool (q : Int) (w : Wd) (h : 0 ≤ w 141 9 ∧ w 141 9 ≤ 9) (hb : ∀ f j, 0 ≤ f → f < 3 → 0 ≤ j → j < w 141 9 → -99 ≤ w 208 (3 * j + f) ∧ w 208 (3 * j + f) ≤ 99) : CallN 4 mX12_pool [(2, 141), (0, q)] w (RQ (fun z w1 => w1 = w ∧ ∃ o, ShO (fun f n => w 209 f ≤ wM w n f) (ishl 1 (w 141 9)) o ∧ z = poolV (bsI (sgM w) (allM w) (ishl 1 (w 141 9)).toNat) o (allM w) (wM w) q)) := by
  refine CallN.intro (by decide +kernel) (Nat.le_of_ble_eq_true rfl) (fun ρ hR => ?_)
  show AtN mX12_pool 4 ρ 0 [(0, (2, 141)), (1, (0, q))] [] w
  have qb := ishl1_bd h.1 (show w 141 9 ≤ 16 by omega)
  have qb2 := bsI_bd (sgM w) (allM w) (ishl 1 (w 141 9)).toNat
  refine s_iload_n dX12_pool_0 1 rfl (s_iconst dX12_pool_1 (by decide) (s_iconst dX12_pool_2 (by decide) (n_invS (as := [(0, q), (0, 0), (0, 2)]) dX12_pool_3 kv_X12_isIn ml_X12_223 (c_isIn q 0 2 w) (by decide) rfl rfl (Nat.le_of_ble_eq_true rfl) (n_ifne_b 22 dX12_pool_6 (by decide) (fun c_6 => ?_) (fun c_6 => ?_)))))
  · skip
    refine s_aload_n dX12_pool_22 0 rfl rfl (n_invV (as := []) dX12_pool_23 kv_X12_poolOf ml_X12_506 (c_M_poolOf  w h hb) (by decide) 141 cf_X12 rfl sh_141 rfl rfl rfl (Nat.le_of_ble_eq_true rfl) (s_istore_n (ls' := [(0, (2, 141)), (1, (0, q)), (2, (0, (bsI (sgM w) (allM w) (ishl 1 (w 141 9)).toNat)))]) dX12_pool_26 (Nat.le_of_ble_eq_true rfl) rfl (s_iload_n dX12_pool_27 1 rfl ?_)))
    rcases (show (q < 0 ∨ 2 < q) ∨ q = 0 ∨ q = 1 ∨ q = 2 from by omega) with c_28 | c_28 | c_28 | c_28
    · refine s_tableOut 87 dX12_pool_28 c_28 (by decide) ?_
      refine s_iload_n dX12_pool_87 2 rfl (s_iconst dX12_pool_88 (by decide) (s_icmp_ne 96 dX12_pool_89 (by decide) (fun c_89 => ?_) (fun c_89 => ?_)))
      · skip
        refine s_aload_n dX12_pool_96 0 rfl rfl (s_iload_n dX12_pool_97 1 rfl (s_bipush dX12_pool_98 (by decide) (n_sub (z := (q - 10)) dX12_pool_100 (wr_id (by omega) (by omega)) (s_iload_n dX12_pool_101 2 rfl (n_invV (as := [(0, (q - 10)), (0, (bsI (sgM w) (allM w) (ishl 1 (w 141 9)).toNat))]) dX12_pool_102 kv_X12_worthTo ml_X12_497 (c_M_worthTo (q - 10) (bsI (sgM w) (allM w) (ishl 1 (w 141 9)).toNat) w ⟨by omega, by omega⟩ h hb) (by decide) 141 cf_X12 rfl sh_141 rfl rfl rfl (Nat.le_of_ble_eq_true rfl) (n_iret dX12_pool_105 hR rfl ?_))))))
        obtain ⟨z8, hz8⟩ : ∃ z8, ShO (fun f n => w 209 f ≤ wM w n f) (ishl 1 (w 141 9)) z8 := ⟨_, ShO_lo (d0 := fun _ => inferInstance) (d1 := fun _ => inferInstance) (d2 := fun _ => inferInstance) (ishl 1 (w 141 9)).toNat |> fun z => by rwa [toN_c (by omega)] at z⟩
        refine ⟨_, rfl, ?_, z8, hz8, ?_⟩
        · first | rfl | exact hz_79.1
        · unfold poolV
          first
          | (rw [if_pos (show q = 0 by omega)]; done)
          | (rw [if_neg (show ¬ q = 0 by omega), if_pos (show q = 1 by omega)]; first | exact (if_pos (by omega)).symm | exact (if_neg (by omega)).symm)
          | (rw [if_neg (show ¬ q = 0 by omega), if_neg (show ¬ q = 1 by omega), if_pos (show q = 2 by omega)]; first | exact (if_pos (by omega)).symm | exact (if_neg (by omega)).symm)
          | (rw [if_neg (show ¬ q = 0 by omega), if_neg (show ¬ q = 1 by omega), if_neg (show ¬ q = 2 by omega), if_neg (show ¬ (10 ≤ q ∧ q ≤ 12) by omega)]; done)
          | (rw [if_neg (show ¬ q = 0 by omega), if_neg (show ¬ q = 1 by omega), if_neg (show ¬ q = 2 by omega), if_pos (show (10 ≤ q ∧ q ≤ 12) by omega)]; first | exact (if_pos (by omega)).symm | exact (if_neg (by omega)).symm)
      · skip
        refine s_iconst dX12_pool_92 (by decide) (s_goto 105 dX12_pool_93 (by decide) (n_iret dX12_pool_105 hR rfl ?_))
        obtain ⟨z8, hz8⟩ : ∃ z8, ShO (fun f n => w 209 f ≤ wM w n f) (ishl 1 (w 141 9)) z8 := ⟨_, ShO_lo (d0 := fun _ => inferInstance) (d1 := fun _ => inferInstance) (d2 := fun _ => inferInstance) (ishl 1 (w 141 9)).toNat |> fun z => by rwa [toN_c (by omega)] at z⟩
        refine ⟨_, rfl, ?_, z8, hz8, ?_⟩
        · first | rfl | exact hz_79.1
        · unfold poolV
          first
          | (rw [if_pos (show q = 0 by omega)]; done)
          | (rw [if_neg (show ¬ q = 0 by omega), if_pos (show q = 1 by omega)]; first | exact (if_pos (by omega)).symm | exact (if_neg (by omega)).symm)
          | (rw [if_neg (show ¬ q = 0 by omega), if_neg (show ¬ q = 1 by omega), if_pos (show q = 2 by omega)]; first | exact (if_pos (by omega)).symm | exact (if_neg (by omega)).symm)
          | (rw [if_neg (show ¬ q = 0 by omega), if_neg (show ¬ q = 1 by omega), if_neg (show ¬ q = 2 by omega), if_neg (show ¬ (10 ≤ q ∧ q ≤ 12) by omega)]; done)
          | (rw [if_neg (show ¬ q = 0 by omega), if_neg (show ¬ q = 1 by omega), if_neg (show ¬ q = 2 by omega), if_pos (show (10 ≤ q ∧ q ≤ 12) by omega)]; first | exact (if_pos (by omega)).symm | exact (if_neg (by omega)).symm)
    · refine s_tableIn 56 0 dX12_pool_28 (by rw [c_28]; rfl) (by decide) rfl (by decide) ?_
      refine s_iload_n dX12_pool_56 2 rfl (n_iret dX12_pool_57 hR rfl ?_)
      obtain ⟨z8, hz8⟩ : ∃ z8, ShO (fun f n => w 209 f ≤ wM w n f) (ishl 1 (w 141 9)) z8 := ⟨_, ShO_lo (d0 := fun _ => inferInstance) (d1 := fun _ => inferInstance) (d2 := fun _ => inferInstance) (ishl 1 (w 141 9)).toNat |> fun z => by rwa [toN_c (by omega)] at z⟩
      refine ⟨_, rfl, ?_, z8, hz8, ?_⟩
      · first | rfl | exact hz_79.1
      · unfold poolV
        first
        | (rw [if_pos (show q = 0 by omega)]; done)
        | (rw [if_neg (show ¬ q = 0 by omega), if_pos (show q = 1 by omega)]; first | exact (if_pos (by omega)).symm | exact (if_neg (by omega)).symm)
        | (rw [if_neg (show ¬ q = 0 by omega), if_neg (show ¬ q = 1 by omega), if_pos (show q = 2 by omega)]; first | exact (if_pos (by omega)).symm | exact (if_neg (by omega)).symm)
        | (rw [if_neg (show ¬ q = 0 by omega), if_neg (show ¬ q = 1 by omega), if_neg (show ¬ q = 2 by omega), if_neg (show ¬ (10 ≤ q ∧ q ≤ 12) by omega)]; done)
        | (rw [if_neg (show ¬ q = 0 by omega), if_neg (show ¬ q = 1 by omega), if_neg (show ¬ q = 2 by omega), if_pos (show (10 ≤ q ∧ q ≤ 12) by omega)]; first | exact (if_pos (by omega)).symm | exact (if_neg (by omega)).symm)
    · refine s_tableIn 58 1 dX12_pool_28 (by rw [c_28]; rfl) (by decide) rfl (by decide) ?_
      refine s_iload_n dX12_pool_58 2 rfl (s_iconst dX12_pool_59 (by decide) (s_icmp_ne 67 dX12_pool_60 (by decide) (fun c_60 => ?_) (fun c_60 => ?_)))
      · skip
        refine s_aload_n dX12_pool_67 0 rfl rfl (s_iload_n dX12_pool_68 2 rfl (n_invV (as := [(0, (bsI (sgM w) (allM w) (ishl 1 (w 141 9)).toNat))]) dX12_pool_69 kv_X12_worthAll ml_X12_503 (c_M_worthAll (bsI (sgM w) (allM w) (ishl 1 (w 141 9)).toNat) w h hb) (by decide) 141 cf_X12 rfl sh_141 rfl rfl rfl (Nat.le_of_ble_eq_true rfl) (n_iret dX12_pool_72 hR rfl ?_)))
        obtain ⟨z8, hz8⟩ : ∃ z8, ShO (fun f n => w 209 f ≤ wM w n f) (ishl 1 (w 141 9)) z8 := ⟨_, ShO_lo (d0 := fun _ => inferInstance) (d1 := fun _ => inferInstance) (d2 := fun _ => inferInstance) (ishl 1 (w 141 9)).toNat |> fun z => by rwa [toN_c (by omega)] at z⟩
        refine ⟨_, rfl, ?_, z8, hz8, ?_⟩
        · first | rfl | exact hz_79.1
        · unfold poolV
          first
          | (rw [if_pos (show q = 0 by omega)]; done)
          | (rw [if_neg (show ¬ q = 0 by omega), if_pos (show q = 1 by omega)]; first | exact (if_pos (by omega)).symm | exact (if_neg (by omega)).symm)
          | (rw [if_neg (show ¬ q = 0 by omega), if_neg (show ¬ q = 1 by omega), if_pos (show q = 2 by omega)]; first | exact (if_pos (by omega)).symm | exact (if_neg (by omega)).symm)
          | (rw [if_neg (show ¬ q = 0 by omega), if_neg (show ¬ q = 1 by omega), if_neg (show ¬ q = 2 by omega), if_neg (show ¬ (10 ≤ q ∧ q ≤ 12) by omega)]; done)
          | (rw [if_neg (show ¬ q = 0 by omega), if_neg (show ¬ q = 1 by omega), if_neg (show ¬ q = 2 by omega), if_pos (show (10 ≤ q ∧ q ≤ 12) by omega)]; first | exact (if_pos (by omega)).symm | exact (if_neg (by omega)).symm)
      · skip
        refine s_iconst dX12_pool_63 (by decide) (s_goto 72 dX12_pool_64 (by decide) (n_iret dX12_pool_72 hR rfl ?_))
        obtain ⟨z8, hz8⟩ : ∃ z8, ShO (fun f n => w 209 f ≤ wM w n f) (ishl 1 (w 141 9)) z8 := ⟨_, ShO_lo (d0 := fun _ => inferInstance) (d1 := fun _ => inferInstance) (d2 := fun _ => inferInstance) (ishl 1 (w 141 9)).toNat |> fun z => by rwa [toN_c (by omega)] at z⟩
        refine ⟨_, rfl, ?_, z8, hz8, ?_⟩
        · first | rfl | exact hz_79.1
        · unfold poolV
          first
          | (rw [if_pos (show q = 0 by omega)]; done)
          | (rw [if_neg (show ¬ q = 0 by omega), if_pos (show q = 1 by omega)]; first | exact (if_pos (by omega)).symm | exact (if_neg (by omega)).symm)
          | (rw [if_neg (show ¬ q = 0 by omega), if_neg (show ¬ q = 1 by omega), if_pos (show q = 2 by omega)]; first | exact (if_pos (by omega)).symm | exact (if_neg (by omega)).symm)
          | (rw [if_neg (show ¬ q = 0 by omega), if_neg (show ¬ q = 1 by omega), if_neg (show ¬ q = 2 by omega), if_neg (show ¬ (10 ≤ q ∧ q ≤ 12) by omega)]; done)
          | (rw [if_neg (show ¬ q = 0 by omega), if_neg (show ¬ q = 1 by omega), if_neg (show ¬ q = 2 by omega), if_pos (show (10 ≤ q ∧ q ≤ 12) by omega)]; first | exact (if_pos (by omega)).symm | exact (if_neg (by omega)).symm)
    · refine s_tableIn 73 2 dX12_pool_28 (by rw [c_28]; rfl) (by decide) rfl (by decide) ?_
      refine s_iload_n dX12_pool_73 2 rfl (s_iconst dX12_pool_74 (by decide) (s_icmp_ne 85 dX12_pool_75 (by decide) (fun c_75 => ?_) (fun c_75 => ?_)))
      · skip
        refine s_iconst dX12_pool_85 (by decide) (n_iret dX12_pool_86 hR rfl ?_)
        obtain ⟨z8, hz8⟩ : ∃ z8, ShO (fun f n => w 209 f ≤ wM w n f) (ishl 1 (w 141 9)) z8 := ⟨_, ShO_lo (d0 := fun _ => inferInstance) (d1 := fun _ => inferInstance) (d2 := fun _ => inferInstance) (ishl 1 (w 141 9)).toNat |> fun z => by rwa [toN_c (by omega)] at z⟩
        refine ⟨_, rfl, ?_, z8, hz8, ?_⟩
        · first | rfl | exact hz_79.1
        · unfold poolV
          first
          | (rw [if_pos (show q = 0 by omega)]; done)
          | (rw [if_neg (show ¬ q = 0 by omega), if_pos (show q = 1 by omega)]; first | exact (if_pos (by omega)).symm | exact (if_neg (by omega)).symm)
          | (rw [if_neg (show ¬ q = 0 by omega), if_neg (show ¬ q = 1 by omega), if_pos (show q = 2 by omega)]; first | exact (if_pos (by omega)).symm | exact (if_neg (by omega)).symm)
          | (rw [if_neg (show ¬ q = 0 by omega), if_neg (show ¬ q = 1 by omega), if_neg (show ¬ q = 2 by omega), if_neg (show ¬ (10 ≤ q ∧ q ≤ 12) by omega)]; done)
          | (rw [if_neg (show ¬ q = 0 by omega), if_neg (show ¬ q = 1 by omega), if_neg (show ¬ q = 2 by omega), if_pos (show (10 ≤ q ∧ q ≤ 12) by omega)]; first | exact (if_pos (by omega)).symm | exact (if_neg (by omega)).symm)
      · skip
        refine s_aload_n dX12_pool_78 0 rfl rfl (n_invV' (as := []) dX12_pool_79 kv_X12_shutOut ml_X12_509 (c_M_shutOut  w h hb) (by decide) 141 cf_X12 rfl sh_141 rfl rfl rfl (Nat.le_of_ble_eq_true rfl) ?_)
        rintro r_79 w_79 ⟨z_79, rfl, hz_79⟩
        show AtN _ _ ρ _ _ [(0, z_79)] w_79
        refine s_goto 86 dX12_pool_82 (by decide) (n_iret dX12_pool_86 hR rfl ?_)
        refine ⟨_, rfl, ?_, z_79, hz_79.2, ?_⟩
        · first | rfl | exact hz_79.1
        · unfold poolV
          first
          | (rw [if_pos (show q = 0 by omega)]; done)
          | (rw [if_neg (show ¬ q = 0 by omega), if_pos (show q = 1 by omega)]; first | exact (if_pos (by omega)).symm | exact (if_neg (by omega)).symm)
          | (rw [if_neg (show ¬ q = 0 by omega), if_neg (show ¬ q = 1 by omega), if_pos (show q = 2 by omega)]; first | exact (if_pos (by omega)).symm | exact (if_neg (by omega)).symm)
          | (rw [if_neg (show ¬ q = 0 by omega), if_neg (show ¬ q = 1 by omega), if_neg (show ¬ q = 2 by omega), if_neg (show ¬ (10 ≤ q ∧ q ≤ 12) by omega)]; done)
          | (rw [if_neg (show ¬ q = 0 by omega), if_neg (show ¬ q = 1 by omega), if_neg (show ¬ q = 2 by omega), if_pos (show (10 ≤ q ∧ q ≤ 12) by omega)]; first | exact (if_pos (by omega)).symm | exact (if_neg (by omega)).symm)
  · skip
    refine s_iload_n dX12_pool_9 1 rfl (s_bipush dX12_pool_10 (by decide) (s_bipush dX12_pool_12 (by decide) (n_invS (as := [(0, q), (0, 10), (0, 12)]) dX12_pool_14 kv_X12_isIn ml_X12_223 (c_isIn q 10 12 w) (by decide) rfl rfl (Nat.le_of_ble_eq_true rfl) (n_ifne_b 22 dX12_pool_17 (by decide) (fun c_17 => ?_) (fun c_17 => ?_)))))
    · skip
      refine s_aload_n dX12_pool_22 0 rfl rfl (n_invV (as := []) dX12_pool_23 kv_X12_poolOf ml_X12_506 (c_M_poolOf  w h hb) (by decide) 141 cf_X12 rfl sh_141 rfl rfl rfl (Nat.le_of_ble_eq_true rfl) (s_istore_n (ls' := [(0, (2, 141)), (1, (0, q)), (2, (0, (bsI (sgM w) (allM w) (ishl 1 (w 141 9)).toNat)))]) dX12_pool_26 (Nat.le_of_ble_eq_true rfl) rfl (s_iload_n dX12_pool_27 1 rfl ?_)))
      rcases (show (q < 0 ∨ 2 < q) ∨ q = 0 ∨ q = 1 ∨ q = 2 from by omega) with c_28 | c_28 | c_28 | c_28
      · refine s_tableOut 87 dX12_pool_28 c_28 (by decide) ?_
        refine s_iload_n dX12_pool_87 2 rfl (s_iconst dX12_pool_88 (by decide) (s_icmp_ne 96 dX12_pool_89 (by decide) (fun c_89 => ?_) (fun c_89 => ?_)))
        · skip
          refine s_aload_n dX12_pool_96 0 rfl rfl (s_iload_n dX12_pool_97 1 rfl (s_bipush dX12_pool_98 (by decide) (n_sub (z := (q - 10)) dX12_pool_100 (wr_id (by omega) (by omega)) (s_iload_n dX12_pool_101 2 rfl (n_invV (as := [(0, (q - 10)), (0, (bsI (sgM w) (allM w) (ishl 1 (w 141 9)).toNat))]) dX12_pool_102 kv_X12_worthTo ml_X12_497 (c_M_worthTo (q - 10) (bsI (sgM w) (allM w) (ishl 1 (w 141 9)).toNat) w ⟨by omega, by omega⟩ h hb) (by decide) 141 cf_X12 rfl sh_141 rfl rfl rfl (Nat.le_of_ble_eq_true rfl) (n_iret dX12_pool_105 hR rfl ?_))))))
          obtain ⟨z8, hz8⟩ : ∃ z8, ShO (fun f n => w 209 f ≤ wM w n f) (ishl 1 (w 141 9)) z8 := ⟨_, ShO_lo (d0 := fun _ => inferInstance) (d1 := fun _ => inferInstance) (d2 := fun _ => inferInstance) (ishl 1 (w 141 9)).toNat |> fun z => by rwa [toN_c (by omega)] at z⟩
          refine ⟨_, rfl, ?_, z8, hz8, ?_⟩
          · first | rfl | exact hz_79.1
          · unfold poolV
            first
            | (rw [if_pos (show q = 0 by omega)]; done)
            | (rw [if_neg (show ¬ q = 0 by omega), if_pos (show q = 1 by omega)]; first | exact (if_pos (by omega)).symm | exact (if_neg (by omega)).symm)
            | (rw [if_neg (show ¬ q = 0 by omega), if_neg (show ¬ q = 1 by omega), if_pos (show q = 2 by omega)]; first | exact (if_pos (by omega)).symm | exact (if_neg (by omega)).symm)
            | (rw [if_neg (show ¬ q = 0 by omega), if_neg (show ¬ q = 1 by omega), if_neg (show ¬ q = 2 by omega), if_neg (show ¬ (10 ≤ q ∧ q ≤ 12) by omega)]; done)
            | (rw [if_neg (show ¬ q = 0 by omega), if_neg (show ¬ q = 1 by omega), if_neg (show ¬ q = 2 by omega), if_pos (show (10 ≤ q ∧ q ≤ 12) by omega)]; first | exact (if_pos (by omega)).symm | exact (if_neg (by omega)).symm)
        · skip
          refine s_iconst dX12_pool_92 (by decide) (s_goto 105 dX12_pool_93 (by decide) (n_iret dX12_pool_105 hR rfl ?_))
          obtain ⟨z8, hz8⟩ : ∃ z8, ShO (fun f n => w 209 f ≤ wM w n f) (ishl 1 (w 141 9)) z8 := ⟨_, ShO_lo (d0 := fun _ => inferInstance) (d1 := fun _ => inferInstance) (d2 := fun _ => inferInstance) (ishl 1 (w 141 9)).toNat |> fun z => by rwa [toN_c (by omega)] at z⟩
          refine ⟨_, rfl, ?_, z8, hz8, ?_⟩
          · first | rfl | exact hz_79.1
          · unfold poolV
            first
            | (rw [if_pos (show q = 0 by omega)]; done)
            | (rw [if_neg (show ¬ q = 0 by omega), if_pos (show q = 1 by omega)]; first | exact (if_pos (by omega)).symm | exact (if_neg (by omega)).symm)
            | (rw [if_neg (show ¬ q = 0 by omega), if_neg (show ¬ q = 1 by omega), if_pos (show q = 2 by omega)]; first | exact (if_pos (by omega)).symm | exact (if_neg (by omega)).symm)
            | (rw [if_neg (show ¬ q = 0 by omega), if_neg (show ¬ q = 1 by omega), if_neg (show ¬ q = 2 by omega), if_neg (show ¬ (10 ≤ q ∧ q ≤ 12) by omega)]; done)
            | (rw [if_neg (show ¬ q = 0 by omega), if_neg (show ¬ q = 1 by omega), if_neg (show ¬ q = 2 by omega), if_pos (show (10 ≤ q ∧ q ≤ 12) by omega)]; first | exact (if_pos (by omega)).symm | exact (if_neg (by omega)).symm)
      · refine s_tableIn 56 0 dX12_pool_28 (by rw [c_28]; rfl) (by decide) rfl (by decide) ?_
        refine s_iload_n dX12_pool_56 2 rfl (n_iret dX12_pool_57 hR rfl ?_)
        obtain ⟨z8, hz8⟩ : ∃ z8, ShO (fun f n => w 209 f ≤ wM w n f) (ishl 1 (w 141 9)) z8 := ⟨_, ShO_lo (d0 := fun _ => inferInstance) (d1 := fun _ => inferInstance) (d2 := fun _ => inferInstance) (ishl 1 (w 141 9)).toNat |> fun z => by rwa [toN_c (by omega)] at z⟩
        refine ⟨_, rfl, ?_, z8, hz8, ?_⟩
        · first | rfl | exact hz_79.1
        · unfold poolV
          first
          | (rw [if_pos (show q = 0 by omega)]; done)
          | (rw [if_neg (show ¬ q = 0 by omega), if_pos (show q = 1 by omega)]; first | exact (if_pos (by omega)).symm | exact (if_neg (by omega)).symm)
          | (rw [if_neg (show ¬ q = 0 by omega), if_neg (show ¬ q = 1 by omega), if_pos (show q = 2 by omega)]; first | exact (if_pos (by omega)).symm | exact (if_neg (by omega)).symm)
          | (rw [if_neg (show ¬ q = 0 by omega), if_neg (show ¬ q = 1 by omega), if_neg (show ¬ q = 2 by omega), if_neg (show ¬ (10 ≤ q ∧ q ≤ 12) by omega)]; done)
          | (rw [if_neg (show ¬ q = 0 by omega), if_neg (show ¬ q = 1 by omega), if_neg (show ¬ q = 2 by omega), if_pos (show (10 ≤ q ∧ q ≤ 12) by omega)]; first | exact (if_pos (by omega)).symm | exact (if_neg (by omega)).symm)
      · refine s_tableIn 58 1 dX12_pool_28 (by rw [c_28]; rfl) (by decide) rfl (by decide) ?_
        refine s_iload_n dX12_pool_58 2 rfl (s_iconst dX12_pool_59 (by decide) (s_icmp_ne 67 dX12_pool_60 (by decide) (fun c_60 => ?_) (fun c_60 => ?_)))
        · skip
          refine s_aload_n dX12_pool_67 0 rfl rfl (s_iload_n dX12_pool_68 2 rfl (n_invV (as := [(0, (bsI (sgM w) (allM w) (ishl 1 (w 141 9)).toNat))]) dX12_pool_69 kv_X12_worthAll ml_X12_503 (c_M_worthAll (bsI (sgM w) (allM w) (ishl 1 (w 141 9)).toNat) w h hb) (by decide) 141 cf_X12 rfl sh_141 rfl rfl rfl (Nat.le_of_ble_eq_true rfl) (n_iret dX12_pool_72 hR rfl ?_)))
          obtain ⟨z8, hz8⟩ : ∃ z8, ShO (fun f n => w 209 f ≤ wM w n f) (ishl 1 (w 141 9)) z8 := ⟨_, ShO_lo (d0 := fun _ => inferInstance) (d1 := fun _ => inferInstance) (d2 := fun _ => inferInstance) (ishl 1 (w 141 9)).toNat |> fun z => by rwa [toN_c (by omega)] at z⟩
          refine ⟨_, rfl, ?_, z8, hz8, ?_⟩
          · first | rfl | exact hz_79.1
          · unfold poolV
            first
            | (rw [if_pos (show q = 0 by omega)]; done)
            | (rw [if_neg (show ¬ q = 0 by omega), if_pos (show q = 1 by omega)]; first | exact (if_pos (by omega)).symm | exact (if_neg (by omega)).symm)
            | (rw [if_neg (show ¬ q = 0 by omega), if_neg (show ¬ q = 1 by omega), if_pos (show q = 2 by omega)]; first | exact (if_pos (by omega)).symm | exact (if_neg (by omega)).symm)
            | (rw [if_neg (show ¬ q = 0 by omega), if_neg (show ¬ q = 1 by omega), if_neg (show ¬ q = 2 by omega), if_neg (show ¬ (10 ≤ q ∧ q ≤ 12) by omega)]; done)
            | (rw [if_neg (show ¬ q = 0 by omega), if_neg (show ¬ q = 1 by omega), if_neg (show ¬ q = 2 by omega), if_pos (show (10 ≤ q ∧ q ≤ 12) by omega)]; first | exact (if_pos (by omega)).symm | exact (if_neg (by omega)).symm)
        · skip
          refine s_iconst dX12_pool_63 (by decide) (s_goto 72 dX12_pool_64 (by decide) (n_iret dX12_pool_72 hR rfl ?_))
          obtain ⟨z8, hz8⟩ : ∃ z8, ShO (fun f n => w 209 f ≤ wM w n f) (ishl 1 (w 141 9)) z8 := ⟨_, ShO_lo (d0 := fun _ => inferInstance) (d1 := fun _ => inferInstance) (d2 := fun _ => inferInstance) (ishl 1 (w 141 9)).toNat |> fun z => by rwa [toN_c (by omega)] at z⟩
          refine ⟨_, rfl, ?_, z8, hz8, ?_⟩
          · first | rfl | exact hz_79.1
          · unfold poolV
            first
            | (rw [if_pos (show q = 0 by omega)]; done)
            | (rw [if_neg (show ¬ q = 0 by omega), if_pos (show q = 1 by omega)]; first | exact (if_pos (by omega)).symm | exact (if_neg (by omega)).symm)
            | (rw [if_neg (show ¬ q = 0 by omega), if_neg (show ¬ q = 1 by omega), if_pos (show q = 2 by omega)]; first | exact (if_pos (by omega)).symm | exact (if_neg (by omega)).symm)
            | (rw [if_neg (show ¬ q = 0 by omega), if_neg (show ¬ q = 1 by omega), if_neg (show ¬ q = 2 by omega), if_neg (show ¬ (10 ≤ q ∧ q ≤ 12) by omega)]; done)
            | (rw [if_neg (show ¬ q = 0 by omega), if_neg (show ¬ q = 1 by omega), if_neg (show ¬ q = 2 by omega), if_pos (show (10 ≤ q ∧ q ≤ 12) by omega)]; first | exact (if_pos (by omega)).symm | exact (if_neg (by omega)).symm)
      · refine s_tableIn 73 2 dX12_pool_28 (by rw [c_28]; rfl) (by decide) rfl (by decide) ?_
        refine s_iload_n dX12_pool_73 2 rfl (s_iconst dX12_pool_74 (by decide) (s_icmp_ne 85 dX12_pool_75 (by decide) (fun c_75 => ?_) (fun c_75 => ?_)))
        · skip
          refine s_iconst dX12_pool_85 (by decide) (n_iret dX12_pool_86 hR rfl ?_)
          obtain ⟨z8, hz8⟩ : ∃ z8, ShO (fun f n => w 209 f ≤ wM w n f) (ishl 1 (w 141 9)) z8 := ⟨_, ShO_lo (d0 := fun _ => inferInstance) (d1 := fun _ => inferInstance) (d2 := fun _ => inferInstance) (ishl 1 (w 141 9)).toNat |> fun z => by rwa [toN_c (by omega)] at z⟩
          refine ⟨_, rfl, ?_, z8, hz8, ?_⟩
          · first | rfl | exact hz_79.1
          · unfold poolV
            first
            | (rw [if_pos (show q = 0 by omega)]; done)
            | (rw [if_neg (show ¬ q = 0 by omega), if_pos (show q = 1 by omega)]; first | exact (if_pos (by omega)).symm | exact (if_neg (by omega)).symm)
            | (rw [if_neg (show ¬ q = 0 by omega), if_neg (show ¬ q = 1 by omega), if_pos (show q = 2 by omega)]; first | exact (if_pos (by omega)).symm | exact (if_neg (by omega)).symm)
            | (rw [if_neg (show ¬ q = 0 by omega), if_neg (show ¬ q = 1 by omega), if_neg (show ¬ q = 2 by omega), if_neg (show ¬ (10 ≤ q ∧ q ≤ 12) by omega)]; done)
            | (rw [if_neg (show ¬ q = 0 by omega), if_neg (show ¬ q = 1 by omega), if_neg (show ¬ q = 2 by omega), if_pos (show (10 ≤ q ∧ q ≤ 12) by omega)]; first | exact (if_pos (by omega)).symm | exact (if_neg (by omega)).symm)
        · skip
          refine s_aload_n dX12_pool_78 0 rfl rfl (n_invV' (as := []) dX12_pool_79 kv_X12_shutOut ml_X12_509 (c_M_shutOut  w h hb) (by decide) 141 cf_X12 rfl sh_141 rfl rfl rfl (Nat.le_of_ble_eq_true rfl) ?_)
          rintro r_79 w_79 ⟨z_79, rfl, hz_79⟩
          show AtN _ _ ρ _ _ [(0, z_79)] w_79
          refine s_goto 86 dX12_pool_82 (by decide) (n_iret dX12_pool_86 hR rfl ?_)
          refine ⟨_, rfl, ?_, z_79, hz_79.2, ?_⟩
          · first | rfl | exact hz_79.1
          · unfold poolV
            first
            | (rw [if_pos (show q = 0 by omega)]; done)
            | (rw [if_neg (show ¬ q = 0 by omega), if_pos (show q = 1 by omega)]; first | exact (if_pos (by omega)).symm | exact (if_neg (by omega)).symm)
            | (rw [if_neg (show ¬ q = 0 by omega), if_neg (show ¬ q = 1 by omega), if_pos (show q = 2 by omega)]; first | exact (if_pos (by omega)).symm | exact (if_neg (by omega)).symm)
            | (rw [if_neg (show ¬ q = 0 by omega), if_neg (show ¬ q = 1 by omega), if_neg (show ¬ q = 2 by omega), if_neg (show ¬ (10 ≤ q ∧ q ≤ 12) by omega)]; done)
            | (rw [if_neg (show ¬ q = 0 by omega), if_neg (show ¬ q = 1 by omega), if_neg (show ¬ q = 2 by omega), if_pos (show (10 ≤ q ∧ q ≤ 12) by omega)]; first | exact (if_pos (by omega)).symm | exact (if_neg (by omega)).symm)
    · skip
      refine s_iconst dX12_pool_20 (by decide) (n_iret dX12_pool_21 hR rfl ?_)
      obtain ⟨z8, hz8⟩ : ∃ z8, ShO (fun f n => w 209 f ≤ wM w n f) (ishl 1 (w 141 9)) z8 := ⟨_, ShO_lo (d0 := fun _ => inferInstance) (d1 := fun _ => inferInstance) (d2 := fun _ => inferInstance) (ishl 1 (w 141 9)).toNat |> fun z => by rwa [toN_c (by omega)] at z⟩
      refine ⟨_, rfl, ?_, z8, hz8, ?_⟩
      · first | rfl | exact hz_79.1
      · unfold poolV
        first
        | (rw [if_pos (show q = 0 by omega)]; done)
        | (rw [if_neg (show ¬ q = 0 by omega), if_pos (show q = 1 by omega)]; first | exact (if_pos (by omega)).symm | exact (if_neg (by omega)).symm)
        | (rw [if_neg (show ¬ q = 0 by omega), if_neg (show ¬ q = 1 by omega), if_pos (show q = 2 by omega)]; first | exact (if_pos (by omega)).symm | exact (if_neg (by omega)).symm)
        | (rw [if_neg (show ¬ q = 0 by omega), if_neg (show ¬ q = 1 by omega), if_neg (show ¬ q = 2 by omega), if_neg (show ¬ (10 ≤ q ∧ q ≤ 12) by omega)]; done)
        | (rw [if_neg (show ¬ q = 0 by omega), if_neg (show ¬ q = 1 by omega), if_neg (show ¬ q = 2 by omega), if_pos (show (10 ≤ q ∧ q ≤ 12) by omega)]; first | exact (if_pos (by omega)).symm | exact (if_neg (by omega)).symm)
