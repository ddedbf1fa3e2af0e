/-! LEAD AND OFF. -/
/-- what the first n events add to the lead of print p at frame f as known at week k -/
def lea (to we fr ki am : Int → Int) (p f k : Int) : Nat → Int
  | 0 => 0
  | n + 1 => if to n = p ∧ we n ≤ k ∧ fr n ≤ f then lea to we fr ki am p f k n + (if ki n = 0 then - am n else if ki n = 1 then am n else if ki n = 2 then 33 * am n else 0) else lea to we fr ki am p f k n
/-- the latest start among them -/
def sta (to we fr ki am : Int → Int) (p f k : Int) : Nat → Int
  | 0 => 0
  | n + 1 => if to n = p ∧ we n ≤ k ∧ fr n ≤ f ∧ ki n = 3 then am n else sta to we fr ki am p f k n
def EVB (ki am : Int → Int) (N : Int) : Prop := (0 ≤ N ∧ N ≤ 150) ∧ ∀ i : Int, 0 ≤ i → i < N → (0 ≤ ki i ∧ ki i ≤ 3) ∧ (-99 ≤ am i ∧ am i ≤ 99) ∧ (ki i = 2 → -9 ≤ am i ∧ am i ≤ 9)
section LEAD
variable {to we fr ki am : Int → Int} {p f k : Int}
theorem toN_s {i : Int} (h : 0 ≤ i) : (i + 1).toNat = i.toNat + 1 := by omega
theorem toN_c {i : Int} (h : 0 ≤ i) : ((i.toNat : Nat) : Int) = i := by omega
theorem lea_s {i : Int} (h : 0 ≤ i) : lea to we fr ki am p f k (i + 1).toNat = if to i = p ∧ we i ≤ k ∧ fr i ≤ f then lea to we fr ki am p f k i.toNat + (if ki i = 0 then - am i else if ki i = 1 then am i else if ki i = 2 then 33 * am i else 0) else lea to we fr ki am p f k i.toNat := by
  rw [toN_s h, lea, toN_c h]
theorem sta_s {i : Int} (h : 0 ≤ i) : sta to we fr ki am p f k (i + 1).toNat = if to i = p ∧ we i ≤ k ∧ fr i ≤ f ∧ ki i = 3 then am i else sta to we fr ki am p f k i.toNat := by
  rw [toN_s h, sta, toN_c h]
theorem lea_bdn {N : Int} (hev : EVB ki am N) : ∀ n : Nat, (n : Int) ≤ N → -(297 * (n : Int)) ≤ lea to we fr ki am p f k n ∧ lea to we fr ki am p f k n ≤ 297 * (n : Int)
  | 0, _ => by simp [lea]
  | n + 1, h => by
    have ih := lea_bdn hev n (by omega)
    have h2 := hev.2 (n : Int) (by omega) (by omega)
    rw [lea]
    repeat (first | omega | split)
theorem sta_bdn {N : Int} (hev : EVB ki am N) : ∀ n : Nat, (n : Int) ≤ N → -99 ≤ sta to we fr ki am p f k n ∧ sta to we fr ki am p f k n ≤ 99
  | 0, _ => by simp [sta]
  | n + 1, h => by
    have ih := sta_bdn hev n (by omega)
    have h2 := hev.2 (n : Int) (by omega) (by omega)
    rw [sta]
    repeat (first | omega | split)
theorem lea_bd {N i : Int} (hev : EVB ki am N) (h0 : 0 ≤ i) (h1 : i ≤ N) : -(297 * i) ≤ lea to we fr ki am p f k i.toNat ∧ lea to we fr ki am p f k i.toNat ≤ 297 * i := by
  have h := lea_bdn (to := to) (we := we) (fr := fr) (p := p) (f := f) (k := k) hev i.toNat (by omega)
  rwa [toN_c h0] at h
theorem sta_bd {N i : Int} (hev : EVB ki am N) (h0 : 0 ≤ i) (h1 : i ≤ N) : -99 ≤ sta to we fr ki am p f k i.toNat ∧ sta to we fr ki am p f k i.toNat ≤ 99 := sta_bdn hev i.toNat (by omega)
end LEAD
/-- the lead of print p, whose track is tr, among n events -/
def leadV (tr : Int) (to we fr ki am : Int → Int) (n : Int) (p f k : Int) : Int := if tr = 0 then lea to we fr ki am p f k n.toNat + sta to we fr ki am p f k n.toNat else 0

set_option maxRecDepth 100000 in
theorem c_X_leadAt (p f k : Int) (w : Wd) (hp : 0 ≤ p ∧ p < 30) (hq : 0 ≤ w 7 p ∧ w 7 p < 12) (hev : EVB (w 11) (w 13) (w 1 15)) : CallN 1 mX5_leadAt [(2, 1), (0, p), (0, f), (0, k)] w (RV (0, leadV (w 5 (w 7 p)) (w 10) (w 14) (w 12) (w 11) (w 13) (w 1 15) p f k) w) := by
  refine CallN.intro (by decide +kernel) (Nat.le_of_ble_eq_true rfl) (fun ρ hR => ?_)
  show AtN mX5_leadAt 1 ρ 0 [(0, (2, 1)), (1, (0, p)), (2, (0, f)), (3, (0, k))] [] w
  have hN0 := hev.1
  have L_25 : ∀ (fu : Nat) (i : Int) (a : Int) (b : Int), w 5 (w 7 p) = 0 → 0 ≤ i ∧ i ≤ w 1 15 → a = lea (w 10) (w 14) (w 12) (w 11) (w 13) p f k i.toNat → b = sta (w 10) (w 14) (w 12) (w 11) (w 13) p f k i.toNat → (w 1 15 - i).toNat < fu → AtN mX5_leadAt 1 ρ 25 [(0, (2, 1)), (1, (0, p)), (2, (0, f)), (3, (0, k)), (4, (0, a)), (5, (0, b)), (6, (0, i))] [] w := by
    intro fu
    induction fu with
    | zero => intro i a b ht hi ha hb hm; exact absurd hm (Nat.not_lt_zero _)
    | succ fu ih =>
      intro i a b ht hi ha hb hm
      have qa := lea_bd (to := w 10) (we := w 14) (fr := w 12) (p := p) (f := f) (k := k) hev hi.1 hi.2
      have qb := sta_bd (to := w 10) (we := w 14) (fr := w 12) (p := p) (f := f) (k := k) hev hi.1 hi.2
      rw [← ha] at qa
      rw [← hb] at qb
      have hN := hev.1
      refine s_iload dX5_leadAt_25 6 rfl (s_aload_n dX5_leadAt_27 0 rfl rfl (n_getf 1 15 0 dX5_leadAt_28 cf_X5 ff_X5_73 rfl sh_1 rfl (by decide) (v := (w 1 15)) rfl (s_icmp_ge 167 dX5_leadAt_31 (by decide) (fun c_31 => ?_) (fun c_31 => ?_))))
      · skip
        refine s_iload dX5_leadAt_167 4 rfl (s_iload dX5_leadAt_169 5 rfl (n_add (z := (a + b)) dX5_leadAt_171 (wr_id (by omega) (by omega)) (n_iret dX5_leadAt_172 hR rfl ?_)))
        have e9 : i = w 1 15 := by omega
        rw [e9] at ha hb
        exact ⟨congrArg (fun z => some ((0 : Nat), z)) (by unfold leadV; rw [if_pos (by assumption), ha, hb]), rfl⟩
      · skip
        have hk := hev.2 i (by omega) (by omega)
        refine s_aload_n dX5_leadAt_34 0 rfl rfl (n_getc (q := 10) 1 10 20 dX5_leadAt_35 cf_X5 ff_X5_36 rfl sh_1 rfl (by decide) rfl (by decide) (s_iload dX5_leadAt_38 6 rfl (n_iald 10 dX5_leadAt_40 rfl sh_10 (by decide) ⟨(by omega), (by omega)⟩ (v := (w 10 i)) rfl (s_iload_n dX5_leadAt_41 1 rfl (s_icmp_ne 161 dX5_leadAt_42 (by decide) (fun c_42 => ?_) (fun c_42 => ?_))))))
        · skip
          refine s_iinc (z := (i + 1)) (ls' := [(0, (2, 1)), (1, (0, p)), (2, (0, f)), (3, (0, k)), (4, (0, a)), (5, (0, b)), (6, (0, (i + 1)))]) dX5_leadAt_161 6 rfl (Nat.le_of_ble_eq_true rfl) (wr_id (by omega) (by omega)) rfl (s_goto 25 dX5_leadAt_164 (by decide) ?_)
          exact ih (i + 1) a b ht (by omega) (by rw [lea_s hi.1, ← ha]; repeat (first | omega | split)) (by rw [sta_s hi.1, ← hb]; repeat (first | omega | split)) (by omega)
        · skip
          refine s_aload_n dX5_leadAt_45 0 rfl rfl (n_getc (q := 14) 1 14 24 dX5_leadAt_46 cf_X5 ff_X5_48 rfl sh_1 rfl (by decide) rfl (by decide) (s_iload dX5_leadAt_49 6 rfl (n_iald 14 dX5_leadAt_51 rfl sh_14 (by decide) ⟨(by omega), (by omega)⟩ (v := (w 14 i)) rfl (s_iload_n dX5_leadAt_52 3 rfl (s_icmp_gt 161 dX5_leadAt_53 (by decide) (fun c_53 => ?_) (fun c_53 => ?_))))))
          · skip
            refine s_iinc (z := (i + 1)) (ls' := [(0, (2, 1)), (1, (0, p)), (2, (0, f)), (3, (0, k)), (4, (0, a)), (5, (0, b)), (6, (0, (i + 1)))]) dX5_leadAt_161 6 rfl (Nat.le_of_ble_eq_true rfl) (wr_id (by omega) (by omega)) rfl (s_goto 25 dX5_leadAt_164 (by decide) ?_)
            exact ih (i + 1) a b ht (by omega) (by rw [lea_s hi.1, ← ha]; repeat (first | omega | split)) (by rw [sta_s hi.1, ← hb]; repeat (first | omega | split)) (by omega)
          · skip
            refine s_aload_n dX5_leadAt_56 0 rfl rfl (n_getc (q := 12) 1 12 22 dX5_leadAt_57 cf_X5 ff_X5_42 rfl sh_1 rfl (by decide) rfl (by decide) (s_iload dX5_leadAt_60 6 rfl (n_iald 12 dX5_leadAt_62 rfl sh_12 (by decide) ⟨(by omega), (by omega)⟩ (v := (w 12 i)) rfl (s_iload_n dX5_leadAt_63 2 rfl (s_icmp_le 70 dX5_leadAt_64 (by decide) (fun c_64 => ?_) (fun c_64 => ?_))))))
            · skip
              refine s_aload_n dX5_leadAt_70 0 rfl rfl (n_getc (q := 11) 1 11 21 dX5_leadAt_71 cf_X5 ff_X5_39 rfl sh_1 rfl (by decide) rfl (by decide) (s_iload dX5_leadAt_74 6 rfl (n_iald 11 dX5_leadAt_76 rfl sh_11 (by decide) ⟨(by omega), (by omega)⟩ (v := (w 11 i)) rfl ?_)))
              rcases (show ((w 11 i) < 0 ∨ 2 < (w 11 i)) ∨ (w 11 i) = 0 ∨ (w 11 i) = 1 ∨ (w 11 i) = 2 from by omega) with c_77 | c_77 | c_77 | c_77
              · refine s_tableOut 152 dX5_leadAt_77 c_77 (by decide) ?_
                refine s_aload_n dX5_leadAt_152 0 rfl rfl (n_getc (q := 13) 1 13 23 dX5_leadAt_153 cf_X5 ff_X5_45 rfl sh_1 rfl (by decide) rfl (by decide) (s_iload dX5_leadAt_156 6 rfl (n_iald 13 dX5_leadAt_158 rfl sh_13 (by decide) ⟨(by omega), (by omega)⟩ (v := (w 13 i)) rfl (s_istore (ls' := [(0, (2, 1)), (1, (0, p)), (2, (0, f)), (3, (0, k)), (4, (0, a)), (5, (0, (w 13 i))), (6, (0, i))]) dX5_leadAt_159 (Nat.le_of_ble_eq_true rfl) rfl (s_iinc (z := (i + 1)) (ls' := [(0, (2, 1)), (1, (0, p)), (2, (0, f)), (3, (0, k)), (4, (0, a)), (5, (0, (w 13 i))), (6, (0, (i + 1)))]) dX5_leadAt_161 6 rfl (Nat.le_of_ble_eq_true rfl) (wr_id (by omega) (by omega)) rfl (s_goto 25 dX5_leadAt_164 (by decide) ?_))))))
                exact ih (i + 1) a (w 13 i) ht (by omega) (by rw [lea_s hi.1, ← ha]; repeat (first | omega | split)) (by rw [sta_s hi.1, ← hb]; repeat (first | omega | split)) (by omega)
              · refine s_tableIn 104 0 dX5_leadAt_77 (by rw [c_77]; rfl) (by decide) rfl (by decide) ?_
                refine s_iload dX5_leadAt_104 4 rfl (s_aload_n dX5_leadAt_106 0 rfl rfl (n_getc (q := 13) 1 13 23 dX5_leadAt_107 cf_X5 ff_X5_45 rfl sh_1 rfl (by decide) rfl (by decide) (s_iload dX5_leadAt_110 6 rfl (n_iald 13 dX5_leadAt_112 rfl sh_13 (by decide) ⟨(by omega), (by omega)⟩ (v := (w 13 i)) rfl (n_sub (z := (a - (w 13 i))) dX5_leadAt_113 (wr_id (by omega) (by omega)) (s_istore (ls' := [(0, (2, 1)), (1, (0, p)), (2, (0, f)), (3, (0, k)), (4, (0, (a - (w 13 i)))), (5, (0, b)), (6, (0, i))]) dX5_leadAt_114 (Nat.le_of_ble_eq_true rfl) rfl (s_goto 161 dX5_leadAt_116 (by decide) (s_iinc (z := (i + 1)) (ls' := [(0, (2, 1)), (1, (0, p)), (2, (0, f)), (3, (0, k)), (4, (0, (a - (w 13 i)))), (5, (0, b)), (6, (0, (i + 1)))]) dX5_leadAt_161 6 rfl (Nat.le_of_ble_eq_true rfl) (wr_id (by omega) (by omega)) rfl (s_goto 25 dX5_leadAt_164 (by decide) ?_)))))))))
                exact ih (i + 1) (a - (w 13 i)) b ht (by omega) (by rw [lea_s hi.1, ← ha]; repeat (first | omega | split)) (by rw [sta_s hi.1, ← hb]; repeat (first | omega | split)) (by omega)
              · refine s_tableIn 119 1 dX5_leadAt_77 (by rw [c_77]; rfl) (by decide) rfl (by decide) ?_
                refine s_iload dX5_leadAt_119 4 rfl (s_aload_n dX5_leadAt_121 0 rfl rfl (n_getc (q := 13) 1 13 23 dX5_leadAt_122 cf_X5 ff_X5_45 rfl sh_1 rfl (by decide) rfl (by decide) (s_iload dX5_leadAt_125 6 rfl (n_iald 13 dX5_leadAt_127 rfl sh_13 (by decide) ⟨(by omega), (by omega)⟩ (v := (w 13 i)) rfl (n_add (z := (a + (w 13 i))) dX5_leadAt_128 (wr_id (by omega) (by omega)) (s_istore (ls' := [(0, (2, 1)), (1, (0, p)), (2, (0, f)), (3, (0, k)), (4, (0, (a + (w 13 i)))), (5, (0, b)), (6, (0, i))]) dX5_leadAt_129 (Nat.le_of_ble_eq_true rfl) rfl (s_goto 161 dX5_leadAt_131 (by decide) (s_iinc (z := (i + 1)) (ls' := [(0, (2, 1)), (1, (0, p)), (2, (0, f)), (3, (0, k)), (4, (0, (a + (w 13 i)))), (5, (0, b)), (6, (0, (i + 1)))]) dX5_leadAt_161 6 rfl (Nat.le_of_ble_eq_true rfl) (wr_id (by omega) (by omega)) rfl (s_goto 25 dX5_leadAt_164 (by decide) ?_)))))))))
                exact ih (i + 1) (a + (w 13 i)) b ht (by omega) (by rw [lea_s hi.1, ← ha]; repeat (first | omega | split)) (by rw [sta_s hi.1, ← hb]; repeat (first | omega | split)) (by omega)
              · refine s_tableIn 134 2 dX5_leadAt_77 (by rw [c_77]; rfl) (by decide) rfl (by decide) ?_
                refine s_iload dX5_leadAt_134 4 rfl (s_bipush dX5_leadAt_136 (by decide) (s_aload_n dX5_leadAt_138 0 rfl rfl (n_getc (q := 13) 1 13 23 dX5_leadAt_139 cf_X5 ff_X5_45 rfl sh_1 rfl (by decide) rfl (by decide) (s_iload dX5_leadAt_142 6 rfl (n_iald 13 dX5_leadAt_144 rfl sh_13 (by decide) ⟨(by omega), (by omega)⟩ (v := (w 13 i)) rfl (n_mul (z := (33 * (w 13 i))) dX5_leadAt_145 (wr_id (by omega) (by omega)) (n_add (z := (a + (33 * (w 13 i)))) dX5_leadAt_146 (wr_id (by omega) (by omega)) (s_istore (ls' := [(0, (2, 1)), (1, (0, p)), (2, (0, f)), (3, (0, k)), (4, (0, (a + (33 * (w 13 i))))), (5, (0, b)), (6, (0, i))]) dX5_leadAt_147 (Nat.le_of_ble_eq_true rfl) rfl (s_goto 161 dX5_leadAt_149 (by decide) ?_)))))))))
                refine s_iinc (z := (i + 1)) (ls' := [(0, (2, 1)), (1, (0, p)), (2, (0, f)), (3, (0, k)), (4, (0, (a + (33 * (w 13 i))))), (5, (0, b)), (6, (0, (i + 1)))]) dX5_leadAt_161 6 rfl (Nat.le_of_ble_eq_true rfl) (wr_id (by omega) (by omega)) rfl (s_goto 25 dX5_leadAt_164 (by decide) ?_)
                exact ih (i + 1) (a + (33 * (w 13 i))) b ht (by omega) (by rw [lea_s hi.1, ← ha]; repeat (first | omega | split)) (by rw [sta_s hi.1, ← hb]; repeat (first | omega | split)) (by omega)
            · skip
              refine s_goto 161 dX5_leadAt_67 (by decide) (s_iinc (z := (i + 1)) (ls' := [(0, (2, 1)), (1, (0, p)), (2, (0, f)), (3, (0, k)), (4, (0, a)), (5, (0, b)), (6, (0, (i + 1)))]) dX5_leadAt_161 6 rfl (Nat.le_of_ble_eq_true rfl) (wr_id (by omega) (by omega)) rfl (s_goto 25 dX5_leadAt_164 (by decide) ?_))
              exact ih (i + 1) a b ht (by omega) (by rw [lea_s hi.1, ← ha]; repeat (first | omega | split)) (by rw [sta_s hi.1, ← hb]; repeat (first | omega | split)) (by omega)
  refine s_iconst dX5_leadAt_0 (by decide) (s_istore (ls' := [(0, (2, 1)), (1, (0, p)), (2, (0, f)), (3, (0, k)), (4, (0, 0))]) dX5_leadAt_1 (Nat.le_of_ble_eq_true rfl) rfl (s_iconst dX5_leadAt_3 (by decide) (s_istore (ls' := [(0, (2, 1)), (1, (0, p)), (2, (0, f)), (3, (0, k)), (4, (0, 0)), (5, (0, 0))]) dX5_leadAt_4 (Nat.le_of_ble_eq_true rfl) rfl (s_aload_n dX5_leadAt_6 0 rfl rfl (n_getc (q := 5) 1 3 15 dX5_leadAt_7 cf_X5 ff_X5_21 rfl sh_1 rfl (by decide) rfl (by decide) (s_aload_n dX5_leadAt_10 0 rfl rfl (n_getc (q := 7) 1 6 17 dX5_leadAt_11 cf_X5 ff_X5_27 rfl sh_1 rfl (by decide) rfl (by decide) (s_iload_n dX5_leadAt_14 1 rfl (n_iald 7 dX5_leadAt_15 rfl sh_7 (by decide) ⟨(by omega), (by omega)⟩ (v := (w 7 p)) rfl ?_)))))))))
  refine n_iald 5 dX5_leadAt_16 rfl sh_5 (by decide) ⟨(by omega), (by omega)⟩ (v := (w 5 (w 7 p))) rfl (s_if_eq 22 dX5_leadAt_17 (by decide) (fun c_17 => ?_) (fun c_17 => ?_))
  · skip
    refine s_iconst dX5_leadAt_22 (by decide) (s_istore (ls' := [(0, (2, 1)), (1, (0, p)), (2, (0, f)), (3, (0, k)), (4, (0, 0)), (5, (0, 0)), (6, (0, 0))]) dX5_leadAt_23 (Nat.le_of_ble_eq_true rfl) rfl ?_)
    exact L_25 _ 0 0 0 c_17 (by omega) rfl rfl (Nat.lt_succ_self _)
  · skip
    refine s_iconst dX5_leadAt_20 (by decide) (n_iret dX5_leadAt_21 hR rfl ?_)
    exact ⟨congrArg (fun z => some ((0 : Nat), z)) (by unfold leadV; rw [if_neg (by assumption)]), rfl⟩

set_option maxRecDepth 100000 in
theorem c_M_leadOf (p f k : Int) (w : Wd) (hp : 0 ≤ p ∧ p < 30) (hq : 0 ≤ w 147 p ∧ w 147 p < 12) (hev : EVB (w 151) (w 153) (w 141 3)) : CallN 1 mX12_leadOf [(2, 141), (0, p), (0, f), (0, k)] w (RV (0, leadV (w 145 (w 147 p)) (w 150) (w 154) (w 152) (w 151) (w 153) (w 141 3) p f k) w) := by
  refine CallN.intro (by decide +kernel) (Nat.le_of_ble_eq_true rfl) (fun ρ hR => ?_)
  show AtN mX12_leadOf 1 ρ 0 [(0, (2, 141)), (1, (0, p)), (2, (0, f)), (3, (0, k))] [] w
  have hN0 := hev.1
  have L_25 : ∀ (fu : Nat) (i : Int) (a : Int) (b : Int), w 145 (w 147 p) = 0 → 0 ≤ i ∧ i ≤ w 141 3 → a = lea (w 150) (w 154) (w 152) (w 151) (w 153) p f k i.toNat → b = sta (w 150) (w 154) (w 152) (w 151) (w 153) p f k i.toNat → (w 141 3 - i).toNat < fu → AtN mX12_leadOf 1 ρ 25 [(0, (2, 141)), (1, (0, p)), (2, (0, f)), (3, (0, k)), (4, (0, a)), (5, (0, b)), (6, (0, i))] [] w := by
    intro fu
    induction fu with
    | zero => intro i a b ht hi ha hb hm; exact absurd hm (Nat.not_lt_zero _)
    | succ fu ih =>
      intro i a b ht hi ha hb hm
      have qa := lea_bd (to := w 150) (we := w 154) (fr := w 152) (p := p) (f := f) (k := k) hev hi.1 hi.2
      have qb := sta_bd (to := w 150) (we := w 154) (fr := w 152) (p := p) (f := f) (k := k) hev hi.1 hi.2
      rw [← ha] at qa
      rw [← hb] at qb
      have hN := hev.1
      refine s_iload dX12_leadOf_25 6 rfl (s_aload_n dX12_leadOf_27 0 rfl rfl (n_getf 141 3 0 dX12_leadOf_28 cf_X12 ff_X12_250 rfl sh_141 rfl (by decide) (v := (w 141 3)) rfl (s_icmp_ge 145 dX12_leadOf_31 (by decide) (fun c_31 => ?_) (fun c_31 => ?_))))
      · skip
        refine s_iload dX12_leadOf_145 4 rfl (s_iload dX12_leadOf_147 5 rfl (n_add (z := (a + b)) dX12_leadOf_149 (wr_id (by omega) (by omega)) (n_iret dX12_leadOf_150 hR rfl ?_)))
        have e9 : i = w 141 3 := by omega
        rw [e9] at ha hb
        exact ⟨congrArg (fun z => some ((0 : Nat), z)) (by unfold leadV; rw [if_pos (by assumption), ha, hb]), rfl⟩
      · skip
        have hk := hev.2 i (by omega) (by omega)
        refine s_aload_n dX12_leadOf_34 0 rfl rfl (n_getc (q := 150) 141 18 160 dX12_leadOf_35 cf_X12 ff_X12_34 rfl sh_141 rfl (by decide) rfl (by decide) (s_iload dX12_leadOf_38 6 rfl (n_iald 150 dX12_leadOf_40 rfl sh_150 (by decide) ⟨(by omega), (by omega)⟩ (v := (w 150 i)) rfl (s_iload_n dX12_leadOf_41 1 rfl (s_icmp_ne 139 dX12_leadOf_42 (by decide) (fun c_42 => ?_) (fun c_42 => ?_))))))
        · skip
          refine s_iinc (z := (i + 1)) (ls' := [(0, (2, 141)), (1, (0, p)), (2, (0, f)), (3, (0, k)), (4, (0, a)), (5, (0, b)), (6, (0, (i + 1)))]) dX12_leadOf_139 6 rfl (Nat.le_of_ble_eq_true rfl) (wr_id (by omega) (by omega)) rfl (s_goto 25 dX12_leadOf_142 (by decide) ?_)
          exact ih (i + 1) a b ht (by omega) (by rw [lea_s hi.1, ← ha]; repeat (first | omega | split)) (by rw [sta_s hi.1, ← hb]; repeat (first | omega | split)) (by omega)
        · skip
          refine s_aload_n dX12_leadOf_45 0 rfl rfl (n_getc (q := 154) 141 22 164 dX12_leadOf_46 cf_X12 ff_X12_46 rfl sh_141 rfl (by decide) rfl (by decide) (s_iload dX12_leadOf_49 6 rfl (n_iald 154 dX12_leadOf_51 rfl sh_154 (by decide) ⟨(by omega), (by omega)⟩ (v := (w 154 i)) rfl (s_iload_n dX12_leadOf_52 3 rfl (s_icmp_gt 139 dX12_leadOf_53 (by decide) (fun c_53 => ?_) (fun c_53 => ?_))))))
          · skip
            refine s_iinc (z := (i + 1)) (ls' := [(0, (2, 141)), (1, (0, p)), (2, (0, f)), (3, (0, k)), (4, (0, a)), (5, (0, b)), (6, (0, (i + 1)))]) dX12_leadOf_139 6 rfl (Nat.le_of_ble_eq_true rfl) (wr_id (by omega) (by omega)) rfl (s_goto 25 dX12_leadOf_142 (by decide) ?_)
            exact ih (i + 1) a b ht (by omega) (by rw [lea_s hi.1, ← ha]; repeat (first | omega | split)) (by rw [sta_s hi.1, ← hb]; repeat (first | omega | split)) (by omega)
          · skip
            refine s_aload_n dX12_leadOf_56 0 rfl rfl (n_getc (q := 152) 141 20 162 dX12_leadOf_57 cf_X12 ff_X12_40 rfl sh_141 rfl (by decide) rfl (by decide) (s_iload dX12_leadOf_60 6 rfl (n_iald 152 dX12_leadOf_62 rfl sh_152 (by decide) ⟨(by omega), (by omega)⟩ (v := (w 152 i)) rfl (s_iload_n dX12_leadOf_63 2 rfl (s_icmp_le 70 dX12_leadOf_64 (by decide) (fun c_64 => ?_) (fun c_64 => ?_))))))
            · skip
              refine s_aload_n dX12_leadOf_70 0 rfl rfl (n_getc (q := 153) 141 21 163 dX12_leadOf_71 cf_X12 ff_X12_43 rfl sh_141 rfl (by decide) rfl (by decide) (s_iload dX12_leadOf_74 6 rfl (n_iald 153 dX12_leadOf_76 rfl sh_153 (by decide) ⟨(by omega), (by omega)⟩ (v := (w 153 i)) rfl (s_istore (ls' := [(0, (2, 141)), (1, (0, p)), (2, (0, f)), (3, (0, k)), (4, (0, a)), (5, (0, b)), (6, (0, i)), (7, (0, (w 153 i)))]) dX12_leadOf_77 (Nat.le_of_ble_eq_true rfl) rfl (s_aload_n dX12_leadOf_79 0 rfl rfl (n_getc (q := 151) 141 19 161 dX12_leadOf_80 cf_X12 ff_X12_37 rfl sh_141 rfl (by decide) rfl (by decide) (s_iload dX12_leadOf_83 6 rfl (n_iald 151 dX12_leadOf_85 rfl sh_151 (by decide) ⟨(by omega), (by omega)⟩ (v := (w 151 i)) rfl (s_iconst dX12_leadOf_86 (by decide) ?_)))))))))
              refine s_icmp_ne 97 dX12_leadOf_87 (by decide) (fun c_87 => ?_) (fun c_87 => ?_)
              · skip
                refine s_iload dX12_leadOf_97 4 rfl (s_aload_n dX12_leadOf_99 0 rfl rfl (n_getc (q := 151) 141 19 161 dX12_leadOf_100 cf_X12 ff_X12_37 rfl sh_141 rfl (by decide) rfl (by decide) (s_iload dX12_leadOf_103 6 rfl (n_iald 151 dX12_leadOf_105 rfl sh_151 (by decide) ⟨(by omega), (by omega)⟩ (v := (w 151 i)) rfl (s_if_ne 115 dX12_leadOf_106 (by decide) (fun c_106 => ?_) (fun c_106 => ?_))))))
                · skip
                  refine s_aload_n dX12_leadOf_115 0 rfl rfl (n_getc (q := 151) 141 19 161 dX12_leadOf_116 cf_X12 ff_X12_37 rfl sh_141 rfl (by decide) rfl (by decide) (s_iload dX12_leadOf_119 6 rfl (n_iald 151 dX12_leadOf_121 rfl sh_151 (by decide) ⟨(by omega), (by omega)⟩ (v := (w 151 i)) rfl (s_iconst dX12_leadOf_122 (by decide) (s_icmp_ne 131 dX12_leadOf_123 (by decide) (fun c_123 => ?_) (fun c_123 => ?_))))))
                  · skip
                    refine s_bipush dX12_leadOf_131 (by decide) (s_iload dX12_leadOf_133 7 rfl (n_mul (z := (33 * (w 153 i))) dX12_leadOf_135 (wr_id (by omega) (by omega)) (n_add (z := (a + (33 * (w 153 i)))) dX12_leadOf_136 (wr_id (by omega) (by omega)) (s_istore (ls' := [(0, (2, 141)), (1, (0, p)), (2, (0, f)), (3, (0, k)), (4, (0, (a + (33 * (w 153 i))))), (5, (0, b)), (6, (0, i)), (7, (0, (w 153 i)))]) dX12_leadOf_137 (Nat.le_of_ble_eq_true rfl) rfl (s_iinc (z := (i + 1)) (ls' := [(0, (2, 141)), (1, (0, p)), (2, (0, f)), (3, (0, k)), (4, (0, (a + (33 * (w 153 i))))), (5, (0, b)), (6, (0, (i + 1))), (7, (0, (w 153 i)))]) dX12_leadOf_139 6 rfl (Nat.le_of_ble_eq_true rfl) (wr_id (by omega) (by omega)) rfl (s_goto 25 dX12_leadOf_142 (by decide) ?_))))))
                    exact At.keep (ls' := [(0, (2, 141)), (1, (0, p)), (2, (0, f)), (3, (0, k)), (4, (0, (a + (33 * (w 153 i))))), (5, (0, b)), (6, (0, (i + 1)))]) [0, 1, 2, 3, 4, 5, 6] rfl (ih (i + 1) (a + (33 * (w 153 i))) b ht (by omega) (by rw [lea_s hi.1, ← ha]; repeat (first | omega | split)) (by rw [sta_s hi.1, ← hb]; repeat (first | omega | split)) (by omega))
                  · skip
                    refine s_iload dX12_leadOf_126 7 rfl (s_goto 136 dX12_leadOf_128 (by decide) (n_add (z := (a + (w 153 i))) dX12_leadOf_136 (wr_id (by omega) (by omega)) (s_istore (ls' := [(0, (2, 141)), (1, (0, p)), (2, (0, f)), (3, (0, k)), (4, (0, (a + (w 153 i)))), (5, (0, b)), (6, (0, i)), (7, (0, (w 153 i)))]) dX12_leadOf_137 (Nat.le_of_ble_eq_true rfl) rfl (s_iinc (z := (i + 1)) (ls' := [(0, (2, 141)), (1, (0, p)), (2, (0, f)), (3, (0, k)), (4, (0, (a + (w 153 i)))), (5, (0, b)), (6, (0, (i + 1))), (7, (0, (w 153 i)))]) dX12_leadOf_139 6 rfl (Nat.le_of_ble_eq_true rfl) (wr_id (by omega) (by omega)) rfl (s_goto 25 dX12_leadOf_142 (by decide) ?_)))))
                    exact At.keep (ls' := [(0, (2, 141)), (1, (0, p)), (2, (0, f)), (3, (0, k)), (4, (0, (a + (w 153 i)))), (5, (0, b)), (6, (0, (i + 1)))]) [0, 1, 2, 3, 4, 5, 6] rfl (ih (i + 1) (a + (w 153 i)) b ht (by omega) (by rw [lea_s hi.1, ← ha]; repeat (first | omega | split)) (by rw [sta_s hi.1, ← hb]; repeat (first | omega | split)) (by omega))
                · skip
                  refine s_iload dX12_leadOf_109 7 rfl (n_neg (z := (-(w 153 i))) dX12_leadOf_111 (wr_id (by omega) (by omega)) (s_goto 136 dX12_leadOf_112 (by decide) (n_add (z := (a + (-(w 153 i)))) dX12_leadOf_136 (wr_id (by omega) (by omega)) (s_istore (ls' := [(0, (2, 141)), (1, (0, p)), (2, (0, f)), (3, (0, k)), (4, (0, (a + (-(w 153 i))))), (5, (0, b)), (6, (0, i)), (7, (0, (w 153 i)))]) dX12_leadOf_137 (Nat.le_of_ble_eq_true rfl) rfl (s_iinc (z := (i + 1)) (ls' := [(0, (2, 141)), (1, (0, p)), (2, (0, f)), (3, (0, k)), (4, (0, (a + (-(w 153 i))))), (5, (0, b)), (6, (0, (i + 1))), (7, (0, (w 153 i)))]) dX12_leadOf_139 6 rfl (Nat.le_of_ble_eq_true rfl) (wr_id (by omega) (by omega)) rfl (s_goto 25 dX12_leadOf_142 (by decide) ?_))))))
                  exact At.keep (ls' := [(0, (2, 141)), (1, (0, p)), (2, (0, f)), (3, (0, k)), (4, (0, (a + (-(w 153 i))))), (5, (0, b)), (6, (0, (i + 1)))]) [0, 1, 2, 3, 4, 5, 6] rfl (ih (i + 1) (a + (-(w 153 i))) b ht (by omega) (by rw [lea_s hi.1, ← ha]; repeat (first | omega | split)) (by rw [sta_s hi.1, ← hb]; repeat (first | omega | split)) (by omega))
              · skip
                refine s_iload dX12_leadOf_90 7 rfl (s_istore (ls' := [(0, (2, 141)), (1, (0, p)), (2, (0, f)), (3, (0, k)), (4, (0, a)), (5, (0, (w 153 i))), (6, (0, i)), (7, (0, (w 153 i)))]) dX12_leadOf_92 (Nat.le_of_ble_eq_true rfl) rfl (s_goto 139 dX12_leadOf_94 (by decide) (s_iinc (z := (i + 1)) (ls' := [(0, (2, 141)), (1, (0, p)), (2, (0, f)), (3, (0, k)), (4, (0, a)), (5, (0, (w 153 i))), (6, (0, (i + 1))), (7, (0, (w 153 i)))]) dX12_leadOf_139 6 rfl (Nat.le_of_ble_eq_true rfl) (wr_id (by omega) (by omega)) rfl (s_goto 25 dX12_leadOf_142 (by decide) ?_))))
                exact At.keep (ls' := [(0, (2, 141)), (1, (0, p)), (2, (0, f)), (3, (0, k)), (4, (0, a)), (5, (0, (w 153 i))), (6, (0, (i + 1)))]) [0, 1, 2, 3, 4, 5, 6] rfl (ih (i + 1) a (w 153 i) ht (by omega) (by rw [lea_s hi.1, ← ha]; repeat (first | omega | split)) (by rw [sta_s hi.1, ← hb]; repeat (first | omega | split)) (by omega))
            · skip
              refine s_goto 139 dX12_leadOf_67 (by decide) (s_iinc (z := (i + 1)) (ls' := [(0, (2, 141)), (1, (0, p)), (2, (0, f)), (3, (0, k)), (4, (0, a)), (5, (0, b)), (6, (0, (i + 1)))]) dX12_leadOf_139 6 rfl (Nat.le_of_ble_eq_true rfl) (wr_id (by omega) (by omega)) rfl (s_goto 25 dX12_leadOf_142 (by decide) ?_))
              exact ih (i + 1) a b ht (by omega) (by rw [lea_s hi.1, ← ha]; repeat (first | omega | split)) (by rw [sta_s hi.1, ← hb]; repeat (first | omega | split)) (by omega)
  refine s_aload_n dX12_leadOf_0 0 rfl rfl (n_getc (q := 145) 141 13 155 dX12_leadOf_1 cf_X12 ff_X12_19 rfl sh_141 rfl (by decide) rfl (by decide) (s_aload_n dX12_leadOf_4 0 rfl rfl (n_getc (q := 147) 141 15 157 dX12_leadOf_5 cf_X12 ff_X12_25 rfl sh_141 rfl (by decide) rfl (by decide) (s_iload_n dX12_leadOf_8 1 rfl (n_iald 147 dX12_leadOf_9 rfl sh_147 (by decide) ⟨(by omega), (by omega)⟩ (v := (w 147 p)) rfl (n_iald 145 dX12_leadOf_10 rfl sh_145 (by decide) ⟨(by omega), (by omega)⟩ (v := (w 145 (w 147 p))) rfl (s_if_eq 16 dX12_leadOf_11 (by decide) (fun c_11 => ?_) (fun c_11 => ?_))))))))
  · skip
    refine s_iconst dX12_leadOf_16 (by decide) (s_istore (ls' := [(0, (2, 141)), (1, (0, p)), (2, (0, f)), (3, (0, k)), (4, (0, 0))]) dX12_leadOf_17 (Nat.le_of_ble_eq_true rfl) rfl (s_iconst dX12_leadOf_19 (by decide) (s_istore (ls' := [(0, (2, 141)), (1, (0, p)), (2, (0, f)), (3, (0, k)), (4, (0, 0)), (5, (0, 0))]) dX12_leadOf_20 (Nat.le_of_ble_eq_true rfl) rfl (s_iconst dX12_leadOf_22 (by decide) (s_istore (ls' := [(0, (2, 141)), (1, (0, p)), (2, (0, f)), (3, (0, k)), (4, (0, 0)), (5, (0, 0)), (6, (0, 0))]) dX12_leadOf_23 (Nat.le_of_ble_eq_true rfl) rfl ?_)))))
    exact L_25 _ 0 0 0 c_11 (by omega) rfl rfl (Nat.lt_succ_self _)
  · skip
    refine s_iconst dX12_leadOf_14 (by decide) (n_iret dX12_leadOf_15 hR rfl ?_)
    exact ⟨congrArg (fun z => some ((0 : Nat), z)) (by unfold leadV; rw [if_neg (by assumption)]), rfl⟩

set_option maxRecDepth 100000 in
theorem x_lead (p f k : Int) (w : Wd) (h : 0 ≤ w 1 9 ∧ w 1 9 ≤ 30) (hp : ∀ j, 0 ≤ j → j < w 1 9 → 0 ≤ w 7 j ∧ w 7 j < 12) (hev : EVB (w 11) (w 13) (w 1 15)) : CallN 3 mX11_lead [(2, 0), (0, p), (0, f), (0, k)] w (RQ (fun z w1 => w1 = w ∧ (((0 ≤ p ∧ p < w 1 9) ∧ (0 ≤ f ∧ f < w 6 (w 7 p)) ∧ (0 ≤ k ∧ k ≤ w 0 10)) ∧ z = leadV (w 5 (w 7 p)) (w 10) (w 14) (w 12) (w 11) (w 13) (w 1 15) p f k ∨ ¬ ((0 ≤ p ∧ p < w 1 9) ∧ (0 ≤ f ∧ f < w 6 (w 7 p)) ∧ (0 ≤ k ∧ k ≤ w 0 10)) ∧ z = -9999))) := by
  refine CallN.intro (by decide +kernel) (Nat.le_of_ble_eq_true rfl) (fun ρ hR => ?_)
  show AtN mX11_lead 3 ρ 0 [(0, (2, 0)), (1, (0, p)), (2, (0, f)), (3, (0, k))] [] w
  refine s_iload_n dX11_lead_0 3 rfl (s_iconst dX11_lead_1 (by decide) (s_aload_n dX11_lead_2 0 rfl rfl (n_getf 0 10 0 dX11_lead_3 cf_X11 ff_X11_87 rfl sh_0 rfl (by decide) (v := (w 0 10)) rfl (n_invS (as := [(0, k), (0, 0), (0, (w 0 10))]) dX11_lead_6 kv_X11_within ml_X11_102 (c_within k 0 (w 0 10) w) (by decide) rfl rfl (Nat.le_of_ble_eq_true rfl) (n_ifeq_b 24 dX11_lead_9 (by decide) (fun c_9 => ?_) (fun c_9 => ?_))))))
  · skip
    refine s_sipush dX11_lead_24 (by decide) (n_iret dX11_lead_27 hR rfl ?_)
    first | exact ⟨_, rfl, rfl, Or.inl ⟨by omega, rfl⟩⟩ | exact ⟨_, rfl, rfl, Or.inr ⟨by omega, rfl⟩⟩
  · skip
    refine s_aload_n dX11_lead_12 0 rfl rfl (n_getc (q := 1) 0 0 11 dX11_lead_13 cf_X11 ff_X11_10 rfl sh_0 rfl (by decide) rfl (by decide) (s_iload_n dX11_lead_16 1 rfl (s_iload_n dX11_lead_17 2 rfl (n_invV (as := [(0, p), (0, f)]) dX11_lead_18 kv_X5_hasFrame ml_X11_106 (c_X_hasFrame p f w (by omega) hp) (by decide) 1 cf_X5 rfl sh_1 rfl rfl rfl (Nat.le_of_ble_eq_true rfl) (n_ifne_b 28 dX11_lead_21 (by decide) (fun c_21 => ?_) (fun c_21 => ?_))))))
    · skip
      have h7 := hp p (by omega) (by omega)
      refine s_aload_n dX11_lead_28 0 rfl rfl (n_getc (q := 1) 0 0 11 dX11_lead_29 cf_X11 ff_X11_10 rfl sh_0 rfl (by decide) rfl (by decide) (s_iload_n dX11_lead_32 1 rfl (s_iload_n dX11_lead_33 2 rfl (s_iload_n dX11_lead_34 3 rfl (n_invV (as := [(0, p), (0, f), (0, k)]) dX11_lead_35 kv_X5_leadAt ml_X11_110 (c_X_leadAt p f k w (by omega) (by omega) hev) (by decide) 1 cf_X5 rfl sh_1 rfl rfl rfl (Nat.le_of_ble_eq_true rfl) (n_iret dX11_lead_38 hR rfl ?_))))))
      first | exact ⟨_, rfl, rfl, Or.inl ⟨by omega, rfl⟩⟩ | exact ⟨_, rfl, rfl, Or.inr ⟨by omega, rfl⟩⟩
    · skip
      refine s_sipush dX11_lead_24 (by decide) (n_iret dX11_lead_27 hR rfl ?_)
      first | exact ⟨_, rfl, rfl, Or.inl ⟨by omega, rfl⟩⟩ | exact ⟨_, rfl, rfl, Or.inr ⟨by omega, rfl⟩⟩

set_option maxRecDepth 100000 in
theorem m_lead (p f k : Int) (w : Wd) (h : 0 ≤ w 141 2 ∧ w 141 2 ≤ 30) (hp : ∀ j, 0 ≤ j → j < w 141 2 → 0 ≤ w 147 j ∧ w 147 j < 12) (hf : ∀ j, 0 ≤ j → j < 12 → 0 ≤ w 146 j ∧ w 146 j ≤ 9999) (hev : EVB (w 151) (w 153) (w 141 3)) : CallN 3 mX12_lead [(2, 141), (0, p), (0, f), (0, k)] w (RQ (fun z w1 => w1 = w ∧ (((0 ≤ p ∧ p < w 141 2) ∧ (0 ≤ f ∧ f < w 146 (w 147 p)) ∧ (0 ≤ k ∧ k ≤ w 141 0)) ∧ z = leadV (w 145 (w 147 p)) (w 150) (w 154) (w 152) (w 151) (w 153) (w 141 3) p f k ∨ ¬ ((0 ≤ p ∧ p < w 141 2) ∧ (0 ≤ f ∧ f < w 146 (w 147 p)) ∧ (0 ≤ k ∧ k ≤ w 141 0)) ∧ z = -9999))) := by
  refine CallN.intro (by decide +kernel) (Nat.le_of_ble_eq_true rfl) (fun ρ hR => ?_)
  show AtN mX12_lead 3 ρ 0 [(0, (2, 141)), (1, (0, p)), (2, (0, f)), (3, (0, k))] [] w
  refine s_aload_n dX12_lead_0 0 rfl rfl (s_iload_n dX12_lead_1 1 rfl (n_invV (as := [(0, p)]) dX12_lead_2 kv_X12_isPrint ml_X12_243 (c_M_isPrint p w (by omega)) (by decide) 141 cf_X12 rfl sh_141 rfl rfl rfl (Nat.le_of_ble_eq_true rfl) (n_ifeq_b 51 dX12_lead_5 (by decide) (fun c_5 => ?_) (fun c_5 => ?_))))
  · skip
    refine s_sipush dX12_lead_51 (by decide) (n_iret dX12_lead_54 hR rfl ?_)
    first | exact ⟨_, rfl, rfl, Or.inl ⟨by omega, rfl⟩⟩ | exact ⟨_, rfl, rfl, Or.inr ⟨by omega, rfl⟩⟩
  · skip
    have h7 := hp p (by omega) (by omega)
    have h8 := hf _ h7.1 h7.2
    refine s_iload_n dX12_lead_8 2 rfl (s_iconst dX12_lead_9 (by decide) (s_aload_n dX12_lead_10 0 rfl rfl (n_getc (q := 146) 141 14 156 dX12_lead_11 cf_X12 ff_X12_22 rfl sh_141 rfl (by decide) rfl (by decide) (s_aload_n dX12_lead_14 0 rfl rfl (n_getc (q := 147) 141 15 157 dX12_lead_15 cf_X12 ff_X12_25 rfl sh_141 rfl (by decide) rfl (by decide) (s_iload_n dX12_lead_18 1 rfl (n_iald 147 dX12_lead_19 rfl sh_147 (by decide) ⟨(by omega), (by omega)⟩ (v := (w 147 p)) rfl (n_iald 146 dX12_lead_20 rfl sh_146 (by decide) ⟨(by omega), (by omega)⟩ (v := (w 146 (w 147 p))) rfl (s_iconst dX12_lead_21 (by decide) ?_)))))))))
    refine n_sub (z := ((w 146 (w 147 p)) - 1)) dX12_lead_22 (wr_id (by omega) (by omega)) (n_invS (as := [(0, f), (0, 0), (0, ((w 146 (w 147 p)) - 1))]) dX12_lead_23 kv_X12_isIn ml_X12_223 (c_isIn f 0 ((w 146 (w 147 p)) - 1) w) (by decide) rfl rfl (Nat.le_of_ble_eq_true rfl) (n_ifeq_b 51 dX12_lead_26 (by decide) (fun c_26 => ?_) (fun c_26 => ?_)))
    · skip
      refine s_sipush dX12_lead_51 (by decide) (n_iret dX12_lead_54 hR rfl ?_)
      first | exact ⟨_, rfl, rfl, Or.inl ⟨by omega, rfl⟩⟩ | exact ⟨_, rfl, rfl, Or.inr ⟨by omega, rfl⟩⟩
    · skip
      refine s_iload_n dX12_lead_29 3 rfl (s_iconst dX12_lead_30 (by decide) (s_aload_n dX12_lead_31 0 rfl rfl (n_getf 141 0 0 dX12_lead_32 cf_X12 ff_X12_253 rfl sh_141 rfl (by decide) (v := (w 141 0)) rfl (n_invS (as := [(0, k), (0, 0), (0, (w 141 0))]) dX12_lead_35 kv_X12_isIn ml_X12_223 (c_isIn k 0 (w 141 0) w) (by decide) rfl rfl (Nat.le_of_ble_eq_true rfl) (n_ifeq_b 51 dX12_lead_38 (by decide) (fun c_38 => ?_) (fun c_38 => ?_))))))
      · skip
        refine s_sipush dX12_lead_51 (by decide) (n_iret dX12_lead_54 hR rfl ?_)
        first | exact ⟨_, rfl, rfl, Or.inl ⟨by omega, rfl⟩⟩ | exact ⟨_, rfl, rfl, Or.inr ⟨by omega, rfl⟩⟩
      · skip
        refine s_aload_n dX12_lead_41 0 rfl rfl (s_iload_n dX12_lead_42 1 rfl (s_iload_n dX12_lead_43 2 rfl (s_iload_n dX12_lead_44 3 rfl (n_invV (as := [(0, p), (0, f), (0, k)]) dX12_lead_45 kv_X12_leadOf ml_X12_256 (c_M_leadOf p f k w (by omega) (by omega) hev) (by decide) 141 cf_X12 rfl sh_141 rfl rfl rfl (Nat.le_of_ble_eq_true rfl) (s_goto 54 dX12_lead_48 (by decide) (n_iret dX12_lead_54 hR rfl ?_))))))
        first | exact ⟨_, rfl, rfl, Or.inl ⟨by omega, rfl⟩⟩ | exact ⟨_, rfl, rfl, Or.inr ⟨by omega, rfl⟩⟩
