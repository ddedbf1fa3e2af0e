/-! SENDING A CROWD, the class. -/
abbrev capX (w : Wd) : Int → Int := fun h => 7 * w 17 h
/-- sending writes lookers and goings only -/
def FrS (w v : Wd) : Prop := (∀ c, c ≠ 21 → c ≠ 59 → c ≠ 86 → c ≠ 87 → v c = w c) ∧ ∀ j : Int, j ≠ 16 → v 59 j = w 59 j
theorem FrS.rf {w : Wd} : FrS w w := ⟨fun _ _ _ _ _ => rfl, fun _ _ => rfl⟩
theorem FrS.tr {w v u : Wd} (h : FrS w v) (h2 : FrS v u) : FrS w u := ⟨fun c a b d e => (h2.1 c a b d e).trans (h.1 c a b d e), fun j hj => (h2.2 j hj).trans (h.2 j hj)⟩
theorem woX_s {w v : Wd} {c h : Int} (hf : FrS w v) (hc : 0 ≤ c ∧ c < 16) : woX v c h = woX w c h := by
  unfold woX
  have e : ∀ k, (k = 60 ∨ k = 16 ∨ k = 18 ∨ k = 64 ∨ k = 25 ∨ k = 1 ∨ k = 7 ∨ k = 3 ∨ k = 61 ∨ k = 4 ∨ k = 62 ∨ k = 82 ∨ k = 83 ∨ (66 ≤ k ∧ k < 82)) → v k = w k := fun k hk => hf.1 k (by omega) (by omega) (by omega) (by omega)
  rw [e 60 (by omega), e 16 (by omega), e 18 (by omega), e 64 (by omega), e 25 (by omega), e 1 (by omega), e 7 (by omega), e 3 (by omega), e 61 (by omega), e 4 (by omega), e 62 (by omega), e 82 (by omega), e 83 (by omega), e (66 + Int.toNat c) (by omega)]
/-- lookers and goings as they stand in the class's cells -/
def StX (v : Wd) (S : Sn) : Prop := v 21 = S.2.1 ∧ v 59 16 = S.2.2.length ∧ GoS (v 86) (v 87) S.2.2

theorem n_alen {μ : Mu} {d : Nat} {ρ : Rh} {pc : Nat} {ls : List (Nat × PV)} {st : List PV} {w : Wd} {z : Int} (k : Nat) {n : Nat} {ts : List Nat} (dd : decode μ.2.1 pc = .ok (.arraylength, 1)) (hz : z = ((k : Nat) : Int)) (hsh : SH[k]? = some (1, n, ts)) (hn : n < 2147483648) (kk : AtN μ d ρ (pc + 1) ls ((0, (n : Int)) :: st) w) : AtN μ d ρ pc ls ((2, z) :: st) w := by
  obtain ⟨⟨p, l, e, R, s⟩, ⟨m, args, below, meth, c⟩, ⟨g, ad0, sh0⟩, Q⟩ := ρ
  intro C ad H locs lsa h1 h2 h3 hr hl hi hs
  obtain ⟨hx, hb, -, -, -, hown, -, hts, hK, -⟩ := id C
  subst hz
  simp only [List.forall_mem_cons] at hs
  have k1 := kk C ad H locs lsa h1 h2 h3 hr hl hi (List.forall_mem_cons.mpr ⟨⟨by omega, by omega⟩, hs.2⟩)
  refine va_alen hx hb hK hr.1 k 0 (wl_get hsh) (tyl_get g).1 (v := Int32.ofInt n) ?_ dd ?_
  · exact (Int32.ofInt_eq_ofNat ..).symm
  · exact k1
theorem StX_step {v : Wd} {W cap pr : Int → Int} {n : Nat} {c b : Int} {S : Sn} (h : StX v S) (hb : b = bhS W cap pr n S) :
    StX (wu (wu (wu (wu v 21 b (v 21 b + mnL S.1 (cap b - S.2.1 b))) 86 (v 59 16) c) 87 (v 59 16) b) 59 16 (v 59 16 + 1)) (sn1 W cap pr n c S) := by
  obtain ⟨h1, h2, h3⟩ := h
  refine ⟨?_, ?_, ?_⟩
  · show wu v 21 b (v 21 b + mnL S.1 (cap b - S.2.1 b)) 21 = updF S.2.1 (bhS W cap pr n S) _
    rw [← hb]
    funext i
    rw [wu_at, h1]
    rfl
  · rw [wu_same, h2]
    show _ = (((S.2.2 ++ [(c, bhS W cap pr n S)]).length : Nat) : Int)
    rw [List.length_append]
    simp
  · show GoS (wu (wu (wu v 21 b _) 86 (v 59 16) c) 87 (v 59 16) b 86) (wu (wu (wu v 21 b _) 86 (v 59 16) c) 87 (v 59 16) b 87) (S.2.2 ++ [(c, bhS W cap pr n S)])
    rw [← hb]
    have e1 : ∀ y, wu (wu (wu v 21 b y) 86 (v 59 16) c) 87 (v 59 16) b 86 = updF (v 86) (v 59 16) c := fun y => by
      funext i
      rw [wu_ne (by decide), wu_at, wu_ne (by decide)]
      rfl
    have e2 : ∀ y, wu (wu (wu v 21 b y) 86 (v 59 16) c) 87 (v 59 16) b 87 = updF (v 87) (v 59 16) b := fun y => by
      funext i
      rw [wu_at, wu_ne (by decide), wu_ne (by decide)]
      rfl
    rw [e1, e2]
    exact GoS_app h3 h2
/-- what holds of lookers and goings while crowd c goes -/
def OkS (cap : Int → Int) (n : Nat) (c : Int) (S : Sn) : Prop := (∀ h : Int, 0 ≤ h → h < n → 0 ≤ S.2.1 h ∧ S.2.1 h ≤ cap h) ∧ (S.2.2.length : Int) + opS cap S.2.1 n ≤ n + c + 1 ∧ (0 < S.1 → (S.2.2.length : Int) + opS cap S.2.1 n ≤ n + c) ∧ (0 ≤ S.1 ∧ S.1 ≤ 9999)
theorem OkS_step {W cap pr : Int → Int} {n : Nat} {c : Int} {S : Sn} (h : OkS cap n c S) (hg : 0 < S.1 ∧ bhS W cap pr n S ≠ -1) : OkS cap n c (sn1 W cap pr n c S) := by
  obtain ⟨p1, p2, p3, p4⟩ := sn1_p (c := c) hg
  obtain ⟨h1, h2, h3, h4⟩ := h
  have h5 := h3 hg.1
  refine ⟨fun k k0 k1 => ?_, by rw [p3]; omega, fun q => by rw [p3]; omega, by omega, by omega⟩
  show 0 ≤ updF S.2.1 (bhS W cap pr n S) _ k ∧ updF S.2.1 (bhS W cap pr n S) _ k ≤ cap k
  unfold updF
  have hk := h1 k k0 k1
  rcases bhV_p (W := W) (pl := fun h => cap h - S.2.1 h) (pr := pr) n with q | ⟨q1, q2, q3, q4⟩
  · exact absurd q hg.2
  · have q3' : 0 < cap (bhS W cap pr n S) - S.2.1 (bhS W cap pr n S) := q3
    by_cases e : k = bhS W cap pr n S
    · rw [if_pos e, e]
      rw [e] at hk
      have := hg.1
      unfold mnL
      split <;> omega
    · rw [if_neg e]; exact hk

set_option maxRecDepth 100000 in
theorem c_X_note (c h : Int) (w : Wd) (hg : 0 ≤ w 59 16 ∧ w 59 16 < 32) : CallN 1 mX0_note [(2, 59), (0, c), (0, h)] w (RUQ (fun w1 => w1 = wu (wu (wu w 86 (w 59 16) c) 87 (w 59 16) h) 59 16 (w 59 16 + 1))) := by
  refine CallN.intro (by decide +kernel) (Nat.le_of_ble_eq_true rfl) (fun ρ hR => ?_)
  show AtN mX0_note 1 ρ 0 [(0, (2, 59)), (1, (0, c)), (2, (0, h))] [] w
  refine s_aload_n dX0_note_0 0 rfl rfl (n_getf 59 16 0 dX0_note_1 cf_X0 ff_X0_108 rfl sh_59 rfl (by decide) (v := (w 59 16)) rfl (s_aload_n dX0_note_4 0 rfl rfl (n_getc (q := 86) 59 14 96 dX0_note_5 cf_X0 ff_X0_45 rfl sh_59 rfl (by decide) rfl (by decide) (n_alen 86 dX0_note_8 rfl sh_86 (by decide) (s_icmp_ge 42 dX0_note_9 (by decide) (fun c_9 => ?_) (fun c_9 => ?_))))))
  · skip
    exfalso
    omega
  · skip
    refine s_aload_n dX0_note_12 0 rfl rfl (n_getc (q := 86) 59 14 96 dX0_note_13 cf_X0 ff_X0_45 rfl sh_59 rfl (by decide) rfl (by decide) (s_aload_n dX0_note_16 0 rfl rfl (n_getf 59 16 0 dX0_note_17 cf_X0 ff_X0_108 rfl sh_59 rfl (by decide) (v := (w 59 16)) rfl (s_iload_n dX0_note_20 1 rfl (s_iastore 86 dX0_note_21 rfl sh_86 (by decide) ⟨(by omega), (by omega)⟩ (s_aload_n dX0_note_22 0 rfl rfl (n_getc (q := 87) 59 15 97 dX0_note_23 cf_X0 ff_X0_48 rfl sh_59 rfl (by decide) rfl (by decide) (s_aload_n dX0_note_26 0 rfl rfl (n_getf 59 16 0 dX0_note_27 cf_X0 ff_X0_108 rfl sh_59 rfl (by decide) (v := (w 59 16)) rfl ?_)))))))))
    refine s_iload_n dX0_note_30 2 rfl (s_iastore 87 dX0_note_31 rfl sh_87 (by decide) ⟨(by omega), (by omega)⟩ (s_aload_n dX0_note_32 0 rfl rfl (s_dup dX0_note_33 (show (2 : Nat) ≠ 1 by decide) (n_getf 59 16 0 dX0_note_34 cf_X0 ff_X0_108 rfl sh_59 rfl (by decide) (v := (w 59 16)) rfl (s_iconst dX0_note_37 (by decide) (n_add (z := ((w 59 16) + 1)) dX0_note_38 (wr_id (by omega) (by omega)) (n_putf 59 16 16 dX0_note_39 cf_X0 ff_X0_108 rfl rfl sh_59 rfl rfl rfl (n_ret dX0_note_42 hR rfl ?_))))))))
    exact ⟨rfl, rfl⟩

set_option maxRecDepth 100000 in
set_option maxHeartbeats 2000000 in
theorem c_X_send (c : Int) (w : Wd) (gs : List (Int × Int)) (hS0 : StX w (w 63 c, w 21, gs)) (hO0 : OkS (capX w) (w 15 10).toNat c (w 63 c, w 21, gs)) (hc : 0 ≤ c ∧ c < 16) (hn : 0 ≤ w 15 10 ∧ w 15 10 ≤ 16) (hn1 : w 1 9 ≤ 30) (hpi : ∀ j, 0 ≤ j → j < w 1 9 → 0 ≤ w 7 j ∧ w 7 j < 12) (hhd : ∀ j, 0 ≤ j → j < 12 → -3 ≤ w (66 + Int.toNat c) j ∧ w (66 + Int.toNat c) j ≤ 3) (hb01 : ∀ h, 0 ≤ h → h < w 15 10 → (w 82 h = 0 ∨ w 82 h = 1) ∧ (w 83 h = 0 ∨ w 83 h = 1)) (hst : ∀ h, 0 ≤ h → h < w 15 10 → 0 ≤ w 17 h ∧ w 17 h ≤ 999) : CallN 4 mX0_send [(2, 59), (0, c)] w (RUQ (fun w1 => FrS w w1 ∧ StX w1 (snG (woX w c) (capX w) (w 18) (w 15 10).toNat c (w 15 10).toNat (w 63 c, w 21, gs)) ∧ OkS (capX w) (w 15 10).toNat c (snG (woX w c) (capX w) (w 18) (w 15 10).toNat c (w 15 10).toNat (w 63 c, w 21, gs)))) := by
  refine CallN.intro (by decide +kernel) (Nat.le_of_ble_eq_true rfl) (fun ρ hR => ?_)
  show AtN mX0_send 4 ρ 0 [(0, (2, 59)), (1, (0, c))] [] w
  have L_9 : ∀ (fu : Nat) (r : Int) (i : Int) (v9 : Wd) (S : Sn), 0 ≤ i ∧ i ≤ w 15 10 → r = S.1 → FrS w v9 → StX v9 S → OkS (capX w) (w 15 10).toNat c S → snG (woX w c) (capX w) (w 18) (w 15 10).toNat c (w 15 10 - i).toNat S = snG (woX w c) (capX w) (w 18) (w 15 10).toNat c (w 15 10).toNat (w 63 c, w 21, gs) → (w 15 10 - i).toNat < fu → AtN mX0_send 4 ρ 9 [(0, (2, 59)), (1, (0, c)), (2, (0, r)), (3, (0, i))] [] v9 := by
    intro fu
    induction fu with
    | zero => intro r i v9 S hi hr hf9 hS hO hG hm; exact absurd hm (Nat.not_lt_zero _)
    | succ fu ih =>
      intro r i v9 S hi hr hf9 hS hO hG hm
      have q15 : v9 15 10 = w 15 10 := by rw [hf9.1 15 (by decide) (by decide) (by decide) (by decide)]
      have q1 : v9 1 = w 1 := hf9.1 1 (by decide) (by decide) (by decide) (by decide)
      have q7 : v9 7 = w 7 := hf9.1 7 (by decide) (by decide) (by decide) (by decide)
      have q17 : v9 17 = w 17 := hf9.1 17 (by decide) (by decide) (by decide) (by decide)
      have q18 : v9 18 = w 18 := hf9.1 18 (by decide) (by decide) (by decide) (by decide)
      have q82 : v9 82 = w 82 := hf9.1 82 (by decide) (by decide) (by decide) (by decide)
      have q83 : v9 83 = w 83 := hf9.1 83 (by decide) (by decide) (by decide) (by decide)
      have hO4 := hO.2.2.2
      refine s_iload_n dX0_send_9 3 rfl (s_aload_n dX0_send_10 0 rfl rfl (n_getc (q := 15) 59 1 25 dX0_send_11 cf_X0 ff_X0_55 rfl sh_59 rfl (by decide) rfl (by decide) (n_getf 15 10 0 dX0_send_14 cf_X3 ff_X0_111 rfl sh_15 rfl (by decide) (v := (v9 15 10)) rfl (s_icmp_ge 86 dX0_send_17 (by decide) (fun c_17 => ?_) (fun c_17 => ?_)))))
      · skip
        refine n_ret dX0_send_86 hR rfl ?_
        have hfin : snG (woX w c) (capX w) (w 18) (w 15 10).toNat c (w 15 10 - i).toNat S = S := by
          first
          | exact snG_st (fun q => by have := q.1; omega)
          | exact snG_st (fun q => q.2 (by rw [← eb]; omega))
          | (rw [show (w 15 10 - i).toNat = 0 by omega]; rfl)
        rw [hfin] at hG
        refine ⟨rfl, hf9, ?_, ?_⟩
        · rw [← hG]; exact hS
        · rw [← hG]; exact hO
      · skip
        refine s_iload_n dX0_send_20 2 rfl (s_if_le 86 dX0_send_21 (by decide) (fun c_21 => ?_) (fun c_21 => ?_))
        · skip
          refine n_ret dX0_send_86 hR rfl ?_
          have hfin : snG (woX w c) (capX w) (w 18) (w 15 10).toNat c (w 15 10 - i).toNat S = S := by
            first
            | exact snG_st (fun q => by have := q.1; omega)
            | exact snG_st (fun q => q.2 (by rw [← eb]; omega))
            | (rw [show (w 15 10 - i).toNat = 0 by omega]; rfl)
          rw [hfin] at hG
          refine ⟨rfl, hf9, ?_, ?_⟩
          · rw [← hG]; exact hS
          · rw [← hG]; exact hO
        · skip
          refine s_aload_n dX0_send_24 0 rfl rfl (s_iload_n dX0_send_25 1 rfl (n_invV (as := [(0, c)]) dX0_send_26 kv_X0_bestHall ml_X0_131 (show CallN 3 mX0_bestHall [(2, 59), (0, c)] v9 (RV (0, bhS (woX w c) (capX w) (w 18) (w 15 10).toNat S) v9) from (by
      have hz := c_X_bestHall c v9 hc (by rw [q15]; exact hn) (by rw [q1]; exact hn1) (by rw [q1, q7]; exact hpi) (by rw [hf9.1 (66 + Int.toNat c) (by omega) (by omega) (by omega) (by omega)]; exact hhd) (by rw [q82, q83, q15]; exact hb01) (by rw [q17, q15, hS.1]; exact fun h a b => ⟨hst h a b, hO.1 h a (by omega)⟩)
      have e1 : woX v9 c = woX w c := funext (fun h => woX_s hf9 hc)
      have e2 : (fun h => 7 * v9 17 h - v9 21 h) = (fun h => capX w h - S.2.1 h) := funext (fun h => by rw [q17, hS.1])
      rw [e1, e2, q18, q15] at hz
      exact hz)) (by decide) 59 cf_X0 rfl sh_59 rfl rfl rfl (Nat.le_of_ble_eq_true rfl) ?_))
          obtain ⟨b9, eb⟩ : ∃ b9, b9 = bhS (woX w c) (capX w) (w 18) (w 15 10).toNat S := ⟨_, rfl⟩
          rw [← eb]
          have hbp := bhV_p (W := woX w c) (pl := fun h => capX w h - S.2.1 h) (pr := w 18) (w 15 10).toNat
          have hbp2 : b9 = -1 ∨ (0 ≤ b9 ∧ b9 < w 15 10 ∧ 0 < capX w b9 - S.2.1 b9) := by
            rw [eb]
            rcases hbp with q | ⟨z1, z2, z3, z4⟩
            · exact Or.inl q
            · exact Or.inr ⟨z1, Int.lt_of_lt_of_le z2 (by omega), z3⟩
          clear hbp
          refine s_istore (ls' := [(0, (2, 59)), (1, (0, c)), (2, (0, r)), (3, (0, i)), (4, (0, b9))]) dX0_send_29 (Nat.le_of_ble_eq_true rfl) rfl (s_iload dX0_send_31 4 rfl (s_iconst dX0_send_33 (by decide) (s_icmp_ne 38 dX0_send_34 (by decide) (fun c_34 => ?_) (fun c_34 => ?_))))
          · skip
            have hcap : 7 * v9 17 b9 - v9 21 b9 = capX w b9 - S.2.1 b9 := by rw [q17, hS.1]
            have hst9 := hst b9 (by omega) (by omega)
            have hO1 := hO.1 b9 (by omega) (by omega)
            have hlk : 0 ≤ v9 21 b9 ∧ v9 21 b9 ≤ 7 * w 17 b9 := by rw [hS.1]; exact hO1
            have hst8 : v9 17 b9 = w 17 b9 := by rw [q17]
            have hgo : 0 < S.1 ∧ bhS (woX w c) (capX w) (w 18) (w 15 10).toNat S ≠ -1 := ⟨by omega, by rw [← eb]; omega⟩
            have hsp := sn1_p (c := c) hgo
            have hOn := OkS_step (c := c) hO hgo
            have hlen := hO.2.2.1 hgo.1
            have hmn : 0 < mnL r (7 * v9 17 b9 - v9 21 b9) ∧ mnL r (7 * v9 17 b9 - v9 21 b9) ≤ r ∧ mnL r (7 * v9 17 b9 - v9 21 b9) ≤ 7 * v9 17 b9 - v9 21 b9 := by unfold mnL; split <;> omega
            have hg16 : v9 59 16 = (S.2.2.length : Int) := hS.2.1
            refine s_iload_n dX0_send_38 2 rfl (s_aload_n dX0_send_39 0 rfl rfl (n_getc (q := 15) 59 1 25 dX0_send_40 cf_X0 ff_X0_55 rfl sh_59 rfl (by decide) rfl (by decide) (s_iload dX0_send_43 4 rfl (n_invV (as := [(0, b9)]) dX0_send_45 kv_X3_places ml_X0_135 (c_X_places b9 v9 ⟨by omega, by omega⟩ (by omega) (by omega)) (by decide) 15 cf_X3 rfl sh_15 rfl rfl rfl (Nat.le_of_ble_eq_true rfl) (n_invS (as := [(0, r), (0, (7 * v9 17 b9 - v9 21 b9))]) dX0_send_48 kv_J9_min_7cf53 ml_X0_138 (j_minI r (7 * v9 17 b9 - v9 21 b9) v9) (by decide) rfl rfl (Nat.le_of_ble_eq_true rfl) (s_istore (ls' := [(0, (2, 59)), (1, (0, c)), (2, (0, r)), (3, (0, i)), (4, (0, b9)), (5, (0, (mnL r (7 * v9 17 b9 - v9 21 b9))))]) dX0_send_51 (Nat.le_of_ble_eq_true rfl) rfl (s_aload_n dX0_send_53 0 rfl rfl (n_getc (q := 15) 59 1 25 dX0_send_54 cf_X0 ff_X0_55 rfl sh_59 rfl (by decide) rfl (by decide) (n_getc (q := 21) 15 5 31 dX0_send_57 cf_X3 ff_X0_118 rfl sh_15 rfl (by decide) rfl (by decide) ?_)))))))))
            refine s_iload dX0_send_60 4 rfl (s_dup2 dX0_send_62 (show (0 : Nat) ≠ 1 by decide) (show (2 : Nat) ≠ 1 by decide) (n_iald 21 dX0_send_63 rfl sh_21 (by decide) ⟨(by omega), (by omega)⟩ (v := (v9 21 b9)) rfl (s_iload dX0_send_64 5 rfl (n_add (z := ((v9 21 b9) + (mnL r (7 * v9 17 b9 - v9 21 b9)))) dX0_send_66 (wr_id (by omega) (by omega)) (s_iastore 21 dX0_send_67 rfl sh_21 (by decide) ⟨(by omega), (by omega)⟩ (s_iload_n dX0_send_68 2 rfl (s_iload dX0_send_69 5 rfl (n_sub (z := (r - (mnL r (7 * v9 17 b9 - v9 21 b9)))) dX0_send_71 (wr_id (by omega) (by omega)) (s_istore_n (ls' := [(0, (2, 59)), (1, (0, c)), (2, (0, (r - (mnL r (7 * v9 17 b9 - v9 21 b9))))), (3, (0, i)), (4, (0, b9)), (5, (0, (mnL r (7 * v9 17 b9 - v9 21 b9))))]) dX0_send_72 (Nat.le_of_ble_eq_true rfl) rfl ?_)))))))))
            refine s_aload_n dX0_send_73 0 rfl rfl (s_iload_n dX0_send_74 1 rfl (s_iload dX0_send_75 4 rfl (n_invV' (as := [(0, c), (0, b9)]) dX0_send_77 kv_X0_note ml_X0_143 (c_X_note c b9 (wu v9 21 b9 ((v9 21 b9) + (mnL r (7 * v9 17 b9 - v9 21 b9)))) (by show 0 ≤ v9 59 16 ∧ v9 59 16 < 32; omega)) (by decide) 59 cf_X0 rfl sh_59 rfl rfl rfl (Nat.le_of_ble_eq_true rfl) ?_)))
            rintro r_77 w_77 ⟨rfl, hz_77⟩
            have hS7 : StX w_77 (sn1 (woX w c) (capX w) (w 18) (w 15 10).toNat c S) := by
              rw [hz_77]
              have h9 := StX_step (c := c) hS eb
              rw [← hcap, ← hr] at h9
              exact h9
            have hf7 : FrS w w_77 := by
              rw [hz_77]
              exact ⟨fun k k1 k2 k3 k4 => by rw [wu_ne k2, wu_ne k4, wu_ne k3, wu_ne k1]; exact hf9.1 k k1 k2 k3 k4, fun j hj => by rw [wu_at, if_neg hj, wu_ne (by decide), wu_ne (by decide), wu_ne (by decide)]; exact hf9.2 j hj⟩
            have hr7 : r - mnL r (7 * v9 17 b9 - v9 21 b9) = (sn1 (woX w c) (capX w) (w 18) (w 15 10).toNat c S).1 := by
              rw [hcap, hr, eb]
              rfl
            refine s_iinc (z := (i + 1)) (ls' := [(0, (2, 59)), (1, (0, c)), (2, (0, (r - (mnL r (7 * v9 17 b9 - v9 21 b9))))), (3, (0, (i + 1))), (4, (0, b9)), (5, (0, (mnL r (7 * v9 17 b9 - v9 21 b9))))]) dX0_send_80 3 rfl (Nat.le_of_ble_eq_true rfl) (wr_id (by omega) (by omega)) rfl (s_goto 9 dX0_send_83 (by decide) ?_)
            exact At.keep (ls' := [(0, (2, 59)), (1, (0, c)), (2, (0, (r - (mnL r (7 * v9 17 b9 - v9 21 b9))))), (3, (0, (i + 1)))]) [0, 1, 2, 3] rfl (ih (r - (mnL r (7 * v9 17 b9 - v9 21 b9))) (i + 1) w_77 (sn1 (woX w c) (capX w) (w 18) (w 15 10).toNat c S) (by omega) hr7 hf7 hS7 hOn (by rw [← hG, show (w 15 10 - i).toNat = (w 15 10 - (i + 1)).toNat + 1 by omega, snG_go hgo]) (by omega))
          · skip
            refine n_ret dX0_send_37 hR rfl ?_
            have hfin : snG (woX w c) (capX w) (w 18) (w 15 10).toNat c (w 15 10 - i).toNat S = S := by
              first
              | exact snG_st (fun q => by have := q.1; omega)
              | exact snG_st (fun q => q.2 (by rw [← eb]; omega))
              | (rw [show (w 15 10 - i).toNat = 0 by omega]; rfl)
            rw [hfin] at hG
            refine ⟨rfl, hf9, ?_, ?_⟩
            · rw [← hG]; exact hS
            · rw [← hG]; exact hO
  refine s_aload_n dX0_send_0 0 rfl rfl (n_getc (q := 63) 59 6 73 dX0_send_1 cf_X0 ff_X0_21 rfl sh_59 rfl (by decide) rfl (by decide) (s_iload_n dX0_send_4 1 rfl (n_iald 63 dX0_send_5 rfl sh_63 (by decide) ⟨(by omega), (by omega)⟩ (v := (w 63 c)) rfl (s_istore_n (ls' := [(0, (2, 59)), (1, (0, c)), (2, (0, (w 63 c)))]) dX0_send_6 (Nat.le_of_ble_eq_true rfl) rfl (s_iconst dX0_send_7 (by decide) (s_istore_n (ls' := [(0, (2, 59)), (1, (0, c)), (2, (0, (w 63 c))), (3, (0, 0))]) dX0_send_8 (Nat.le_of_ble_eq_true rfl) rfl ?_))))))
  exact L_9 _ (w 63 c) 0 w (w 63 c, w 21, gs) (by omega) rfl FrS.rf hS0 hO0 (by rw [show w 15 10 - 0 = w 15 10 by omega]) (Nat.lt_succ_self _)
