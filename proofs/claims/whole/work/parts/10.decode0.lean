/-! DECODING OUT OF A FEW BYTES: an instruction whose bytes stand at pc is the one that they spell alone. -/
def sl (c : ByteArray) (p n : Nat) : List UInt8 := (c.data.toList.drop p).take n
/-- c' is what stands in c from p on -/
def Agr (c c' : ByteArray) (p : Nat) : Prop := ∀ i (h : i < c'.size), ∃ h2 : p + i < c.size, c[p + i] = c'[i]
def Sim {α : Type} (m m' : Decoder α) : Prop := ∀ (c c' : ByteArray) (p i : Nat) (a : α) (j : Nat), Agr c c' p → m' c' i = .ok (a, j) → m c (p + i) = .ok (a, p + j)
theorem Sim.pure {α : Type} {a : α} : Sim (Pure.pure a) (Pure.pure a) := by
  intro c c' p i b j h hr
  cases hr
  rfl
theorem Sim.bind {α β : Type} {m m' : Decoder α} {f f' : α → Decoder β} (hm : Sim m m') (hf : ∀ a, Sim (f a) (f' a)) : Sim (m >>= f) (m' >>= f') := by
  intro c c' p i b j h hr
  have e' : (m' >>= f') c' i = (m' c' i >>= fun q => f' q.1 c' q.2) := rfl
  have e : (m >>= f) c (p + i) = (m c (p + i) >>= fun q => f q.1 c q.2) := rfl
  rw [e'] at hr
  rw [e]
  cases hq : m' c' i with
  | error z => rw [hq] at hr; cases hr
  | ok q =>
    rw [hq] at hr
    rw [hm c c' p i q.1 q.2 h hq]
    exact hf q.1 c c' p q.2 b j h hr
theorem Sim.throw {α : Type} {m : Decoder α} {z : DecodeError} : Sim m (throw z) := by
  intro c c' p i b j h hr
  cases hr
theorem u1_at {c : ByteArray} {i : Nat} (hi : i < c.size) : (Reader.u1 : Decoder Nat) c i = .ok (c[i].toNat, i + 1) := by
  show (if h : i < c.size then _ else _ : Decoder Nat) c i = _
  rw [dif_pos hi]; rfl
theorem Sim.u1 : Sim Reader.u1 Reader.u1 := by
  intro c c' p i b j h hr
  by_cases hi : i < c'.size
  · obtain ⟨h2, h3⟩ := h i hi
    have e' : (Reader.u1 : Decoder Nat) c' i = .ok (c'[i].toNat, i + 1) := by
      show (if h : i < c'.size then _ else _ : Decoder Nat) c' i = _
      rw [dif_pos hi]; rfl
    have e : (Reader.u1 : Decoder Nat) c (p + i) = .ok (c[p + i].toNat, p + i + 1) := by
      show (if h : p + i < c.size then _ else _ : Decoder Nat) c (p + i) = _
      rw [dif_pos h2]; rfl
    rw [e'] at hr
    cases hr
    rw [e, h3]
    rfl
  · have e' : (Reader.u1 : Decoder Nat) c' i = .error (HasTruncated.truncated i) := by
      show (if h : i < c'.size then _ else _ : Decoder Nat) c' i = _
      rw [dif_neg hi]; rfl
    rw [e'] at hr
    cases hr
theorem Sim.u2 : Sim Reader.u2 Reader.u2 := Sim.bind Sim.u1 (fun _ => Sim.bind Sim.u1 (fun _ => Sim.pure))
theorem Sim.u4 : Sim Reader.u4 Reader.u4 := Sim.bind Sim.u2 (fun _ => Sim.bind Sim.u2 (fun _ => Sim.pure))
theorem Sim.map {α β : Type} {m m' : Decoder α} {f : α → β} (h : Sim m m') : Sim (f <$> m) (f <$> m') := by
  have e : f <$> m = m >>= fun a => Pure.pure (f a) := rfl
  have e' : f <$> m' = m' >>= fun a => Pure.pure (f a) := rfl
  rw [e, e']
  exact Sim.bind h (fun _ => Sim.pure)
theorem Sim.s1 : Sim Reader.s1 Reader.s1 := Sim.map Sim.u1
theorem Sim.s2 : Sim Reader.s2 Reader.s2 := Sim.map Sim.u2
theorem Sim.s4 : Sim Reader.s4 Reader.s4 := Sim.map Sim.u4
def spec7 (n : Nat) : Bool := n == 170 || n == 171 || n == 185 || n == 186 || n == 196 || n == 197
theorem Sim.newarray {q : Nat} : Sim (Decoder.newarray q) (Decoder.newarray 0) := by
  unfold Decoder.newarray
  refine Sim.bind Sim.u1 (fun a => ?_)
  split <;> first | exact Sim.pure | exact Sim.throw
set_option maxRecDepth 100000 in
set_option maxHeartbeats 4000000 in
theorem Sim.instr {q : Nat} {F : Nat → Decoder Instr} {c c' : ByteArray} {p b : Nat} {a : Instr} {j : Nat} (h : Agr c c' p) (hb : (Reader.u1 : Decoder Nat) c' 0 = .ok (b, 1)) (hs : spec7 b = false) (hr : Decoder.instr 0 c' 0 = .ok (a, j)) : Decoder.instr q c p = .ok (a, p + j) := by
  have hb2 := Sim.u1 c c' p 0 b 1 h hb
  rw [Nat.add_zero] at hb2
  unfold Decoder.instr at hr ⊢
  have hr2 : ((Reader.u1 : Decoder Nat) c' 0 >>= fun x => _) = Except.ok (a, j) := hr
  show ((Reader.u1 : Decoder Nat) c p >>= fun x => _) = Except.ok (a, p + j)
  rw [hb] at hr2
  rw [hb2]
  change _ = Except.ok (a, j) at hr2
  dsimp only [Bind.bind, Except.bind] at hr2 ⊢
  revert hr2
  split
  all_goals intro hr2
  all_goals first
    | exact Sim.pure c c' p 1 a j h hr2
    | exact (Sim.bind Sim.u2 (fun _ => Sim.pure)) c c' p 1 a j h hr2
    | exact (Sim.bind Sim.s2 (fun _ => Sim.pure)) c c' p 1 a j h hr2
    | exact (Sim.bind Sim.u1 (fun _ => Sim.pure)) c c' p 1 a j h hr2
    | exact (Sim.bind Sim.s1 (fun _ => Sim.pure)) c c' p 1 a j h hr2
    | exact (Sim.bind Sim.s4 (fun _ => Sim.pure)) c c' p 1 a j h hr2
    | exact (Sim.bind Sim.u1 (fun _ => Sim.bind Sim.s1 (fun _ => Sim.pure))) c c' p 1 a j h hr2
    | exact Sim.newarray c c' p 1 a j h hr2
    | exact absurd hs (by decide)
    | cases hr2
theorem agr_sl {c : ByteArray} {p n : Nat} {bs : List UInt8} (h : sl c p n = bs) : Agr c ⟨bs.toArray⟩ p := by
  intro i hi
  have hi2 : i < bs.length := by simpa [ByteArray.size] using hi
  subst h
  have hl : (sl c p n).length = min n (c.data.toList.length - p) := by simp [sl]
  have h2 : p + i < c.data.toList.length := by omega
  have h3 : p + i < c.size := by
    show p + i < c.data.size
    rw [← Array.length_toList]; exact h2
  refine ⟨h3, ?_⟩
  show c.data[p + i]'_ = (sl c p n).toArray[i]'_
  simp [sl, List.getElem_take, List.getElem_drop]
theorem dcS {c : ByteArray} {p n : Nat} {b : UInt8} {bs : List UInt8} {I : Instr} (h : sl c p n = b :: bs) (hs : spec7 b.toNat = false) (hd : decode ⟨(b :: bs).toArray⟩ 0 = .ok (I, n)) : decode c p = .ok (I, n) := by
  have ha := agr_sl h
  have hb : (Reader.u1 : Decoder Nat) ⟨(b :: bs).toArray⟩ 0 = .ok (b.toNat, 1) := by
    exact u1_at (c := ⟨(b :: bs).toArray⟩) (i := 0) (by show 0 < (b :: bs).toArray.size; simp)
  unfold decode at hd ⊢
  cases hq : Decoder.instr 0 ⟨(b :: bs).toArray⟩ 0 with
  | error z =>
    have : ((Decoder.instr 0).runAt ⟨(b :: bs).toArray⟩ 0) = .error z := hq
    rw [this] at hd
    cases hd
  | ok r =>
    have e1 : ((Decoder.instr 0).runAt ⟨(b :: bs).toArray⟩ 0) = .ok r := hq
    rw [e1] at hd
    have e2 : ((Decoder.instr p).runAt c p) = .ok (r.1, p + r.2) := Sim.instr (F := fun _ => Pure.pure .nop) ha hb hs hq
    rw [e2]
    have hd2 : (Except.ok (r.1, r.2 - 0) : Except DecodeError (Instr × Nat)) = .ok (I, n) := hd
    cases hd2
    show Except.ok (r.1, p + r.2 - p) = Except.ok (r.1, r.2 - 0)
    congr 2
    omega
