/-! LINES OF RULES, PURE. -/
theorem on8_gr {K : Ky} (hK : KOK K) : OneOk K 20 (onP K 8) := on_gr hK 8
theorem an8_gr {K : Ky} (hK : KOK K) (C : List Stq) (S : List Int) : Gd C (okC 22) S.length S (anF K (onP K 8) C S) := an_gr (on8_gr hK) C S
theorem okC_ln {q : List Stq} (h : okC 22 q) : q ≠ [] ∧ okL 40 q 0 1 ∧ ∀ F, vaL F q = 0 ∨ vaL F q = 1 := by
  refine ⟨fun e => ?_, okL_le (by decide) q h.1, h.2⟩
  have := okC_1 h
  rw [e] at this
  exact absurd this (by decide)
theorem nd_ok {K : Ky} {k : Int} {C e : List Stq} {S R : List Int} (hk : k ≠ 0) (h : ndP K k C S = okR e R) : e = C ∧ R = S.tail ∧ hdK K S = k ∧ R.length + 1 = S.length := by
  unfold ndP at h
  split at h
  · rename_i q
    obtain ⟨rfl, rfl⟩ := okR_inj h
    exact ⟨rfl, rfl, q, hd_tail (K := K) (by omega)⟩
  · cases h
/-- what a line gives -/
theorem ln_gr {K : Ky} (hK : KOK K) {k : Nat} {S R : List Int} {q : Lin} (h : lnP K k S = .inr (q, R)) : okLin q ∧ R <:+ S ∧ R.length < S.length ∧ (cdL q).length + R.length ≤ S.length ∧ q.2.1.length + q.2.2.length + R.length ≤ S.length ∧ k < 20 := by
  unfold lnP at h
  split at h
  · cases h
  · rename_i c1
    have ht := hd_tail (K := K) (S := S) (by omega)
    split at h
    · cases h
    · rename_i c2
      split at h
      · rename_i c3
        cases hq : bnd (anF K (onP K 8) [] S.tail) (ndP K 59) with
        | inl e => rw [hq] at h; cases h
        | inr p =>
          rw [hq] at h
          cases h
          cases hp : anF K (onP K 8) [] S.tail with
          | inl e => rw [hp] at hq; cases hq
          | inr t =>
            rw [hp] at hq
            obtain ⟨⟨D, d0, d1, d2, d3⟩, hs⟩ := an8_gr hK [] S.tail t.1 t.2 hp
            obtain ⟨n1, n2, n3, n4⟩ := nd_ok (by decide) (show ndP K 59 t.1 t.2 = okR p.1 p.2 from hq)
            rw [List.nil_append] at d0
            have hD : p.1 = D := n1.trans d0
            have d9 := okC_ln d1
            refine ⟨⟨by dsimp only; omega, fun _ => ⟨rfl, by dsimp only; rw [hD]; exact d9.1⟩, fun z => absurd rfl z, fun _ => by dsimp only; rw [hD]; exact d9.2⟩, ?_, ?_, ?_, ?_, by omega⟩
            · rw [n2]; exact (suf_tail hs).trans (List.tail_suffix S)
            · omega
            · unfold cdL
              dsimp only
              rw [if_pos rfl, hD, if_neg d9.1, trL_app, List.length_append]
              have : (trL [((0 : Int), (0 : Int))]).length = 1 := rfl
              omega
            · dsimp only
              rw [hD]
              show 0 + D.length + p.2.length ≤ S.length
              omega
      · rename_i c3
        cases hp : exP K [] S.tail with
        | inl e => rw [hp] at h; cases h
        | inr t =>
          rw [hp] at h
          obtain ⟨⟨V, d0, d1, d2, d3⟩, hs⟩ := ex_gr hK t.1 t.2 hp
          rw [List.nil_append] at d0
          dsimp only at h
          split at h
          · rename_i c4
            have ht2 := hd_tail (K := K) (S := t.2) (by omega)
            cases hq : bnd (anF K (onP K 8) [] t.2.tail) (ndP K 59) with
            | inl e => rw [hq] at h; cases h
            | inr p =>
              rw [hq] at h
              cases h
              cases hp2 : anF K (onP K 8) [] t.2.tail with
              | inl e => rw [hp2] at hq; cases hq
              | inr u =>
                rw [hp2] at hq
                obtain ⟨⟨D, f0, f1, f2, f3⟩, hs2⟩ := an8_gr hK [] t.2.tail u.1 u.2 hp2
                obtain ⟨n1, n2, n3, n4⟩ := nd_ok (by decide) (show ndP K 59 u.1 u.2 = okR p.1 p.2 from hq)
                rw [List.nil_append] at f0
                have hD : p.1 = D := n1.trans f0
                have d9 := okC_ln f1
                have hk9 : ¬ hdK K S - 256 = 0 := by omega
                refine ⟨⟨by dsimp only; omega, fun z => absurd z hk9, fun _ => by dsimp only; rw [d0]; exact okL_le (by decide) V d1, fun _ => by dsimp only; rw [hD]; exact d9.2⟩, ?_, ?_, ?_, ?_, by omega⟩
                · rw [n2]; exact (suf_tail hs2).trans ((List.tail_suffix t.2).trans (hs.trans (List.tail_suffix S)))
                · omega
                · unfold cdL
                  dsimp only
                  rw [if_neg hk9, hD, if_neg d9.1, d0, trL_app, List.length_append]
                  omega
                · dsimp only
                  rw [hD, d0]
                  omega
          · cases hq : ndP K 59 [] t.2 with
            | inl e => rw [hq] at h; cases h
            | inr p =>
              rw [hq] at h
              cases h
              obtain ⟨n1, n2, n3, n4⟩ := nd_ok (by decide) (show ndP K 59 [] t.2 = okR p.1 p.2 from hq)
              have hk9 : ¬ hdK K S - 256 = 0 := by omega
              refine ⟨⟨by dsimp only; omega, fun z => absurd z hk9, fun _ => by dsimp only; rw [d0]; exact okL_le (by decide) V d1, fun z => absurd rfl z⟩, ?_, ?_, ?_, ?_, by omega⟩
              · rw [n2]; exact (List.tail_suffix t.2).trans (hs.trans (List.tail_suffix S))
              · omega
              · unfold cdL
                dsimp only
                rw [if_neg hk9, if_pos rfl, d0, trL_app, List.length_append]
                have : (trL [((0 : Int), (1 : Int))]).length = 1 := rfl
                omega
              · dsimp only
                rw [d0]
                show V.length + 0 + p.2.length ≤ S.length
                omega
