/-! BOUNDS OF LOOKERS AND GOINGS. -/
theorem snG_Ok {W cap pr : Int → Int} {n : Nat} {c : Int} : ∀ (f : Nat) (S : Sn), OkS cap n c S → OkS cap n c (snG W cap pr n c f S)
  | 0, S, h => h
  | f + 1, S, h => by
    rw [snG]
    split
    · rename_i g
      exact snG_Ok f _ (OkS_step h g)
    · exact h
theorem wkG_bd {W : Int → Int → Int} {cap pr many lk0 : Int → Int} {n : Nat} (h0 : ∀ h : Int, 0 ≤ h → h < n → 0 ≤ lk0 h ∧ lk0 h ≤ cap h) : ∀ m : Nat, (∀ c : Int, 0 ≤ c → c < m → 0 ≤ many c ∧ many c ≤ 9999) → (∀ h : Int, 0 ≤ h → h < n → 0 ≤ (wkG W cap pr many lk0 n m).1 h ∧ (wkG W cap pr many lk0 n m).1 h ≤ cap h) ∧ ((wkG W cap pr many lk0 n m).2.length : Int) + opS cap (wkG W cap pr many lk0 n m).1 n ≤ n + m
  | 0, _ => ⟨h0, by have := opS_le (cap := cap) (lk := lk0) n; show ((0 : Nat) : Int) + (opS cap lk0 n : Nat) ≤ n + ((0 : Nat) : Int); omega⟩
  | m + 1, hm => by
    obtain ⟨h1, h2⟩ := wkG_bd (W := W) (pr := pr) h0 m (fun c a b => hm c a (by omega))
    have hOk : OkS cap n (m : Int) (many m, (wkG W cap pr many lk0 n m).1, (wkG W cap pr many lk0 n m).2) := ⟨h1, by
      show ((wkG W cap pr many lk0 n m).2.length : Int) + opS cap (wkG W cap pr many lk0 n m).1 n ≤ n + (m : Int) + 1
      omega, fun _ => h2, hm m (by omega) (by omega)⟩
    have h3 := snG_Ok (W := W m) (pr := pr) n _ hOk
    rw [wkG]
    exact ⟨h3.1, by have := h3.2.1; omega⟩
