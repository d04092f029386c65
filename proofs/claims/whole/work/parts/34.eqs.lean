theorem oh_xEq {n : Nat} {f g : Nat → Int32} {i r s : Int32} (h : ∀ k, k < n → g k = f k) (hn : n < 2 ^ 31) (a : (∃ k : Nat, k < n ∧ i = nI k ∧ r = f k) ∨ (¬ (0 ≤ i.toInt ∧ i.toInt < (n : Int)) ∧ r = 0)) (b : (∃ k : Nat, k < n ∧ i = nI k ∧ s = g k) ∨ (¬ (0 ≤ i.toInt ∧ i.toInt < (n : Int)) ∧ s = 0)) : r = s := by
  rcases a with ⟨k, hk, e, ea⟩ | ⟨ha, ea⟩ <;> rcases b with ⟨k2, hk2, e2, eb⟩ | ⟨hb, eb⟩
  · have : k = k2 := (nI_eq (by omega) (by omega)).mp (e.symm.trans e2)
    subst this
    rw [ea, eb, h k hk]
  · exact absurd (by rw [e, nI_toInt (by omega)]; omega) hb
  · exact absurd (by rw [e2, nI_toInt (by omega)]; omega) ha
  · rw [ea, eb]
theorem oh_inEq {n : Nat} {P P' : Nat → Int × Int} {x y r s : Int32} (h : ∀ i, i < n → P' i = P i) (a : (oh_inR x y ∧ oh_pl3 n P (x.toInt, y.toInt) r) ∨ (¬ oh_inR x y ∧ r = 0)) (b : (oh_inR x y ∧ oh_pl3 n P' (x.toInt, y.toInt) s) ∨ (¬ oh_inR x y ∧ s = 0)) : r = s := by
  rcases a with ⟨h1, a⟩ | ⟨h1, a⟩ <;> rcases b with ⟨h2, b⟩ | ⟨h2, b⟩
  · exact oh_u_pl3 a (oh_c_pl3 h b)
  · exact absurd h1 h2
  · exact absurd h2 h1
  · rw [a, b]
theorem oh_inv0 (x : Int32) (fx fy xs ys : Nat → Int32) : oh_inv (3 + oh_md x) 0 fx fy xs ys := by
  have := oh_md_lt x
  exact ⟨by omega, by omega, by omega, fun j hj => by omega, ⟨fun i j k _ _ h => by omega, fun i _ h => by omega⟩, fun i h => by omega⟩
