/-! going round: from each corner of the ring the next one is found -/
def oh_ringW (c : Nat) (G : Nat → Int × Int) (m : Nat) (ρ : Nat → Nat) : Prop :=
  1 ≤ m ∧ m ≤ c ∧ (∀ i, i < m → ρ i < c) ∧ (∀ i j, i < j → j < m → ρ i ≠ ρ j) ∧ (∀ i, i < m → ∀ w, w < c → w ≠ ρ i → w ≠ ρ (oh_nx m i) → oh_edg (G (ρ i)) (G (ρ (oh_nx m i))) (G w)) ∧ (∀ w, w < c → w ≠ ρ 0 → oh_lx (G (ρ 0)) (G w)) ∧ (c = 1 ∨ 2 ≤ m)
theorem oh_ringW_of {n m : Nat} {P G : Nat → Int × Int} {q : Int × Int} {ρ : Nat → Nat} (h : oh_step n P q m ρ) (hG : ∀ j, j < n + 1 → G j = oh_G n P q j) : oh_ringW (n + 1) G m ρ := by
  rcases h.1 with ⟨e1, e2, e3⟩ | ⟨h1, g1, g2, g3, g4, g5, g6⟩
  · subst e1; subst e2
    refine ⟨by omega, by omega, fun i hi => by rw [show i = 0 by omega, e3]; omega, fun i j hi hj => by omega, fun i hi w hw w1 => ?_, fun w hw w1 => ?_, Or.inl rfl⟩
    · rw [show i = 0 by omega, e3] at w1; omega
    · rw [e3] at w1; omega
  · refine ⟨by omega, g2, g3, g4, fun i hi w hw w1 w2 => ?_, fun w hw w1 => ?_, Or.inr g1⟩
    · rw [hG _ (g3 i hi), hG _ (g3 _ (oh_nx_lt hi)), hG _ hw]
      exact g5 i hi w hw w1 w2
    · rw [hG _ (g3 0 (by omega)), hG _ hw]
      exact g6 w hw w1
section
variable {c m : Nat} {G : Nat → Int × Int} {ρ : Nat → Nat}
theorem oh_first (h : oh_ringW c G m ρ) {b : Nat} (hb : b < c) (hI : ∀ j, j < c → ¬ oh_lx (G j) (G b)) : b = ρ 0 := by
  by_cases e : b = ρ 0
  · exact e
  · exact absurd (h.2.2.2.2.2.1 b hb e) (hI _ (h.2.2.1 0 (by have := h.1; omega)))
theorem oh_nx1 (h : oh_ringW c G m ρ) {i k : Nat} (hi : i < m) (hk : k < c) (hne : k ≠ ρ i) : ¬ oh_Nx G (ρ i) (ρ (oh_nx m i)) k := by
  intro w
  by_cases e : k = ρ (oh_nx m i)
  · rw [e] at w
    unfold oh_Nx at w
    rw [oh_s2] at w
    omega
  · have g := h.2.2.2.2.1 i hi k hk hne e
    unfold oh_edg at g
    unfold oh_Nx at w
    omega
theorem oh_nx2 (h : oh_ringW c G m ρ) {i v : Nat} (hi : i < m) (hv : v < c) (h1 : v ≠ ρ i) (h2 : v ≠ ρ (oh_nx m i)) : oh_Nx G (ρ i) v (ρ (oh_nx m i)) := by
  have g := h.2.2.2.2.1 i hi v hv h1 h2
  have e := oh_swap2 (G (ρ i)) (G v) (G (ρ (oh_nx m i)))
  unfold oh_edg at g
  unfold oh_Nx
  omega
theorem oh_nxc (h : oh_ringW c G m ρ) {i : Nat} (hi : i < m) : (i + 1 < m ∧ oh_nx m i = i + 1 ∧ ρ (i + 1) ≠ ρ 0) ∨ (i + 1 = m ∧ oh_nx m i = 0) := by
  by_cases g : i + 1 < m
  · refine Or.inl ⟨g, ?_, fun e => h.2.2.2.1 0 (i + 1) (by omega) g e.symm⟩
    unfold oh_nx; rw [if_pos g]
  · refine Or.inr ⟨by omega, ?_⟩
    unfold oh_nx; rw [if_neg g]
theorem oh_nxne (h : oh_ringW c G m ρ) {i : Nat} (hi : i < m) : c = 1 ∨ ρ (oh_nx m i) ≠ ρ i := by
  rcases h.2.2.2.2.2.2 with e | e
  · exact Or.inl e
  · right
    rcases oh_nxc h hi with ⟨g1, g2, -⟩ | ⟨g1, g2⟩
    · rw [g2]; exact fun w => h.2.2.2.1 i (i + 1) (by omega) g1 w.symm
    · rw [g2]; exact fun w => h.2.2.2.1 0 i (by omega) hi w
end
theorem oh_rdU {i a : Nat} {ρ : Nat → Nat} {rd : Nat → Int32} (hT : ∀ t, t < i → rd t = nI (ρ t)) (ha : a = ρ i) : ∀ t, t < i + 1 → upd rd i (nI a) t = nI (ρ t) := by
  intro t ht
  by_cases e : t = i
  · subst e; rw [pk_us, ha]
  · rw [pk_un e]; exact hT t (by omega)
theorem oh_cpU {i : Nat} {f g : Nat → Int32} (h : ∀ t, t < i → f t = g t) : ∀ t, t < i + 1 → upd f i (g i) t = g t := by
  intro t ht
  by_cases e : t = i
  · subst e; rw [pk_us]
  · rw [pk_un e]; exact h t (by omega)
theorem oh_pxg {n : Nat} {f g : Nat → Int32} {x : Int32} (h : ∀ t, t < n → f t = g t) {j : Nat} (hj : j < n + 1) : upd f n x j = oh_g n g x j := by
  unfold oh_g
  by_cases e : j = n
  · subst e; rw [pk_us, if_neg (Nat.lt_irrefl j)]
  · rw [pk_un e, if_pos (by omega)]; exact h j (by omega)
theorem oh_pxG {n : Nat} {f1 f2 g1 g2 : Nat → Int32} {x y : Int32} (h1 : ∀ t, t < n → f1 t = g1 t) (h2 : ∀ t, t < n → f2 t = g2 t) : ∀ j, j < n + 1 → oh_pt (upd f1 n x) (upd f2 n y) j = oh_G n (oh_pt g1 g2) (x.toInt, y.toInt) j := by
  intro j hj
  rw [← oh_gG]
  unfold oh_pt
  rw [oh_pxg h1 hj, oh_pxg h2 hj]
theorem oh_pxR {n : Nat} {f1 f2 g1 g2 : Nat → Int32} {x y : Int32} (h1 : ∀ t, t < n → f1 t = g1 t) (h2 : ∀ t, t < n → f2 t = g2 t) (hR : ∀ j, j < n → oh_inR (g1 j) (g2 j)) (hq : oh_inR x y) : ∀ j, j < n + 1 → oh_inR (upd f1 n x j) (upd f2 n y j) := by
  intro j hj
  rw [oh_pxg h1 hj, oh_pxg h2 hj]
  unfold oh_g
  by_cases e : j < n
  · rw [if_pos e, if_pos e]; exact hR j e
  · rw [if_neg e, if_neg e]; exact hq
theorem oh_xsU {n i : Nat} {ρ : Nat → Nat} {f g p : Nat → Int32} {x : Int32} (h : ∀ t, t < i → f t = oh_g n g x (ρ t)) (hp : p (ρ i) = oh_g n g x (ρ i)) : ∀ t, t < i + 1 → upd f i (p (ρ i)) t = oh_g n g x (ρ t) := by
  intro t ht
  by_cases e : t = i
  · subst e; rw [pk_us, hp]
  · rw [pk_un e]; exact h t (by omega)
theorem oh_pl3b {n : Nat} {P : Nat → Int × Int} {q : Int × Int} {r : Int32} (h : oh_pl3 n P q r) : 0 ≤ r.toInt ∧ r.toInt ≤ 2 := by
  rcases h with ⟨-, e⟩ | ⟨-, -, g⟩ | ⟨-, g⟩
  · rw [e]; decide
  · rcases g with ⟨e, -⟩ | ⟨e, -⟩ <;> rw [e] <;> decide
  · exact (oh_plR0 g).2
def oh_addM (N n m : Nat) (ρ : Nat → Nat) (xs ys : Nat → Int32) (pts x y r : Int32) (u : (Nat → Int32) × (Nat → Int32) × (Nat → Int32) × (Nat → Int32) × (Nat → Int32) × Nat × Int32) : Prop :=
  ∃ gx gy p1 p2 p3 m9 p9, u = (gx, gy, p1, p2, p3, m9, p9) ∧ ((¬ oh_inR x y ∧ r = -1 ∧ gx = xs ∧ gy = ys ∧ m9 = n ∧ p9 = pts) ∨ (oh_inR x y ∧ ∃ pl, oh_pl3 n (oh_pt xs ys) (x.toInt, y.toInt) pl ∧
    ((pl.toInt ≠ 0 ∧ r = 0 ∧ gx = xs ∧ gy = ys ∧ m9 = n ∧ p9 = pts + nI 1) ∨ (pl.toInt = 0 ∧
      ((m ≤ N ∧ r = nI (n + 2 - m) ∧ m9 = m ∧ p9 = pts + nI 1 ∧ oh_arr n m ρ xs ys x y gx gy) ∨ (N < m ∧ r = -2 ∧ gx = xs ∧ gy = ys ∧ m9 = n ∧ p9 = pts))))))
