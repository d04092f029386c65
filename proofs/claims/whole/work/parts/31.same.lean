/-! the same corners, the same answers -/
section
variable {n : Nat} {P P' : Nat → Int × Int} {q : Int × Int}
theorem oh_c_sd (h : ∀ i, i < n → P i = P' i) {i : Nat} (hi : i < n) : oh_sd n P q i = oh_sd n P' q i := by
  unfold oh_sd; rw [h i hi, h _ (oh_nx_lt hi)]
theorem oh_c_G (h : ∀ i, i < n → P i = P' i) : oh_G n P q = oh_G n P' q := by
  funext i
  unfold oh_G
  by_cases e : i < n
  · rw [if_pos e, if_pos e]; exact h i e
  · rw [if_neg e, if_neg e]
theorem oh_c_plR (h : ∀ i, i < n → P i = P' i) {r : Int32} (g : oh_plR n P q r) : oh_plR n P' q r := by
  rcases g with ⟨e, j, hj, g⟩ | ⟨e, g, j, hj, g2⟩ | ⟨e, g⟩
  · exact Or.inl ⟨e, j, hj, by rw [← oh_c_sd h hj]; exact g⟩
  · exact Or.inr (Or.inl ⟨e, fun i hi => by rw [← oh_c_sd h hi]; exact g i hi, j, hj, by rw [← oh_c_sd h hj]; exact g2⟩)
  · exact Or.inr (Or.inr ⟨e, fun i hi => by rw [← oh_c_sd h hi]; exact g i hi⟩)
theorem oh_c_on (h : ∀ i, i < n → P i = P' i) (h1 : 1 ≤ n) : oh_on n P q ↔ oh_on n P' q := by
  unfold oh_on
  rw [oh_c_sd h (show 0 < n by omega), h 0 (by omega), h (n - 1) (by omega)]
theorem oh_c_pl3 (h : ∀ i, i < n → P i = P' i) {r : Int32} (g : oh_pl3 n P q r) : oh_pl3 n P' q r := by
  rcases g with g | ⟨h1, h2, g⟩ | ⟨h3, g⟩
  · exact Or.inl g
  · refine Or.inr (Or.inl ⟨h1, h2, ?_⟩)
    unfold oh_plL at *
    rw [← oh_c_on h h1]
    exact g
  · exact Or.inr (Or.inr ⟨h3, oh_c_plR h g⟩)
theorem oh_c_fs (h : ∀ i, i < n → P i = P' i) {b : Int} {r : Int32} (g : oh_fs n P q b r) : oh_fs n P' q b r := by
  rcases g with ⟨i, hi, e, g1, g2⟩ | ⟨e, g⟩
  · exact Or.inl ⟨i, hi, e, by rw [← oh_c_sd h hi]; exact g1, by rw [← oh_c_sd h (oh_pv_lt hi)]; exact g2⟩
  · exact Or.inr ⟨e, fun i hi => by rw [← oh_c_sd h hi, ← oh_c_sd h (oh_pv_lt hi)]; exact g i hi⟩
theorem oh_c_la (h : ∀ i, i < n → P i = P' i) {b : Int} {r : Int32} (g : oh_la n P q b r) : oh_la n P' q b r := by
  rcases g with ⟨i, hi, e, g1, g2⟩ | ⟨e, g⟩
  · exact Or.inl ⟨i, hi, e, by rw [← oh_c_sd h hi]; exact g1, by rw [← oh_c_sd h (oh_pv_lt hi)]; exact g2⟩
  · exact Or.inr ⟨e, fun i hi => by rw [← oh_c_sd h hi, ← oh_c_sd h (oh_pv_lt hi)]; exact g i hi⟩
theorem oh_c_out (h : ∀ i, i < n → P i = P' i) : (∃ j, j < n ∧ oh_sd n P q j < 0) → ∃ j, j < n ∧ oh_sd n P' q j < 0 := by
  rintro ⟨j, hj, g⟩
  exact ⟨j, hj, by rw [← oh_c_sd h hj]; exact g⟩
theorem oh_c_tan (h : ∀ i, i < n → P i = P' i) {x y wh r : Int32} (g : oh_tan n P x y wh r) : oh_tan n P' x y wh r := by
  rcases g with ⟨h3, hq, ho, g⟩ | ⟨e, g⟩
  · refine Or.inl ⟨h3, hq, oh_c_out h ho, ?_⟩
    rcases g with ⟨e, g⟩ | ⟨e, g⟩
    · exact Or.inl ⟨e, oh_c_fs h g⟩
    · exact Or.inr ⟨e, oh_c_la h g⟩
  · exact Or.inr ⟨e, fun w => g ⟨w.1, w.2.1, oh_c_out (fun i hi => (h i hi).symm) w.2.2.1, w.2.2.2⟩⟩
theorem oh_c_far (h : ∀ i, i < n → P i = P' i) {x y r : Int32} (g : oh_far n P x y r) : oh_far n P' x y r := by
  have e : ∀ j, j < n → oh_rc P x.toInt y.toInt j = oh_rc P' x.toInt y.toInt j := fun j hj => by unfold oh_rc; rw [h j hj]
  rcases g with g | ⟨hq, b, hb, e1, g1, g2⟩
  · exact Or.inl g
  · exact Or.inr ⟨hq, b, hb, e1, fun j hj => by rw [← e j hj, ← e b hb]; exact g1 j hj, fun j hj => by rw [← e j (by omega), ← e b hb]; exact g2 j hj⟩
theorem oh_c_dia (h : ∀ i, i < n → P i = P' i) {r : Int32} (g : oh_dia n P r) : oh_dia n P' r := by
  obtain ⟨g0, g1, g2⟩ := g
  refine ⟨g0, fun a b h1 h2 => by rw [← h a (by omega), ← h b h2]; exact g1 a b h1 h2, ?_⟩
  rcases g2 with e | ⟨a, b, h1, h2, e⟩
  · exact Or.inl e
  · exact Or.inr ⟨a, b, h1, h2, by rw [← h a (by omega), ← h b h2]; exact e⟩
theorem oh_c_ar (h : ∀ i, i < n → P i = P' i) : ∀ k, k + 2 ≤ n → oh_ar P k = oh_ar P' k := by
  intro k
  induction k with
  | zero => intro _; rfl
  | succ k ih =>
    intro hk
    show oh_ar P k + _ = oh_ar P' k + _
    rw [ih (by omega), h 0 (by omega), h (k + 1) (by omega), h (k + 2) (by omega)]
theorem oh_c_ar2 (h : ∀ i, i < n → P i = P' i) : oh_ar P (n - 2) = oh_ar P' (n - 2) := by
  by_cases e : 2 ≤ n
  · exact oh_c_ar h (n - 2) (by omega)
  · rw [show n - 2 = 0 by omega]; rfl
theorem oh_c_hull (h : ∀ i, i < n → P i = P' i) (g : oh_hull n P) : oh_hull n P' := by
  refine ⟨fun i j k h1 h2 h3 => ?_, fun i h1 h2 => ?_⟩
  · rw [← h i (by omega), ← h j (by omega), ← h k h3]; exact g.1 i j k h1 h2 h3
  · rw [← h 0 (by omega), ← h i h2]; exact g.2 i h1 h2
theorem oh_c_step (h : ∀ i, i < n → P i = P' i) {m : Nat} {ρ : Nat → Nat} (g : oh_step n P q m ρ) : oh_step n P' q m ρ := by
  unfold oh_step at *
  rw [← oh_c_G h]; exact g
/-! uniqueness -/
theorem oh_u_pl3 {r s : Int32} (g : oh_pl3 n P q r) (k : oh_pl3 n P q s) : r = s := by
  rcases g with ⟨e, g⟩ | ⟨h1, h2, g⟩ | ⟨h3, g⟩ <;> rcases k with ⟨e', k⟩ | ⟨h1', h2', k⟩ | ⟨h3', k⟩ <;> (try omega)
  · rw [g, k]
  · rcases g with ⟨e, g⟩ | ⟨e, g⟩ <;> rcases k with ⟨e', k⟩ | ⟨e', k⟩
    · rw [e, e']
    · exact absurd g k
    · exact absurd k g
    · rw [e, e']
  · rcases g with ⟨e, j, hj, g⟩ | ⟨e, g, j, hj, g2⟩ | ⟨e, g⟩ <;> rcases k with ⟨e', i, hi, k⟩ | ⟨e', k, i, hi, k2⟩ | ⟨e', k⟩
    · rw [e, e']
    · have := k j hj; omega
    · have := k j hj; omega
    · have := g i hi; omega
    · rw [e, e']
    · have := k j hj; omega
    · have := g i hi; omega
    · have := g i hi; omega
    · rw [e, e']
theorem oh_u_far {x y r s : Int32} (g : oh_far n P x y r) (k : oh_far n P x y s) : r = s := by
  rcases g with ⟨e, g⟩ | ⟨hq, b, hb, e1, g1, g2⟩ <;> rcases k with ⟨e', k⟩ | ⟨hq', b', hb', e1', k1, k2⟩
  · rw [g, k]
  · rcases e with e | e
    · omega
    · exact absurd hq' e
  · rcases e' with e | e
    · omega
    · exact absurd hq e
  · rw [e1, e1']
    have a1 := g1 b' hb'
    have a2 := k1 b hb
    rcases Nat.lt_trichotomy b b' with w | w | w
    · have := k2 b w; omega
    · rw [w]
    · have := g2 b' w; omega
theorem oh_u_dia {r s : Int32} (g : oh_dia n P r) (k : oh_dia n P s) : r = s := by
  obtain ⟨g0, g1, g2⟩ := g
  obtain ⟨k0, k1, k2⟩ := k
  apply Int32.toInt_inj.mp
  have a : r.toInt ≤ s.toInt := by
    rcases g2 with e | ⟨a, b, h1, h2, e⟩
    · omega
    · rw [e]; exact k1 a b h1 h2
  have b : s.toInt ≤ r.toInt := by
    rcases k2 with e | ⟨a, b, h1, h2, e⟩
    · omega
    · rw [e]; exact g1 a b h1 h2
  omega
theorem oh_u_tan (hh : oh_hull n P) {x y wh r s : Int32} (g : oh_tan n P x y wh r) (k : oh_tan n P x y wh s) : r = s := by
  have n01 : (0 : Int32) ≠ 1 := by decide
  rcases g with ⟨h3, hq, ho, g⟩ | ⟨e, g⟩ <;> rcases k with ⟨h3', hq', ho', k⟩ | ⟨e', k⟩
  · rcases g with ⟨e, g⟩ | ⟨e, g⟩ <;> rcases k with ⟨e', k⟩ | ⟨e', k⟩
    · rcases g with ⟨i, hi, e1, g1, g2⟩ | ⟨e1, g⟩ <;> rcases k with ⟨j, hj, e2, k1, k2⟩ | ⟨e2, k⟩
      · rw [e1, e2, oh_uFS hh.1 h3 hi g1 g2 hj k1 k2]
      · exact absurd ⟨g1, g2⟩ (k i hi)
      · exact absurd ⟨k1, k2⟩ (g j hj)
      · rw [e1, e2]
    · exact absurd (e.symm.trans e') n01
    · exact absurd (e'.symm.trans e) n01
    · rcases g with ⟨i, hi, e1, g1, g2⟩ | ⟨e1, g⟩ <;> rcases k with ⟨j, hj, e2, k1, k2⟩ | ⟨e2, k⟩
      · rw [e1, e2, oh_uLS hh.1 h3 hi g1 g2 hj k1 k2]
      · exact absurd ⟨g1, g2⟩ (k i hi)
      · exact absurd ⟨k1, k2⟩ (g j hj)
      · rw [e1, e2]
  · exact absurd ⟨h3, hq, ho, by rcases g with w | w; exact Or.inl w.1; exact Or.inr w.1⟩ k
  · exact absurd ⟨h3', hq', ho', by rcases k with w | w; exact Or.inl w.1; exact Or.inr w.1⟩ g
  · rw [e, e']
end
/-- the state that both sides share -/
def oh_inv (N n : Nat) (fx fy xs ys : Nat → Int32) : Prop := N ≤ 64 ∧ 3 ≤ N ∧ n ≤ N ∧ (∀ j, j < n → oh_inR (fx j) (fy j)) ∧ oh_hull n (oh_pt fx fy) ∧ ∀ i, i < n → xs i = fx i ∧ ys i = fy i
theorem oh_invP {N n : Nat} {fx fy xs ys : Nat → Int32} (h : oh_inv N n fx fy xs ys) : ∀ i, i < n → oh_pt xs ys i = oh_pt fx fy i := by
  intro i hi
  have := h.2.2.2.2.2 i hi
  unfold oh_pt
  rw [this.1, this.2]
theorem oh_invR {N n : Nat} {fx fy xs ys : Nat → Int32} (h : oh_inv N n fx fy xs ys) : ∀ j, j < n → oh_inR (xs j) (ys j) := by
  intro i hi
  have := h.2.2.2.2.2 i hi
  rw [this.1, this.2]
  exact h.2.2.2.1 i hi
theorem oh_invH {N n : Nat} {fx fy xs ys : Nat → Int32} (h : oh_inv N n fx fy xs ys) : oh_hull n (oh_pt xs ys) := oh_c_hull (fun i hi => (oh_invP h i hi).symm) h.2.2.2.2.1
/-- what add did, with the ring named -/
def oh_addK (N n m : Nat) (ρ : Nat → Nat) (fx fy rx ry : Nat → Int32) (came x y r : Int32) (u : (Nat → Int32) × (Nat → Int32) × (Nat → Int32) × (Nat → Int32) × Nat × Int32) : Prop :=
  (¬ oh_inR x y ∧ r = -1 ∧ u = (fx, fy, rx, ry, n, came)) ∨ (oh_inR x y ∧ ∃ pl, oh_pl3 n (oh_pt fx fy) (x.toInt, y.toInt) pl ∧
    ((pl.toInt ≠ 0 ∧ r = 0 ∧ u = (fx, fy, rx, ry, n, came + nI 1)) ∨ (pl.toInt = 0 ∧ oh_step n (oh_pt fx fy) (x.toInt, y.toInt) m ρ ∧
      ((m ≤ N ∧ r = nI (n + 2 - m) ∧ ∃ gx gy rx9 ry9, u = (gx, gy, rx9, ry9, m, came + nI 1) ∧ oh_arr n m ρ fx fy x y gx gy) ∨ (N < m ∧ r = -2 ∧ u = (fx, fy, rx, ry, n, came))))))
theorem oh_addpick {N n : Nat} {fx fy rx ry xs ys : Nat → Int32} {came x y r : Int32} {u : (Nat → Int32) × (Nat → Int32) × (Nat → Int32) × (Nat → Int32) × Nat × Int32} (hi : oh_inv N n fx fy xs ys) (h : oh_addC N n fx fy rx ry came x y r u) : ∃ m ρ, oh_addK N n m ρ fx fy rx ry came x y r u ∧ ∀ pl, oh_pl3 n (oh_pt xs ys) (x.toInt, y.toInt) pl → pl.toInt = 0 → oh_inR x y → oh_step n (oh_pt xs ys) (x.toInt, y.toInt) m ρ := by
  rcases h with h | ⟨hq, pl, hpl, h⟩
  · exact ⟨0, fun _ => 0, Or.inl h, fun pl _ _ w => absurd w h.1⟩
  · rcases h with h | ⟨h0, m, ρ, hst, h⟩
    · refine ⟨0, fun _ => 0, Or.inr ⟨hq, pl, hpl, Or.inl h⟩, fun pl2 w1 w2 _ => ?_⟩
      rw [oh_u_pl3 (oh_c_pl3 (oh_invP hi) w1) hpl] at w2
      exact absurd w2 h.1
    · exact ⟨m, ρ, Or.inr ⟨hq, pl, hpl, Or.inr ⟨h0, hst, h⟩⟩, fun _ _ _ _ => oh_c_step (fun i w => (oh_invP hi i w).symm) hst⟩
theorem oh_addEq {N n m : Nat} {ρ : Nat → Nat} {fx fy rx ry xs ys gx gy rx2 ry2 hx9 hy9 p1 p2 p3 : Nat → Int32} {came x y r s c9 d9 : Int32} {m1 m2 : Nat} (hi : oh_inv N n fx fy xs ys) (h : oh_addK N n m ρ fx fy rx ry came x y r (gx, gy, rx2, ry2, m1, c9)) (k : oh_addM N n m ρ xs ys came x y s (hx9, hy9, p1, p2, p3, m2, d9)) : r = s ∧ m2 = m1 ∧ d9 = c9 ∧ oh_inv N m1 gx gy hx9 hy9 := by
  obtain ⟨qx, qy, q1, q2, q3, q4, q5, e, k⟩ := k
  simp only [Prod.mk.injEq] at e
  obtain ⟨rfl, rfl, rfl, rfl, rfl, rfl, rfl⟩ := e
  rcases h with ⟨hq, e, h⟩ | ⟨hq, pl, hpl, h⟩
  · simp only [Prod.mk.injEq] at h
    obtain ⟨rfl, rfl, rfl, rfl, rfl, rfl⟩ := h
    rcases k with ⟨-, e2, rfl, rfl, rfl, rfl⟩ | ⟨w, -⟩
    · exact ⟨e.trans e2.symm, rfl, rfl, hi⟩
    · exact absurd w hq
  · rcases k with ⟨w, -⟩ | ⟨-, pl2, hpl2, k⟩
    · exact absurd hq w
    · have epl := oh_u_pl3 (oh_c_pl3 (oh_invP hi) hpl2) hpl
      subst epl
      rcases h with ⟨h0, e, h⟩ | ⟨h0, hst, h⟩ <;> rcases k with ⟨k0, e2, k⟩ | ⟨k0, k⟩
      · simp only [Prod.mk.injEq] at h
        obtain ⟨rfl, rfl, rfl, rfl, rfl, rfl⟩ := h
        obtain ⟨rfl, rfl, rfl, rfl⟩ := k
        exact ⟨e.trans e2.symm, rfl, rfl, hi⟩
      · exact absurd k0 h0
      · exact absurd h0 k0
      · rcases h with ⟨hm, e, ax, ay, ar, as, h, ha⟩ | ⟨hm, e, h⟩ <;> rcases k with ⟨km, e2, k⟩ | ⟨km, e2, k⟩
        · simp only [Prod.mk.injEq] at h
          obtain ⟨rfl, rfl, rfl, rfl, rfl, rfl⟩ := h
          obtain ⟨rfl, rfl, ka⟩ := k
          refine ⟨e.trans e2.symm, rfl, rfl, hi.1, hi.2.1, hm, ?_, ?_, ?_⟩
          · intro j hj
            rw [(ha j hj).1, (ha j hj).2]
            unfold oh_g
            by_cases w : ρ j < n
            · rw [if_pos w, if_pos w]; exact hi.2.2.2.1 _ w
            · rw [if_neg w, if_neg w]; exact hq
          · have eG : ∀ t, t < m2 → oh_G n (oh_pt fx fy) (x.toInt, y.toInt) (ρ t) = oh_pt gx gy t := by
              intro t ht
              rw [← oh_gG]
              unfold oh_pt
              rw [(ha t ht).1, (ha t ht).2]
            refine oh_c_hull (P := fun t => oh_G n (oh_pt fx fy) (x.toInt, y.toInt) (ρ t)) eG ⟨hst.2, fun i h1 h2 => ?_⟩
            rcases hst.1 with ⟨-, e1, -⟩ | ⟨-, g1, g2, g3, g4, g5, g6⟩
            · omega
            · exact g6 _ (g3 i h2) (fun w => g4 0 i h1 h2 w.symm)
          · intro t ht
            rw [(ha t ht).1, (ha t ht).2, (ka t ht).1, (ka t ht).2]
            unfold oh_g
            by_cases w : ρ t < n
            · rw [if_pos w, if_pos w, if_pos w, if_pos w]; exact hi.2.2.2.2.2 _ w
            · rw [if_neg w, if_neg w, if_neg w, if_neg w]; exact ⟨rfl, rfl⟩
        · omega
        · omega
        · simp only [Prod.mk.injEq] at h
          obtain ⟨rfl, rfl, rfl, rfl, rfl, rfl⟩ := h
          obtain ⟨rfl, rfl, rfl, rfl⟩ := k
          exact ⟨e.trans e2.symm, rfl, rfl, hi⟩
