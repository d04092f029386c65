/-! the ring that comes when a point outside is added -/
def oh_G (n : Nat) (P : Nat → Int × Int) (q : Int × Int) : Nat → Int × Int := fun i => if i < n then P i else q
def oh_sg (n L : Nat) : Nat → Nat := fun i => if i = 0 then n else oh_rot n L (i - 1)
def oh_ring (N : Nat) (G : Nat → Int × Int) (m : Nat) (ρ : Nat → Nat) : Prop :=
  2 ≤ m ∧ m ≤ N ∧ (∀ i, i < m → ρ i < N) ∧ (∀ i j, i < j → j < m → ρ i ≠ ρ j) ∧ (∀ i, i < m → ∀ w, w < N → w ≠ ρ i → w ≠ ρ (oh_nx m i) → oh_edg (G (ρ i)) (G (ρ (oh_nx m i))) (G w)) ∧ (∀ w, w < N → w ≠ ρ 0 → oh_lx (G (ρ 0)) (G w))

theorem oh_sq (x : Int) : 0 ≤ x * x := by
  rcases oh_lg x 0 with h | h
  · have : 0 < (-x) * (-x) := Int.mul_pos (by omega) (by omega)
    have e : (-x) * (-x) = x * x := Int.neg_mul_neg x x
    omega
  · exact Int.mul_nonneg h h
theorem oh_sqp {x : Int} (hx : x ≠ 0) : 0 < x * x := by
  rcases oh_lg x 0 with h | h
  · have : 0 < (-x) * (-x) := Int.mul_pos (by omega) (by omega)
    have e : (-x) * (-x) = x * x := Int.neg_mul_neg x x
    omega
  · exact Int.mul_pos (by omega) (by omega)
theorem oh_d2p {a b : Int × Int} (h : ¬ (a.1 = b.1 ∧ a.2 = b.2)) : 0 < oh_d2 b a := by
  unfold oh_d2
  have h1 := oh_sq (a.1 - b.1)
  have h2 := oh_sq (a.2 - b.2)
  by_cases g : a.1 = b.1
  · have := oh_sqp (x := a.2 - b.2) (fun e => h ⟨g, by omega⟩)
    omega
  · have := oh_sqp (x := a.1 - b.1) (by omega)
    omega
theorem oh_d2c {a b c : Int × Int} (h : 0 < oh_cp b c a) : 0 < oh_d2 b a := by
  apply oh_d2p
  rintro ⟨h1, h2⟩
  have e : a = b := Prod.ext h1 h2
  rw [e, oh_s1] at h
  omega
theorem oh_aff {D E : Int} {a b q s t : Int × Int} (hx : D * (q.1 - b.1) = E * (a.1 - b.1)) (hy : D * (q.2 - b.2) = E * (a.2 - b.2)) : D * oh_cp s t q = (D - E) * oh_cp s t b + E * oh_cp s t a := by
  unfold oh_cp
  have e1 : D * ((t.1 - s.1) * (q.2 - s.2) - (t.2 - s.2) * (q.1 - s.1)) = (t.1 - s.1) * (D * (q.2 - b.2)) - (t.2 - s.2) * (D * (q.1 - b.1)) + D * ((t.1 - s.1) * (b.2 - s.2) - (t.2 - s.2) * (b.1 - s.1)) := by grind
  rw [e1, hx, hy]
  grind
theorem oh_dd1 {D E : Int} {a b q : Int × Int} (hx : D * (q.1 - b.1) = E * (a.1 - b.1)) (hy : D * (q.2 - b.2) = E * (a.2 - b.2)) : D * D * (oh_d2 q b - oh_d2 q a) = D * (2 * E - D) * oh_d2 b a := by
  unfold oh_d2
  have e1 : D * D * ((b.1 - q.1) * (b.1 - q.1) + (b.2 - q.2) * (b.2 - q.2) - ((a.1 - q.1) * (a.1 - q.1) + (a.2 - q.2) * (a.2 - q.2))) = (D * (q.1 - b.1)) * (D * (q.1 - b.1)) + (D * (q.2 - b.2)) * (D * (q.2 - b.2)) - (D * (a.1 - b.1) - D * (q.1 - b.1)) * (D * (a.1 - b.1) - D * (q.1 - b.1)) - (D * (a.2 - b.2) - D * (q.2 - b.2)) * (D * (a.2 - b.2) - D * (q.2 - b.2)) := by grind
  rw [e1, hx, hy]
  grind
theorem oh_dd2 {D E : Int} {a b q : Int × Int} (hx : D * (q.1 - b.1) = E * (a.1 - b.1)) (hy : D * (q.2 - b.2) = E * (a.2 - b.2)) : D * D * (oh_d2 b q - oh_d2 b a) = (E - D) * (E + D) * oh_d2 b a := by
  unfold oh_d2
  have e1 : D * D * ((q.1 - b.1) * (q.1 - b.1) + (q.2 - b.2) * (q.2 - b.2) - ((a.1 - b.1) * (a.1 - b.1) + (a.2 - b.2) * (a.2 - b.2))) = (D * (q.1 - b.1)) * (D * (q.1 - b.1)) + (D * (q.2 - b.2)) * (D * (q.2 - b.2)) - D * D * ((a.1 - b.1) * (a.1 - b.1) + (a.2 - b.2) * (a.2 - b.2)) := by grind
  rw [e1, hx, hy]
  grind
theorem oh_lexcone {D A B ux uy vx vy zx zy : Int} (hD : 0 < D) (hA : A ≤ 0) (hB : B ≤ 0) (hx : D * zx = A * ux + B * vx) (hy : D * zy = A * uy + B * vy) (hu : 0 < ux ∨ (ux = 0 ∧ 0 < uy)) (hv : 0 < vx ∨ (vx = 0 ∧ 0 < vy)) (hz : 0 < zx ∨ (zx = 0 ∧ 0 < zy)) : False := by
  have aux : ∀ {c x : Int}, c ≤ 0 → 0 ≤ x → c * x ≤ 0 := fun {c x} h1 h2 => by rw [Int.mul_comm]; exact oh_mnp h2 h1
  have a1 : A * ux ≤ 0 := aux hA (by omega)
  have b1 : B * vx ≤ 0 := aux hB (by omega)
  have z0 : zx = 0 ∧ 0 < zy := by
    rcases hz with g | g
    · have := Int.mul_pos hD g
      omega
    · exact g
  have z1 : D * zx = 0 := by rw [z0.1, Int.mul_zero]
  have z2 := Int.mul_pos hD z0.2
  have a2 : A * uy ≤ 0 := by
    rcases hu with g | g
    · have : A = 0 := by
        rcases Int.mul_eq_zero.mp (show A * ux = 0 by omega) with e | e
        · exact e
        · omega
      rw [this, Int.zero_mul]; exact Int.le_refl 0
    · exact aux hA (by omega)
  have b2 : B * vy ≤ 0 := by
    rcases hv with g | g
    · have : B = 0 := by
        rcases Int.mul_eq_zero.mp (show B * vx = 0 by omega) with e | e
        · exact e
        · omega
      rw [this, Int.zero_mul]; exact Int.le_refl 0
    · exact aux hB (by omega)
  omega
theorem oh_lx_tr {a b c : Int × Int} (h1 : oh_lx a b) (h2 : oh_lx b c) : oh_lx a c := by unfold oh_lx at *; omega
theorem oh_lx_as {a b : Int × Int} (h1 : oh_lx a b) (h2 : oh_lx b a) : False := by unfold oh_lx at *; omega
theorem oh_lx_tot {a b : Int × Int} (h : a ≠ b) : oh_lx a b ∨ oh_lx b a := by
  unfold oh_lx
  by_cases h1 : a.1 = b.1
  · have : a.2 ≠ b.2 := fun e => h (Prod.ext h1 e)
    omega
  · omega

section
variable {n : Nat} {P : Nat → Int × Int} {q : Int × Int}
theorem oh_colL (h : oh_cvx n P) (hn : 3 ≤ n) {L : Nat} (hL : L < n) (h1 : 0 < oh_sd n P q L) (h0 : oh_sd n P q (oh_pv n L) = 0) (hout : ∃ j, j < n ∧ oh_sd n P q j < 0) : oh_d2 q (P (oh_pv n L)) < oh_d2 q (P L) := by
  have hD := oh_atD h hn hL
  have e2 := oh_sd_pv (P := P) (q := q) hL
  have e3 : oh_cp (P L) q (P (oh_pv n L)) = 0 := by rw [oh_swap2]; omega
  have hx := oh_vec1 (P (oh_pv n L)) (P L) (P (oh_nx n L)) q
  have hy := oh_vec2 (P (oh_pv n L)) (P L) (P (oh_nx n L)) q
  rw [e3, Int.zero_mul, Int.zero_add] at hx hy
  have hE : 0 < oh_cp (P L) (P (oh_nx n L)) q := h1
  have hdp := oh_d2c hD
  generalize oh_cp (P L) (P (oh_nx n L)) (P (oh_pv n L)) = D at *
  generalize oh_cp (P L) (P (oh_nx n L)) q = E at *
  obtain ⟨j, hj, hneg⟩ := hout
  have hED : D < E := by
    rcases oh_lg D E with g | g
    · exact g
    · have a := oh_aff (s := P j) (t := P (oh_nx n j)) hx hy
      have p1 := Int.mul_nonneg (show 0 ≤ D - E by omega) (oh_sidePos h hj hL)
      have p2 := Int.mul_nonneg (Int.le_of_lt hE) (oh_sidePos h hj (oh_pv_lt hL))
      have p3 := oh_mnn hD hneg
      unfold oh_sd at p3
      omega
  have dd := oh_dd1 hx hy
  have p1 := Int.mul_pos (Int.mul_pos hD (show 0 < 2 * E - D by omega)) hdp
  rw [← dd] at p1
  have p2 := oh_pos (Int.mul_pos hD hD) p1
  omega
theorem oh_colF (h : oh_cvx n P) (hn : 3 ≤ n) {L : Nat} (hL : L < n) (h1 : oh_sd n P q L = 0) (h0 : 0 < oh_sd n P q (oh_pv n L)) (hout : ∃ j, j < n ∧ oh_sd n P q j < 0) : oh_d2 (P L) (P (oh_nx n L)) < oh_d2 (P L) q := by
  have hD := oh_atD h hn hL
  have e2 := oh_sd_pv (P := P) (q := q) hL
  have hE : 0 < oh_cp (P L) q (P (oh_pv n L)) := by rw [oh_swap2]; omega
  have e3 : oh_cp (P L) (P (oh_nx n L)) q = 0 := h1
  have hx := oh_vec1 (P (oh_pv n L)) (P L) (P (oh_nx n L)) q
  have hy := oh_vec2 (P (oh_pv n L)) (P L) (P (oh_nx n L)) q
  rw [e3, Int.zero_mul, Int.add_zero] at hx hy
  have hdp : 0 < oh_d2 (P L) (P (oh_nx n L)) := by
    apply oh_d2p
    rintro ⟨g1, g2⟩
    have e : P (oh_nx n L) = P L := Prod.ext g1 g2
    rw [e, oh_s3] at hD
    omega
  generalize oh_cp (P L) (P (oh_nx n L)) (P (oh_pv n L)) = D at *
  generalize oh_cp (P L) q (P (oh_pv n L)) = E at *
  obtain ⟨j, hj, hneg⟩ := hout
  have hED : D < E := by
    rcases oh_lg D E with g | g
    · exact g
    · have a := oh_aff (s := P j) (t := P (oh_nx n j)) hx hy
      have p1 := Int.mul_nonneg (show 0 ≤ D - E by omega) (oh_sidePos h hj hL)
      have p2 := Int.mul_nonneg (Int.le_of_lt hE) (oh_sidePos h hj (oh_nx_lt hL))
      have p3 := oh_mnn hD hneg
      unfold oh_sd at p3
      omega
  have dd := oh_dd2 hx hy
  have p1 := Int.mul_pos (Int.mul_pos (show 0 < E - D by omega) (show 0 < E + D by omega)) hdp
  rw [← dd] at p1
  have p2 := oh_pos (Int.mul_pos hD hD) p1
  omega
/-- q is outside: it is on the right of a side, or, of two corners, off their line -/
def oh_out (n : Nat) (P : Nat → Int × Int) (q : Int × Int) : Prop := (3 ≤ n ∧ ∃ j, j < n ∧ oh_sd n P q j < 0) ∨ (n = 2 ∧ oh_sd n P q 0 ≠ 0)
theorem oh_edgL (h : oh_cvx n P) (ho : oh_out n P q) {L p : Nat} (hL : L < n) (h1 : 0 < oh_sd n P q L) (h0 : oh_sd n P q (oh_pv n L) ≤ 0) (hp : p < n) (hpL : p ≠ L) : oh_edg q (P L) (P p) := by
  rcases ho with ⟨hn, hout⟩ | ⟨hn, -⟩
  · rcases oh_lastE h hn hL h1 h0 hp hpL with g | ⟨g1, g2, g3⟩
    · exact Or.inl g
    · exact Or.inr ⟨g3, by rw [g1]; exact oh_colL h hn hL h1 g2 hout⟩
  · left
    rw [oh_cyc]
    have e : p = oh_nx n L := by unfold oh_nx; split <;> omega
    rw [e]; exact h1
theorem oh_edgF (h : oh_cvx n P) (ho : oh_out n P q) {F p : Nat} (hF : F < n) (h1 : oh_sd n P q F ≤ 0) (h0 : 0 < oh_sd n P q (oh_pv n F)) (hp : p < n) (hpF : p ≠ F) : oh_edg (P F) q (P p) := by
  rcases ho with ⟨hn, hout⟩ | ⟨hn, -⟩
  · rcases oh_firstE h hn hF h1 h0 hp hpF with g | ⟨g1, g2, g3⟩
    · exact Or.inl g
    · exact Or.inr ⟨g3, by rw [g1]; exact oh_colF h hn hF g2 h0 hout⟩
  · left
    have e : p = oh_pv n F := by unfold oh_pv; split <;> omega
    have e2 := oh_sd_pv (P := P) (q := q) hF
    rw [oh_swap2, e]; omega
end
