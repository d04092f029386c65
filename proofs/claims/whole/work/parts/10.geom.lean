/-! plane geometry in whole numbers: turns, corners of a strictly convex ring, what a point outside sees -/
def oh_cp (a b c : Int × Int) : Int := (b.1 - a.1) * (c.2 - a.2) - (b.2 - a.2) * (c.1 - a.1)
def oh_d2 (a b : Int × Int) : Int := (b.1 - a.1) * (b.1 - a.1) + (b.2 - a.2) * (b.2 - a.2)
def oh_lx (a b : Int × Int) : Prop := a.1 < b.1 ∨ (a.1 = b.1 ∧ a.2 < b.2)
def oh_edg (a b w : Int × Int) : Prop := 0 < oh_cp a b w ∨ (oh_cp a b w = 0 ∧ oh_d2 a w < oh_d2 a b)
def oh_nx (n i : Nat) : Nat := if i + 1 < n then i + 1 else 0
def oh_pv (n i : Nat) : Nat := if 0 < i then i - 1 else n - 1
def oh_rot (n L t : Nat) : Nat := if L + t < n then L + t else L + t - n
def oh_cvx (n : Nat) (P : Nat → Int × Int) : Prop := ∀ i j k, i < j → j < k → k < n → 0 < oh_cp (P i) (P j) (P k)
def oh_sd (n : Nat) (P : Nat → Int × Int) (q : Int × Int) (i : Nat) : Int := oh_cp (P i) (P (oh_nx n i)) q

theorem oh_nx_pv {n i : Nat} (h : i < n) : oh_nx n (oh_pv n i) = i := by unfold oh_nx oh_pv; split <;> split <;> omega
theorem oh_pv_nx {n i : Nat} (h : i < n) : oh_pv n (oh_nx n i) = i := by unfold oh_nx oh_pv; split <;> split <;> omega
theorem oh_nx_lt {n i : Nat} (h : i < n) : oh_nx n i < n := by unfold oh_nx; split <;> omega
theorem oh_pv_lt {n i : Nat} (h : i < n) : oh_pv n i < n := by unfold oh_pv; split <;> omega
theorem oh_rot_lt {n L t : Nat} (h : L < n) (ht : t < n) : oh_rot n L t < n := by unfold oh_rot; split <;> omega

theorem oh_cyc (a b c : Int × Int) : oh_cp a b c = oh_cp b c a := by unfold oh_cp; grind
theorem oh_swap (a b c : Int × Int) : oh_cp a b c = - oh_cp b a c := by unfold oh_cp; grind
theorem oh_swap2 (a b c : Int × Int) : oh_cp a b c = - oh_cp a c b := by unfold oh_cp; grind
theorem oh_s1 (a b : Int × Int) : oh_cp a b a = 0 := by unfold oh_cp; grind
theorem oh_s2 (a b : Int × Int) : oh_cp a b b = 0 := by unfold oh_cp; grind
theorem oh_s3 (a b : Int × Int) : oh_cp a a b = 0 := by unfold oh_cp; grind
theorem oh_cramer (a b c p q : Int × Int) : oh_cp b c a * oh_cp b p q = oh_cp b p a * oh_cp b c q + oh_cp b c p * oh_cp b a q := by
  unfold oh_cp
  generalize a.1 - b.1 = vx
  generalize a.2 - b.2 = vy
  generalize c.1 - b.1 = ux
  generalize c.2 - b.2 = uy
  generalize p.1 - b.1 = wx
  generalize p.2 - b.2 = wy
  generalize q.1 - b.1 = zx
  generalize q.2 - b.2 = zy
  grind
theorem oh_tri (a b c q : Int × Int) : oh_cp a b q + oh_cp b c q + oh_cp c a q = oh_cp a b c := by unfold oh_cp; grind
theorem oh_vec1 (a b c q : Int × Int) : oh_cp b c a * (q.1 - b.1) = oh_cp b q a * (c.1 - b.1) + oh_cp b c q * (a.1 - b.1) := by unfold oh_cp; grind
theorem oh_vec2 (a b c q : Int × Int) : oh_cp b c a * (q.2 - b.2) = oh_cp b q a * (c.2 - b.2) + oh_cp b c q * (a.2 - b.2) := by unfold oh_cp; grind
/-- the rays from q: the relation of Pluecker -/
theorem oh_pl (q a b c d : Int × Int) : oh_cp q a b * oh_cp q c d = oh_cp q a c * oh_cp q b d + oh_cp q a d * oh_cp q c b := by
  unfold oh_cp
  generalize a.1 - q.1 = vx
  generalize a.2 - q.2 = vy
  generalize c.1 - q.1 = ux
  generalize c.2 - q.2 = uy
  generalize b.1 - q.1 = wx
  generalize b.2 - q.2 = wy
  generalize d.1 - q.1 = zx
  generalize d.2 - q.2 = zy
  grind

theorem oh_lg (a b : Int) : a < b ∨ b ≤ a := by omega
theorem oh_pos {D x : Int} (hD : 0 < D) (h : 0 < D * x) : 0 < x := by
  rcases oh_lg 0 x with h1 | h1
  · exact h1
  · have h2 : D * x ≤ D * 0 := Int.mul_le_mul_of_nonneg_left h1 (Int.le_of_lt hD)
    omega
theorem oh_neg {D x : Int} (hD : 0 < D) (h : D * x < 0) : x < 0 := by
  rcases oh_lg x 0 with h1 | h1
  · exact h1
  · have h2 : 0 ≤ D * x := Int.mul_nonneg (Int.le_of_lt hD) h1
    omega
theorem oh_mnp {a b : Int} (ha : 0 ≤ a) (hb : b ≤ 0) : a * b ≤ 0 := by
  have h2 : a * b ≤ a * 0 := Int.mul_le_mul_of_nonneg_left hb ha
  omega
theorem oh_mnn {a b : Int} (ha : 0 < a) (hb : b < 0) : a * b < 0 := by
  have h2 : 0 < a * (-b) := Int.mul_pos ha (by omega)
  have h3 : a * (-b) = -(a * b) := Int.mul_neg a b
  omega

section
variable {n : Nat} {P : Nat → Int × Int} {q : Int × Int}
theorem oh_cvx3 (h : oh_cvx n P) {a b c : Nat} (ha : a < n) (hb : b < n) (hc : c < n) (ho : (a < b ∧ b < c) ∨ (b < c ∧ c < a) ∨ (c < a ∧ a < b)) : 0 < oh_cp (P a) (P b) (P c) := by
  rcases ho with o | o | o
  · exact h a b c o.1 o.2 hc
  · rw [oh_cyc]; exact h b c a o.1 o.2 ha
  · rw [oh_cyc, oh_cyc]; exact h c a b o.1 o.2 hb
theorem oh_atD (h : oh_cvx n P) (hn : 3 ≤ n) {L : Nat} (hL : L < n) : 0 < oh_cp (P L) (P (oh_nx n L)) (P (oh_pv n L)) := by
  apply oh_cvx3 h hL (oh_nx_lt hL) (oh_pv_lt hL)
  unfold oh_nx oh_pv
  split <;> split <;> omega
theorem oh_atP (h : oh_cvx n P) {L p : Nat} (hL : L < n) (hp : p < n) (hpL : p ≠ L) (hq : p ≠ oh_pv n L) : 0 < oh_cp (P L) (P p) (P (oh_pv n L)) := by
  apply oh_cvx3 h hL hp (oh_pv_lt hL)
  unfold oh_pv at *
  split at hq <;> split <;> omega
theorem oh_atN (h : oh_cvx n P) {L p : Nat} (hL : L < n) (hp : p < n) (hpL : p ≠ L) (hq : p ≠ oh_nx n L) : 0 < oh_cp (P L) (P (oh_nx n L)) (P p) := by
  apply oh_cvx3 h hL (oh_nx_lt hL) hp
  unfold oh_nx at *
  split at hq <;> split <;> omega
theorem oh_sidePos (h : oh_cvx n P) {i p : Nat} (hi : i < n) (hp : p < n) : 0 ≤ oh_cp (P i) (P (oh_nx n i)) (P p) := by
  by_cases h1 : p = i
  · rw [h1, oh_s1]; exact Int.le_refl 0
  · by_cases h2 : p = oh_nx n i
    · rw [h2, oh_s2]; exact Int.le_refl 0
    · exact Int.le_of_lt (oh_atN h hi hp h1 h2)
theorem oh_sd_pv {L : Nat} (hL : L < n) : oh_sd n P q (oh_pv n L) = - oh_cp (P L) (P (oh_pv n L)) q := by
  unfold oh_sd; rw [oh_nx_pv hL, oh_swap]
/-- at the end of a run of seen sides: all corners are on the left of the ray from q to it -/
theorem oh_lastE (h : oh_cvx n P) (hn : 3 ≤ n) {L p : Nat} (hL : L < n) (h1 : 0 < oh_sd n P q L) (h0 : oh_sd n P q (oh_pv n L) ≤ 0) (hp : p < n) (hpL : p ≠ L) :
    0 < oh_cp q (P L) (P p) ∨ (p = oh_pv n L ∧ oh_sd n P q (oh_pv n L) = 0 ∧ oh_cp q (P L) (P p) = 0) := by
  have hD := oh_atD h hn hL
  have e := oh_cramer (P (oh_pv n L)) (P L) (P (oh_nx n L)) (P p) q
  have e2 := oh_sd_pv (P := P) (q := q) hL
  have e3 : oh_cp q (P L) (P p) = oh_cp (P L) (P p) q := oh_cyc _ _ _
  rw [e3]
  by_cases hpp : p = oh_pv n L
  · subst hpp
    rcases oh_lg 0 (oh_cp (P L) (P (oh_pv n L)) q) with g | g
    · exact Or.inl g
    · exact Or.inr ⟨rfl, by omega, by omega⟩
  · left
    have a1 := oh_atP h hL hp hpL hpp
    have a2 : 0 ≤ oh_cp (P L) (P (oh_nx n L)) (P p) := oh_sidePos h hL hp
    apply oh_pos hD
    rw [e]
    have b1 := Int.mul_pos a1 h1
    have b2 := Int.mul_nonneg a2 (show 0 ≤ oh_cp (P L) (P (oh_pv n L)) q by omega)
    unfold oh_sd at b1
    omega
theorem oh_firstE (h : oh_cvx n P) (hn : 3 ≤ n) {L p : Nat} (hL : L < n) (h1 : oh_sd n P q L ≤ 0) (h0 : 0 < oh_sd n P q (oh_pv n L)) (hp : p < n) (hpL : p ≠ L) :
    0 < oh_cp (P L) q (P p) ∨ (p = oh_nx n L ∧ oh_sd n P q L = 0 ∧ oh_cp (P L) q (P p) = 0) := by
  have hD := oh_atD h hn hL
  have e := oh_cramer (P (oh_pv n L)) (P L) (P (oh_nx n L)) (P p) q
  have e2 := oh_sd_pv (P := P) (q := q) hL
  have e3 : oh_cp (P L) q (P p) = - oh_cp (P L) (P p) q := oh_swap2 _ _ _
  rw [e3]
  by_cases hpp : p = oh_nx n L
  · subst hpp
    unfold oh_sd at h1 ⊢
    rcases oh_lg (oh_cp (P L) (P (oh_nx n L)) q) 0 with g | g
    · exact Or.inl (by omega)
    · exact Or.inr ⟨rfl, by omega, by omega⟩
  · left
    have a1 := oh_atN h hL hp hpL hpp
    have a2 : 0 ≤ oh_cp (P L) (P p) (P (oh_pv n L)) := by
      by_cases g : p = oh_pv n L
      · rw [g, oh_s2]; exact Int.le_refl 0
      · exact Int.le_of_lt (oh_atP h hL hp hpL g)
    have b1 : oh_cp (P L) (P (oh_nx n L)) (P p) * oh_cp (P L) (P (oh_pv n L)) q < 0 := oh_mnn a1 (by omega)
    have b2 := oh_mnp a2 h1
    unfold oh_sd at b2
    have b3 : oh_cp (P L) (P p) q < 0 := oh_neg hD (by rw [e]; omega)
    omega
/-- the same where a side whose line runs through q is not seen -/
theorem oh_lastS (h : oh_cvx n P) (hn : 3 ≤ n) {L p : Nat} (hL : L < n) (h1 : 0 ≤ oh_sd n P q L) (h0 : oh_sd n P q (oh_pv n L) < 0) (hp : p < n) (hpL : p ≠ L) :
    0 < oh_cp q (P L) (P p) ∨ (p = oh_nx n L ∧ oh_cp q (P L) (P p) = 0) := by
  have hD := oh_atD h hn hL
  have e := oh_cramer (P (oh_pv n L)) (P L) (P (oh_nx n L)) (P p) q
  have e2 := oh_sd_pv (P := P) (q := q) hL
  have e3 : oh_cp q (P L) (P p) = oh_cp (P L) (P p) q := oh_cyc _ _ _
  rw [e3]
  by_cases hpp : p = oh_nx n L
  · subst hpp
    unfold oh_sd at h1
    rcases oh_lg 0 (oh_cp (P L) (P (oh_nx n L)) q) with g | g
    · exact Or.inl g
    · exact Or.inr ⟨rfl, by omega⟩
  · left
    have a1 := oh_atN h hL hp hpL hpp
    have a2 : 0 ≤ oh_cp (P L) (P p) (P (oh_pv n L)) := by
      by_cases g : p = oh_pv n L
      · rw [g, oh_s2]; exact Int.le_refl 0
      · exact Int.le_of_lt (oh_atP h hL hp hpL g)
    apply oh_pos hD
    rw [e]
    have b1 := Int.mul_pos a1 (show 0 < oh_cp (P L) (P (oh_pv n L)) q by omega)
    have b2 := Int.mul_nonneg a2 h1
    unfold oh_sd at b2
    omega
theorem oh_firstS (h : oh_cvx n P) (hn : 3 ≤ n) {L p : Nat} (hL : L < n) (h1 : oh_sd n P q L < 0) (h0 : 0 ≤ oh_sd n P q (oh_pv n L)) (hp : p < n) (hpL : p ≠ L) :
    0 < oh_cp (P L) q (P p) ∨ (p = oh_pv n L ∧ oh_cp (P L) q (P p) = 0) := by
  have hD := oh_atD h hn hL
  have e := oh_cramer (P (oh_pv n L)) (P L) (P (oh_nx n L)) (P p) q
  have e2 := oh_sd_pv (P := P) (q := q) hL
  have e3 : oh_cp (P L) q (P p) = - oh_cp (P L) (P p) q := oh_swap2 _ _ _
  rw [e3]
  by_cases hpp : p = oh_pv n L
  · subst hpp
    rcases oh_lg (oh_cp (P L) (P (oh_pv n L)) q) 0 with g | g
    · exact Or.inl (by omega)
    · exact Or.inr ⟨rfl, by omega⟩
  · left
    have a1 := oh_atP h hL hp hpL hpp
    have a2 : 0 ≤ oh_cp (P L) (P (oh_nx n L)) (P p) := oh_sidePos h hL hp
    have b1 : oh_cp (P L) (P p) (P (oh_pv n L)) * oh_cp (P L) (P (oh_nx n L)) q < 0 := oh_mnn a1 h1
    have b2 := oh_mnp a2 (show oh_cp (P L) (P (oh_pv n L)) q ≤ 0 by omega)
    have b3 : oh_cp (P L) (P p) q < 0 := oh_neg hD (by rw [e]; omega)
    omega
theorem oh_uL (h : oh_cvx n P) (hn : 3 ≤ n) {L M : Nat} (hL : L < n) (h1 : 0 < oh_sd n P q L) (h0 : oh_sd n P q (oh_pv n L) ≤ 0) (hM : M < n) (g1 : 0 < oh_sd n P q M) (g0 : oh_sd n P q (oh_pv n M) ≤ 0) : L = M := by
  by_cases hLM : L = M
  · exact hLM
  · exfalso
    have a := oh_lastE h hn hL h1 h0 hM (fun e => hLM e.symm)
    have b := oh_lastE h hn hM g1 g0 hL hLM
    have c := oh_swap2 q (P L) (P M)
    have d : M = oh_pv n L ∧ L = oh_pv n M := ⟨by omega, by omega⟩
    unfold oh_pv at d
    split at d <;> split at d <;> omega
theorem oh_uF (h : oh_cvx n P) (hn : 3 ≤ n) {L M : Nat} (hL : L < n) (h1 : oh_sd n P q L ≤ 0) (h0 : 0 < oh_sd n P q (oh_pv n L)) (hM : M < n) (g1 : oh_sd n P q M ≤ 0) (g0 : 0 < oh_sd n P q (oh_pv n M)) : L = M := by
  by_cases hLM : L = M
  · exact hLM
  · exfalso
    have a := oh_firstE h hn hL h1 h0 hM (fun e => hLM e.symm)
    have b := oh_firstE h hn hM g1 g0 hL hLM
    have c : oh_cp (P L) q (P M) = - oh_cp (P M) q (P L) := by unfold oh_cp; grind
    have d : M = oh_nx n L ∧ L = oh_nx n M := ⟨by omega, by omega⟩
    unfold oh_nx at d
    split at d <;> split at d <;> omega
theorem oh_uLS (h : oh_cvx n P) (hn : 3 ≤ n) {L M : Nat} (hL : L < n) (h1 : 0 ≤ oh_sd n P q L) (h0 : oh_sd n P q (oh_pv n L) < 0) (hM : M < n) (g1 : 0 ≤ oh_sd n P q M) (g0 : oh_sd n P q (oh_pv n M) < 0) : L = M := by
  by_cases hLM : L = M
  · exact hLM
  · exfalso
    have a := oh_lastS h hn hL h1 h0 hM (fun e => hLM e.symm)
    have b := oh_lastS h hn hM g1 g0 hL hLM
    have c := oh_swap2 q (P L) (P M)
    have d : M = oh_nx n L ∧ L = oh_nx n M := ⟨by omega, by omega⟩
    unfold oh_nx at d
    split at d <;> split at d <;> omega
theorem oh_uFS (h : oh_cvx n P) (hn : 3 ≤ n) {L M : Nat} (hL : L < n) (h1 : oh_sd n P q L < 0) (h0 : 0 ≤ oh_sd n P q (oh_pv n L)) (hM : M < n) (g1 : oh_sd n P q M < 0) (g0 : 0 ≤ oh_sd n P q (oh_pv n M)) : L = M := by
  by_cases hLM : L = M
  · exact hLM
  · exfalso
    have a := oh_firstS h hn hL h1 h0 hM (fun e => hLM e.symm)
    have b := oh_firstS h hn hM g1 g0 hL hLM
    have c : oh_cp (P L) q (P M) = - oh_cp (P M) q (P L) := by unfold oh_cp; grind
    have d : M = oh_pv n L ∧ L = oh_pv n M := ⟨by omega, by omega⟩
    unfold oh_pv at d
    split at d <;> split at d <;> omega
/-- some side has q on its left -/
theorem oh_left (h : oh_cvx n P) (hn : 3 ≤ n) : ∃ j, j < n ∧ 0 < oh_sd n P q j := by
  by_cases hex : ∃ j, j < n ∧ 0 < oh_sd n P q j
  · exact hex
  · exfalso
    have hall : ∀ j, j < n → oh_sd n P q j ≤ 0 := fun j hj => by
      rcases oh_lg 0 (oh_sd n P q j) with g | g
      · exact absurd ⟨j, hj, g⟩ hex
      · exact g
    have key : ∀ k, k + 1 < n → oh_cp (P 0) (P (k + 1)) q ≤ 0 ∧ (1 ≤ k → oh_cp (P 0) (P (k + 1)) q < 0) := by
      intro k
      induction k with
      | zero =>
        intro hk
        have g := hall 0 (by omega)
        unfold oh_sd oh_nx at g
        rw [if_pos (by omega)] at g
        exact ⟨g, fun w => absurd w (by omega)⟩
      | succ k ih =>
        intro hk
        have i1 := (ih (by omega)).1
        have g := hall (k + 1) (by omega)
        unfold oh_sd oh_nx at g
        rw [if_pos (by omega)] at g
        have t := oh_tri (P 0) (P (k + 1)) (P (k + 1 + 1)) q
        have c := h 0 (k + 1) (k + 1 + 1) (by omega) (by omega) (by omega)
        have s := oh_swap (P (k + 1 + 1)) (P 0) q
        exact ⟨by omega, fun _ => by omega⟩
    have k2 := (key (n - 2) (by omega)).2 (by omega)
    have g := hall (n - 1) (by omega)
    unfold oh_sd oh_nx at g
    rw [if_neg (by omega), oh_swap, show n - 1 = n - 2 + 1 by omega] at g
    omega
end
/-- on a cycle, where A holds somewhere and not everywhere, it begins somewhere -/
theorem oh_begin (A : Nat → Prop) {n : Nat} (h1 : ∃ i, i < n ∧ A i) (h2 : ∃ i, i < n ∧ ¬ A i) : ∃ i, i < n ∧ A i ∧ ¬ A (oh_pv n i) := by
  by_cases hex : ∃ i, i < n ∧ A i ∧ ¬ A (oh_pv n i)
  · exact hex
  · exfalso
    have hall : ∀ i, i < n → A i → A (oh_pv n i) := fun i hi ha => by
      by_cases g : A (oh_pv n i)
      · exact g
      · exact absurd ⟨i, hi, ha, g⟩ hex
    obtain ⟨i0, hi0, ha0⟩ := h1
    have down : ∀ d i, i + d < n → A (i + d) → A i := by
      intro d
      induction d with
      | zero => intro i _ g; exact g
      | succ d ih =>
        intro i hi g
        have g2 := hall (i + (d + 1)) hi g
        unfold oh_pv at g2
        rw [if_pos (by omega), show i + (d + 1) - 1 = i + d by omega] at g2
        exact ih i (by omega) g2
    have a0 : A 0 := down i0 0 (by omega) (by rw [Nat.zero_add]; exact ha0)
    have a1 := hall 0 (by omega) a0
    unfold oh_pv at a1
    rw [if_neg (by omega)] at a1
    obtain ⟨i2, hi2, hn2⟩ := h2
    exact hn2 (down (n - 1 - i2) i2 (by omega) (by rw [show i2 + (n - 1 - i2) = n - 1 by omega]; exact a1))
