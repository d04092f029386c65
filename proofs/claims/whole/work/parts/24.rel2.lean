/-! how the corners come to be others -/
theorem oh_nn {k : Nat} (h : k < 2 ^ 31) : ¬ nI k = -2 := fun q => by
  have e := congrArg Int32.toInt q
  rw [nI_toInt h] at e
  have : (-2 : Int32).toInt = -2 := by decide
  omega
theorem oh_rot_nx' {n L t : Nat} (h : L < n) (ht : t < n) : oh_nx n (oh_rot n L t) = oh_rot n L (t + 1) := by
  unfold oh_rot oh_nx; split <;> split <;> (try split) <;> omega
def oh_g (n : Nat) (f : Nat → Int32) (x : Int32) : Nat → Int32 := fun i => if i < n then f i else x
theorem oh_gG {n : Nat} {fx fy : Nat → Int32} {x y : Int32} (i : Nat) : oh_pt (oh_g n fx x) (oh_g n fy y) i = oh_G n (oh_pt fx fy) (x.toInt, y.toInt) i := by
  unfold oh_pt oh_g oh_G; by_cases h : i < n
  · simp only [if_pos h]
  · simp only [if_neg h]
def oh_hull (n : Nat) (P : Nat → Int × Int) : Prop := oh_cvx n P ∧ ∀ i, 0 < i → i < n → oh_lx (P 0) (P i)
/-- m corners, by their places among the old ones and the new point -/
def oh_step (n : Nat) (P : Nat → Int × Int) (q : Int × Int) (m : Nat) (ρ : Nat → Nat) : Prop :=
  ((n = 0 ∧ m = 1 ∧ ρ 0 = 0) ∨ (1 ≤ n ∧ oh_ring (n + 1) (oh_G n P q) m ρ)) ∧ oh_cvx m (fun i => oh_G n P q (ρ i))
theorem oh_exF {n : Nat} {P : Nat → Int × Int} {q : Int × Int} (h : oh_cvx n P) (ho : oh_out n P q) : (∃ F, F < n ∧ oh_sd n P q F < 1 ∧ 1 ≤ oh_sd n P q (oh_pv n F)) ∧ ∃ L, L < n ∧ 1 ≤ oh_sd n P q L ∧ oh_sd n P q (oh_pv n L) < 1 := by
  have hex : (∃ i, i < n ∧ oh_sd n P q i < 1) ∧ ∃ i, i < n ∧ ¬ oh_sd n P q i < 1 := by
    rcases ho with ⟨hn, j, hj, hneg⟩ | ⟨hn, hz⟩
    · obtain ⟨i, hi, hp⟩ := oh_left (q := q) h hn
      exact ⟨⟨j, hj, by omega⟩, ⟨i, hi, by omega⟩⟩
    · subst hn
      have e : oh_sd 2 P q 1 = - oh_sd 2 P q 0 := oh_swap _ _ _
      rcases oh_lg (oh_sd 2 P q 0) 1 with g | g
      · exact ⟨⟨0, by omega, g⟩, ⟨1, by omega, by omega⟩⟩
      · exact ⟨⟨1, by omega, by omega⟩, ⟨0, by omega, by omega⟩⟩
  obtain ⟨F, hF, f1, f0⟩ := oh_begin (fun i => oh_sd n P q i < 1) hex.1 hex.2
  obtain ⟨L, hL, l1, l0⟩ := oh_begin (fun i => ¬ oh_sd n P q i < 1) hex.2 (by obtain ⟨i, hi, h9⟩ := hex.1; exact ⟨i, hi, fun w => w h9⟩)
  exact ⟨⟨F, hF, f1, by omega⟩, ⟨L, hL, by omega, by omega⟩⟩
theorem oh_getF {n : Nat} {P : Nat → Int × Int} {q : Int × Int} {r : Int32} (h : oh_cvx n P) (ho : oh_out n P q) (hr : oh_fs n P q (nI 1).toInt r) : ∃ F, F < n ∧ r = nI F ∧ oh_sd n P q F ≤ 0 ∧ 0 < oh_sd n P q (oh_pv n F) := by
  rw [show (nI 1).toInt = 1 by decide] at hr
  rcases hr with ⟨F, hF, e, f1, f0⟩ | ⟨-, hno⟩
  · exact ⟨F, hF, e, by omega, by omega⟩
  · obtain ⟨F, hF, f1, f0⟩ := (oh_exF h ho).1
    exact absurd ⟨f1, f0⟩ (hno F hF)
theorem oh_getL {n : Nat} {P : Nat → Int × Int} {q : Int × Int} {r : Int32} (h : oh_cvx n P) (ho : oh_out n P q) (hr : oh_la n P q (nI 1).toInt r) : ∃ L, L < n ∧ r = nI L ∧ 0 < oh_sd n P q L ∧ oh_sd n P q (oh_pv n L) ≤ 0 := by
  rw [show (nI 1).toInt = 1 by decide] at hr
  rcases hr with ⟨L, hL, e, f1, f0⟩ | ⟨-, hno⟩
  · exact ⟨L, hL, e, by omega, by omega⟩
  · obtain ⟨L, hL, f1, f0⟩ := (oh_exF h ho).2
    exact absurd ⟨f1, f0⟩ (hno L hL)
theorem oh_kp1 {F L : Nat} {d : Int32} (e : d = nI F - nI L) (h : L ≤ F) : d + nI 1 = nI (F + 1 - L) := by
  rw [e, pk_sub h, nI_add]; exact congrArg nI (by omega)
theorem oh_kp2 {F L n : Nat} {d k : Int32} (e : d = nI F - nI L) (e2 : k = d + nI 1 + nI n) (h : L ≤ n) : k = nI (F + n + 1 - L) := by
  have g : nI (F + n + 1 - L) + nI L = nI F + nI 1 + nI n := by rw [nI_add, nI_add, nI_add]; exact congrArg nI (by omega)
  rw [e2, e]
  generalize nI (F + n + 1 - L) = a at *
  generalize nI L = b at *
  generalize nI F = c at *
  generalize nI 1 = d at *
  generalize nI n = e at *
  grind
theorem oh_kfac {n F L K : Nat} (hF : F < n) (hL : L < n) (hne : F ≠ L) (hK : (L ≤ F ∧ K = F + 1 - L) ∨ (F < L ∧ K = F + n + 1 - L)) : 2 ≤ K ∧ K ≤ n ∧ oh_rot n L (K - 1) = F := by
  refine ⟨by omega, by omega, ?_⟩
  unfold oh_rot; split <;> omega
theorem oh_least (Q : Nat → Int × Int) : ∀ m, ∃ b, b < m + 1 ∧ ∀ j, j < m + 1 → ¬ oh_lx (Q j) (Q b) := by
  intro m
  induction m with
  | zero => exact ⟨0, by omega, fun j hj w => by rw [show j = 0 by omega] at w; exact oh_lx_as w w⟩
  | succ m ih =>
    obtain ⟨b, hb, hm⟩ := ih
    by_cases g : oh_lx (Q (m + 1)) (Q b)
    · refine ⟨m + 1, by omega, fun j hj w => ?_⟩
      by_cases e : j = m + 1
      · rw [e] at w; exact oh_lx_as w w
      · exact hm j (by omega) (oh_lx_tr w g)
    · refine ⟨b, by omega, fun j hj w => ?_⟩
      by_cases e : j = m + 1
      · rw [e] at w; exact g w
      · exact hm j (by omega) w
/-- the step of a ring, out of what firstSeen, lastSeen and leastOfRing answer -/
theorem oh_stepR {n : Nat} {P : Nat → Int × Int} {q : Int × Int} {F L K b : Nat} (hh : oh_hull n P) (hn : 2 ≤ n) (ho : oh_out n P q) (hF : F < n) (hL : L < n) (f1 : oh_sd n P q F ≤ 0) (f0 : 0 < oh_sd n P q (oh_pv n F)) (l1 : 0 < oh_sd n P q L) (l0 : oh_sd n P q (oh_pv n L) ≤ 0) (hK : 2 ≤ K ∧ K ≤ n ∧ oh_rot n L (K - 1) = F) (hb : b < K + 1) (hm : ∀ j, j < K + 1 → ¬ oh_lx (oh_G n P q (oh_sg n L j)) (oh_G n P q (oh_sg n L b))) : oh_step n P q (K + 1) (fun i => oh_sg n L (oh_rot (K + 1) b i)) := by
  obtain ⟨g1, g2⟩ := oh_grow hh.1 hh.2 ho hF hL f1 f0 l1 l0 hK.1 hK.2.1 hK.2.2 hb hm
  exact ⟨Or.inr ⟨by omega, g1⟩, g2⟩
theorem oh_stepR0 {n : Nat} {P : Nat → Int × Int} {q : Int × Int} {F L K : Nat} (hh : oh_hull n P) (hn : 2 ≤ n) (ho : oh_out n P q) (hF : F < n) (hL : L < n) (f1 : oh_sd n P q F ≤ 0) (f0 : 0 < oh_sd n P q (oh_pv n F)) (l1 : 0 < oh_sd n P q L) (l0 : oh_sd n P q (oh_pv n L) ≤ 0) (hK : 2 ≤ K ∧ K ≤ n ∧ oh_rot n L (K - 1) = F) : ∃ ρ, oh_step n P q (K + 1) ρ := by
  obtain ⟨b, hb, hm⟩ := oh_least (fun j => oh_G n P q (oh_sg n L j)) K
  exact ⟨_, oh_stepR hh hn ho hF hL f1 f0 l1 l0 hK hb hm⟩
/-- the ring's row: the new point, then the kept corners -/
def oh_rowR (n L K : Nat) (fx fy : Nat → Int32) (x y : Int32) (rx ry : Nat → Int32) : Prop := rx 0 = x ∧ ry 0 = y ∧ ∀ t, t < K → rx (t + 1) = fx (oh_rot n L t) ∧ ry (t + 1) = fy (oh_rot n L t)
theorem oh_rowG {n L K : Nat} {fx fy rx ry : Nat → Int32} {x y : Int32} (h : oh_rowR n L K fx fy x y rx ry) (hL : L < n) (hK : K ≤ n) {j : Nat} (hj : j < K + 1) : rx j = oh_g n fx x (oh_sg n L j) ∧ ry j = oh_g n fy y (oh_sg n L j) := by
  by_cases h0 : j = 0
  · subst h0
    rw [oh_sg0, h.1, h.2.1]
    unfold oh_g
    rw [if_neg (Nat.lt_irrefl n), if_neg (Nat.lt_irrefl n)]
    exact ⟨rfl, rfl⟩
  · obtain ⟨j, rfl⟩ : ∃ j', j = j' + 1 := ⟨j - 1, by omega⟩
    have g := h.2.2 j (by omega)
    rw [oh_sgS, g.1, g.2]
    have := oh_rot_lt hL (show j < n by omega)
    unfold oh_g
    rw [if_pos this, if_pos this]
    exact ⟨rfl, rfl⟩
theorem oh_rowM {n L K : Nat} {fx fy rx ry : Nat → Int32} {x y : Int32} (h : oh_rowR n L K fx fy x y rx ry) (hL : L < n) (hK : K ≤ n) {b : Nat} (hb : b < K + 1) (hm : ∀ j, j < K + 1 → ¬ oh_lx (oh_pt rx ry j) (oh_pt rx ry b)) : ∀ j, j < K + 1 → ¬ oh_lx (oh_G n (oh_pt fx fy) (x.toInt, y.toInt) (oh_sg n L j)) (oh_G n (oh_pt fx fy) (x.toInt, y.toInt) (oh_sg n L b)) := by
  intro j hj w
  apply hm j hj
  have e1 := oh_rowG h hL hK hj
  have e2 := oh_rowG h hL hK hb
  unfold oh_pt
  rw [e1.1, e1.2, e2.1, e2.2]
  rw [← oh_gG, ← oh_gG] at w
  exact w
/-- the new corners, by their places -/
def oh_arr (n m : Nat) (ρ : Nat → Nat) (fx fy : Nat → Int32) (x y : Int32) (gx gy : Nat → Int32) : Prop := ∀ t, t < m → gx t = oh_g n fx x (ρ t) ∧ gy t = oh_g n fy y (ρ t)
theorem oh_rowA {n L K : Nat} {fx fy rx ry gx gy : Nat → Int32} {x y : Int32} (h : oh_rowR n L K fx fy x y rx ry) (hL : L < n) (hK : K ≤ n) {b : Nat} (hb : b < K + 1) (hg : ∀ t, t < K + 1 → gx t = rx (oh_rot (K + 1) b t) ∧ gy t = ry (oh_rot (K + 1) b t)) : oh_arr n (K + 1) (fun i => oh_sg n L (oh_rot (K + 1) b i)) fx fy x y gx gy := by
  intro t ht
  have e := oh_rowG h hL hK (oh_rot_lt hb ht)
  rw [(hg t ht).1, (hg t ht).2, e.1, e.2]
  exact ⟨rfl, rfl⟩
