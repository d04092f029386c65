theorem oh_col3 {a b c : Int × Int} (h1 : oh_lx a b) (h2 : oh_lx b c) (h : oh_cp a b c = 0) : oh_d2 a b < oh_d2 a c ∧ oh_d2 c b < oh_d2 c a := by
  obtain ⟨ux, hux⟩ : ∃ u, u = b.1 - a.1 := ⟨_, rfl⟩
  obtain ⟨uy, huy⟩ : ∃ u, u = b.2 - a.2 := ⟨_, rfl⟩
  obtain ⟨vx, hvx⟩ : ∃ u, u = c.1 - b.1 := ⟨_, rfl⟩
  obtain ⟨vy, hvy⟩ : ∃ u, u = c.2 - b.2 := ⟨_, rfl⟩
  have e : ux * vy - uy * vx = 0 := by
    have : oh_cp a b c = ux * vy - uy * vx := by rw [hux, huy, hvx, hvy]; unfold oh_cp; grind
    omega
  have d1 : oh_d2 a c = oh_d2 a b + (ux * vx + uy * vy) + (ux * vx + uy * vy) + (vx * vx + vy * vy) := by rw [hux, huy, hvx, hvy]; unfold oh_d2; grind
  have d2 : oh_d2 c a = oh_d2 c b + (ux * vx + uy * vy) + (ux * vx + uy * vy) + (ux * ux + uy * uy) := by rw [hux, huy, hvx, hvy]; unfold oh_d2; grind
  have s1 := oh_sq ux
  have s2 := oh_sq uy
  have s3 := oh_sq vx
  have s4 := oh_sq vy
  have key : 0 < ux * vx + uy * vy := by
    unfold oh_lx at h1 h2
    by_cases g : 0 < ux
    · have gv : 0 < vx := by
        rcases h2 with w | w
        · omega
        · exfalso
          have z : vx = 0 := by omega
          have := Int.mul_pos g (show 0 < vy by omega)
          rw [z, Int.mul_zero] at e
          omega
      have p1 := Int.mul_pos g gv
      have p2 : 0 ≤ uy * vy := by
        have e2 : (ux * vx) * (uy * vy) = (ux * vy) * (uy * vx) := by grind
        have e3 : ux * vy = uy * vx := by omega
        rw [e3] at e2
        have := oh_sq (uy * vx)
        rcases oh_lg (uy * vy) 0 with w | w
        · have := oh_mnn p1 w
          omega
        · exact w
      omega
    · have z : ux = 0 := by omega
      have y1 : 0 < uy := by omega
      have z2 : vx = 0 := by
        rw [z, Int.zero_mul] at e
        rcases Int.mul_eq_zero.mp (show uy * vx = 0 by omega) with w | w
        · omega
        · exact w
      have p1 := Int.mul_pos y1 (show 0 < vy by omega)
      rw [z, Int.zero_mul]
      omega
  constructor <;> omega
theorem oh_stepL0 {P : Nat → Int × Int} {q : Int × Int} : oh_step 0 P q 1 (fun _ => 0) := ⟨Or.inl ⟨rfl, rfl, rfl⟩, fun i j k h1 h2 h3 => by omega⟩
def oh_rhoL (n : Nat) (f : Bool) : Nat → Nat := fun t => if f then (if t = 0 then n else n - 1) else (if t = 0 then 0 else n)
theorem oh_stepL {n : Nat} {P : Nat → Int × Int} {q : Int × Int} {f : Bool} (hh : oh_hull n P) (h1 : 1 ≤ n) (h2 : n ≤ 2) (hs : n < 2 ∨ (n = 2 ∧ oh_sd n P q 0 = 0)) (hno : ¬ oh_on n P q) (hf : (f = true ∧ oh_lx q (P 0)) ∨ (f = false ∧ ¬ oh_lx q (P 0))) : oh_step n P q 2 (oh_rhoL n f) := by
  refine ⟨Or.inr ⟨h1, by omega, by omega, ?_, ?_, ?_, ?_⟩, fun i j k h1 h2 h3 => by omega⟩
  · intro i hi
    unfold oh_rhoL; split <;> split <;> omega
  · intro i j hij hj e
    have hi : i = 0 := by omega
    have hj : j = 1 := by omega
    subst hi; subst hj
    unfold oh_rhoL at e
    rcases hf with ⟨e2, -⟩ | ⟨e2, -⟩ <;> subst e2 <;> simp at e <;> omega
  all_goals
    have hz : oh_sd n P q 0 = 0 := by
      rcases hs with g | g
      · have e1 : n = 1 := by omega
        subst e1
        exact oh_s3 _ _
      · exact g.2
    have hlr : oh_lx q (P 0) ∨ (¬ oh_lx q (P 0) ∧ oh_lx (P (n - 1)) q) := by
      by_cases g : oh_lx q (P 0)
      · exact Or.inl g
      · by_cases g2 : oh_lx (P (n - 1)) q
        · exact Or.inr ⟨g, g2⟩
        · exact absurd ⟨hz, g, g2⟩ hno
    rcases (show n = 1 ∨ n = 2 by omega) with e1 | e1 <;> subst e1
  · intro i hi w hw w1 w2
    exfalso
    rcases (show i = 0 ∨ i = 1 by omega) with ei | ei <;> subst ei <;> rcases hf with ⟨e2, -⟩ | ⟨e2, -⟩ <;> subst e2 <;> simp [oh_rhoL, oh_nx] at w1 w2 <;> omega
  · have h01 : oh_lx (P 0) (P 1) := hh.2 1 (by omega) (by omega)
    have hz : oh_cp (P 0) (P 1) q = 0 := hz
    rcases hf with ⟨e2, hq⟩ | ⟨e2, hq⟩ <;> subst e2
    · have c1 : oh_cp q (P 0) (P 1) = 0 := by rw [oh_cyc]; exact hz
      have k := oh_col3 hq h01 c1
      intro i hi w hw w1 w2
      rcases (show i = 0 ∨ i = 1 by omega) with ei | ei <;> subst ei <;> simp [oh_rhoL, oh_nx] at w1 w2 <;> have hw0 : w = 0 := by omega
      · subst hw0
        right
        simp only [oh_rhoL, oh_nx, oh_G]
        simp
        exact ⟨by rw [oh_swap2]; omega, k.1⟩
      · subst hw0
        right
        simp only [oh_rhoL, oh_nx, oh_G]
        simp
        exact ⟨by rw [oh_cyc]; exact c1, k.2⟩
    · have hq2 : oh_lx (P 1) q := by
        rcases hlr with g | g
        · exact absurd g hq
        · exact g.2
      have k := oh_col3 h01 hq2 hz
      intro i hi w hw w1 w2
      rcases (show i = 0 ∨ i = 1 by omega) with ei | ei <;> subst ei <;> simp [oh_rhoL, oh_nx] at w1 w2 <;> have hw0 : w = 1 := by omega
      · subst hw0
        right
        simp only [oh_rhoL, oh_nx, oh_G]
        simp
        exact ⟨by rw [oh_swap2]; omega, k.1⟩
      · subst hw0
        right
        simp only [oh_rhoL, oh_nx, oh_G]
        simp
        exact ⟨by rw [oh_cyc]; exact hz, k.2⟩
  · intro w hw w1
    rcases hf with ⟨e2, hq⟩ | ⟨e2, hq⟩ <;> subst e2 <;> simp [oh_rhoL] at w1
    · have hw0 : w = 0 := by omega
      subst hw0
      simp [oh_rhoL, oh_G]
      exact hq
    · have hw0 : w = 1 := by omega
      subst hw0
      simp [oh_rhoL, oh_G]
      rcases hlr with g | g
      · exact absurd g hq
      · exact g.2
  · have h01 : oh_lx (P 0) (P 1) := hh.2 1 (by omega) (by omega)
    intro w hw w1
    rcases hf with ⟨e2, hq⟩ | ⟨e2, hq⟩ <;> subst e2 <;> simp [oh_rhoL] at w1
    · rcases (show w = 0 ∨ w = 1 by omega) with e | e <;> subst e <;> simp [oh_rhoL, oh_G]
      · exact hq
      · exact oh_lx_tr hq h01
    · have hq2 : oh_lx (P 1) q := by
        rcases hlr with g | g
        · exact absurd g hq
        · exact g.2
      rcases (show w = 1 ∨ w = 2 by omega) with e | e <;> subst e <;> simp [oh_rhoL, oh_G]
      · exact h01
      · exact oh_lx_tr h01 hq2
theorem oh_rowU {n L i c : Nat} {fx fy rx ry : Nat → Int32} {x y : Int32} (hi1 : 1 ≤ i) (hI : oh_rowR n L (i - 1) fx fy x y rx ry) (hc : c = oh_rot n L (i - 1)) : oh_rowR n L (i + 1 - 1) fx fy x y (upd rx i (fx c)) (upd ry i (fy c)) := by
  refine ⟨by rw [pk_un (by omega)]; exact hI.1, by rw [pk_un (by omega)]; exact hI.2.1, fun t ht => ?_⟩
  by_cases e : t + 1 = i
  · subst e
    rw [hc, pk_us, pk_us]
    exact ⟨rfl, rfl⟩
  · rw [pk_un e, pk_un e]
    exact hI.2.2 t (by omega)
theorem oh_rowT {n b i c : Nat} {fx fy rx ry : Nat → Int32} (hI : ∀ t, t < i → fx t = rx (oh_rot n b t) ∧ fy t = ry (oh_rot n b t)) (hc : c = oh_rot n b i) : ∀ t, t < i + 1 → upd fx i (rx c) t = rx (oh_rot n b t) ∧ upd fy i (ry c) t = ry (oh_rot n b t) := by
  intro t ht
  by_cases e : t = i
  · subst e
    rw [hc, pk_us, pk_us]
    exact ⟨rfl, rfl⟩
  · rw [pk_un e, pk_un e]
    exact hI t (by omega)
theorem oh_arrL1 {n : Nat} {fx fy : Nat → Int32} {x y : Int32} (h1 : 1 ≤ n) : oh_arr n 2 (oh_rhoL n true) fx fy x y (upd (upd fx 1 (fx (n - 1))) 0 x) (upd (upd fy 1 (fy (n - 1))) 0 y) := by
  intro t ht
  rcases (show t = 0 ∨ t = 1 by omega) with e | e <;> subst e
  · rw [pk_us, pk_us]; simp [oh_rhoL, oh_g]
  · rw [pk_un (k := 0) (j := 1) (by omega), pk_us, pk_un (k := 0) (j := 1) (by omega), pk_us]
    have : n - 1 < n := by omega
    simp [oh_rhoL, oh_g, this]
theorem oh_arrL2 {n : Nat} {fx fy : Nat → Int32} {x y : Int32} (h1 : 1 ≤ n) : oh_arr n 2 (oh_rhoL n false) fx fy x y (upd fx 1 x) (upd fy 1 y) := by
  intro t ht
  rcases (show t = 0 ∨ t = 1 by omega) with e | e <;> subst e
  · rw [pk_un (by omega), pk_un (by omega)]
    have : 0 < n := by omega
    simp [oh_rhoL, oh_g, this]
  · rw [pk_us, pk_us]; simp [oh_rhoL, oh_g]
theorem oh_stepm {n m : Nat} {P : Nat → Int × Int} {q : Int × Int} {ρ : Nat → Nat} (h : oh_step n P q m ρ) : 1 ≤ m ∧ m ≤ n + 1 := by
  rcases h.1 with ⟨a, b, -⟩ | ⟨a, b, c, -⟩ <;> omega
theorem oh_pl3no {n : Nat} {P : Nat → Int × Int} {q : Int × Int} {r : Int32} (h : oh_pl3 n P q r) (hr : r.toInt = 0) : n = 0 ∨ ¬ oh_on n P q ∨ 3 ≤ n := by
  rcases h with g | ⟨-, -, g⟩ | g
  · exact Or.inl g.1
  · rcases g with ⟨e, -⟩ | ⟨-, e⟩
    · subst e; exact absurd hr (by decide)
    · exact Or.inr (Or.inl e)
  · exact Or.inr (Or.inr g.1)
theorem oh_pl3out {n : Nat} {P : Nat → Int × Int} {q : Int × Int} {r : Int32} (h : oh_pl3 n P q r) (hr : r.toInt = 0) (hs : ¬ (n < 2 ∨ (n = 2 ∧ oh_sd n P q 0 = 0))) : oh_out n P q := by
  by_cases h3 : 3 ≤ n
  · exact Or.inl ⟨h3, (oh_plR0 (oh_pl3R h3 h)).1.mp hr⟩
  · exact Or.inr ⟨by omega, fun e => hs (Or.inr ⟨by omega, e⟩)⟩
theorem oh_pl3no' {n : Nat} {P : Nat → Int × Int} {q : Int × Int} {r : Int32} (h : oh_pl3 n P q r) (hr : r.toInt = 0) (hs : n < 2 ∨ (n = 2 ∧ oh_sd n P q 0 = 0)) : n = 0 ∨ ¬ oh_on n P q := by
  rcases oh_pl3no h hr with g | g | g
  · exact Or.inl g
  · exact Or.inr g
  · omega
theorem oh_stepL0' {n : Nat} {P : Nat → Int × Int} {q : Int × Int} (h : n = 0) : oh_step n P q 1 (fun _ => 0) := by subst h; exact oh_stepL0
theorem oh_arr0 {n : Nat} {fx fy : Nat → Int32} {x y : Int32} (h : n = 0) : oh_arr n 1 (fun _ => 0) fx fy x y (upd fx 0 x) (upd fy 0 y) := by
  subst h
  intro t ht
  rw [show t = 0 by omega, pk_us, pk_us]
  exact ⟨rfl, rfl⟩
def oh_addC (N n : Nat) (fx fy rx ry : Nat → Int32) (came x y r : Int32) (u : (Nat → Int32) × (Nat → Int32) × (Nat → Int32) × (Nat → Int32) × Nat × Int32) : Prop :=
  (¬ oh_inR x y ∧ r = -1 ∧ u = (fx, fy, rx, ry, n, came)) ∨ (oh_inR x y ∧ ∃ pl, oh_pl3 n (oh_pt fx fy) (x.toInt, y.toInt) pl ∧
    ((pl.toInt ≠ 0 ∧ r = 0 ∧ u = (fx, fy, rx, ry, n, came + nI 1)) ∨ (pl.toInt = 0 ∧ ∃ m ρ, oh_step n (oh_pt fx fy) (x.toInt, y.toInt) m ρ ∧
      ((m ≤ N ∧ r = nI (n + 2 - m) ∧ ∃ gx gy rx9 ry9, u = (gx, gy, rx9, ry9, m, came + nI 1) ∧ oh_arr n m ρ fx fy x y gx gy) ∨ (N < m ∧ r = -2 ∧ u = (fx, fy, rx, ry, n, came))))))
