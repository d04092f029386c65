theorem oh_lc_eq {x y : Int64} (c : lg_cmp x y = 0) : x.toInt = y.toInt := by have q := (lg_cmp_eq x y).mp c; rw [← Int64.toInt_inj] at q; exact q
theorem oh_lc_neq {x y : Int64} (c : ¬ lg_cmp x y = 0) : x.toInt ≠ y.toInt := by have q := mt (lg_cmp_eq x y).mpr c; rw [← Int64.toInt_inj] at q; omega
theorem oh_lc_lt {x y : Int64} (c : lg_cmp x y < 0) : x.toInt < y.toInt := by have q := (lg_cmp_lt x y).mp c; rw [Int64.lt_iff_toInt_lt] at q; exact q
theorem oh_lc_nlt {x y : Int64} (c : ¬ lg_cmp x y < 0) : x.toInt ≥ y.toInt := by have q := mt (lg_cmp_lt x y).mpr c; rw [Int64.lt_iff_toInt_lt] at q; omega
theorem oh_lc_ge {x y : Int64} (c : 0 ≤ lg_cmp x y) : x.toInt ≥ y.toInt := by have q := (lg_cmp_ge x y).mp c; rw [Int64.le_iff_toInt_le] at q; exact q
theorem oh_lc_nge {x y : Int64} (c : ¬ 0 ≤ lg_cmp x y) : x.toInt < y.toInt := by have q := mt (lg_cmp_ge x y).mpr c; rw [Int64.le_iff_toInt_le] at q; omega
theorem oh_lc_gt {x y : Int64} (c : 0 < lg_cmp x y) : x.toInt > y.toInt := by have q := (lg_cmp_gt x y).mp c; rw [Int64.lt_iff_toInt_lt] at q; exact q
theorem oh_lc_ngt {x y : Int64} (c : ¬ 0 < lg_cmp x y) : x.toInt ≤ y.toInt := by have q := mt (lg_cmp_gt x y).mpr c; rw [Int64.lt_iff_toInt_lt] at q; omega
theorem oh_lc_le {x y : Int64} (c : lg_cmp x y ≤ 0) : x.toInt ≤ y.toInt := by have q := (lg_cmp_le x y).mp c; rw [Int64.le_iff_toInt_le] at q; exact q
theorem oh_lc_nle {x y : Int64} (c : ¬ lg_cmp x y ≤ 0) : x.toInt > y.toInt := by have q := mt (lg_cmp_le x y).mpr c; rw [Int64.le_iff_toInt_le] at q; omega
theorem oh_lc_ne {x y : Int64} (c : ¬ lg_cmp x y = 0) : x.toInt ≠ y.toInt := oh_lc_neq c
theorem oh_lc_nne {x y : Int64} (c : lg_cmp x y = 0) : x.toInt = y.toInt := oh_lc_eq c
theorem oh_zl : (0 : Int64).toInt = 0 := by decide
theorem oh_lc_eq0 {x : Int64} (c : lg_cmp x 0 = 0) : x.toInt = 0 := by have q := oh_lc_eq c; rw [oh_zl] at q; exact q
theorem oh_lc_neq0 {x : Int64} (c : ¬ lg_cmp x 0 = 0) : x.toInt ≠ 0 := by have q := oh_lc_neq c; rw [oh_zl] at q; exact q
theorem oh_lc_lt0 {x : Int64} (c : lg_cmp x 0 < 0) : x.toInt < 0 := by have q := oh_lc_lt c; rw [oh_zl] at q; exact q
theorem oh_lc_nlt0 {x : Int64} (c : ¬ lg_cmp x 0 < 0) : x.toInt ≥ 0 := by have q := oh_lc_nlt c; rw [oh_zl] at q; exact q
theorem oh_lc_ge0 {x : Int64} (c : 0 ≤ lg_cmp x 0) : x.toInt ≥ 0 := by have q := oh_lc_ge c; rw [oh_zl] at q; exact q
theorem oh_lc_nge0 {x : Int64} (c : ¬ 0 ≤ lg_cmp x 0) : x.toInt < 0 := by have q := oh_lc_nge c; rw [oh_zl] at q; exact q
theorem oh_lc_gt0 {x : Int64} (c : 0 < lg_cmp x 0) : x.toInt > 0 := by have q := oh_lc_gt c; rw [oh_zl] at q; exact q
theorem oh_lc_ngt0 {x : Int64} (c : ¬ 0 < lg_cmp x 0) : x.toInt ≤ 0 := by have q := oh_lc_ngt c; rw [oh_zl] at q; exact q
theorem oh_lc_le0 {x : Int64} (c : lg_cmp x 0 ≤ 0) : x.toInt ≤ 0 := by have q := oh_lc_le c; rw [oh_zl] at q; exact q
theorem oh_lc_nle0 {x : Int64} (c : ¬ lg_cmp x 0 ≤ 0) : x.toInt > 0 := by have q := oh_lc_nle c; rw [oh_zl] at q; exact q
theorem oh_lc_ne0 {x : Int64} (c : ¬ lg_cmp x 0 = 0) : x.toInt ≠ 0 := by have q := oh_lc_ne c; rw [oh_zl] at q; exact q
theorem oh_lc_nne0 {x : Int64} (c : lg_cmp x 0 = 0) : x.toInt = 0 := by have q := oh_lc_nne c; rw [oh_zl] at q; exact q
theorem oh_q64 {ax ay bx bY : Int32} (ha : oh_inR ax ay) (hb : oh_inR bx bY) : ((ax - bx).toInt64 * (ax - bx).toInt64 + (ay - bY).toInt64 * (ay - bY).toInt64).toInt = oh_d2 (bx.toInt, bY.toInt) (ax.toInt, ay.toInt) := by
  obtain ⟨a1, a2, a3, a4⟩ := ha
  obtain ⟨b1, b2, b3, b4⟩ := hb
  have e1 : (ax - bx).toInt64.toInt = ax.toInt - bx.toInt := by rw [Int32.toInt_toInt64]; exact oh_sub (by omega) (by omega)
  have e3 : (ay - bY).toInt64.toInt = ay.toInt - bY.toInt := by rw [Int32.toInt_toInt64]; exact oh_sub (by omega) (by omega)
  have m1 := oh_mb (a := ax.toInt - bx.toInt) (b := ax.toInt - bx.toInt) (A := 32766) (B := 32766) (by omega) (by omega) (by omega) (by omega)
  have m2 := oh_mb (a := ay.toInt - bY.toInt) (b := ay.toInt - bY.toInt) (A := 32766) (B := 32766) (by omega) (by omega) (by omega) (by omega)
  have e5 : ((ax - bx).toInt64 * (ax - bx).toInt64).toInt = (ax.toInt - bx.toInt) * (ax.toInt - bx.toInt) := by rw [oh_mulL (by rw [e1]; omega) (by rw [e1]; omega), e1]
  have e6 : ((ay - bY).toInt64 * (ay - bY).toInt64).toInt = (ay.toInt - bY.toInt) * (ay.toInt - bY.toInt) := by rw [oh_mulL (by rw [e3]; omega) (by rw [e3]; omega), e3]
  rw [oh_addL (by rw [e5, e6]; omega) (by rw [e5, e6]; omega), e5, e6]
  rfl
theorem oh_t64i {ax ay bx bY cx cy : Int32} (ha : oh_inR ax ay) (hb : oh_inR bx bY) (hc : oh_inR cx cy) : ((bx.toInt64 - ax.toInt64) * (cy.toInt64 - ay.toInt64) - (bY.toInt64 - ay.toInt64) * (cx.toInt64 - ax.toInt64)).toInt = oh_cp (ax.toInt, ay.toInt) (bx.toInt, bY.toInt) (cx.toInt, cy.toInt) := by
  obtain ⟨a1, a2, a3, a4⟩ := ha
  obtain ⟨b1, b2, b3, b4⟩ := hb
  obtain ⟨c1, c2, c3, c4⟩ := hc
  exact oh_t64 (Int32.toInt_toInt64 _) (Int32.toInt_toInt64 _) (Int32.toInt_toInt64 _) (Int32.toInt_toInt64 _) (Int32.toInt_toInt64 _) (Int32.toInt_toInt64 _) a1 a2 a3 a4 b1 b2 b3 b4 c1 c2 c3 c4
def oh_bt (v a b : Int) : Prop := (a ≤ v ∧ v ≤ b) ∨ (b ≤ v ∧ v ≤ a)
theorem oh_bt_on {a b q : Int × Int} (h : oh_lx a b) (hz : oh_cp a b q = 0) : (¬ oh_lx q a ∧ ¬ oh_lx b q) ↔ (oh_bt q.1 a.1 b.1 ∧ oh_bt q.2 a.2 b.2) := by
  obtain ⟨ux, hux⟩ : ∃ u, u = b.1 - a.1 := ⟨_, rfl⟩
  obtain ⟨uy, huy⟩ : ∃ u, u = b.2 - a.2 := ⟨_, rfl⟩
  obtain ⟨zx, hzx⟩ : ∃ u, u = q.1 - a.1 := ⟨_, rfl⟩
  obtain ⟨zy, hzy⟩ : ∃ u, u = q.2 - a.2 := ⟨_, rfl⟩
  have e : ux * zy - uy * zx = 0 := by
    have : oh_cp a b q = ux * zy - uy * zx := by rw [hux, huy, hzx, hzy]; rfl
    omega
  unfold oh_lx at *
  unfold oh_bt
  by_cases g : 0 < ux
  · constructor
    · rintro ⟨h1, h2⟩
      refine ⟨by omega, ?_⟩
      have z0 : 0 ≤ zx := by omega
      have z1 : zx ≤ ux := by omega
      rcases oh_lg uy 0 with y | y
      · have p1 : 0 ≤ (-uy) * zx := Int.mul_nonneg (by omega) z0
        have p2 : 0 ≤ (-uy) * (ux - zx) := Int.mul_nonneg (by omega) (by omega)
        have q1 : ux * (-zy) = (-uy) * zx := by grind
        have q2 : ux * (zy - uy) = (-uy) * (ux - zx) := by grind
        have r1 : 0 ≤ -zy := by
          rcases oh_lg (-zy) 0 with w | w
          · have := oh_mnn g w; omega
          · exact w
        have r2 : 0 ≤ zy - uy := by
          rcases oh_lg (zy - uy) 0 with w | w
          · have := oh_mnn g w; omega
          · exact w
        omega
      · have p1 : 0 ≤ uy * zx := Int.mul_nonneg y z0
        have p2 : 0 ≤ uy * (ux - zx) := Int.mul_nonneg y (by omega)
        have q1 : ux * zy = uy * zx := by omega
        have q2 : ux * (uy - zy) = uy * (ux - zx) := by grind
        have r1 : 0 ≤ zy := by
          rcases oh_lg zy 0 with w | w
          · have := oh_mnn g w; omega
          · exact w
        have r2 : 0 ≤ uy - zy := by
          rcases oh_lg (uy - zy) 0 with w | w
          · have := oh_mnn g w; omega
          · exact w
        omega
    · rintro ⟨h1, h2⟩
      constructor
      · intro w
        have z0 : zx = 0 := by omega
        rw [z0, Int.mul_zero] at e
        rcases Int.mul_eq_zero.mp (show ux * zy = 0 by omega) with k | k <;> omega
      · intro w
        have z0 : zx = ux := by omega
        have e2 : ux * (zy - uy) = 0 := by rw [z0] at e; grind
        rcases Int.mul_eq_zero.mp e2 with k | k <;> omega
  · have u0 : ux = 0 := by omega
    have y0 : 0 < uy := by omega
    rw [u0, Int.zero_mul] at e
    have z0 : zx = 0 := by
      rcases Int.mul_eq_zero.mp (show uy * zx = 0 by omega) with k | k
      · omega
      · exact k
    omega
/-- on a hull without area, by the reference's words -/
theorem oh_on_bt {n : Nat} {P : Nat → Int × Int} {q : Int × Int} (hh : oh_hull n P) (h1 : 1 ≤ n) (h2 : n ≤ 2) : oh_on n P q ↔ (oh_cp (P 0) (P (n - 1)) q = 0 ∧ oh_bt q.1 (P 0).1 (P (n - 1)).1 ∧ oh_bt q.2 (P 0).2 (P (n - 1)).2) := by
  have es : oh_sd n P q 0 = oh_cp (P 0) (P (n - 1)) q := by
    unfold oh_sd oh_nx
    split
    · rw [show n - 1 = 0 + 1 by omega]
    · rw [show n - 1 = 0 by omega]
  unfold oh_on
  rw [es]
  rcases (show n = 1 ∨ n = 2 by omega) with e | e <;> subst e
  · show (_ ∧ ¬ oh_lx q (P 0) ∧ ¬ oh_lx (P 0) q) ↔ (_ ∧ oh_bt q.1 (P 0).1 (P 0).1 ∧ oh_bt q.2 (P 0).2 (P 0).2)
    have ez : oh_cp (P 0) (P (1 - 1)) q = 0 := oh_s3 _ _
    rw [ez]
    unfold oh_lx oh_bt
    omega
  · have hl := hh.2 1 (by omega) (by omega)
    constructor
    · rintro ⟨a, b, c⟩
      exact ⟨a, (oh_bt_on hl a).mp ⟨b, c⟩⟩
    · rintro ⟨a, b⟩
      exact ⟨a, (oh_bt_on hl a).mpr b⟩
def oh_Nx (G : Nat → Int × Int) (i v k : Nat) : Prop := oh_cp (G i) (G v) (G k) < 0 ∨ (oh_cp (G i) (G v) (G k) = 0 ∧ oh_d2 (G i) (G v) < oh_d2 (G i) (G k))
theorem oh_arL {i : Nat} {fx fy : Nat → Int32} {sum r : Int64} (hI : sum = Int64.ofInt (oh_ar (oh_pt fx fy) (i - 1))) (hr : r.toInt = oh_cp ((fx 0).toInt, (fy 0).toInt) ((fx i).toInt, (fy i).toInt) ((fx (i + 1)).toInt, (fy (i + 1)).toInt)) (h1 : 1 ≤ i) : sum + r = Int64.ofInt (oh_ar (oh_pt fx fy) (i + 1 - 1)) := by
  have e : r = Int64.ofInt (oh_cp (oh_pt fx fy 0) (oh_pt fx fy i) (oh_pt fx fy (i + 1))) := by
    rw [← Int64.ofInt_toInt r, hr]; rfl
  rw [hI, e, ← Int64.ofInt_add]
  congr 1
  rw [show i + 1 - 1 = (i - 1) + 1 by omega]
  show _ = oh_ar _ (i - 1) + _
  rw [show i - 1 + 1 = i by omega, show i - 1 + 2 = i + 1 by omega]
theorem oh_rc32 {x y u v t : Int32} (e : t = u * x + v * y) (h1 : oh_inR x y) (h2 : oh_inR u v) : t.toInt = x.toInt * u.toInt + y.toInt * v.toInt := by
  rw [e, oh_r32 h2 h1, Int.mul_comm, Int.mul_comm v.toInt]
theorem oh_diaL {n : Nat} {fx fy : Nat → Int32} {g : Int64} (hR : ∀ j, j < n → oh_inR (fx j) (fy j)) (h0 : 0 ≤ g.toInt) (h1 : ∀ a b, a < b → b < n → oh_d2 (oh_pt fx fy a) (oh_pt fx fy b) ≤ g.toInt) (h2 : g.toInt = 0 ∨ ∃ a b, a < b ∧ b < n ∧ g.toInt = oh_d2 (oh_pt fx fy a) (oh_pt fx fy b)) : oh_dia n (oh_pt fx fy) g.toInt32 := by
  have hb : g.toInt < 2147483648 := by
    rcases h2 with e | ⟨a, b, hab, hbn, e⟩
    · omega
    · obtain ⟨p1, p2, p3, p4⟩ := hR a (by omega)
      obtain ⟨q1, q2, q3, q4⟩ := hR b hbn
      have m1 := oh_mb (a := (fx b).toInt - (fx a).toInt) (b := (fx b).toInt - (fx a).toInt) (A := 32766) (B := 32766) (by omega) (by omega) (by omega) (by omega)
      have m2 := oh_mb (a := (fy b).toInt - (fy a).toInt) (b := (fy b).toInt - (fy a).toInt) (A := 32766) (B := 32766) (by omega) (by omega) (by omega) (by omega)
      rw [e]
      unfold oh_d2 oh_pt
      dsimp only
      omega
  have e : g.toInt32.toInt = g.toInt := by rw [Int64.toInt_toInt32]; exact oh_bm (by omega) hb
  unfold oh_dia
  rw [e]
  exact ⟨h0, h1, h2⟩
theorem oh_tanK {C : Nat → Prop} {i : Nat} {fo : Int32} (hI : (fo = -1 ∧ ∀ j, j < i → ¬ C j) ∨ (∃ j, j < i ∧ fo = nI j ∧ C j)) (h : ¬ C i) : (fo = -1 ∧ ∀ j, j < i + 1 → ¬ C j) ∨ (∃ j, j < i + 1 ∧ fo = nI j ∧ C j) := by
  rcases hI with ⟨e, a⟩ | ⟨j, h1, h2⟩
  · exact Or.inl ⟨e, lt_s a h⟩
  · exact Or.inr ⟨j, by omega, h2⟩
theorem oh_tanR {n : Nat} {P : Nat → Int × Int} {x y wh fo : Int32} (h3 : 3 ≤ n) (hq : oh_inR x y) (hout : ∃ j, j < n ∧ oh_sd n P (x.toInt, y.toInt) j < 0) (hwh : wh = 0 ∨ wh = 1)
    (hI : (fo = -1 ∧ ∀ j, j < n → ¬ ((wh = 0 ∧ oh_sd n P (x.toInt, y.toInt) j < 0 ∧ 0 ≤ oh_sd n P (x.toInt, y.toInt) (oh_pv n j)) ∨ (wh = 1 ∧ 0 ≤ oh_sd n P (x.toInt, y.toInt) j ∧ oh_sd n P (x.toInt, y.toInt) (oh_pv n j) < 0))) ∨ (∃ j, j < n ∧ fo = nI j ∧ ((wh = 0 ∧ oh_sd n P (x.toInt, y.toInt) j < 0 ∧ 0 ≤ oh_sd n P (x.toInt, y.toInt) (oh_pv n j)) ∨ (wh = 1 ∧ 0 ≤ oh_sd n P (x.toInt, y.toInt) j ∧ oh_sd n P (x.toInt, y.toInt) (oh_pv n j) < 0)))) : oh_tan n P x y wh fo := by
  have n01 : (0 : Int32) ≠ 1 := by decide
  refine Or.inl ⟨h3, hq, hout, ?_⟩
  rcases hwh with e | e <;> subst e
  · left
    refine ⟨rfl, ?_⟩
    rcases hI with ⟨e, a⟩ | ⟨j, h1, h2, h4⟩
    · exact Or.inr ⟨e, fun j hj w => a j hj (Or.inl ⟨rfl, w⟩)⟩
    · rcases h4 with w | w
      · exact Or.inl ⟨j, h1, h2, w.2⟩
      · exact absurd w.1 n01
  · right
    refine ⟨rfl, ?_⟩
    rcases hI with ⟨e, a⟩ | ⟨j, h1, h2, h4⟩
    · exact Or.inr ⟨e, fun j hj w => a j hj (Or.inr ⟨rfl, w⟩)⟩
    · rcases h4 with w | w
      · exact absurd w.1.symm n01
      · exact Or.inl ⟨j, h1, h2, w.2⟩
theorem oh_sdE1 {n i : Nat} {P : Nat → Int × Int} {q : Int × Int} (h : i + 1 = n) : oh_cp (P i) (P 0) q = oh_sd n P q i := by unfold oh_sd oh_nx; rw [if_neg (by omega)]
theorem oh_sdE2 {n i : Nat} {P : Nat → Int × Int} {q : Int × Int} (h : i + 1 < n) : oh_cp (P i) (P (i + 1)) q = oh_sd n P q i := by unfold oh_sd oh_nx; rw [if_pos h]
