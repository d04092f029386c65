/-! what each question asks, as a relation between the corners and the answer -/
theorem oh_mx {m x y : Int32} (e : m = if x < y then y else x) : (x.toInt < y.toInt ∧ m = y) ∨ (y.toInt ≤ x.toInt ∧ m = x) := by
  by_cases h : x < y
  · rw [if_pos h] at e; exact Or.inl ⟨oh_ltI h, e⟩
  · rw [if_neg h] at e; exact Or.inr ⟨oh_nltI h, e⟩
def oh_on (n : Nat) (P : Nat → Int × Int) (q : Int × Int) : Prop := oh_sd n P q 0 = 0 ∧ ¬ oh_lx q (P 0) ∧ ¬ oh_lx (P (n - 1)) q
def oh_plL (n : Nat) (P : Nat → Int × Int) (q : Int × Int) (r : Int32) : Prop := (r = 1 ∧ oh_on n P q) ∨ (r = 0 ∧ ¬ oh_on n P q)
def oh_plR (n : Nat) (P : Nat → Int × Int) (q : Int × Int) (r : Int32) : Prop :=
  (r = 0 ∧ ∃ j, j < n ∧ oh_sd n P q j < 0) ∨ (r = 1 ∧ (∀ j, j < n → 0 ≤ oh_sd n P q j) ∧ ∃ j, j < n ∧ oh_sd n P q j = 0) ∨ (r = 2 ∧ ∀ j, j < n → 0 < oh_sd n P q j)
def oh_pl3 (n : Nat) (P : Nat → Int × Int) (q : Int × Int) (r : Int32) : Prop :=
  (n = 0 ∧ r = 0) ∨ (1 ≤ n ∧ n ≤ 2 ∧ oh_plL n P q r) ∨ (3 ≤ n ∧ oh_plR n P q r)
def oh_fs (n : Nat) (P : Nat → Int × Int) (q : Int × Int) (b : Int) (r : Int32) : Prop :=
  (∃ i, i < n ∧ r = nI i ∧ oh_sd n P q i < b ∧ b ≤ oh_sd n P q (oh_pv n i)) ∨ (r = -1 ∧ ∀ i, i < n → ¬ (oh_sd n P q i < b ∧ b ≤ oh_sd n P q (oh_pv n i)))
def oh_la (n : Nat) (P : Nat → Int × Int) (q : Int × Int) (b : Int) (r : Int32) : Prop :=
  (∃ i, i < n ∧ r = nI i ∧ b ≤ oh_sd n P q i ∧ oh_sd n P q (oh_pv n i) < b) ∨ (r = -1 ∧ ∀ i, i < n → ¬ (b ≤ oh_sd n P q i ∧ oh_sd n P q (oh_pv n i) < b))
def oh_ar (P : Nat → Int × Int) : Nat → Int
  | 0 => 0
  | k + 1 => oh_ar P k + oh_cp (P 0) (P (k + 1)) (P (k + 2))
def oh_rc (P : Nat → Int × Int) (x y : Int) (j : Nat) : Int := x * (P j).1 + y * (P j).2
def oh_far (n : Nat) (P : Nat → Int × Int) (x y : Int32) (r : Int32) : Prop :=
  ((n = 0 ∨ ¬ oh_inR x y) ∧ r = -1) ∨ (oh_inR x y ∧ ∃ b, b < n ∧ r = nI b ∧ (∀ j, j < n → oh_rc P x.toInt y.toInt j ≤ oh_rc P x.toInt y.toInt b) ∧ (∀ j, j < b → oh_rc P x.toInt y.toInt j < oh_rc P x.toInt y.toInt b))
def oh_dia (n : Nat) (P : Nat → Int × Int) (r : Int32) : Prop :=
  0 ≤ r.toInt ∧ (∀ a b, a < b → b < n → oh_d2 (P a) (P b) ≤ r.toInt) ∧ (r.toInt = 0 ∨ ∃ a b, a < b ∧ b < n ∧ r.toInt = oh_d2 (P a) (P b))
def oh_tan (n : Nat) (P : Nat → Int × Int) (x y wh : Int32) (r : Int32) : Prop :=
  (3 ≤ n ∧ oh_inR x y ∧ (∃ j, j < n ∧ oh_sd n P (x.toInt, y.toInt) j < 0) ∧ ((wh = 0 ∧ oh_fs n P (x.toInt, y.toInt) 0 r) ∨ (wh = 1 ∧ oh_la n P (x.toInt, y.toInt) 0 r))) ∨
  (r = -1 ∧ ¬ (3 ≤ n ∧ oh_inR x y ∧ (∃ j, j < n ∧ oh_sd n P (x.toInt, y.toInt) j < 0) ∧ (wh = 0 ∨ wh = 1)))
theorem oh_plR0 {n : Nat} {P : Nat → Int × Int} {q : Int × Int} {r : Int32} (h : oh_plR n P q r) : (r.toInt = 0 ↔ ∃ j, j < n ∧ oh_sd n P q j < 0) ∧ 0 ≤ r.toInt ∧ r.toInt ≤ 2 := by
  have z1 : (1 : Int32).toInt = 1 := by decide
  have z2 : (2 : Int32).toInt = 2 := by decide
  rcases h with ⟨e, g⟩ | ⟨e, g, -⟩ | ⟨e, g⟩ <;> subst e
  · exact ⟨⟨fun _ => g, fun _ => oh_z0⟩, by rw [oh_z0]; omega, by rw [oh_z0]; omega⟩
  · exact ⟨⟨fun q => by rw [z1] at q; omega, fun ⟨j, hj, hn⟩ => by have := g j hj; omega⟩, by omega, by omega⟩
  · exact ⟨⟨fun q => by rw [z2] at q; omega, fun ⟨j, hj, hn⟩ => by have := g j hj; omega⟩, by omega, by omega⟩
theorem oh_pl3R {n : Nat} {P : Nat → Int × Int} {q : Int × Int} {r : Int32} (hn : 3 ≤ n) (h : oh_pl3 n P q r) : oh_plR n P q r := by
  rcases h with ⟨e, -⟩ | ⟨-, e, -⟩ | ⟨-, g⟩
  · omega
  · omega
  · exact g
theorem oh_arS {n i : Nat} {fx fy : Nat → Int32} {sum r : Int32} (hI : sum = Int32.ofInt (oh_ar (oh_pt fx fy) (min (i - 1) (n - 2)))) (hr : r.toInt = oh_sd n (oh_pt fx fy) ((fx 0).toInt, (fy 0).toInt) i) (hi : i < n) (h1 : 1 ≤ i) : sum + r = Int32.ofInt (oh_ar (oh_pt fx fy) (min (i + 1 - 1) (n - 2))) := by
  have e : r = Int32.ofInt (oh_sd n (oh_pt fx fy) (oh_pt fx fy 0) i) := by
    rw [← Int32.ofInt_toInt r, hr]; rfl
  rw [hI, e, ← Int32.ofInt_add]
  congr 1
  unfold oh_sd oh_nx
  by_cases g : i + 1 < n
  · rw [if_pos g, show min (i + 1 - 1) (n - 2) = (i - 1) + 1 by omega, show min (i - 1) (n - 2) = i - 1 by omega]
    show _ = oh_ar _ (i - 1) + _
    rw [show i - 1 + 1 = i by omega, show i - 1 + 2 = i + 1 by omega, ← oh_cyc]
  · rw [if_neg g, show min (i + 1 - 1) (n - 2) = min (i - 1) (n - 2) by omega, oh_s2]
    omega
