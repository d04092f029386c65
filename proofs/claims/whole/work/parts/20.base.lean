/-! worlds of both sides; small rows of their own -/
abbrev oh_W (h a1 a2 a3 a4 : Nat) (cI : ClassId) (N n : Nat) (came : Int32) (fx fy rx ry : Nat → Int32) : va_W := [(h, .inr (0, [.int (nI N), .ref a1, .ref a2, .ref a3, .ref a4, .int (nI n), .int came])), (a1, .inl (cI, N, .inl fx)), (a2, .inl (cI, N, .inl fy)), (a3, .inl (cI, N, .inl rx)), (a4, .inl (cI, N, .inl ry))]
abbrev oh_M (h b1 b2 b3 b4 b5 : Nat) (cI : ClassId) (N n : Nat) (pts : Int32) (xs ys px py rd : Nat → Int32) : va_W := [(h, .inr (1, [.int (nI N), .int (nI n), .int pts, .ref b1, .ref b2, .ref b3, .ref b4, .ref b5])), (b1, .inl (cI, 66, .inl xs)), (b2, .inl (cI, 66, .inl ys)), (b3, .inl (cI, 66, .inl px)), (b4, .inl (cI, 66, .inl py)), (b5, .inl (cI, 67, .inl rd))]
def oh_pt (fx fy : Nat → Int32) (i : Nat) : Int × Int := ((fx i).toInt, (fy i).toInt)
def oh_inR (x y : Int32) : Prop := -16383 ≤ x.toInt ∧ x.toInt ≤ 16383 ∧ -16383 ≤ y.toInt ∧ y.toInt ≤ 16383
theorem oh_bl {av : List Value} {D : va_G} {cl : List vw_C} {ws : va_W} {tys : List (ClassId × FieldType)} : FrameBlind (va_Pc av (fun U => va_P D cl ws U.heap ∧ va_K D cl tys U)) := fun a U g mk q => ⟨q.1, q.2.1, va_K.moved (u := U) (U := U.calling g mk a) (Vm.Alike.refl U.vm) q.2.2⟩
theorem oh_bl0 {av : List Value} : FrameBlind (va_Pc av (fun _ => True)) := fun _ _ _ _ q => ⟨q.1, trivial⟩
theorem oh_blM {av : List Value} {D : va_G} {cl : List vw_C} {ws : va_W} {tys : List (ClassId × FieldType)} {sz : Nat} {B : Nat → Prop} : FrameBlind (va_Pc av (fun U => U.heap.size = sz ∧ va_P D cl ws U.heap ∧ va_K D cl tys U ∧ va_D B ws)) := fun a U g mk q => ⟨q.1, q.2.1, q.2.2.1, va_K.moved (u := U) (U := U.calling g mk a) (Vm.Alike.refl U.vm) q.2.2.2.1, q.2.2.2.2⟩
theorem oh_pre {s : State} {H : Heap} {D : va_G} {cl : List vw_C} {ws : va_W} {tys : List (ClassId × FieldType)} {a ci q0 : Nat} {q : vw_C} {fs : List Value} {As : List Value} (hK : va_K D cl tys s) (hP : va_P D cl ws H) (hc : cl[ci]? = some q) (he : ws[q0]? = some (a, .inr (ci, fs))) : PreV s H q.1 a (va_Pc (.ref a :: As) (fun U => va_P D cl ws U.heap ∧ va_K D cl tys U)) As :=
  ⟨oh_bl, va_recv hK hP hc he, fun U hU hW => ⟨rfl, by rw [hU]; exact hP, va_K.moved hW.alike hK⟩⟩
theorem oh_pre0 {s : State} {H : Heap} {As : List Value} : PreS s H (va_Pc As (fun _ => True)) As := ⟨oh_bl0, fun _ _ _ => ⟨rfl, trivial⟩⟩
theorem oh_preM {s : State} {H : Heap} {D : va_G} {cl : List vw_C} {wc : va_W} {tys : List (ClassId × FieldType)} {A : Nat → Prop} {a ci q0 : Nat} {q : vw_C} {fs : List Value} {As : List Value} (hK : va_K D cl tys s) (hP : va_P D cl wc H) (hD : va_D A wc) (hc : cl[ci]? = some q) (he : wc[q0]? = some (a, .inr (ci, fs))) : PreV s H q.1 a (va_Pc (.ref a :: As) (fun U => U.heap.size = H.size ∧ va_P D cl wc U.heap ∧ va_K D cl tys U ∧ va_D (fun _ => True) wc)) As :=
  ⟨oh_blM, va_recv hK hP hc he, fun U hU hW => ⟨rfl, by rw [hU], by rw [hU]; exact hP, va_K.moved hW.alike hK, hD.weaken (fun _ _ _ _ => trivial)⟩⟩
section
variable {p : Program} {l : Launch} {e : Env} {R : Room} {s : State} {m : MethodId} {args : Array Value} {below : List Frame} {meth : Method} {c : Code} {H : Heap} {locs : List Loc} {cells slots : Nat} {Q : State → Prop}
variable {cc : ByteArray} {pc : Nat} {ls : Array Slot} {rest : List Value} {D : va_G} {cl : List vw_C} {A : Nat → Prop} {a : Nat} {tys : List (ClassId × FieldType)} {ws : va_W} {H0 : Heap}
theorem oh_ald (hexec : p.tables.exec = Jvm.exec) (hb : c.code = cc) (hK : va_K D cl tys s) (hP : va_P D cl ws H) (q0 t0 : Nat) {cA : ClassId} {n : Nat} {f : Nat → Int32} (ha : ws[q0]? = some (a, .inl (cA, n, .inl f))) (ht : tys[t0]? = some (cA, .int)) {k : Nat} (hk : k < n) (hn : n < 2 ^ 31) (hdg : decode cc pc = .ok (.iaload, 1))
    (kk : W p l e R s m args below meth c H locs cells slots Q (F0 m (pc + 1) ls (.int (f k) :: rest))) : W p l e R s m args below meth c H locs cells slots Q (F0 m pc ls (.int (nI k) :: .ref a :: rest)) := by
  refine va_iald hexec hb hK hP q0 t0 ha ht (vp_in_nI hk hn) hdg ?_
  rw [nI_clamp (Nat.lt_trans hk hn)]
  exact kk
theorem oh_ast (hexec : p.tables.exec = Jvm.exec) (hb : c.code = cc) (hK : va_K D cl tys s) (hP : va_P D cl ws H) (hD : va_D A ws) (hS : va_S A H0 H locs) (q0 t0 : Nat) {cA : ClassId} {n : Nat} {f : Nat → Int32} (ha : ws[q0]? = some (a, .inl (cA, n, .inl f))) (ht : tys[t0]? = some (cA, .int)) {k : Nat} {x : Int32} (hk : k < n) (hn : n < 2 ^ 31) (hdg : decode cc pc = .ok (.iastore, 1))
    (kk : ∀ (H1 : Heap) (locs1 : List Loc), va_P D cl (ws.set q0 (a, .inl (cA, n, .inl (upd f k x)))) H1 → va_D A (ws.set q0 (a, .inl (cA, n, .inl (upd f k x)))) → va_S A H0 H1 locs1 → W p l e R s m args below meth c H1 locs1 cells slots Q (F0 m (pc + 1) ls rest)) : W p l e R s m args below meth c H locs cells slots Q (F0 m pc ls (.int x :: .int (nI k) :: .ref a :: rest)) := by
  refine va_iast hexec hb hK hP hD hS q0 t0 ha ht (vp_in_nI hk hn) hdg ?_
  rw [nI_clamp (Nat.lt_trans hk hn)]
  exact kk
end
theorem oh_bm {z : Int} (h1 : -2147483648 ≤ z) (h2 : z < 2147483648) : z.bmod (2 ^ 32) = z := by
  unfold Int.bmod; simp only []; omega
theorem oh_bmL {z : Int} (h1 : -9223372036854775808 ≤ z) (h2 : z < 9223372036854775808) : z.bmod (2 ^ 64) = z := by
  unfold Int.bmod; simp only []; omega
theorem oh_add {a b : Int32} (h1 : -2147483648 ≤ a.toInt + b.toInt) (h2 : a.toInt + b.toInt < 2147483648) : (a + b).toInt = a.toInt + b.toInt := by rw [Int32.toInt_add]; exact oh_bm h1 h2
theorem oh_sub {a b : Int32} (h1 : -2147483648 ≤ a.toInt - b.toInt) (h2 : a.toInt - b.toInt < 2147483648) : (a - b).toInt = a.toInt - b.toInt := by rw [Int32.toInt_sub]; exact oh_bm h1 h2
theorem oh_mul {a b : Int32} (h1 : -2147483648 ≤ a.toInt * b.toInt) (h2 : a.toInt * b.toInt < 2147483648) : (a * b).toInt = a.toInt * b.toInt := by rw [Int32.toInt_mul]; exact oh_bm h1 h2
theorem oh_addL {a b : Int64} (h1 : -9223372036854775808 ≤ a.toInt + b.toInt) (h2 : a.toInt + b.toInt < 9223372036854775808) : (a + b).toInt = a.toInt + b.toInt := by rw [Int64.toInt_add]; exact oh_bmL h1 h2
theorem oh_subL {a b : Int64} (h1 : -9223372036854775808 ≤ a.toInt - b.toInt) (h2 : a.toInt - b.toInt < 9223372036854775808) : (a - b).toInt = a.toInt - b.toInt := by rw [Int64.toInt_sub]; exact oh_bmL h1 h2
theorem oh_mulL {a b : Int64} (h1 : -9223372036854775808 ≤ a.toInt * b.toInt) (h2 : a.toInt * b.toInt < 9223372036854775808) : (a * b).toInt = a.toInt * b.toInt := by rw [Int64.toInt_mul]; exact oh_bmL h1 h2
theorem oh_mb {a b A B : Int} (h1 : -A ≤ a) (h2 : a ≤ A) (h3 : -B ≤ b) (h4 : b ≤ B) : -(A * B) ≤ a * b ∧ a * b ≤ A * B := by
  have e : (a * b).natAbs = a.natAbs * b.natAbs := Int.natAbs_mul a b
  have l : a.natAbs * b.natAbs ≤ A.natAbs * B.natAbs := Nat.mul_le_mul (by omega) (by omega)
  have f : ((A.natAbs * B.natAbs : Nat) : Int) = A * B := by rw [Int.natCast_mul, Int.natAbs_of_nonneg (by omega), Int.natAbs_of_nonneg (by omega)]
  have l2 : ((a * b).natAbs : Int) ≤ A * B := by rw [← f, e]; exact Int.ofNat_le.mpr l
  omega
/-- a turn in ints, in range -/
theorem oh_t32 {ax ay bx bY cx cy : Int32} (ha : oh_inR ax ay) (hb : oh_inR bx bY) (hc : oh_inR cx cy) : ((bx - ax) * (cy - ay) - (bY - ay) * (cx - ax)).toInt = oh_cp (ax.toInt, ay.toInt) (bx.toInt, bY.toInt) (cx.toInt, cy.toInt) := by
  obtain ⟨a1, a2, a3, a4⟩ := ha
  obtain ⟨b1, b2, b3, b4⟩ := hb
  obtain ⟨c1, c2, c3, c4⟩ := hc
  have e1 : (bx - ax).toInt = bx.toInt - ax.toInt := oh_sub (by omega) (by omega)
  have e2 : (cy - ay).toInt = cy.toInt - ay.toInt := oh_sub (by omega) (by omega)
  have e3 : (bY - ay).toInt = bY.toInt - ay.toInt := oh_sub (by omega) (by omega)
  have e4 : (cx - ax).toInt = cx.toInt - ax.toInt := oh_sub (by omega) (by omega)
  have m1 := oh_mb (a := bx.toInt - ax.toInt) (b := cy.toInt - ay.toInt) (A := 32766) (B := 32766) (by omega) (by omega) (by omega) (by omega)
  have m2 := oh_mb (a := bY.toInt - ay.toInt) (b := cx.toInt - ax.toInt) (A := 32766) (B := 32766) (by omega) (by omega) (by omega) (by omega)
  have e5 : ((bx - ax) * (cy - ay)).toInt = (bx.toInt - ax.toInt) * (cy.toInt - ay.toInt) := by rw [oh_mul (by rw [e1, e2]; omega) (by rw [e1, e2]; omega), e1, e2]
  have e6 : ((bY - ay) * (cx - ax)).toInt = (bY.toInt - ay.toInt) * (cx.toInt - ax.toInt) := by rw [oh_mul (by rw [e3, e4]; omega) (by rw [e3, e4]; omega), e3, e4]
  rw [oh_sub (by rw [e5, e6]; omega) (by rw [e5, e6]; omega), e5, e6]
  rfl
/-- a turn in longs, in range -/
theorem oh_t64 {ax ay bx bY cx cy : Int64} {A1 A2 B1 B2 C1 C2 : Int} (ea1 : ax.toInt = A1) (ea2 : ay.toInt = A2) (eb1 : bx.toInt = B1) (eb2 : bY.toInt = B2) (ec1 : cx.toInt = C1) (ec2 : cy.toInt = C2) (a1 : -16383 ≤ A1) (a2 : A1 ≤ 16383) (a3 : -16383 ≤ A2) (a4 : A2 ≤ 16383) (b1 : -16383 ≤ B1) (b2 : B1 ≤ 16383) (b3 : -16383 ≤ B2) (b4 : B2 ≤ 16383) (c1 : -16383 ≤ C1) (c2 : C1 ≤ 16383) (c3 : -16383 ≤ C2) (c4 : C2 ≤ 16383) : ((bx - ax) * (cy - ay) - (bY - ay) * (cx - ax)).toInt = oh_cp (A1, A2) (B1, B2) (C1, C2) := by
  subst ea1; subst ea2; subst eb1; subst eb2; subst ec1; subst ec2
  have e1 : (bx - ax).toInt = bx.toInt - ax.toInt := oh_subL (by omega) (by omega)
  have e2 : (cy - ay).toInt = cy.toInt - ay.toInt := oh_subL (by omega) (by omega)
  have e3 : (bY - ay).toInt = bY.toInt - ay.toInt := oh_subL (by omega) (by omega)
  have e4 : (cx - ax).toInt = cx.toInt - ax.toInt := oh_subL (by omega) (by omega)
  have m1 := oh_mb (a := bx.toInt - ax.toInt) (b := cy.toInt - ay.toInt) (A := 32766) (B := 32766) (by omega) (by omega) (by omega) (by omega)
  have m2 := oh_mb (a := bY.toInt - ay.toInt) (b := cx.toInt - ax.toInt) (A := 32766) (B := 32766) (by omega) (by omega) (by omega) (by omega)
  have e5 : ((bx - ax) * (cy - ay)).toInt = (bx.toInt - ax.toInt) * (cy.toInt - ay.toInt) := by rw [oh_mulL (by rw [e1, e2]; omega) (by rw [e1, e2]; omega), e1, e2]
  have e6 : ((bY - ay) * (cx - ax)).toInt = (bY.toInt - ay.toInt) * (cx.toInt - ax.toInt) := by rw [oh_mulL (by rw [e3, e4]; omega) (by rw [e3, e4]; omega), e3, e4]
  rw [oh_subL (by rw [e5, e6]; omega) (by rw [e5, e6]; omega), e5, e6]
  rfl
theorem oh_ltI {x y : Int32} (h : x < y) : x.toInt < y.toInt := Int32.lt_iff_toInt_lt.mp h
theorem oh_nltI {x y : Int32} (h : ¬ x < y) : y.toInt ≤ x.toInt := Int.not_lt.mp (fun q => h (Int32.lt_iff_toInt_lt.mpr q))
theorem oh_leI {x y : Int32} (h : x ≤ y) : x.toInt ≤ y.toInt := Int32.le_iff_toInt_le.mp h
theorem oh_nleI {x y : Int32} (h : ¬ x ≤ y) : y.toInt < x.toInt := Int.not_le.mp (fun q => h (Int32.le_iff_toInt_le.mpr q))
theorem oh_eqI {x y : Int32} (h : x = y) : x.toInt = y.toInt := congrArg Int32.toInt h
theorem oh_neI {x y : Int32} (h : ¬ x = y) : x.toInt ≠ y.toInt := fun q => h (Int32.toInt_inj.mp q)
theorem oh_z0 : (0 : Int32).toInt = 0 := by decide
theorem oh_ltI0 {x : Int32} (h : x < 0) : x.toInt < 0 := by have q := oh_ltI h; rw [oh_z0] at q; exact q
theorem oh_nltI0 {x : Int32} (h : ¬ x < 0) : 0 ≤ x.toInt := by have q := oh_nltI h; rw [oh_z0] at q; exact q
theorem oh_leI0 {x : Int32} (h : x ≤ 0) : x.toInt ≤ 0 := by have q := oh_leI h; rw [oh_z0] at q; exact q
theorem oh_nleI0 {x : Int32} (h : ¬ x ≤ 0) : 0 < x.toInt := by have q := oh_nleI h; rw [oh_z0] at q; exact q
theorem oh_ltI0r {x : Int32} (h : 0 < x) : 0 < x.toInt := by have q := oh_ltI h; rw [oh_z0] at q; exact q
theorem oh_nltI0r {x : Int32} (h : ¬ 0 < x) : x.toInt ≤ 0 := by have q := oh_nltI h; rw [oh_z0] at q; exact q
theorem oh_leI0r {x : Int32} (h : 0 ≤ x) : 0 ≤ x.toInt := by have q := oh_leI h; rw [oh_z0] at q; exact q
theorem oh_nleI0r {x : Int32} (h : ¬ 0 ≤ x) : x.toInt < 0 := by have q := oh_nleI h; rw [oh_z0] at q; exact q
theorem oh_eqI0 {x : Int32} (h : x = 0) : x.toInt = 0 := by have q := oh_eqI h; rw [oh_z0] at q; exact q
theorem oh_neI0 {x : Int32} (h : ¬ x = 0) : x.toInt ≠ 0 := by have q := oh_neI h; rw [oh_z0] at q; exact q
/-- x times u and y times v in ints, in range -/
theorem oh_r32 {x y u v : Int32} (h1 : oh_inR x y) (h2 : oh_inR u v) : (x * u + y * v).toInt = x.toInt * u.toInt + y.toInt * v.toInt := by
  obtain ⟨a1, a2, a3, a4⟩ := h1
  obtain ⟨b1, b2, b3, b4⟩ := h2
  have m1 := oh_mb (A := 16383) (B := 16383) a1 a2 b1 b2
  have m2 := oh_mb (A := 16383) (B := 16383) a3 a4 b3 b4
  have e1 : (x * u).toInt = x.toInt * u.toInt := oh_mul (by omega) (by omega)
  have e2 : (y * v).toInt = y.toInt * v.toInt := oh_mul (by omega) (by omega)
  rw [oh_add (by omega) (by omega), e1, e2]
theorem oh_q32 {ax ay bx bY : Int32} (ha : oh_inR ax ay) (hb : oh_inR bx bY) : ((ax - bx) * (ax - bx) + (ay - bY) * (ay - bY)).toInt = oh_d2 (bx.toInt, bY.toInt) (ax.toInt, ay.toInt) := by
  obtain ⟨a1, a2, a3, a4⟩ := ha
  obtain ⟨b1, b2, b3, b4⟩ := hb
  have e1 : (ax - bx).toInt = ax.toInt - bx.toInt := oh_sub (by omega) (by omega)
  have e3 : (ay - bY).toInt = ay.toInt - bY.toInt := oh_sub (by omega) (by omega)
  have m1 := oh_mb (a := ax.toInt - bx.toInt) (b := ax.toInt - bx.toInt) (A := 32766) (B := 32766) (by omega) (by omega) (by omega) (by omega)
  have m2 := oh_mb (a := ay.toInt - bY.toInt) (b := ay.toInt - bY.toInt) (A := 32766) (B := 32766) (by omega) (by omega) (by omega) (by omega)
  have e5 : ((ax - bx) * (ax - bx)).toInt = (ax.toInt - bx.toInt) * (ax.toInt - bx.toInt) := by rw [oh_mul (by rw [e1]; omega) (by rw [e1]; omega), e1]
  have e6 : ((ay - bY) * (ay - bY)).toInt = (ay.toInt - bY.toInt) * (ay.toInt - bY.toInt) := by rw [oh_mul (by rw [e3]; omega) (by rw [e3]; omega), e3]
  rw [oh_add (by rw [e5, e6]; omega) (by rw [e5, e6]; omega), e5, e6]
  rfl
