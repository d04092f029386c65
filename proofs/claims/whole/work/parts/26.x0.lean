set_option maxHeartbeats 4000000 in
set_option maxRecDepth 100000 in
theorem k_X0_setCorner (l : Launch) (dC : Nat → ClassId) (dI : Nat → Nat → Nat) (cI : ClassId) (h a1 a2 a3 a4 N n : Nat) (came : Int32) (fx fy rx ry : Nat → Int32) (sz : Nat) (i : Nat) (x y : Int32) (hN : N ≤ 64) (hi : i < N) : Met l yX0_setCorner wsX0_setCorner ({ frames := 0, cells := 0, slots := 0, locals := 0 }) (va_Pc [.ref h, .int (nI i), .int x, .int y] (fun U => U.heap.size = sz ∧ va_P (dC, dI) vwCl [(h, .inr (0, [.int (nI N), .ref a1, .ref a2, .ref a3, .ref a4, .int (nI n), .int came])), (a1, .inl (cI, N, .inl fx)), (a2, .inl (cI, N, .inl fy)), (a3, .inl (cI, N, .inl rx)), (a4, .inl (cI, N, .inl ry))] U.heap ∧ va_K (dC, dI) vwCl [(cI, .int)] U ∧ va_D (fun _ => True) [(h, .inr (0, [.int (nI N), .ref a1, .ref a2, .ref a3, .ref a4, .int (nI n), .int came])), (a1, .inl (cI, N, .inl fx)), (a2, .inl (cI, N, .inl fy)), (a3, .inl (cI, N, .inl rx)), (a4, .inl (cI, N, .inl ry))])) (va_Qv (S := (Nat → Int32) × (Nat → Int32) × (Nat → Int32) × (Nat → Int32) × Nat × Int32) (fun u => u = (upd fx i x, upd fy i y, rx, ry, n, came)) (fun u t => va_P (dC, dI) vwCl [(h, .inr (0, [.int (nI N), .ref a1, .ref a2, .ref a3, .ref a4, .int (nI u.2.2.2.2.1), .int u.2.2.2.2.2])), (a1, .inl (cI, N, .inl u.1)), (a2, .inl (cI, N, .inl u.2.1)), (a3, .inl (cI, N, .inl u.2.2.1)), (a4, .inl (cI, N, .inl u.2.2.2.1))] t.heap ∧ va_K (dC, dI) vwCl [(cI, .int)] t ∧ va_D (va_A [(h, .inr (0, [.int (nI N), .ref a1, .ref a2, .ref a3, .ref a4, .int (nI n), .int came])), (a1, .inl (cI, N, .inl fx)), (a2, .inl (cI, N, .inl fy)), (a3, .inl (cI, N, .inl rx)), (a4, .inl (cI, N, .inl ry))] sz) [(h, .inr (0, [.int (nI N), .ref a1, .ref a2, .ref a3, .ref a4, .int (nI u.2.2.2.2.1), .int u.2.2.2.2.2])), (a1, .inl (cI, N, .inl u.1)), (a2, .inl (cI, N, .inl u.2.1)), (a3, .inl (cI, N, .inl u.2.2.1)), (a4, .inl (cI, N, .inl u.2.2.2.1))]) (va_A [(h, .inr (0, [.int (nI N), .ref a1, .ref a2, .ref a3, .ref a4, .int (nI n), .int came])), (a1, .inl (cI, N, .inl fx)), (a2, .inl (cI, N, .inl fy)), (a3, .inl (cI, N, .inl rx)), (a4, .inl (cI, N, .inl ry))] sz)) 0 0 (va_A [(h, .inr (0, [.int (nI N), .ref a1, .ref a2, .ref a3, .ref a4, .int (nI n), .int came])), (a1, .inl (cI, N, .inl fx)), (a2, .inl (cI, N, .inl fy)), (a3, .inl (cI, N, .inl rx)), (a4, .inl (cI, N, .inl ry))] sz) := by
  refine Met.ofW (cc := cX0_setCorner) (maxL := 4) (ret := none) (by decide) rfl ?_
  intro p e s m args below meth c s₁ B hml hv
  obtain ⟨rfl, hsz, hP, hK, hD0⟩ := hv
  have hx := B.exec
  have hb := B.bytes
  have hr := B.returns
  have hts := atoms_spec (ws := wsX0_setCorner) B.pre
  have hown : s.vm.findClass RX0 = some m.cls := findClass_of_methodNamed B.named
  have hlocks := B.notSynchronized
  have hin0 : ∀ w ∈ wsX00, w ∈ wsX0_setCorner := fun w h => List.mem_cons_of_mem _ (List.mem_append_right _ h)
  subst hsz
  have hD := hD0.self (sz := s.heap.size)
  generalize hAe : va_A [(h, .inr (0, [.int (nI N), .ref a1, .ref a2, .ref a3, .ref a4, .int (nI n), .int came])), (a1, .inl (cI, N, .inl fx)), (a2, .inl (cI, N, .inl fy)), (a3, .inl (cI, N, .inl rx)), (a4, .inl (cI, N, .inl ry))] s.heap.size = A at hD ⊢
  have hA : ∀ q : Nat, s.heap.size ≤ q → A q := fun q h => by rw [← hAe]; exact Or.inr h
  have hS : va_S A s.heap s.heap [] := va_S.rf
  have hl := lv_entry ([.ref h, .int (nI i), .int x, .int y]) (n := 4) (Nat.le_of_ble_eq_true rfl)
  rw [lg_entry_eq]
  generalize (lg_sl ([.ref h, .int (nI i), .int x, .int y]) ++ List.replicate (4 - (lg_sl ([.ref h, .int (nI i), .int x, .int y])).length) Slot.unset).toArray = ls at hl ⊢
  have hl : lv_has ls 4 [(0, .ref h), (1, .int (nI i)), (2, .int x), (3, .int y)] := hl
  suffices hgo : ∀ (H : Heap) (locs : List Loc), va_P (dC, dI) vwCl [(h, .inr (0, [.int (nI N), .ref a1, .ref a2, .ref a3, .ref a4, .int (nI n), .int came])), (a1, .inl (cI, N, .inl fx)), (a2, .inl (cI, N, .inl fy)), (a3, .inl (cI, N, .inl rx)), (a4, .inl (cI, N, .inl ry))] H → va_D A [(h, .inr (0, [.int (nI N), .ref a1, .ref a2, .ref a3, .ref a4, .int (nI n), .int came])), (a1, .inl (cI, N, .inl fx)), (a2, .inl (cI, N, .inl fy)), (a3, .inl (cI, N, .inl rx)), (a4, .inl (cI, N, .inl ry))] → va_S A s.heap H locs → W p l e (headSpec wsX0_setCorner ({ frames := 0, cells := 0, slots := 0, locals := 0 })).room s m ([.ref h, .int (nI i), .int x, .int y] : List Value).toArray below meth c H locs 0 0 (MQ below (va_Qv (S := (Nat → Int32) × (Nat → Int32) × (Nat → Int32) × (Nat → Int32) × Nat × Int32) (fun u => u = (upd fx i x, upd fy i y, rx, ry, n, came)) (fun u t => va_P (dC, dI) vwCl [(h, .inr (0, [.int (nI N), .ref a1, .ref a2, .ref a3, .ref a4, .int (nI u.2.2.2.2.1), .int u.2.2.2.2.2])), (a1, .inl (cI, N, .inl u.1)), (a2, .inl (cI, N, .inl u.2.1)), (a3, .inl (cI, N, .inl u.2.2.1)), (a4, .inl (cI, N, .inl u.2.2.2.1))] t.heap ∧ va_K (dC, dI) vwCl [(cI, .int)] t ∧ va_D A [(h, .inr (0, [.int (nI N), .ref a1, .ref a2, .ref a3, .ref a4, .int (nI u.2.2.2.2.1), .int u.2.2.2.2.2])), (a1, .inl (cI, N, .inl u.1)), (a2, .inl (cI, N, .inl u.2.1)), (a3, .inl (cI, N, .inl u.2.2.1)), (a4, .inl (cI, N, .inl u.2.2.2.1))]) A) ([.ref h, .int (nI i), .int x, .int y] : List Value).toArray s 0 0 A) (F0 m 0 ls []) from hgo s.heap [] hP hD hS
  clear hP hD hS hD0
  intro H locs hP hD hS
  refine lv_aload_n hx hb dX0_setCorner_0 rfl (lv_at hl 0 rfl) ?_
  refine va_get (D := (dC, dI)) (ci := 0) (v := .ref a1) (C := RX0) (T := TX0) (N := 7) hx hb hts hin0 hown hK hP 0 rfl rfl 1 (by decide) (hts (.fieldLink RX0 19 "OnlineHull" "cornerX" "[I") (by decide +kernel)) (fun _ h9 => h9) rfl dX0_setCorner_1 ?_
  refine lv_iload_n hx hb dX0_setCorner_4 rfl (lv_at hl 1 rfl) ?_
  refine lv_iload_n hx hb dX0_setCorner_5 rfl (lv_at hl 2 rfl) ?_
  refine oh_ast hx hb hK hP hD hS 1 0 rfl rfl (k := i) (by omega) (by omega) dX0_setCorner_6 (fun H locs hP hD hS => ?_)
  have hP : va_P (dC, dI) vwCl [(h, .inr (0, [.int (nI N), .ref a1, .ref a2, .ref a3, .ref a4, .int (nI n), .int came])), (a1, .inl (cI, N, .inl (upd fx i x))), (a2, .inl (cI, N, .inl fy)), (a3, .inl (cI, N, .inl rx)), (a4, .inl (cI, N, .inl ry))] H := hP
  have hD : va_D A [(h, .inr (0, [.int (nI N), .ref a1, .ref a2, .ref a3, .ref a4, .int (nI n), .int came])), (a1, .inl (cI, N, .inl (upd fx i x))), (a2, .inl (cI, N, .inl fy)), (a3, .inl (cI, N, .inl rx)), (a4, .inl (cI, N, .inl ry))] := hD
  refine lv_aload_n hx hb dX0_setCorner_7 rfl (lv_at hl 0 rfl) ?_
  refine va_get (D := (dC, dI)) (ci := 0) (v := .ref a2) (C := RX0) (T := TX0) (N := 7) hx hb hts hin0 hown hK hP 0 rfl rfl 2 (by decide) (hts (.fieldLink RX0 23 "OnlineHull" "cornerY" "[I") (by decide +kernel)) (fun _ h9 => h9) rfl dX0_setCorner_8 ?_
  refine lv_iload_n hx hb dX0_setCorner_11 rfl (lv_at hl 1 rfl) ?_
  refine lv_iload_n hx hb dX0_setCorner_12 rfl (lv_at hl 3 rfl) ?_
  refine oh_ast hx hb hK hP hD hS 2 0 rfl rfl (k := i) (by omega) (by omega) dX0_setCorner_13 (fun H locs hP hD hS => ?_)
  have hP : va_P (dC, dI) vwCl [(h, .inr (0, [.int (nI N), .ref a1, .ref a2, .ref a3, .ref a4, .int (nI n), .int came])), (a1, .inl (cI, N, .inl (upd fx i x))), (a2, .inl (cI, N, .inl (upd fy i y))), (a3, .inl (cI, N, .inl rx)), (a4, .inl (cI, N, .inl ry))] H := hP
  have hD : va_D A [(h, .inr (0, [.int (nI N), .ref a1, .ref a2, .ref a3, .ref a4, .int (nI n), .int came])), (a1, .inl (cI, N, .inl (upd fx i x))), (a2, .inl (cI, N, .inl (upd fy i y))), (a3, .inl (cI, N, .inl rx)), (a4, .inl (cI, N, .inl ry))] := hD
  exact W.vret hx hb hr (fun t ht hW => ⟨⟨(upd fx i x, upd fy i y, rx, ry, n, came), rfl, rfl, by rw [ht]; exact hP, va_K.moved hW.alike hK, hD⟩, hS.F ht⟩) hS.2.2 dX0_setCorner_14

set_option maxHeartbeats 4000000 in
set_option maxRecDepth 100000 in
theorem k_X0_fillRing (l : Launch) (dC : Nat → ClassId) (dI : Nat → Nat → Nat) (cI : ClassId) (h a1 a2 a3 a4 N n : Nat) (came : Int32) (fx fy rx ry : Nat → Int32) (sz : Nat) (L K : Nat) (x y : Int32) (hN : N ≤ 64) (hn : n ≤ N) (hL : L < n) (hK1 : K < N) (hK2 : K ≤ n) : Met l yX0_fillRing wsX0_fillRing ({ frames := 1, cells := 0, slots := 0, locals := 21 }) (va_Pc [.ref h, .int x, .int y, .int (nI L), .int (nI K)] (fun U => U.heap.size = sz ∧ va_P (dC, dI) vwCl [(h, .inr (0, [.int (nI N), .ref a1, .ref a2, .ref a3, .ref a4, .int (nI n), .int came])), (a1, .inl (cI, N, .inl fx)), (a2, .inl (cI, N, .inl fy)), (a3, .inl (cI, N, .inl rx)), (a4, .inl (cI, N, .inl ry))] U.heap ∧ va_K (dC, dI) vwCl [(cI, .int)] U ∧ va_D (fun _ => True) [(h, .inr (0, [.int (nI N), .ref a1, .ref a2, .ref a3, .ref a4, .int (nI n), .int came])), (a1, .inl (cI, N, .inl fx)), (a2, .inl (cI, N, .inl fy)), (a3, .inl (cI, N, .inl rx)), (a4, .inl (cI, N, .inl ry))])) (va_Qv (S := (Nat → Int32) × (Nat → Int32) × (Nat → Int32) × (Nat → Int32) × Nat × Int32) (fun u => ∃ rx9 ry9, u = (fx, fy, rx9, ry9, n, came) ∧ oh_rowR n L K fx fy x y rx9 ry9) (fun u t => va_P (dC, dI) vwCl [(h, .inr (0, [.int (nI N), .ref a1, .ref a2, .ref a3, .ref a4, .int (nI u.2.2.2.2.1), .int u.2.2.2.2.2])), (a1, .inl (cI, N, .inl u.1)), (a2, .inl (cI, N, .inl u.2.1)), (a3, .inl (cI, N, .inl u.2.2.1)), (a4, .inl (cI, N, .inl u.2.2.2.1))] t.heap ∧ va_K (dC, dI) vwCl [(cI, .int)] t ∧ va_D (va_A [(h, .inr (0, [.int (nI N), .ref a1, .ref a2, .ref a3, .ref a4, .int (nI n), .int came])), (a1, .inl (cI, N, .inl fx)), (a2, .inl (cI, N, .inl fy)), (a3, .inl (cI, N, .inl rx)), (a4, .inl (cI, N, .inl ry))] sz) [(h, .inr (0, [.int (nI N), .ref a1, .ref a2, .ref a3, .ref a4, .int (nI u.2.2.2.2.1), .int u.2.2.2.2.2])), (a1, .inl (cI, N, .inl u.1)), (a2, .inl (cI, N, .inl u.2.1)), (a3, .inl (cI, N, .inl u.2.2.1)), (a4, .inl (cI, N, .inl u.2.2.2.1))]) (va_A [(h, .inr (0, [.int (nI N), .ref a1, .ref a2, .ref a3, .ref a4, .int (nI n), .int came])), (a1, .inl (cI, N, .inl fx)), (a2, .inl (cI, N, .inl fy)), (a3, .inl (cI, N, .inl rx)), (a4, .inl (cI, N, .inl ry))] sz)) 0 0 (va_A [(h, .inr (0, [.int (nI N), .ref a1, .ref a2, .ref a3, .ref a4, .int (nI n), .int came])), (a1, .inl (cI, N, .inl fx)), (a2, .inl (cI, N, .inl fy)), (a3, .inl (cI, N, .inl rx)), (a4, .inl (cI, N, .inl ry))] sz) := by
  refine Met.ofW (cc := cX0_fillRing) (maxL := 7) (ret := none) (by decide) rfl ?_
  intro p e s m args below meth c s₁ B hml hv
  obtain ⟨rfl, hsz, hP, hK, hD0⟩ := hv
  have hx := B.exec
  have hb := B.bytes
  have hr := B.returns
  have hts := atoms_spec (ws := wsX0_fillRing) B.pre
  have hown : s.vm.findClass RX0 = some m.cls := findClass_of_methodNamed B.named
  have hlocks := B.notSynchronized
  have hin0 : ∀ w ∈ wsX00, w ∈ wsX0_fillRing := fun w h => List.mem_cons_of_mem _ (List.mem_append_right _ h)
  subst hsz
  have hD := hD0.self (sz := s.heap.size)
  generalize hAe : va_A [(h, .inr (0, [.int (nI N), .ref a1, .ref a2, .ref a3, .ref a4, .int (nI n), .int came])), (a1, .inl (cI, N, .inl fx)), (a2, .inl (cI, N, .inl fy)), (a3, .inl (cI, N, .inl rx)), (a4, .inl (cI, N, .inl ry))] s.heap.size = A at hD ⊢
  have hA : ∀ q : Nat, s.heap.size ≤ q → A q := fun q h => by rw [← hAe]; exact Or.inr h
  have hS : va_S A s.heap s.heap [] := va_S.rf
  have hl := lv_entry ([.ref h, .int x, .int y, .int (nI L), .int (nI K)]) (n := 7) (Nat.le_of_ble_eq_true rfl)
  rw [lg_entry_eq]
  generalize (lg_sl ([.ref h, .int x, .int y, .int (nI L), .int (nI K)]) ++ List.replicate (7 - (lg_sl ([.ref h, .int x, .int y, .int (nI L), .int (nI K)])).length) Slot.unset).toArray = ls at hl ⊢
  have hl : lv_has ls 7 [(0, .ref h), (1, .int x), (2, .int y), (3, .int (nI L)), (4, .int (nI K))] := hl
  suffices hgo : ∀ (H : Heap) (locs : List Loc), va_P (dC, dI) vwCl [(h, .inr (0, [.int (nI N), .ref a1, .ref a2, .ref a3, .ref a4, .int (nI n), .int came])), (a1, .inl (cI, N, .inl fx)), (a2, .inl (cI, N, .inl fy)), (a3, .inl (cI, N, .inl rx)), (a4, .inl (cI, N, .inl ry))] H → va_D A [(h, .inr (0, [.int (nI N), .ref a1, .ref a2, .ref a3, .ref a4, .int (nI n), .int came])), (a1, .inl (cI, N, .inl fx)), (a2, .inl (cI, N, .inl fy)), (a3, .inl (cI, N, .inl rx)), (a4, .inl (cI, N, .inl ry))] → va_S A s.heap H locs → W p l e (headSpec wsX0_fillRing ({ frames := 1, cells := 0, slots := 0, locals := 21 })).room s m ([.ref h, .int x, .int y, .int (nI L), .int (nI K)] : List Value).toArray below meth c H locs 0 0 (MQ below (va_Qv (S := (Nat → Int32) × (Nat → Int32) × (Nat → Int32) × (Nat → Int32) × Nat × Int32) (fun u => ∃ rx9 ry9, u = (fx, fy, rx9, ry9, n, came) ∧ oh_rowR n L K fx fy x y rx9 ry9) (fun u t => va_P (dC, dI) vwCl [(h, .inr (0, [.int (nI N), .ref a1, .ref a2, .ref a3, .ref a4, .int (nI u.2.2.2.2.1), .int u.2.2.2.2.2])), (a1, .inl (cI, N, .inl u.1)), (a2, .inl (cI, N, .inl u.2.1)), (a3, .inl (cI, N, .inl u.2.2.1)), (a4, .inl (cI, N, .inl u.2.2.2.1))] t.heap ∧ va_K (dC, dI) vwCl [(cI, .int)] t ∧ va_D A [(h, .inr (0, [.int (nI N), .ref a1, .ref a2, .ref a3, .ref a4, .int (nI u.2.2.2.2.1), .int u.2.2.2.2.2])), (a1, .inl (cI, N, .inl u.1)), (a2, .inl (cI, N, .inl u.2.1)), (a3, .inl (cI, N, .inl u.2.2.1)), (a4, .inl (cI, N, .inl u.2.2.2.1))]) A) ([.ref h, .int x, .int y, .int (nI L), .int (nI K)] : List Value).toArray s 0 0 A) (F0 m 0 ls []) from hgo s.heap [] hP hD hS
  clear hP hD hS hD0
  intro H locs hP hD hS
  refine lv_aload_n hx hb dX0_fillRing_0 rfl (lv_at hl 0 rfl) ?_
  refine va_get (D := (dC, dI)) (ci := 0) (v := .ref a3) (C := RX0) (T := TX0) (N := 7) hx hb hts hin0 hown hK hP 0 rfl rfl 3 (by decide) (hts (.fieldLink RX0 26 "OnlineHull" "ringX" "[I") (by decide +kernel)) (fun _ h9 => h9) rfl dX0_fillRing_1 ?_
  refine lv_iconst (v := nI 0) hx hb dX0_fillRing_4 (by decide) ?_
  refine lv_iload_n hx hb dX0_fillRing_5 rfl (lv_at hl 1 rfl) ?_
  refine oh_ast hx hb hK hP hD hS 3 0 rfl rfl (k := 0) (by omega) (by omega) dX0_fillRing_6 (fun H locs hP hD hS => ?_)
  have hP : va_P (dC, dI) vwCl [(h, .inr (0, [.int (nI N), .ref a1, .ref a2, .ref a3, .ref a4, .int (nI n), .int came])), (a1, .inl (cI, N, .inl fx)), (a2, .inl (cI, N, .inl fy)), (a3, .inl (cI, N, .inl (upd rx 0 x))), (a4, .inl (cI, N, .inl ry))] H := hP
  have hD : va_D A [(h, .inr (0, [.int (nI N), .ref a1, .ref a2, .ref a3, .ref a4, .int (nI n), .int came])), (a1, .inl (cI, N, .inl fx)), (a2, .inl (cI, N, .inl fy)), (a3, .inl (cI, N, .inl (upd rx 0 x))), (a4, .inl (cI, N, .inl ry))] := hD
  refine lv_aload_n hx hb dX0_fillRing_7 rfl (lv_at hl 0 rfl) ?_
  refine va_get (D := (dC, dI)) (ci := 0) (v := .ref a4) (C := RX0) (T := TX0) (N := 7) hx hb hts hin0 hown hK hP 0 rfl rfl 4 (by decide) (hts (.fieldLink RX0 29 "OnlineHull" "ringY" "[I") (by decide +kernel)) (fun _ h9 => h9) rfl dX0_fillRing_8 ?_
  refine lv_iconst (v := nI 0) hx hb dX0_fillRing_11 (by decide) ?_
  refine lv_iload_n hx hb dX0_fillRing_12 rfl (lv_at hl 2 rfl) ?_
  refine oh_ast hx hb hK hP hD hS 4 0 rfl rfl (k := 0) (by omega) (by omega) dX0_fillRing_13 (fun H locs hP hD hS => ?_)
  have hP : va_P (dC, dI) vwCl [(h, .inr (0, [.int (nI N), .ref a1, .ref a2, .ref a3, .ref a4, .int (nI n), .int came])), (a1, .inl (cI, N, .inl fx)), (a2, .inl (cI, N, .inl fy)), (a3, .inl (cI, N, .inl (upd rx 0 x))), (a4, .inl (cI, N, .inl (upd ry 0 y)))] H := hP
  have hD : va_D A [(h, .inr (0, [.int (nI N), .ref a1, .ref a2, .ref a3, .ref a4, .int (nI n), .int came])), (a1, .inl (cI, N, .inl fx)), (a2, .inl (cI, N, .inl fy)), (a3, .inl (cI, N, .inl (upd rx 0 x))), (a4, .inl (cI, N, .inl (upd ry 0 y)))] := hD
  refine lv_iload_n hx hb dX0_fillRing_14 rfl (lv_at hl 3 rfl) ?_
  refine lv_istore (lv' := [(5, .int (nI L)), (0, .ref h), (1, .int x), (2, .int y), (3, .int (nI L)), (4, .int (nI K))]) hx hb dX0_fillRing_15 hl (by decide) rfl (fun ls hl => ?_)
  refine lv_iconst (v := nI 1) hx hb dX0_fillRing_17 (by decide) ?_
  refine lv_istore (lv' := [(6, .int (nI 1)), (5, .int (nI L)), (0, .ref h), (1, .int x), (2, .int y), (3, .int (nI L)), (4, .int (nI K))]) hx hb dX0_fillRing_18 hl (by decide) rfl (fun ls hl => ?_)
  have loop : ∀ (k_loop : Nat) (i : Nat) (c9 : Nat) (rx9 : Nat → Int32) (ry9 : Nat → Int32), (1 ≤ i) → (i ≤ K + 1) → (K + 2 ≤ i + k_loop) → (c9 = oh_rot n L (i - 1)) → (oh_rowR n L (i - 1) fx fy x y rx9 ry9) → ∀ (H : Heap) (locs : List Loc), va_P (dC, dI) vwCl [(h, .inr (0, [.int (nI N), .ref a1, .ref a2, .ref a3, .ref a4, .int (nI n), .int came])), (a1, .inl (cI, N, .inl fx)), (a2, .inl (cI, N, .inl fy)), (a3, .inl (cI, N, .inl rx9)), (a4, .inl (cI, N, .inl ry9))] H → va_D A [(h, .inr (0, [.int (nI N), .ref a1, .ref a2, .ref a3, .ref a4, .int (nI n), .int came])), (a1, .inl (cI, N, .inl fx)), (a2, .inl (cI, N, .inl fy)), (a3, .inl (cI, N, .inl rx9)), (a4, .inl (cI, N, .inl ry9))] → va_S A s.heap H locs → ∀ (ls : Array Slot), lv_has ls 7 [(0, .ref h), (1, .int x), (2, .int y), (3, .int (nI L)), (4, .int (nI K)), (5, .int (nI c9)), (6, .int (nI i))] → W p l e (headSpec wsX0_fillRing ({ frames := 1, cells := 0, slots := 0, locals := 21 })).room s m ([.ref h, .int x, .int y, .int (nI L), .int (nI K)] : List Value).toArray below meth c H locs 0 0 (MQ below (va_Qv (S := (Nat → Int32) × (Nat → Int32) × (Nat → Int32) × (Nat → Int32) × Nat × Int32) (fun u => ∃ rx9 ry9, u = (fx, fy, rx9, ry9, n, came) ∧ oh_rowR n L K fx fy x y rx9 ry9) (fun u t => va_P (dC, dI) vwCl [(h, .inr (0, [.int (nI N), .ref a1, .ref a2, .ref a3, .ref a4, .int (nI u.2.2.2.2.1), .int u.2.2.2.2.2])), (a1, .inl (cI, N, .inl u.1)), (a2, .inl (cI, N, .inl u.2.1)), (a3, .inl (cI, N, .inl u.2.2.1)), (a4, .inl (cI, N, .inl u.2.2.2.1))] t.heap ∧ va_K (dC, dI) vwCl [(cI, .int)] t ∧ va_D A [(h, .inr (0, [.int (nI N), .ref a1, .ref a2, .ref a3, .ref a4, .int (nI u.2.2.2.2.1), .int u.2.2.2.2.2])), (a1, .inl (cI, N, .inl u.1)), (a2, .inl (cI, N, .inl u.2.1)), (a3, .inl (cI, N, .inl u.2.2.1)), (a4, .inl (cI, N, .inl u.2.2.2.1))]) A) ([.ref h, .int x, .int y, .int (nI L), .int (nI K)] : List Value).toArray s 0 0 A) (F0 m 20 ls []) := by
    clear hP hD hS
    clear hl
    intro k_loop
    induction k_loop with
    | zero =>
      intro i c9 rx9 ry9 hi1 hi hk hc9 hI
      exfalso; omega
    | succ k_loop ih_loop =>
      intro i c9 rx9 ry9 hi1 hi hk hc9 hI H locs hP hD hS ls hl
      have hro : c9 < n ∨ K < i := by by_cases g : i ≤ K; exact Or.inl (by rw [hc9]; exact oh_rot_lt hL (by omega)); exact Or.inr (by omega)
      refine lv_iload hx hb dX0_fillRing_20 (lv_at hl 6 rfl) ?_
      refine lv_iload hx hb dX0_fillRing_22 (lv_at hl 4 rfl) ?_
      refine lv_icmp_gt (tgt := 69) hx hb dX0_fillRing_24 (by decide) (fun c_24 => ?_) (fun c_24 => ?_)
      · have g_24 : K < i := (nI_ltI (a := K) (b := i) (by omega) (by omega)).mp c_24
        exact W.vret hx hb hr (fun t ht hW => ⟨⟨(fx, fy, rx9, ry9, n, came), rfl, ⟨rx9, ry9, rfl, by rw [show K = i - 1 by omega]; exact hI⟩, by rw [ht]; exact hP, va_K.moved hW.alike hK, hD⟩, hS.F ht⟩) hS.2.2 dX0_fillRing_69
      · have g_24 : ¬ K < i := fun q => c_24 ((nI_ltI (a := K) (b := i) (by omega) (by omega)).mpr q)
        refine lv_aload_n hx hb dX0_fillRing_27 rfl (lv_at hl 0 rfl) ?_
        refine va_get (D := (dC, dI)) (ci := 0) (v := .ref a3) (C := RX0) (T := TX0) (N := 7) hx hb hts hin0 hown hK hP 0 rfl rfl 3 (by decide) (hts (.fieldLink RX0 26 "OnlineHull" "ringX" "[I") (by decide +kernel)) (fun _ h9 => h9) rfl dX0_fillRing_28 ?_
        refine lv_iload hx hb dX0_fillRing_31 (lv_at hl 6 rfl) ?_
        refine lv_aload_n hx hb dX0_fillRing_33 rfl (lv_at hl 0 rfl) ?_
        refine va_get (D := (dC, dI)) (ci := 0) (v := .ref a1) (C := RX0) (T := TX0) (N := 7) hx hb hts hin0 hown hK hP 0 rfl rfl 1 (by decide) (hts (.fieldLink RX0 19 "OnlineHull" "cornerX" "[I") (by decide +kernel)) (fun _ h9 => h9) rfl dX0_fillRing_34 ?_
        refine lv_iload hx hb dX0_fillRing_37 (lv_at hl 5 rfl) ?_
        refine oh_ald hx hb hK hP 1 0 rfl rfl (k := c9) (by omega) (by omega) dX0_fillRing_39 ?_
        refine oh_ast hx hb hK hP hD hS 3 0 rfl rfl (k := i) (by omega) (by omega) dX0_fillRing_40 (fun H locs hP hD hS => ?_)
        have hP : va_P (dC, dI) vwCl [(h, .inr (0, [.int (nI N), .ref a1, .ref a2, .ref a3, .ref a4, .int (nI n), .int came])), (a1, .inl (cI, N, .inl fx)), (a2, .inl (cI, N, .inl fy)), (a3, .inl (cI, N, .inl (upd rx9 i (fx c9)))), (a4, .inl (cI, N, .inl ry9))] H := hP
        have hD : va_D A [(h, .inr (0, [.int (nI N), .ref a1, .ref a2, .ref a3, .ref a4, .int (nI n), .int came])), (a1, .inl (cI, N, .inl fx)), (a2, .inl (cI, N, .inl fy)), (a3, .inl (cI, N, .inl (upd rx9 i (fx c9)))), (a4, .inl (cI, N, .inl ry9))] := hD
        refine lv_aload_n hx hb dX0_fillRing_41 rfl (lv_at hl 0 rfl) ?_
        refine va_get (D := (dC, dI)) (ci := 0) (v := .ref a4) (C := RX0) (T := TX0) (N := 7) hx hb hts hin0 hown hK hP 0 rfl rfl 4 (by decide) (hts (.fieldLink RX0 29 "OnlineHull" "ringY" "[I") (by decide +kernel)) (fun _ h9 => h9) rfl dX0_fillRing_42 ?_
        refine lv_iload hx hb dX0_fillRing_45 (lv_at hl 6 rfl) ?_
        refine lv_aload_n hx hb dX0_fillRing_47 rfl (lv_at hl 0 rfl) ?_
        refine va_get (D := (dC, dI)) (ci := 0) (v := .ref a2) (C := RX0) (T := TX0) (N := 7) hx hb hts hin0 hown hK hP 0 rfl rfl 2 (by decide) (hts (.fieldLink RX0 23 "OnlineHull" "cornerY" "[I") (by decide +kernel)) (fun _ h9 => h9) rfl dX0_fillRing_48 ?_
        refine lv_iload hx hb dX0_fillRing_51 (lv_at hl 5 rfl) ?_
        refine oh_ald hx hb hK hP 2 0 rfl rfl (k := c9) (by omega) (by omega) dX0_fillRing_53 ?_
        refine oh_ast hx hb hK hP hD hS 4 0 rfl rfl (k := i) (by omega) (by omega) dX0_fillRing_54 (fun H locs hP hD hS => ?_)
        have hP : va_P (dC, dI) vwCl [(h, .inr (0, [.int (nI N), .ref a1, .ref a2, .ref a3, .ref a4, .int (nI n), .int came])), (a1, .inl (cI, N, .inl fx)), (a2, .inl (cI, N, .inl fy)), (a3, .inl (cI, N, .inl (upd rx9 i (fx c9)))), (a4, .inl (cI, N, .inl (upd ry9 i (fy c9))))] H := hP
        have hD : va_D A [(h, .inr (0, [.int (nI N), .ref a1, .ref a2, .ref a3, .ref a4, .int (nI n), .int came])), (a1, .inl (cI, N, .inl fx)), (a2, .inl (cI, N, .inl fy)), (a3, .inl (cI, N, .inl (upd rx9 i (fx c9)))), (a4, .inl (cI, N, .inl (upd ry9 i (fy c9))))] := hD
        refine lv_aload_n hx hb dX0_fillRing_55 rfl (lv_at hl 0 rfl) ?_
        refine lv_iload hx hb dX0_fillRing_56 (lv_at hl 5 rfl) ?_
        refine vp_callSi (va_Run.run (va_runV (As := [.int (nI c9)]) (rest := []) ⟨hx, hb, hml, hown, hts⟩ (k_X0_next l dC dI cI h a1 a2 a3 a4 N n came fx fy (upd rx9 i (fx c9)) (upd ry9 i (fy c9)) c9 hN hn (by omega)) (cwV 1 hts gX0_fillRing_X0_next rfl rfl rfl (by decide +kernel) ⟨Nat.le_of_ble_eq_true rfl, Nat.le_of_ble_eq_true rfl⟩) (oh_pre (ci := 0) (q0 := 0) hK hP rfl rfl) rfl rfl hl.1 rfl (lv_room (Nat.le_of_ble_eq_true rfl)) dX0_fillRing_58 ⟨Nat.zero_le _, Nat.zero_le _⟩)) (fun r_58 hr_58 => ?_)
        subst hr_58
        refine lv_istore (lv' := [(5, .int (nI (oh_nx n c9))), (0, .ref h), (1, .int x), (2, .int y), (3, .int (nI L)), (4, .int (nI K)), (6, .int (nI i))]) hx hb dX0_fillRing_61 hl (by decide) rfl (fun ls hl => ?_)
        refine lv_iinc (v := nI (i + 1)) (lv' := [(6, .int (nI (i + 1))), (5, .int (nI (oh_nx n c9))), (0, .ref h), (1, .int x), (2, .int y), (3, .int (nI L)), (4, .int (nI K))]) hx hb dX0_fillRing_63 hl (k := 6) rfl (nI_1 i) (by decide) rfl (fun ls hl => ?_)
        refine lv_goto (tgt := 20) hx hb dX0_fillRing_66 (by decide) ?_
        exact ih_loop (i + 1) (oh_nx n c9) (upd rx9 i (fx c9)) (upd ry9 i (fy c9)) (by omega) (by omega) (by omega) (by rw [hc9, oh_rot_nx' hL (by omega)]; exact congrArg _ (by omega)) (oh_rowU hi1 hI hc9) _ _ hP hD hS ls (lv_sub hl [2, 3, 4, 5, 6, 1, 0] rfl)
  exact loop (K + 2) 1 L (upd rx 0 x) (upd ry 0 y) (by omega) (by omega) (by omega) ((oh_rot0 hL).symm) (⟨pk_us, pk_us, fun t ht => by omega⟩) _ _ hP hD hS ls (lv_sub hl [2, 3, 4, 5, 6, 1, 0] rfl)

set_option maxHeartbeats 4000000 in
set_option maxRecDepth 100000 in
theorem k_X0_takeRing (l : Launch) (dC : Nat → ClassId) (dI : Nat → Nat → Nat) (cI : ClassId) (h a1 a2 a3 a4 N n : Nat) (came : Int32) (fx fy rx ry : Nat → Int32) (sz : Nat) (hN : N ≤ 64) (hn : n ≤ N) (h0 : 0 < n) : Met l yX0_takeRing wsX0_takeRing ({ frames := 2, cells := 0, slots := 0, locals := 45 }) (va_Pc [.ref h] (fun U => U.heap.size = sz ∧ va_P (dC, dI) vwCl [(h, .inr (0, [.int (nI N), .ref a1, .ref a2, .ref a3, .ref a4, .int (nI n), .int came])), (a1, .inl (cI, N, .inl fx)), (a2, .inl (cI, N, .inl fy)), (a3, .inl (cI, N, .inl rx)), (a4, .inl (cI, N, .inl ry))] U.heap ∧ va_K (dC, dI) vwCl [(cI, .int)] U ∧ va_D (fun _ => True) [(h, .inr (0, [.int (nI N), .ref a1, .ref a2, .ref a3, .ref a4, .int (nI n), .int came])), (a1, .inl (cI, N, .inl fx)), (a2, .inl (cI, N, .inl fy)), (a3, .inl (cI, N, .inl rx)), (a4, .inl (cI, N, .inl ry))])) (va_Qv (S := (Nat → Int32) × (Nat → Int32) × (Nat → Int32) × (Nat → Int32) × Nat × Int32) (fun u => ∃ b fx9 fy9, u = (fx9, fy9, rx, ry, n, came) ∧ b < n ∧ (∀ j, j < n → ¬ oh_lx (oh_pt rx ry j) (oh_pt rx ry b)) ∧ ∀ t, t < n → fx9 t = rx (oh_rot n b t) ∧ fy9 t = ry (oh_rot n b t)) (fun u t => va_P (dC, dI) vwCl [(h, .inr (0, [.int (nI N), .ref a1, .ref a2, .ref a3, .ref a4, .int (nI u.2.2.2.2.1), .int u.2.2.2.2.2])), (a1, .inl (cI, N, .inl u.1)), (a2, .inl (cI, N, .inl u.2.1)), (a3, .inl (cI, N, .inl u.2.2.1)), (a4, .inl (cI, N, .inl u.2.2.2.1))] t.heap ∧ va_K (dC, dI) vwCl [(cI, .int)] t ∧ va_D (va_A [(h, .inr (0, [.int (nI N), .ref a1, .ref a2, .ref a3, .ref a4, .int (nI n), .int came])), (a1, .inl (cI, N, .inl fx)), (a2, .inl (cI, N, .inl fy)), (a3, .inl (cI, N, .inl rx)), (a4, .inl (cI, N, .inl ry))] sz) [(h, .inr (0, [.int (nI N), .ref a1, .ref a2, .ref a3, .ref a4, .int (nI u.2.2.2.2.1), .int u.2.2.2.2.2])), (a1, .inl (cI, N, .inl u.1)), (a2, .inl (cI, N, .inl u.2.1)), (a3, .inl (cI, N, .inl u.2.2.1)), (a4, .inl (cI, N, .inl u.2.2.2.1))]) (va_A [(h, .inr (0, [.int (nI N), .ref a1, .ref a2, .ref a3, .ref a4, .int (nI n), .int came])), (a1, .inl (cI, N, .inl fx)), (a2, .inl (cI, N, .inl fy)), (a3, .inl (cI, N, .inl rx)), (a4, .inl (cI, N, .inl ry))] sz)) 0 0 (va_A [(h, .inr (0, [.int (nI N), .ref a1, .ref a2, .ref a3, .ref a4, .int (nI n), .int came])), (a1, .inl (cI, N, .inl fx)), (a2, .inl (cI, N, .inl fy)), (a3, .inl (cI, N, .inl rx)), (a4, .inl (cI, N, .inl ry))] sz) := by
  refine Met.ofW (cc := cX0_takeRing) (maxL := 3) (ret := none) (by decide) rfl ?_
  intro p e s m args below meth c s₁ B hml hv
  obtain ⟨rfl, hsz, hP, hK, hD0⟩ := hv
  have hx := B.exec
  have hb := B.bytes
  have hr := B.returns
  have hts := atoms_spec (ws := wsX0_takeRing) B.pre
  have hown : s.vm.findClass RX0 = some m.cls := findClass_of_methodNamed B.named
  have hlocks := B.notSynchronized
  have hin0 : ∀ w ∈ wsX00, w ∈ wsX0_takeRing := fun w h => List.mem_cons_of_mem _ (List.mem_append_right _ h)
  subst hsz
  have hD := hD0.self (sz := s.heap.size)
  generalize hAe : va_A [(h, .inr (0, [.int (nI N), .ref a1, .ref a2, .ref a3, .ref a4, .int (nI n), .int came])), (a1, .inl (cI, N, .inl fx)), (a2, .inl (cI, N, .inl fy)), (a3, .inl (cI, N, .inl rx)), (a4, .inl (cI, N, .inl ry))] s.heap.size = A at hD ⊢
  have hA : ∀ q : Nat, s.heap.size ≤ q → A q := fun q h => by rw [← hAe]; exact Or.inr h
  have hS : va_S A s.heap s.heap [] := va_S.rf
  have hl := lv_entry ([.ref h]) (n := 3) (Nat.le_of_ble_eq_true rfl)
  rw [lg_entry_eq]
  generalize (lg_sl ([.ref h]) ++ List.replicate (3 - (lg_sl ([.ref h])).length) Slot.unset).toArray = ls at hl ⊢
  have hl : lv_has ls 3 [(0, .ref h)] := hl
  suffices hgo : ∀ (H : Heap) (locs : List Loc), va_P (dC, dI) vwCl [(h, .inr (0, [.int (nI N), .ref a1, .ref a2, .ref a3, .ref a4, .int (nI n), .int came])), (a1, .inl (cI, N, .inl fx)), (a2, .inl (cI, N, .inl fy)), (a3, .inl (cI, N, .inl rx)), (a4, .inl (cI, N, .inl ry))] H → va_D A [(h, .inr (0, [.int (nI N), .ref a1, .ref a2, .ref a3, .ref a4, .int (nI n), .int came])), (a1, .inl (cI, N, .inl fx)), (a2, .inl (cI, N, .inl fy)), (a3, .inl (cI, N, .inl rx)), (a4, .inl (cI, N, .inl ry))] → va_S A s.heap H locs → W p l e (headSpec wsX0_takeRing ({ frames := 2, cells := 0, slots := 0, locals := 45 })).room s m ([.ref h] : List Value).toArray below meth c H locs 0 0 (MQ below (va_Qv (S := (Nat → Int32) × (Nat → Int32) × (Nat → Int32) × (Nat → Int32) × Nat × Int32) (fun u => ∃ b fx9 fy9, u = (fx9, fy9, rx, ry, n, came) ∧ b < n ∧ (∀ j, j < n → ¬ oh_lx (oh_pt rx ry j) (oh_pt rx ry b)) ∧ ∀ t, t < n → fx9 t = rx (oh_rot n b t) ∧ fy9 t = ry (oh_rot n b t)) (fun u t => va_P (dC, dI) vwCl [(h, .inr (0, [.int (nI N), .ref a1, .ref a2, .ref a3, .ref a4, .int (nI u.2.2.2.2.1), .int u.2.2.2.2.2])), (a1, .inl (cI, N, .inl u.1)), (a2, .inl (cI, N, .inl u.2.1)), (a3, .inl (cI, N, .inl u.2.2.1)), (a4, .inl (cI, N, .inl u.2.2.2.1))] t.heap ∧ va_K (dC, dI) vwCl [(cI, .int)] t ∧ va_D A [(h, .inr (0, [.int (nI N), .ref a1, .ref a2, .ref a3, .ref a4, .int (nI u.2.2.2.2.1), .int u.2.2.2.2.2])), (a1, .inl (cI, N, .inl u.1)), (a2, .inl (cI, N, .inl u.2.1)), (a3, .inl (cI, N, .inl u.2.2.1)), (a4, .inl (cI, N, .inl u.2.2.2.1))]) A) ([.ref h] : List Value).toArray s 0 0 A) (F0 m 0 ls []) from hgo s.heap [] hP hD hS
  clear hP hD hS hD0
  intro H locs hP hD hS
  refine lv_aload_n hx hb dX0_takeRing_0 rfl (lv_at hl 0 rfl) ?_
  refine vp_callSi (va_Run.run (va_runV (As := []) (rest := []) ⟨hx, hb, hml, hown, hts⟩ (k_X0_leastOfRing l dC dI cI h a1 a2 a3 a4 N n came fx fy rx ry hN hn (by omega)) (cwV 0 hts gX0_takeRing_X0_leastOfRing rfl rfl rfl (by decide +kernel) ⟨Nat.le_of_ble_eq_true rfl, Nat.le_of_ble_eq_true rfl⟩) (oh_pre (ci := 0) (q0 := 0) hK hP rfl rfl) rfl rfl hl.1 rfl (lv_room (Nat.le_of_ble_eq_true rfl)) dX0_takeRing_1 ⟨Nat.zero_le _, Nat.zero_le _⟩)) (fun r_1 hr_1 => ?_)
  obtain ⟨b, hb9, rfl, hmin⟩ := hr_1
  refine lv_istore_n (lv' := [(1, .int (nI b)), (0, .ref h)]) hx hb dX0_takeRing_4 rfl hl (by decide) rfl (fun ls hl => ?_)
  refine lv_iconst (v := nI 0) hx hb dX0_takeRing_5 (by decide) ?_
  refine lv_istore_n (lv' := [(2, .int (nI 0)), (1, .int (nI b)), (0, .ref h)]) hx hb dX0_takeRing_6 rfl hl (by decide) rfl (fun ls hl => ?_)
  have loop : ∀ (k_loop : Nat) (i : Nat) (c9 : Nat) (fx9 : Nat → Int32) (fy9 : Nat → Int32), (i ≤ n) → (n + 1 ≤ i + k_loop) → (c9 = oh_rot n b i) → (∀ t, t < i → fx9 t = rx (oh_rot n b t) ∧ fy9 t = ry (oh_rot n b t)) → ∀ (H : Heap) (locs : List Loc), va_P (dC, dI) vwCl [(h, .inr (0, [.int (nI N), .ref a1, .ref a2, .ref a3, .ref a4, .int (nI n), .int came])), (a1, .inl (cI, N, .inl fx9)), (a2, .inl (cI, N, .inl fy9)), (a3, .inl (cI, N, .inl rx)), (a4, .inl (cI, N, .inl ry))] H → va_D A [(h, .inr (0, [.int (nI N), .ref a1, .ref a2, .ref a3, .ref a4, .int (nI n), .int came])), (a1, .inl (cI, N, .inl fx9)), (a2, .inl (cI, N, .inl fy9)), (a3, .inl (cI, N, .inl rx)), (a4, .inl (cI, N, .inl ry))] → va_S A s.heap H locs → ∀ (ls : Array Slot), lv_has ls 3 [(0, .ref h), (1, .int (nI c9)), (2, .int (nI i))] → W p l e (headSpec wsX0_takeRing ({ frames := 2, cells := 0, slots := 0, locals := 45 })).room s m ([.ref h] : List Value).toArray below meth c H locs 0 0 (MQ below (va_Qv (S := (Nat → Int32) × (Nat → Int32) × (Nat → Int32) × (Nat → Int32) × Nat × Int32) (fun u => ∃ b fx9 fy9, u = (fx9, fy9, rx, ry, n, came) ∧ b < n ∧ (∀ j, j < n → ¬ oh_lx (oh_pt rx ry j) (oh_pt rx ry b)) ∧ ∀ t, t < n → fx9 t = rx (oh_rot n b t) ∧ fy9 t = ry (oh_rot n b t)) (fun u t => va_P (dC, dI) vwCl [(h, .inr (0, [.int (nI N), .ref a1, .ref a2, .ref a3, .ref a4, .int (nI u.2.2.2.2.1), .int u.2.2.2.2.2])), (a1, .inl (cI, N, .inl u.1)), (a2, .inl (cI, N, .inl u.2.1)), (a3, .inl (cI, N, .inl u.2.2.1)), (a4, .inl (cI, N, .inl u.2.2.2.1))] t.heap ∧ va_K (dC, dI) vwCl [(cI, .int)] t ∧ va_D A [(h, .inr (0, [.int (nI N), .ref a1, .ref a2, .ref a3, .ref a4, .int (nI u.2.2.2.2.1), .int u.2.2.2.2.2])), (a1, .inl (cI, N, .inl u.1)), (a2, .inl (cI, N, .inl u.2.1)), (a3, .inl (cI, N, .inl u.2.2.1)), (a4, .inl (cI, N, .inl u.2.2.2.1))]) A) ([.ref h] : List Value).toArray s 0 0 A) (F0 m 7 ls []) := by
    clear hP hD hS
    clear hl
    intro k_loop
    induction k_loop with
    | zero =>
      intro i c9 fx9 fy9 hi hk hc9 hI
      exfalso; omega
    | succ k_loop ih_loop =>
      intro i c9 fx9 fy9 hi hk hc9 hI H locs hP hD hS ls hl
      have hro : c9 < n ∨ n ≤ i := by by_cases g : i < n; exact Or.inl (by rw [hc9]; exact oh_rot_lt hb9 g); exact Or.inr (by omega)
      refine lv_iload_n hx hb dX0_takeRing_7 rfl (lv_at hl 2 rfl) ?_
      refine lv_aload_n hx hb dX0_takeRing_8 rfl (lv_at hl 0 rfl) ?_
      refine va_get (D := (dC, dI)) (ci := 0) (v := .int (nI n)) (C := RX0) (T := TX0) (N := 7) hx hb hts hin0 hown hK hP 0 rfl rfl 5 (by decide) (hts (.fieldLink RX0 32 "OnlineHull" "corners" "I") (by decide +kernel)) (fun _ h9 => h9) rfl dX0_takeRing_9 ?_
      refine lv_icmp_ge (tgt := 44) hx hb dX0_takeRing_12 (by decide) (fun c_12 => ?_) (fun c_12 => ?_)
      · have g_12 : n ≤ i := (nI_leI (a := n) (b := i) (by omega) (by omega)).mp c_12
        exact W.vret hx hb hr (fun t ht hW => ⟨⟨(fx9, fy9, rx, ry, n, came), rfl, ⟨b, fx9, fy9, rfl, hb9, hmin, fun t ht => hI t (by omega)⟩, by rw [ht]; exact hP, va_K.moved hW.alike hK, hD⟩, hS.F ht⟩) hS.2.2 dX0_takeRing_44
      · have g_12 : ¬ n ≤ i := fun q => c_12 ((nI_leI (a := n) (b := i) (by omega) (by omega)).mpr q)
        refine lv_aload_n hx hb dX0_takeRing_15 rfl (lv_at hl 0 rfl) ?_
        refine lv_iload_n hx hb dX0_takeRing_16 rfl (lv_at hl 2 rfl) ?_
        refine lv_aload_n hx hb dX0_takeRing_17 rfl (lv_at hl 0 rfl) ?_
        refine va_get (D := (dC, dI)) (ci := 0) (v := .ref a3) (C := RX0) (T := TX0) (N := 7) hx hb hts hin0 hown hK hP 0 rfl rfl 3 (by decide) (hts (.fieldLink RX0 26 "OnlineHull" "ringX" "[I") (by decide +kernel)) (fun _ h9 => h9) rfl dX0_takeRing_18 ?_
        refine lv_iload_n hx hb dX0_takeRing_21 rfl (lv_at hl 1 rfl) ?_
        refine oh_ald hx hb hK hP 3 0 rfl rfl (k := c9) (by omega) (by omega) dX0_takeRing_22 ?_
        refine lv_aload_n hx hb dX0_takeRing_23 rfl (lv_at hl 0 rfl) ?_
        refine va_get (D := (dC, dI)) (ci := 0) (v := .ref a4) (C := RX0) (T := TX0) (N := 7) hx hb hts hin0 hown hK hP 0 rfl rfl 4 (by decide) (hts (.fieldLink RX0 29 "OnlineHull" "ringY" "[I") (by decide +kernel)) (fun _ h9 => h9) rfl dX0_takeRing_24 ?_
        refine lv_iload_n hx hb dX0_takeRing_27 rfl (lv_at hl 1 rfl) ?_
        refine oh_ald hx hb hK hP 4 0 rfl rfl (k := c9) (by omega) (by omega) dX0_takeRing_28 ?_
        have hPc := hP.sub (ws' := [(h, .inr (0, [.int (nI N), .ref a1, .ref a2, .ref a3, .ref a4, .int (nI n), .int came])), (a1, .inl (cI, N, .inl fx9)), (a2, .inl (cI, N, .inl fy9)), (a3, .inl (cI, N, .inl rx)), (a4, .inl (cI, N, .inl ry))]) [0, 1, 2, 3, 4] rfl
        have hDc := hD.sub (ws' := [(h, .inr (0, [.int (nI N), .ref a1, .ref a2, .ref a3, .ref a4, .int (nI n), .int came])), (a1, .inl (cI, N, .inl fx9)), (a2, .inl (cI, N, .inl fy9)), (a3, .inl (cI, N, .inl rx)), (a4, .inl (cI, N, .inl ry))]) [0, 1, 2, 3, 4] (by decide) rfl
        have hFc := va_free (wc := [(h, .inr (0, [.int (nI N), .ref a1, .ref a2, .ref a3, .ref a4, .int (nI n), .int came])), (a1, .inl (cI, N, .inl fx9)), (a2, .inl (cI, N, .inl fy9)), (a3, .inl (cI, N, .inl rx)), (a4, .inl (cI, N, .inl ry))]) hD hS hA [0, 1, 2, 3, 4] rfl
        refine va_callv (va_runV (As := [.int (nI i), .int (rx c9), .int (ry c9)]) (rest := []) ⟨hx, hb, hml, hown, hts⟩ (k_X0_setCorner l dC dI cI h a1 a2 a3 a4 N n came fx9 fy9 rx ry H.size i (rx c9) (ry c9) hN (by omega)) (cwV 3 hts gX0_takeRing_X0_setCorner rfl rfl rfl (by decide +kernel) ⟨Nat.le_of_ble_eq_true rfl, Nat.le_of_ble_eq_true rfl⟩) (oh_preM (ci := 0) (q0 := 0) hK hPc hDc rfl rfl) rfl rfl hl.1 rfl (lv_room (Nat.le_of_ble_eq_true rfl)) dX0_takeRing_29 ⟨Nat.zero_le _, Nat.zero_le _⟩) hS (fun q _ h => hFc q h) hFc (fun u_29 t H1 locs ht hvm hw_29 hB hz1 hk1 hS => ?_)
        obtain ⟨hP1, hK1, hD1⟩ := hB
        rw [ht] at hP1
        obtain rfl := hw_29
        obtain ⟨hP, hD⟩ := va_join (wr := []) (w1 := [(h, .inr (0, [.int (nI N), .ref a1, .ref a2, .ref a3, .ref a4, .int (nI n), .int came])), (a1, .inl (cI, N, .inl (upd fx9 i (rx c9)))), (a2, .inl (cI, N, .inl (upd fy9 i (ry c9)))), (a3, .inl (cI, N, .inl rx)), (a4, .inl (cI, N, .inl ry))]) hP hD [0, 1, 2, 3, 4] [] rfl rfl (by decide) (by decide) hk1 hFc hP1 hD1
        generalize H1 = H at hP hS ⊢
        have hP : va_P (dC, dI) vwCl [(h, .inr (0, [.int (nI N), .ref a1, .ref a2, .ref a3, .ref a4, .int (nI n), .int came])), (a1, .inl (cI, N, .inl (upd fx9 i (rx c9)))), (a2, .inl (cI, N, .inl (upd fy9 i (ry c9)))), (a3, .inl (cI, N, .inl rx)), (a4, .inl (cI, N, .inl ry))] H := hP
        have hD : va_D A [(h, .inr (0, [.int (nI N), .ref a1, .ref a2, .ref a3, .ref a4, .int (nI n), .int came])), (a1, .inl (cI, N, .inl (upd fx9 i (rx c9)))), (a2, .inl (cI, N, .inl (upd fy9 i (ry c9)))), (a3, .inl (cI, N, .inl rx)), (a4, .inl (cI, N, .inl ry))] := hD
        clear hPc hDc hFc hP1 hK1 hD1 hk1 hz1 ht
        refine lv_aload_n hx hb dX0_takeRing_32 rfl (lv_at hl 0 rfl) ?_
        refine lv_iload_n hx hb dX0_takeRing_33 rfl (lv_at hl 1 rfl) ?_
        refine vp_callSi (va_Run.run (va_runV (As := [.int (nI c9)]) (rest := []) ⟨hx, hb, hml, hown, hts⟩ (k_X0_next l dC dI cI h a1 a2 a3 a4 N n came (upd fx9 i (rx c9)) (upd fy9 i (ry c9)) rx ry c9 hN hn (by omega)) (cwV 1 hts gX0_takeRing_X0_next rfl rfl rfl (by decide +kernel) ⟨Nat.le_of_ble_eq_true rfl, Nat.le_of_ble_eq_true rfl⟩) (oh_pre (ci := 0) (q0 := 0) hK hP rfl rfl) rfl rfl hl.1 rfl (lv_room (Nat.le_of_ble_eq_true rfl)) dX0_takeRing_34 ⟨Nat.zero_le _, Nat.zero_le _⟩)) (fun r_34 hr_34 => ?_)
        subst hr_34
        refine lv_istore_n (lv' := [(1, .int (nI (oh_nx n c9))), (0, .ref h), (2, .int (nI i))]) hx hb dX0_takeRing_37 rfl hl (by decide) rfl (fun ls hl => ?_)
        refine lv_iinc (v := nI (i + 1)) (lv' := [(2, .int (nI (i + 1))), (1, .int (nI (oh_nx n c9))), (0, .ref h)]) hx hb dX0_takeRing_38 hl (k := 2) rfl (nI_1 i) (by decide) rfl (fun ls hl => ?_)
        refine lv_goto (tgt := 7) hx hb dX0_takeRing_41 (by decide) ?_
        exact ih_loop (i + 1) (oh_nx n c9) (upd fx9 i (rx c9)) (upd fy9 i (ry c9)) (by omega) (by omega) (by rw [hc9, oh_rot_nx' hb9 (by omega)]) (oh_rowT hI hc9) _ _ hP hD hS ls (lv_sub hl [2, 1, 0] rfl)
  exact loop (n + 1) 0 b fx fy (by omega) (by omega) ((oh_rot0 hb9).symm) (fun t ht => by omega) _ _ hP hD hS ls (lv_sub hl [2, 1, 0] rfl)

set_option maxHeartbeats 4000000 in
set_option maxRecDepth 100000 in
theorem k_X0_growLine (l : Launch) (dC : Nat → ClassId) (dI : Nat → Nat → Nat) (cI : ClassId) (h a1 a2 a3 a4 N n : Nat) (came : Int32) (fx fy rx ry : Nat → Int32) (sz : Nat) (x y : Int32) (hN : N ≤ 64) (hn : n ≤ N) (h3 : 3 ≤ N) (hh : oh_hull n (oh_pt fx fy)) (hs : n < 2 ∨ (n = 2 ∧ oh_sd n (oh_pt fx fy) (x.toInt, y.toInt) 0 = 0)) (hno : n = 0 ∨ ¬ oh_on n (oh_pt fx fy) (x.toInt, y.toInt)) : Met l yX0_growLine wsX0_growLine ({ frames := 1, cells := 0, slots := 0, locals := 23 }) (va_Pc [.ref h, .int x, .int y] (fun U => U.heap.size = sz ∧ va_P (dC, dI) vwCl [(h, .inr (0, [.int (nI N), .ref a1, .ref a2, .ref a3, .ref a4, .int (nI n), .int came])), (a1, .inl (cI, N, .inl fx)), (a2, .inl (cI, N, .inl fy)), (a3, .inl (cI, N, .inl rx)), (a4, .inl (cI, N, .inl ry))] U.heap ∧ va_K (dC, dI) vwCl [(cI, .int)] U ∧ va_D (fun _ => True) [(h, .inr (0, [.int (nI N), .ref a1, .ref a2, .ref a3, .ref a4, .int (nI n), .int came])), (a1, .inl (cI, N, .inl fx)), (a2, .inl (cI, N, .inl fy)), (a3, .inl (cI, N, .inl rx)), (a4, .inl (cI, N, .inl ry))])) (va_Qi (S := (Nat → Int32) × (Nat → Int32) × (Nat → Int32) × (Nat → Int32) × Nat × Int32) (fun r u => ∃ m ρ gx gy, u = (gx, gy, rx, ry, m, came) ∧ r = nI (n + 2 - m) ∧ m ≤ N ∧ oh_step n (oh_pt fx fy) (x.toInt, y.toInt) m ρ ∧ oh_arr n m ρ fx fy x y gx gy) (fun u t => va_P (dC, dI) vwCl [(h, .inr (0, [.int (nI N), .ref a1, .ref a2, .ref a3, .ref a4, .int (nI u.2.2.2.2.1), .int u.2.2.2.2.2])), (a1, .inl (cI, N, .inl u.1)), (a2, .inl (cI, N, .inl u.2.1)), (a3, .inl (cI, N, .inl u.2.2.1)), (a4, .inl (cI, N, .inl u.2.2.2.1))] t.heap ∧ va_K (dC, dI) vwCl [(cI, .int)] t ∧ va_D (va_A [(h, .inr (0, [.int (nI N), .ref a1, .ref a2, .ref a3, .ref a4, .int (nI n), .int came])), (a1, .inl (cI, N, .inl fx)), (a2, .inl (cI, N, .inl fy)), (a3, .inl (cI, N, .inl rx)), (a4, .inl (cI, N, .inl ry))] sz) [(h, .inr (0, [.int (nI N), .ref a1, .ref a2, .ref a3, .ref a4, .int (nI u.2.2.2.2.1), .int u.2.2.2.2.2])), (a1, .inl (cI, N, .inl u.1)), (a2, .inl (cI, N, .inl u.2.1)), (a3, .inl (cI, N, .inl u.2.2.1)), (a4, .inl (cI, N, .inl u.2.2.2.1))]) (va_A [(h, .inr (0, [.int (nI N), .ref a1, .ref a2, .ref a3, .ref a4, .int (nI n), .int came])), (a1, .inl (cI, N, .inl fx)), (a2, .inl (cI, N, .inl fy)), (a3, .inl (cI, N, .inl rx)), (a4, .inl (cI, N, .inl ry))] sz)) 0 0 (va_A [(h, .inr (0, [.int (nI N), .ref a1, .ref a2, .ref a3, .ref a4, .int (nI n), .int came])), (a1, .inl (cI, N, .inl fx)), (a2, .inl (cI, N, .inl fy)), (a3, .inl (cI, N, .inl rx)), (a4, .inl (cI, N, .inl ry))] sz) := by
  refine Met.ofW (cc := cX0_growLine) (maxL := 5) (ret := (some .int)) (by decide) rfl ?_
  intro p e s m args below meth c s₁ B hml hv
  obtain ⟨rfl, hsz, hP, hK, hD0⟩ := hv
  have hx := B.exec
  have hb := B.bytes
  have hr := B.returns
  have hts := atoms_spec (ws := wsX0_growLine) B.pre
  have hown : s.vm.findClass RX0 = some m.cls := findClass_of_methodNamed B.named
  have hlocks := B.notSynchronized
  have hin0 : ∀ w ∈ wsX00, w ∈ wsX0_growLine := fun w h => List.mem_cons_of_mem _ (List.mem_append_right _ h)
  subst hsz
  have hD := hD0.self (sz := s.heap.size)
  generalize hAe : va_A [(h, .inr (0, [.int (nI N), .ref a1, .ref a2, .ref a3, .ref a4, .int (nI n), .int came])), (a1, .inl (cI, N, .inl fx)), (a2, .inl (cI, N, .inl fy)), (a3, .inl (cI, N, .inl rx)), (a4, .inl (cI, N, .inl ry))] s.heap.size = A at hD ⊢
  have hA : ∀ q : Nat, s.heap.size ≤ q → A q := fun q h => by rw [← hAe]; exact Or.inr h
  have hS : va_S A s.heap s.heap [] := va_S.rf
  have hl := lv_entry ([.ref h, .int x, .int y]) (n := 5) (Nat.le_of_ble_eq_true rfl)
  rw [lg_entry_eq]
  generalize (lg_sl ([.ref h, .int x, .int y]) ++ List.replicate (5 - (lg_sl ([.ref h, .int x, .int y])).length) Slot.unset).toArray = ls at hl ⊢
  have hl : lv_has ls 5 [(0, .ref h), (1, .int x), (2, .int y)] := hl
  suffices hgo : ∀ (H : Heap) (locs : List Loc), va_P (dC, dI) vwCl [(h, .inr (0, [.int (nI N), .ref a1, .ref a2, .ref a3, .ref a4, .int (nI n), .int came])), (a1, .inl (cI, N, .inl fx)), (a2, .inl (cI, N, .inl fy)), (a3, .inl (cI, N, .inl rx)), (a4, .inl (cI, N, .inl ry))] H → va_D A [(h, .inr (0, [.int (nI N), .ref a1, .ref a2, .ref a3, .ref a4, .int (nI n), .int came])), (a1, .inl (cI, N, .inl fx)), (a2, .inl (cI, N, .inl fy)), (a3, .inl (cI, N, .inl rx)), (a4, .inl (cI, N, .inl ry))] → va_S A s.heap H locs → W p l e (headSpec wsX0_growLine ({ frames := 1, cells := 0, slots := 0, locals := 23 })).room s m ([.ref h, .int x, .int y] : List Value).toArray below meth c H locs 0 0 (MQ below (va_Qi (S := (Nat → Int32) × (Nat → Int32) × (Nat → Int32) × (Nat → Int32) × Nat × Int32) (fun r u => ∃ m ρ gx gy, u = (gx, gy, rx, ry, m, came) ∧ r = nI (n + 2 - m) ∧ m ≤ N ∧ oh_step n (oh_pt fx fy) (x.toInt, y.toInt) m ρ ∧ oh_arr n m ρ fx fy x y gx gy) (fun u t => va_P (dC, dI) vwCl [(h, .inr (0, [.int (nI N), .ref a1, .ref a2, .ref a3, .ref a4, .int (nI u.2.2.2.2.1), .int u.2.2.2.2.2])), (a1, .inl (cI, N, .inl u.1)), (a2, .inl (cI, N, .inl u.2.1)), (a3, .inl (cI, N, .inl u.2.2.1)), (a4, .inl (cI, N, .inl u.2.2.2.1))] t.heap ∧ va_K (dC, dI) vwCl [(cI, .int)] t ∧ va_D A [(h, .inr (0, [.int (nI N), .ref a1, .ref a2, .ref a3, .ref a4, .int (nI u.2.2.2.2.1), .int u.2.2.2.2.2])), (a1, .inl (cI, N, .inl u.1)), (a2, .inl (cI, N, .inl u.2.1)), (a3, .inl (cI, N, .inl u.2.2.1)), (a4, .inl (cI, N, .inl u.2.2.2.1))]) A) ([.ref h, .int x, .int y] : List Value).toArray s 0 0 A) (F0 m 0 ls []) from hgo s.heap [] hP hD hS
  clear hP hD hS hD0
  intro H locs hP hD hS
  refine lv_aload_n hx hb dX0_growLine_0 rfl (lv_at hl 0 rfl) ?_
  refine va_get (D := (dC, dI)) (ci := 0) (v := .int (nI n)) (C := RX0) (T := TX0) (N := 7) hx hb hts hin0 hown hK hP 0 rfl rfl 5 (by decide) (hts (.fieldLink RX0 32 "OnlineHull" "corners" "I") (by decide +kernel)) (fun _ h9 => h9) rfl dX0_growLine_1 ?_
  refine lv_if_ne (tgt := 21) hx hb dX0_growLine_4 (by decide) (fun c_4 => ?_) (fun c_4 => ?_)
  · have g_4 : n ≠ 0 := fun q => (fun q => c_4 (q.trans nI_0)) ((nI_eq (a := n) (b := 0) (by omega) (by omega)).mpr q)
    refine lv_aload_n hx hb dX0_growLine_21 rfl (lv_at hl 0 rfl) ?_
    refine va_get (D := (dC, dI)) (ci := 0) (v := .int (nI n)) (C := RX0) (T := TX0) (N := 7) hx hb hts hin0 hown hK hP 0 rfl rfl 5 (by decide) (hts (.fieldLink RX0 32 "OnlineHull" "corners" "I") (by decide +kernel)) (fun _ h9 => h9) rfl dX0_growLine_22 ?_
    refine lv_iconst (v := nI 1) hx hb dX0_growLine_25 (by decide) ?_
    refine lv_isub hx hb dX0_growLine_26 ?_
    rw [pk_sub (a := n) (b := 1) (by omega)]
    refine lv_istore_n (lv' := [(3, .int (nI (n - 1))), (0, .ref h), (1, .int x), (2, .int y)]) hx hb dX0_growLine_27 rfl hl (by decide) rfl (fun ls hl => ?_)
    refine lv_iload_n hx hb dX0_growLine_28 rfl (lv_at hl 2 rfl) ?_
    refine lv_iload_n hx hb dX0_growLine_29 rfl (lv_at hl 3 rfl) ?_
    refine lv_aload_n hx hb dX0_growLine_30 rfl (lv_at hl 1 rfl) ?_
    refine va_get (D := (dC, dI)) (ci := 0) (v := .ref a1) (C := RX0) (T := TX0) (N := 7) hx hb hts hin0 hown hK hP 0 rfl rfl 1 (by decide) (hts (.fieldLink RX0 19 "OnlineHull" "cornerX" "[I") (by decide +kernel)) (fun _ h9 => h9) rfl dX0_growLine_31 ?_
    refine lv_iconst (v := nI 0) hx hb dX0_growLine_34 (by decide) ?_
    refine oh_ald hx hb hK hP 1 0 rfl rfl (k := 0) (by omega) (by omega) dX0_growLine_35 ?_
    refine lv_aload_n hx hb dX0_growLine_36 rfl (lv_at hl 1 rfl) ?_
    refine va_get (D := (dC, dI)) (ci := 0) (v := .ref a2) (C := RX0) (T := TX0) (N := 7) hx hb hts hin0 hown hK hP 0 rfl rfl 2 (by decide) (hts (.fieldLink RX0 23 "OnlineHull" "cornerY" "[I") (by decide +kernel)) (fun _ h9 => h9) rfl dX0_growLine_37 ?_
    refine lv_iconst (v := nI 0) hx hb dX0_growLine_40 (by decide) ?_
    refine oh_ald hx hb hK hP 2 0 rfl rfl (k := 0) (by omega) (by omega) dX0_growLine_41 ?_
    refine vp_callSi (va_Run.run (va_runS (As := [.int x, .int y, .int (fx 0), .int (fy 0)]) (rest := []) ⟨hx, hb, hml, hown, hts⟩ (k_X0_comesBefore l x y (fx 0) (fy 0)) (va_cwS 4 hts gX0_growLine_X0_comesBefore rfl rfl rfl (by decide +kernel) ⟨Nat.le_of_ble_eq_true rfl, Nat.le_of_ble_eq_true rfl⟩) oh_pre0 rfl rfl hl.1 rfl (lv_room (Nat.le_of_ble_eq_true rfl)) dX0_growLine_42 ⟨Nat.zero_le _, Nat.zero_le _⟩)) (fun r_42 hr_42 => ?_)
    rcases hr_42 with ⟨b_42, hr_42⟩ | ⟨b_42, hr_42⟩ <;> subst hr_42
    · refine lv_if_eq (tgt := 75) hx hb dX0_growLine_45 (by decide) (fun q => absurd q (by decide)) (fun _ => ?_)
      refine lv_aload_n hx hb dX0_growLine_48 rfl (lv_at hl 1 rfl) ?_
      refine lv_iconst (v := nI 1) hx hb dX0_growLine_49 (by decide) ?_
      refine lv_aload_n hx hb dX0_growLine_50 rfl (lv_at hl 1 rfl) ?_
      refine va_get (D := (dC, dI)) (ci := 0) (v := .ref a1) (C := RX0) (T := TX0) (N := 7) hx hb hts hin0 hown hK hP 0 rfl rfl 1 (by decide) (hts (.fieldLink RX0 19 "OnlineHull" "cornerX" "[I") (by decide +kernel)) (fun _ h9 => h9) rfl dX0_growLine_51 ?_
      refine lv_iload_n hx hb dX0_growLine_54 rfl (lv_at hl 0 rfl) ?_
      refine oh_ald hx hb hK hP 1 0 rfl rfl (k := (n - 1)) (by omega) (by omega) dX0_growLine_55 ?_
      refine lv_aload_n hx hb dX0_growLine_56 rfl (lv_at hl 1 rfl) ?_
      refine va_get (D := (dC, dI)) (ci := 0) (v := .ref a2) (C := RX0) (T := TX0) (N := 7) hx hb hts hin0 hown hK hP 0 rfl rfl 2 (by decide) (hts (.fieldLink RX0 23 "OnlineHull" "cornerY" "[I") (by decide +kernel)) (fun _ h9 => h9) rfl dX0_growLine_57 ?_
      refine lv_iload_n hx hb dX0_growLine_60 rfl (lv_at hl 0 rfl) ?_
      refine oh_ald hx hb hK hP 2 0 rfl rfl (k := (n - 1)) (by omega) (by omega) dX0_growLine_61 ?_
      have hPc := hP.sub (ws' := [(h, .inr (0, [.int (nI N), .ref a1, .ref a2, .ref a3, .ref a4, .int (nI n), .int came])), (a1, .inl (cI, N, .inl fx)), (a2, .inl (cI, N, .inl fy)), (a3, .inl (cI, N, .inl rx)), (a4, .inl (cI, N, .inl ry))]) [0, 1, 2, 3, 4] rfl
      have hDc := hD.sub (ws' := [(h, .inr (0, [.int (nI N), .ref a1, .ref a2, .ref a3, .ref a4, .int (nI n), .int came])), (a1, .inl (cI, N, .inl fx)), (a2, .inl (cI, N, .inl fy)), (a3, .inl (cI, N, .inl rx)), (a4, .inl (cI, N, .inl ry))]) [0, 1, 2, 3, 4] (by decide) rfl
      have hFc := va_free (wc := [(h, .inr (0, [.int (nI N), .ref a1, .ref a2, .ref a3, .ref a4, .int (nI n), .int came])), (a1, .inl (cI, N, .inl fx)), (a2, .inl (cI, N, .inl fy)), (a3, .inl (cI, N, .inl rx)), (a4, .inl (cI, N, .inl ry))]) hD hS hA [0, 1, 2, 3, 4] rfl
      refine va_callv (va_runV (As := [.int (nI 1), .int (fx ((n - 1))), .int (fy ((n - 1)))]) (rest := []) ⟨hx, hb, hml, hown, hts⟩ (k_X0_setCorner l dC dI cI h a1 a2 a3 a4 N n came fx fy rx ry H.size 1 (fx ((n - 1))) (fy ((n - 1))) hN (by omega)) (cwV 3 hts gX0_growLine_X0_setCorner rfl rfl rfl (by decide +kernel) ⟨Nat.le_of_ble_eq_true rfl, Nat.le_of_ble_eq_true rfl⟩) (oh_preM (ci := 0) (q0 := 0) hK hPc hDc rfl rfl) rfl rfl hl.1 rfl (lv_room (Nat.le_of_ble_eq_true rfl)) dX0_growLine_62 ⟨Nat.zero_le _, Nat.zero_le _⟩) hS (fun q _ h => hFc q h) hFc (fun u_62 t H1 locs ht hvm hw_62 hB hz1 hk1 hS => ?_)
      obtain ⟨hP1, hK1, hD1⟩ := hB
      rw [ht] at hP1
      obtain rfl := hw_62
      obtain ⟨hP, hD⟩ := va_join (wr := []) (w1 := [(h, .inr (0, [.int (nI N), .ref a1, .ref a2, .ref a3, .ref a4, .int (nI n), .int came])), (a1, .inl (cI, N, .inl (upd fx 1 (fx ((n - 1)))))), (a2, .inl (cI, N, .inl (upd fy 1 (fy ((n - 1)))))), (a3, .inl (cI, N, .inl rx)), (a4, .inl (cI, N, .inl ry))]) hP hD [0, 1, 2, 3, 4] [] rfl rfl (by decide) (by decide) hk1 hFc hP1 hD1
      generalize H1 = H at hP hS ⊢
      have hP : va_P (dC, dI) vwCl [(h, .inr (0, [.int (nI N), .ref a1, .ref a2, .ref a3, .ref a4, .int (nI n), .int came])), (a1, .inl (cI, N, .inl (upd fx 1 (fx ((n - 1)))))), (a2, .inl (cI, N, .inl (upd fy 1 (fy ((n - 1)))))), (a3, .inl (cI, N, .inl rx)), (a4, .inl (cI, N, .inl ry))] H := hP
      have hD : va_D A [(h, .inr (0, [.int (nI N), .ref a1, .ref a2, .ref a3, .ref a4, .int (nI n), .int came])), (a1, .inl (cI, N, .inl (upd fx 1 (fx ((n - 1)))))), (a2, .inl (cI, N, .inl (upd fy 1 (fy ((n - 1)))))), (a3, .inl (cI, N, .inl rx)), (a4, .inl (cI, N, .inl ry))] := hD
      clear hPc hDc hFc hP1 hK1 hD1 hk1 hz1 ht
      refine lv_aload_n hx hb dX0_growLine_65 rfl (lv_at hl 1 rfl) ?_
      refine lv_iconst (v := nI 0) hx hb dX0_growLine_66 (by decide) ?_
      refine lv_iload_n hx hb dX0_growLine_67 rfl (lv_at hl 2 rfl) ?_
      refine lv_iload_n hx hb dX0_growLine_68 rfl (lv_at hl 3 rfl) ?_
      have hPc := hP.sub (ws' := [(h, .inr (0, [.int (nI N), .ref a1, .ref a2, .ref a3, .ref a4, .int (nI n), .int came])), (a1, .inl (cI, N, .inl (upd fx 1 (fx ((n - 1)))))), (a2, .inl (cI, N, .inl (upd fy 1 (fy ((n - 1)))))), (a3, .inl (cI, N, .inl rx)), (a4, .inl (cI, N, .inl ry))]) [0, 1, 2, 3, 4] rfl
      have hDc := hD.sub (ws' := [(h, .inr (0, [.int (nI N), .ref a1, .ref a2, .ref a3, .ref a4, .int (nI n), .int came])), (a1, .inl (cI, N, .inl (upd fx 1 (fx ((n - 1)))))), (a2, .inl (cI, N, .inl (upd fy 1 (fy ((n - 1)))))), (a3, .inl (cI, N, .inl rx)), (a4, .inl (cI, N, .inl ry))]) [0, 1, 2, 3, 4] (by decide) rfl
      have hFc := va_free (wc := [(h, .inr (0, [.int (nI N), .ref a1, .ref a2, .ref a3, .ref a4, .int (nI n), .int came])), (a1, .inl (cI, N, .inl (upd fx 1 (fx ((n - 1)))))), (a2, .inl (cI, N, .inl (upd fy 1 (fy ((n - 1)))))), (a3, .inl (cI, N, .inl rx)), (a4, .inl (cI, N, .inl ry))]) hD hS hA [0, 1, 2, 3, 4] rfl
      refine va_callv (va_runV (As := [.int (nI 0), .int x, .int y]) (rest := []) ⟨hx, hb, hml, hown, hts⟩ (k_X0_setCorner l dC dI cI h a1 a2 a3 a4 N n came (upd fx 1 (fx ((n - 1)))) (upd fy 1 (fy ((n - 1)))) rx ry H.size 0 x y hN (by omega)) (cwV 3 hts gX0_growLine_X0_setCorner rfl rfl rfl (by decide +kernel) ⟨Nat.le_of_ble_eq_true rfl, Nat.le_of_ble_eq_true rfl⟩) (oh_preM (ci := 0) (q0 := 0) hK hPc hDc rfl rfl) rfl rfl hl.1 rfl (lv_room (Nat.le_of_ble_eq_true rfl)) dX0_growLine_69 ⟨Nat.zero_le _, Nat.zero_le _⟩) hS (fun q _ h => hFc q h) hFc (fun u_69 t H1 locs ht hvm hw_69 hB hz1 hk1 hS => ?_)
      obtain ⟨hP1, hK1, hD1⟩ := hB
      rw [ht] at hP1
      obtain rfl := hw_69
      obtain ⟨hP, hD⟩ := va_join (wr := []) (w1 := [(h, .inr (0, [.int (nI N), .ref a1, .ref a2, .ref a3, .ref a4, .int (nI n), .int came])), (a1, .inl (cI, N, .inl (upd (upd fx 1 (fx ((n - 1)))) 0 x))), (a2, .inl (cI, N, .inl (upd (upd fy 1 (fy ((n - 1)))) 0 y))), (a3, .inl (cI, N, .inl rx)), (a4, .inl (cI, N, .inl ry))]) hP hD [0, 1, 2, 3, 4] [] rfl rfl (by decide) (by decide) hk1 hFc hP1 hD1
      generalize H1 = H at hP hS ⊢
      have hP : va_P (dC, dI) vwCl [(h, .inr (0, [.int (nI N), .ref a1, .ref a2, .ref a3, .ref a4, .int (nI n), .int came])), (a1, .inl (cI, N, .inl (upd (upd fx 1 (fx ((n - 1)))) 0 x))), (a2, .inl (cI, N, .inl (upd (upd fy 1 (fy ((n - 1)))) 0 y))), (a3, .inl (cI, N, .inl rx)), (a4, .inl (cI, N, .inl ry))] H := hP
      have hD : va_D A [(h, .inr (0, [.int (nI N), .ref a1, .ref a2, .ref a3, .ref a4, .int (nI n), .int came])), (a1, .inl (cI, N, .inl (upd (upd fx 1 (fx ((n - 1)))) 0 x))), (a2, .inl (cI, N, .inl (upd (upd fy 1 (fy ((n - 1)))) 0 y))), (a3, .inl (cI, N, .inl rx)), (a4, .inl (cI, N, .inl ry))] := hD
      clear hPc hDc hFc hP1 hK1 hD1 hk1 hz1 ht
      refine lv_goto (tgt := 82) hx hb dX0_growLine_72 (by decide) ?_
      refine lv_aload_n hx hb dX0_growLine_82 rfl (lv_at hl 1 rfl) ?_
      refine va_get (D := (dC, dI)) (ci := 0) (v := .int (nI n)) (C := RX0) (T := TX0) (N := 7) hx hb hts hin0 hown hK hP 0 rfl rfl 5 (by decide) (hts (.fieldLink RX0 32 "OnlineHull" "corners" "I") (by decide +kernel)) (fun _ h9 => h9) rfl dX0_growLine_83 ?_
      refine lv_iconst (v := nI 1) hx hb dX0_growLine_86 (by decide) ?_
      refine lv_isub hx hb dX0_growLine_87 ?_
      rw [pk_sub (a := n) (b := 1) (by omega)]
      refine lv_istore (lv' := [(4, .int (nI (n - 1))), (3, .int (nI (n - 1))), (0, .ref h), (1, .int x), (2, .int y)]) hx hb dX0_growLine_88 hl (by decide) rfl (fun ls hl => ?_)
      refine lv_aload_n hx hb dX0_growLine_90 rfl (lv_at hl 2 rfl) ?_
      refine lv_iconst (v := nI 2) hx hb dX0_growLine_91 (by decide) ?_
      refine va_put (D := (dC, dI)) (ci := 0) (v := .int (nI 2)) (ty := .int) (C := RX0) (T := TX0) (N := 7) hx hb hts hin0 tyX0 tyX0_ok nmX0 hown hK hP hD hS 0 rfl rfl 5 (by decide) (hts (.fieldLink RX0 32 "OnlineHull" "corners" "I") (by decide +kernel)) (fun _ h9 => h9) rfl (by decide +kernel) rfl rfl (Nat.le_of_ble_eq_true rfl) dX0_growLine_92 (fun H locs hP hD hS => ?_)
      have hP : va_P (dC, dI) vwCl [(h, .inr (0, [.int (nI N), .ref a1, .ref a2, .ref a3, .ref a4, .int (nI 2), .int came])), (a1, .inl (cI, N, .inl (upd (upd fx 1 (fx ((n - 1)))) 0 x))), (a2, .inl (cI, N, .inl (upd (upd fy 1 (fy ((n - 1)))) 0 y))), (a3, .inl (cI, N, .inl rx)), (a4, .inl (cI, N, .inl ry))] H := hP
      have hD : va_D A [(h, .inr (0, [.int (nI N), .ref a1, .ref a2, .ref a3, .ref a4, .int (nI 2), .int came])), (a1, .inl (cI, N, .inl (upd (upd fx 1 (fx ((n - 1)))) 0 x))), (a2, .inl (cI, N, .inl (upd (upd fy 1 (fy ((n - 1)))) 0 y))), (a3, .inl (cI, N, .inl rx)), (a4, .inl (cI, N, .inl ry))] := hD
      refine lv_iconst (v := nI 1) hx hb dX0_growLine_95 (by decide) ?_
      refine lv_iload hx hb dX0_growLine_96 (lv_at hl 0 rfl) ?_
      refine lv_iadd hx hb dX0_growLine_98 ?_
      rw [nI_add 1 ((n - 1))]
      exact W.iret (v := nI (1 + (n - 1))) hx hb hr (fun t ht hW => ⟨⟨_, (upd (upd fx 1 (fx ((n - 1)))) 0 x, upd (upd fy 1 (fy ((n - 1)))) 0 y, rx, ry, 2, came), rfl, ⟨2, oh_rhoL n true, _, _, rfl, congrArg nI (by omega), by omega, oh_stepL hh (by omega) (by omega) hs (hno.resolve_left (by omega)) (Or.inl ⟨rfl, b_42⟩), oh_arrL1 (by omega)⟩, by rw [ht]; exact hP, va_K.moved hW.alike hK, hD⟩, hS.F ht⟩) hS.2.2 dX0_growLine_99
    · refine lv_if_eq (tgt := 75) hx hb dX0_growLine_45 (by decide) (fun _ => ?_) (fun q => absurd q (by decide))
      refine lv_aload_n hx hb dX0_growLine_75 rfl (lv_at hl 1 rfl) ?_
      refine lv_iconst (v := nI 1) hx hb dX0_growLine_76 (by decide) ?_
      refine lv_iload_n hx hb dX0_growLine_77 rfl (lv_at hl 2 rfl) ?_
      refine lv_iload_n hx hb dX0_growLine_78 rfl (lv_at hl 3 rfl) ?_
      have hPc := hP.sub (ws' := [(h, .inr (0, [.int (nI N), .ref a1, .ref a2, .ref a3, .ref a4, .int (nI n), .int came])), (a1, .inl (cI, N, .inl fx)), (a2, .inl (cI, N, .inl fy)), (a3, .inl (cI, N, .inl rx)), (a4, .inl (cI, N, .inl ry))]) [0, 1, 2, 3, 4] rfl
      have hDc := hD.sub (ws' := [(h, .inr (0, [.int (nI N), .ref a1, .ref a2, .ref a3, .ref a4, .int (nI n), .int came])), (a1, .inl (cI, N, .inl fx)), (a2, .inl (cI, N, .inl fy)), (a3, .inl (cI, N, .inl rx)), (a4, .inl (cI, N, .inl ry))]) [0, 1, 2, 3, 4] (by decide) rfl
      have hFc := va_free (wc := [(h, .inr (0, [.int (nI N), .ref a1, .ref a2, .ref a3, .ref a4, .int (nI n), .int came])), (a1, .inl (cI, N, .inl fx)), (a2, .inl (cI, N, .inl fy)), (a3, .inl (cI, N, .inl rx)), (a4, .inl (cI, N, .inl ry))]) hD hS hA [0, 1, 2, 3, 4] rfl
      refine va_callv (va_runV (As := [.int (nI 1), .int x, .int y]) (rest := []) ⟨hx, hb, hml, hown, hts⟩ (k_X0_setCorner l dC dI cI h a1 a2 a3 a4 N n came fx fy rx ry H.size 1 x y hN (by omega)) (cwV 3 hts gX0_growLine_X0_setCorner rfl rfl rfl (by decide +kernel) ⟨Nat.le_of_ble_eq_true rfl, Nat.le_of_ble_eq_true rfl⟩) (oh_preM (ci := 0) (q0 := 0) hK hPc hDc rfl rfl) rfl rfl hl.1 rfl (lv_room (Nat.le_of_ble_eq_true rfl)) dX0_growLine_79 ⟨Nat.zero_le _, Nat.zero_le _⟩) hS (fun q _ h => hFc q h) hFc (fun u_79 t H1 locs ht hvm hw_79 hB hz1 hk1 hS => ?_)
      obtain ⟨hP1, hK1, hD1⟩ := hB
      rw [ht] at hP1
      obtain rfl := hw_79
      obtain ⟨hP, hD⟩ := va_join (wr := []) (w1 := [(h, .inr (0, [.int (nI N), .ref a1, .ref a2, .ref a3, .ref a4, .int (nI n), .int came])), (a1, .inl (cI, N, .inl (upd fx 1 x))), (a2, .inl (cI, N, .inl (upd fy 1 y))), (a3, .inl (cI, N, .inl rx)), (a4, .inl (cI, N, .inl ry))]) hP hD [0, 1, 2, 3, 4] [] rfl rfl (by decide) (by decide) hk1 hFc hP1 hD1
      generalize H1 = H at hP hS ⊢
      have hP : va_P (dC, dI) vwCl [(h, .inr (0, [.int (nI N), .ref a1, .ref a2, .ref a3, .ref a4, .int (nI n), .int came])), (a1, .inl (cI, N, .inl (upd fx 1 x))), (a2, .inl (cI, N, .inl (upd fy 1 y))), (a3, .inl (cI, N, .inl rx)), (a4, .inl (cI, N, .inl ry))] H := hP
      have hD : va_D A [(h, .inr (0, [.int (nI N), .ref a1, .ref a2, .ref a3, .ref a4, .int (nI n), .int came])), (a1, .inl (cI, N, .inl (upd fx 1 x))), (a2, .inl (cI, N, .inl (upd fy 1 y))), (a3, .inl (cI, N, .inl rx)), (a4, .inl (cI, N, .inl ry))] := hD
      clear hPc hDc hFc hP1 hK1 hD1 hk1 hz1 ht
      refine lv_aload_n hx hb dX0_growLine_82 rfl (lv_at hl 1 rfl) ?_
      refine va_get (D := (dC, dI)) (ci := 0) (v := .int (nI n)) (C := RX0) (T := TX0) (N := 7) hx hb hts hin0 hown hK hP 0 rfl rfl 5 (by decide) (hts (.fieldLink RX0 32 "OnlineHull" "corners" "I") (by decide +kernel)) (fun _ h9 => h9) rfl dX0_growLine_83 ?_
      refine lv_iconst (v := nI 1) hx hb dX0_growLine_86 (by decide) ?_
      refine lv_isub hx hb dX0_growLine_87 ?_
      rw [pk_sub (a := n) (b := 1) (by omega)]
      refine lv_istore (lv' := [(4, .int (nI (n - 1))), (3, .int (nI (n - 1))), (0, .ref h), (1, .int x), (2, .int y)]) hx hb dX0_growLine_88 hl (by decide) rfl (fun ls hl => ?_)
      refine lv_aload_n hx hb dX0_growLine_90 rfl (lv_at hl 2 rfl) ?_
      refine lv_iconst (v := nI 2) hx hb dX0_growLine_91 (by decide) ?_
      refine va_put (D := (dC, dI)) (ci := 0) (v := .int (nI 2)) (ty := .int) (C := RX0) (T := TX0) (N := 7) hx hb hts hin0 tyX0 tyX0_ok nmX0 hown hK hP hD hS 0 rfl rfl 5 (by decide) (hts (.fieldLink RX0 32 "OnlineHull" "corners" "I") (by decide +kernel)) (fun _ h9 => h9) rfl (by decide +kernel) rfl rfl (Nat.le_of_ble_eq_true rfl) dX0_growLine_92 (fun H locs hP hD hS => ?_)
      have hP : va_P (dC, dI) vwCl [(h, .inr (0, [.int (nI N), .ref a1, .ref a2, .ref a3, .ref a4, .int (nI 2), .int came])), (a1, .inl (cI, N, .inl (upd fx 1 x))), (a2, .inl (cI, N, .inl (upd fy 1 y))), (a3, .inl (cI, N, .inl rx)), (a4, .inl (cI, N, .inl ry))] H := hP
      have hD : va_D A [(h, .inr (0, [.int (nI N), .ref a1, .ref a2, .ref a3, .ref a4, .int (nI 2), .int came])), (a1, .inl (cI, N, .inl (upd fx 1 x))), (a2, .inl (cI, N, .inl (upd fy 1 y))), (a3, .inl (cI, N, .inl rx)), (a4, .inl (cI, N, .inl ry))] := hD
      refine lv_iconst (v := nI 1) hx hb dX0_growLine_95 (by decide) ?_
      refine lv_iload hx hb dX0_growLine_96 (lv_at hl 0 rfl) ?_
      refine lv_iadd hx hb dX0_growLine_98 ?_
      rw [nI_add 1 ((n - 1))]
      exact W.iret (v := nI (1 + (n - 1))) hx hb hr (fun t ht hW => ⟨⟨_, (upd fx 1 x, upd fy 1 y, rx, ry, 2, came), rfl, ⟨2, oh_rhoL n false, _, _, rfl, congrArg nI (by omega), by omega, oh_stepL hh (by omega) (by omega) hs (hno.resolve_left (by omega)) (Or.inr ⟨rfl, b_42⟩), oh_arrL2 (by omega)⟩, by rw [ht]; exact hP, va_K.moved hW.alike hK, hD⟩, hS.F ht⟩) hS.2.2 dX0_growLine_99
  · have g_4 : n = 0 := (nI_eq (a := n) (b := 0) (by omega) (by omega)).mp (c_4.trans nI_0.symm)
    refine lv_aload_n hx hb dX0_growLine_7 rfl (lv_at hl 0 rfl) ?_
    refine lv_iconst (v := nI 0) hx hb dX0_growLine_8 (by decide) ?_
    refine lv_iload_n hx hb dX0_growLine_9 rfl (lv_at hl 1 rfl) ?_
    refine lv_iload_n hx hb dX0_growLine_10 rfl (lv_at hl 2 rfl) ?_
    have hPc := hP.sub (ws' := [(h, .inr (0, [.int (nI N), .ref a1, .ref a2, .ref a3, .ref a4, .int (nI n), .int came])), (a1, .inl (cI, N, .inl fx)), (a2, .inl (cI, N, .inl fy)), (a3, .inl (cI, N, .inl rx)), (a4, .inl (cI, N, .inl ry))]) [0, 1, 2, 3, 4] rfl
    have hDc := hD.sub (ws' := [(h, .inr (0, [.int (nI N), .ref a1, .ref a2, .ref a3, .ref a4, .int (nI n), .int came])), (a1, .inl (cI, N, .inl fx)), (a2, .inl (cI, N, .inl fy)), (a3, .inl (cI, N, .inl rx)), (a4, .inl (cI, N, .inl ry))]) [0, 1, 2, 3, 4] (by decide) rfl
    have hFc := va_free (wc := [(h, .inr (0, [.int (nI N), .ref a1, .ref a2, .ref a3, .ref a4, .int (nI n), .int came])), (a1, .inl (cI, N, .inl fx)), (a2, .inl (cI, N, .inl fy)), (a3, .inl (cI, N, .inl rx)), (a4, .inl (cI, N, .inl ry))]) hD hS hA [0, 1, 2, 3, 4] rfl
    refine va_callv (va_runV (As := [.int (nI 0), .int x, .int y]) (rest := []) ⟨hx, hb, hml, hown, hts⟩ (k_X0_setCorner l dC dI cI h a1 a2 a3 a4 N n came fx fy rx ry H.size 0 x y hN (by omega)) (cwV 3 hts gX0_growLine_X0_setCorner rfl rfl rfl (by decide +kernel) ⟨Nat.le_of_ble_eq_true rfl, Nat.le_of_ble_eq_true rfl⟩) (oh_preM (ci := 0) (q0 := 0) hK hPc hDc rfl rfl) rfl rfl hl.1 rfl (lv_room (Nat.le_of_ble_eq_true rfl)) dX0_growLine_11 ⟨Nat.zero_le _, Nat.zero_le _⟩) hS (fun q _ h => hFc q h) hFc (fun u_11 t H1 locs ht hvm hw_11 hB hz1 hk1 hS => ?_)
    obtain ⟨hP1, hK1, hD1⟩ := hB
    rw [ht] at hP1
    obtain rfl := hw_11
    obtain ⟨hP, hD⟩ := va_join (wr := []) (w1 := [(h, .inr (0, [.int (nI N), .ref a1, .ref a2, .ref a3, .ref a4, .int (nI n), .int came])), (a1, .inl (cI, N, .inl (upd fx 0 x))), (a2, .inl (cI, N, .inl (upd fy 0 y))), (a3, .inl (cI, N, .inl rx)), (a4, .inl (cI, N, .inl ry))]) hP hD [0, 1, 2, 3, 4] [] rfl rfl (by decide) (by decide) hk1 hFc hP1 hD1
    generalize H1 = H at hP hS ⊢
    have hP : va_P (dC, dI) vwCl [(h, .inr (0, [.int (nI N), .ref a1, .ref a2, .ref a3, .ref a4, .int (nI n), .int came])), (a1, .inl (cI, N, .inl (upd fx 0 x))), (a2, .inl (cI, N, .inl (upd fy 0 y))), (a3, .inl (cI, N, .inl rx)), (a4, .inl (cI, N, .inl ry))] H := hP
    have hD : va_D A [(h, .inr (0, [.int (nI N), .ref a1, .ref a2, .ref a3, .ref a4, .int (nI n), .int came])), (a1, .inl (cI, N, .inl (upd fx 0 x))), (a2, .inl (cI, N, .inl (upd fy 0 y))), (a3, .inl (cI, N, .inl rx)), (a4, .inl (cI, N, .inl ry))] := hD
    clear hPc hDc hFc hP1 hK1 hD1 hk1 hz1 ht
    refine lv_aload_n hx hb dX0_growLine_14 rfl (lv_at hl 0 rfl) ?_
    refine lv_iconst (v := nI 1) hx hb dX0_growLine_15 (by decide) ?_
    refine va_put (D := (dC, dI)) (ci := 0) (v := .int (nI 1)) (ty := .int) (C := RX0) (T := TX0) (N := 7) hx hb hts hin0 tyX0 tyX0_ok nmX0 hown hK hP hD hS 0 rfl rfl 5 (by decide) (hts (.fieldLink RX0 32 "OnlineHull" "corners" "I") (by decide +kernel)) (fun _ h9 => h9) rfl (by decide +kernel) rfl rfl (Nat.le_of_ble_eq_true rfl) dX0_growLine_16 (fun H locs hP hD hS => ?_)
    have hP : va_P (dC, dI) vwCl [(h, .inr (0, [.int (nI N), .ref a1, .ref a2, .ref a3, .ref a4, .int (nI 1), .int came])), (a1, .inl (cI, N, .inl (upd fx 0 x))), (a2, .inl (cI, N, .inl (upd fy 0 y))), (a3, .inl (cI, N, .inl rx)), (a4, .inl (cI, N, .inl ry))] H := hP
    have hD : va_D A [(h, .inr (0, [.int (nI N), .ref a1, .ref a2, .ref a3, .ref a4, .int (nI 1), .int came])), (a1, .inl (cI, N, .inl (upd fx 0 x))), (a2, .inl (cI, N, .inl (upd fy 0 y))), (a3, .inl (cI, N, .inl rx)), (a4, .inl (cI, N, .inl ry))] := hD
    refine lv_iconst (v := nI 1) hx hb dX0_growLine_19 (by decide) ?_
    exact W.iret (v := nI 1) hx hb hr (fun t ht hW => ⟨⟨_, (upd fx 0 x, upd fy 0 y, rx, ry, 1, came), rfl, ⟨1, fun _ => 0, _, _, rfl, congrArg nI (by omega), by omega, oh_stepL0' (by omega), oh_arr0 (by omega)⟩, by rw [ht]; exact hP, va_K.moved hW.alike hK, hD⟩, hS.F ht⟩) hS.2.2 dX0_growLine_20

set_option maxHeartbeats 4000000 in
set_option maxRecDepth 100000 in
theorem k_X0_growRing (l : Launch) (dC : Nat → ClassId) (dI : Nat → Nat → Nat) (cI : ClassId) (h a1 a2 a3 a4 N n : Nat) (came : Int32) (fx fy rx ry : Nat → Int32) (sz : Nat) (x y : Int32) (hN : N ≤ 64) (hn : n ≤ N) (hR : ∀ j, j < n → oh_inR (fx j) (fy j)) (hq : oh_inR x y) (hh : oh_hull n (oh_pt fx fy)) (h2 : 2 ≤ n) (ho : oh_out n (oh_pt fx fy) (x.toInt, y.toInt)) : Met l yX0_growRing wsX0_growRing ({ frames := 3, cells := 0, slots := 0, locals := 71 }) (va_Pc [.ref h, .int x, .int y] (fun U => U.heap.size = sz ∧ va_P (dC, dI) vwCl [(h, .inr (0, [.int (nI N), .ref a1, .ref a2, .ref a3, .ref a4, .int (nI n), .int came])), (a1, .inl (cI, N, .inl fx)), (a2, .inl (cI, N, .inl fy)), (a3, .inl (cI, N, .inl rx)), (a4, .inl (cI, N, .inl ry))] U.heap ∧ va_K (dC, dI) vwCl [(cI, .int)] U ∧ va_D (fun _ => True) [(h, .inr (0, [.int (nI N), .ref a1, .ref a2, .ref a3, .ref a4, .int (nI n), .int came])), (a1, .inl (cI, N, .inl fx)), (a2, .inl (cI, N, .inl fy)), (a3, .inl (cI, N, .inl rx)), (a4, .inl (cI, N, .inl ry))])) (va_Qi (S := (Nat → Int32) × (Nat → Int32) × (Nat → Int32) × (Nat → Int32) × Nat × Int32) (fun r u => ∃ m ρ, oh_step n (oh_pt fx fy) (x.toInt, y.toInt) m ρ ∧ ((m ≤ N ∧ r = nI (n + 2 - m) ∧ ∃ gx gy rx9 ry9, u = (gx, gy, rx9, ry9, m, came) ∧ oh_arr n m ρ fx fy x y gx gy) ∨ (N < m ∧ r = -2 ∧ u = (fx, fy, rx, ry, n, came)))) (fun u t => va_P (dC, dI) vwCl [(h, .inr (0, [.int (nI N), .ref a1, .ref a2, .ref a3, .ref a4, .int (nI u.2.2.2.2.1), .int u.2.2.2.2.2])), (a1, .inl (cI, N, .inl u.1)), (a2, .inl (cI, N, .inl u.2.1)), (a3, .inl (cI, N, .inl u.2.2.1)), (a4, .inl (cI, N, .inl u.2.2.2.1))] t.heap ∧ va_K (dC, dI) vwCl [(cI, .int)] t ∧ va_D (va_A [(h, .inr (0, [.int (nI N), .ref a1, .ref a2, .ref a3, .ref a4, .int (nI n), .int came])), (a1, .inl (cI, N, .inl fx)), (a2, .inl (cI, N, .inl fy)), (a3, .inl (cI, N, .inl rx)), (a4, .inl (cI, N, .inl ry))] sz) [(h, .inr (0, [.int (nI N), .ref a1, .ref a2, .ref a3, .ref a4, .int (nI u.2.2.2.2.1), .int u.2.2.2.2.2])), (a1, .inl (cI, N, .inl u.1)), (a2, .inl (cI, N, .inl u.2.1)), (a3, .inl (cI, N, .inl u.2.2.1)), (a4, .inl (cI, N, .inl u.2.2.2.1))]) (va_A [(h, .inr (0, [.int (nI N), .ref a1, .ref a2, .ref a3, .ref a4, .int (nI n), .int came])), (a1, .inl (cI, N, .inl fx)), (a2, .inl (cI, N, .inl fy)), (a3, .inl (cI, N, .inl rx)), (a4, .inl (cI, N, .inl ry))] sz)) 0 0 (va_A [(h, .inr (0, [.int (nI N), .ref a1, .ref a2, .ref a3, .ref a4, .int (nI n), .int came])), (a1, .inl (cI, N, .inl fx)), (a2, .inl (cI, N, .inl fy)), (a3, .inl (cI, N, .inl rx)), (a4, .inl (cI, N, .inl ry))] sz) := by
  refine Met.ofW (cc := cX0_growRing) (maxL := 7) (ret := (some .int)) (by decide) rfl ?_
  intro p e s m args below meth c s₁ B hml hv
  obtain ⟨rfl, hsz, hP, hK, hD0⟩ := hv
  have hx := B.exec
  have hb := B.bytes
  have hr := B.returns
  have hts := atoms_spec (ws := wsX0_growRing) B.pre
  have hown : s.vm.findClass RX0 = some m.cls := findClass_of_methodNamed B.named
  have hlocks := B.notSynchronized
  have hin0 : ∀ w ∈ wsX00, w ∈ wsX0_growRing := fun w h => List.mem_cons_of_mem _ (List.mem_append_right _ h)
  subst hsz
  have hD := hD0.self (sz := s.heap.size)
  generalize hAe : va_A [(h, .inr (0, [.int (nI N), .ref a1, .ref a2, .ref a3, .ref a4, .int (nI n), .int came])), (a1, .inl (cI, N, .inl fx)), (a2, .inl (cI, N, .inl fy)), (a3, .inl (cI, N, .inl rx)), (a4, .inl (cI, N, .inl ry))] s.heap.size = A at hD ⊢
  have hA : ∀ q : Nat, s.heap.size ≤ q → A q := fun q h => by rw [← hAe]; exact Or.inr h
  have hS : va_S A s.heap s.heap [] := va_S.rf
  have hl := lv_entry ([.ref h, .int x, .int y]) (n := 7) (Nat.le_of_ble_eq_true rfl)
  rw [lg_entry_eq]
  generalize (lg_sl ([.ref h, .int x, .int y]) ++ List.replicate (7 - (lg_sl ([.ref h, .int x, .int y])).length) Slot.unset).toArray = ls at hl ⊢
  have hl : lv_has ls 7 [(0, .ref h), (1, .int x), (2, .int y)] := hl
  suffices hgo : ∀ (H : Heap) (locs : List Loc), va_P (dC, dI) vwCl [(h, .inr (0, [.int (nI N), .ref a1, .ref a2, .ref a3, .ref a4, .int (nI n), .int came])), (a1, .inl (cI, N, .inl fx)), (a2, .inl (cI, N, .inl fy)), (a3, .inl (cI, N, .inl rx)), (a4, .inl (cI, N, .inl ry))] H → va_D A [(h, .inr (0, [.int (nI N), .ref a1, .ref a2, .ref a3, .ref a4, .int (nI n), .int came])), (a1, .inl (cI, N, .inl fx)), (a2, .inl (cI, N, .inl fy)), (a3, .inl (cI, N, .inl rx)), (a4, .inl (cI, N, .inl ry))] → va_S A s.heap H locs → W p l e (headSpec wsX0_growRing ({ frames := 3, cells := 0, slots := 0, locals := 71 })).room s m ([.ref h, .int x, .int y] : List Value).toArray below meth c H locs 0 0 (MQ below (va_Qi (S := (Nat → Int32) × (Nat → Int32) × (Nat → Int32) × (Nat → Int32) × Nat × Int32) (fun r u => ∃ m ρ, oh_step n (oh_pt fx fy) (x.toInt, y.toInt) m ρ ∧ ((m ≤ N ∧ r = nI (n + 2 - m) ∧ ∃ gx gy rx9 ry9, u = (gx, gy, rx9, ry9, m, came) ∧ oh_arr n m ρ fx fy x y gx gy) ∨ (N < m ∧ r = -2 ∧ u = (fx, fy, rx, ry, n, came)))) (fun u t => va_P (dC, dI) vwCl [(h, .inr (0, [.int (nI N), .ref a1, .ref a2, .ref a3, .ref a4, .int (nI u.2.2.2.2.1), .int u.2.2.2.2.2])), (a1, .inl (cI, N, .inl u.1)), (a2, .inl (cI, N, .inl u.2.1)), (a3, .inl (cI, N, .inl u.2.2.1)), (a4, .inl (cI, N, .inl u.2.2.2.1))] t.heap ∧ va_K (dC, dI) vwCl [(cI, .int)] t ∧ va_D A [(h, .inr (0, [.int (nI N), .ref a1, .ref a2, .ref a3, .ref a4, .int (nI u.2.2.2.2.1), .int u.2.2.2.2.2])), (a1, .inl (cI, N, .inl u.1)), (a2, .inl (cI, N, .inl u.2.1)), (a3, .inl (cI, N, .inl u.2.2.1)), (a4, .inl (cI, N, .inl u.2.2.2.1))]) A) ([.ref h, .int x, .int y] : List Value).toArray s 0 0 A) (F0 m 0 ls []) from hgo s.heap [] hP hD hS
  clear hP hD hS hD0
  intro H locs hP hD hS
  refine lv_aload_n hx hb dX0_growRing_0 rfl (lv_at hl 0 rfl) ?_
  refine lv_iload_n hx hb dX0_growRing_1 rfl (lv_at hl 1 rfl) ?_
  refine lv_iload_n hx hb dX0_growRing_2 rfl (lv_at hl 2 rfl) ?_
  refine lv_iconst (v := nI 1) hx hb dX0_growRing_3 (by decide) ?_
  refine vp_callSi (va_Run.run (va_runV (As := [.int x, .int y, .int (nI 1)]) (rest := []) ⟨hx, hb, hml, hown, hts⟩ (k_X0_firstSeen l dC dI cI h a1 a2 a3 a4 N n came fx fy rx ry x y (nI 1) hN hn hR hq) (cwV 3 hts gX0_growRing_X0_firstSeen rfl rfl rfl (by decide +kernel) ⟨Nat.le_of_ble_eq_true rfl, Nat.le_of_ble_eq_true rfl⟩) (oh_pre (ci := 0) (q0 := 0) hK hP rfl rfl) rfl rfl hl.1 rfl (lv_room (Nat.le_of_ble_eq_true rfl)) dX0_growRing_4 ⟨Nat.zero_le _, Nat.zero_le _⟩)) (fun r_4 hr_4 => ?_)
  obtain ⟨F, hF, rfl, f1, f0⟩ := oh_getF hh.1 ho hr_4
  refine lv_istore_n (lv' := [(3, .int (nI F)), (0, .ref h), (1, .int x), (2, .int y)]) hx hb dX0_growRing_7 rfl hl (by decide) rfl (fun ls hl => ?_)
  refine lv_aload_n hx hb dX0_growRing_8 rfl (lv_at hl 1 rfl) ?_
  refine lv_iload_n hx hb dX0_growRing_9 rfl (lv_at hl 2 rfl) ?_
  refine lv_iload_n hx hb dX0_growRing_10 rfl (lv_at hl 3 rfl) ?_
  refine lv_iconst (v := nI 1) hx hb dX0_growRing_11 (by decide) ?_
  refine vp_callSi (va_Run.run (va_runV (As := [.int x, .int y, .int (nI 1)]) (rest := []) ⟨hx, hb, hml, hown, hts⟩ (k_X0_lastSeen l dC dI cI h a1 a2 a3 a4 N n came fx fy rx ry x y (nI 1) hN hn hR hq) (cwV 3 hts gX0_growRing_X0_lastSeen rfl rfl rfl (by decide +kernel) ⟨Nat.le_of_ble_eq_true rfl, Nat.le_of_ble_eq_true rfl⟩) (oh_pre (ci := 0) (q0 := 0) hK hP rfl rfl) rfl rfl hl.1 rfl (lv_room (Nat.le_of_ble_eq_true rfl)) dX0_growRing_12 ⟨Nat.zero_le _, Nat.zero_le _⟩)) (fun r_12 hr_12 => ?_)
  obtain ⟨L, hL, rfl, l1, l0⟩ := oh_getL hh.1 ho hr_12
  have hne : F ≠ L := fun e => by subst e; omega
  refine lv_istore (lv' := [(4, .int (nI L)), (3, .int (nI F)), (0, .ref h), (1, .int x), (2, .int y)]) hx hb dX0_growRing_15 hl (by decide) rfl (fun ls hl => ?_)
  refine lv_aload_n hx hb dX0_growRing_17 rfl (lv_at hl 2 rfl) ?_
  refine lv_iload_n hx hb dX0_growRing_18 rfl (lv_at hl 1 rfl) ?_
  refine vp_callSi (va_Run.run (va_runV (As := [.int (nI F)]) (rest := []) ⟨hx, hb, hml, hown, hts⟩ (k_X0_isCorner l dC dI cI h a1 a2 a3 a4 N n came fx fy rx ry (nI F) hN hn) (cwV 1 hts gX0_growRing_X0_isCorner rfl rfl rfl (by decide +kernel) ⟨Nat.le_of_ble_eq_true rfl, Nat.le_of_ble_eq_true rfl⟩) (oh_pre (ci := 0) (q0 := 0) hK hP rfl rfl) rfl rfl hl.1 rfl (lv_room (Nat.le_of_ble_eq_true rfl)) dX0_growRing_19 ⟨Nat.zero_le _, Nat.zero_le _⟩)) (fun r_19 hr_19 => ?_)
  rcases hr_19 with ⟨b_19, hr_19⟩ | ⟨b_19, hr_19⟩ <;> subst hr_19
  · refine lv_if_eq (tgt := 34) hx hb dX0_growRing_22 (by decide) (fun q => absurd q (by decide)) (fun _ => ?_)
    refine lv_aload_n hx hb dX0_growRing_25 rfl (lv_at hl 2 rfl) ?_
    refine lv_iload hx hb dX0_growRing_26 (lv_at hl 0 rfl) ?_
    refine vp_callSi (va_Run.run (va_runV (As := [.int (nI L)]) (rest := []) ⟨hx, hb, hml, hown, hts⟩ (k_X0_isCorner l dC dI cI h a1 a2 a3 a4 N n came fx fy rx ry (nI L) hN hn) (cwV 1 hts gX0_growRing_X0_isCorner rfl rfl rfl (by decide +kernel) ⟨Nat.le_of_ble_eq_true rfl, Nat.le_of_ble_eq_true rfl⟩) (oh_pre (ci := 0) (q0 := 0) hK hP rfl rfl) rfl rfl hl.1 rfl (lv_room (Nat.le_of_ble_eq_true rfl)) dX0_growRing_28 ⟨Nat.zero_le _, Nat.zero_le _⟩)) (fun r_28 hr_28 => ?_)
    rcases hr_28 with ⟨b_28, hr_28⟩ | ⟨b_28, hr_28⟩ <;> subst hr_28
    · refine lv_if_ne (tgt := 36) hx hb dX0_growRing_31 (by decide) (fun _ => ?_) (fun q => absurd q (by decide))
      refine lv_iload_n hx hb dX0_growRing_36 rfl (lv_at hl 1 rfl) ?_
      refine lv_iload hx hb dX0_growRing_37 (lv_at hl 0 rfl) ?_
      refine lv_isub hx hb dX0_growRing_39 ?_
      refine lv_topi (fun d_39 e_39 => ?_)
      refine lv_iconst (v := nI 1) hx hb dX0_growRing_40 (by decide) ?_
      refine lv_iadd hx hb dX0_growRing_41 ?_
      refine lv_istore (lv' := [(5, .int (d_39 + (nI 1))), (4, .int (nI L)), (3, .int (nI F)), (0, .ref h), (1, .int x), (2, .int y)]) hx hb dX0_growRing_42 hl (by decide) rfl (fun ls hl => ?_)
      refine lv_iload_n hx hb dX0_growRing_44 rfl (lv_at hl 2 rfl) ?_
      refine lv_iload hx hb dX0_growRing_45 (lv_at hl 1 rfl) ?_
      refine lv_icmp_ge (tgt := 59) hx hb dX0_growRing_47 (by decide) (fun c_47 => ?_) (fun c_47 => ?_)
      · have g_47 : L ≤ F := (nI_leI (a := L) (b := F) (by omega) (by omega)).mp c_47
        obtain ⟨K, hKe⟩ : ∃ K, K = F + 1 - L := ⟨_, rfl⟩
        have hKf := oh_kfac hF hL hne (Or.inl ⟨g_47, hKe⟩)
        have e5 := oh_kp1 e_39 g_47
        rw [e5, ← hKe] at hl
        refine lv_iload hx hb dX0_growRing_59 (lv_at hl 0 rfl) ?_
        refine lv_iconst (v := nI 1) hx hb dX0_growRing_61 (by decide) ?_
        refine lv_iadd hx hb dX0_growRing_62 ?_
        rw [nI_add K 1]
        refine lv_aload_n hx hb dX0_growRing_63 rfl (lv_at hl 3 rfl) ?_
        refine va_get (D := (dC, dI)) (ci := 0) (v := .int (nI N)) (C := RX0) (T := TX0) (N := 7) hx hb hts hin0 hown hK hP 0 rfl rfl 0 (by decide) (hts (.fieldLink RX0 15 "OnlineHull" "cap" "I") (by decide +kernel)) (fun _ h9 => h9) rfl dX0_growRing_64 ?_
        refine lv_icmp_le (tgt := 73) hx hb dX0_growRing_67 (by decide) (fun c_67 => ?_) (fun c_67 => ?_)
        · have g_67 : (K + 1) ≤ N := (nI_leI (a := (K + 1)) (b := N) (by omega) (by omega)).mp c_67
          refine lv_aload_n hx hb dX0_growRing_73 rfl (lv_at hl 3 rfl) ?_
          refine va_get (D := (dC, dI)) (ci := 0) (v := .int (nI n)) (C := RX0) (T := TX0) (N := 7) hx hb hts hin0 hown hK hP 0 rfl rfl 5 (by decide) (hts (.fieldLink RX0 32 "OnlineHull" "corners" "I") (by decide +kernel)) (fun _ h9 => h9) rfl dX0_growRing_74 ?_
          refine lv_iload hx hb dX0_growRing_77 (lv_at hl 0 rfl) ?_
          refine lv_isub hx hb dX0_growRing_79 ?_
          rw [pk_sub (a := n) (b := K) (by omega)]
          refine lv_istore (lv' := [(6, .int (nI (n - K))), (5, .int (nI K)), (4, .int (nI L)), (3, .int (nI F)), (0, .ref h), (1, .int x), (2, .int y)]) hx hb dX0_growRing_80 hl (by decide) rfl (fun ls hl => ?_)
          refine lv_aload_n hx hb dX0_growRing_82 rfl (lv_at hl 4 rfl) ?_
          refine lv_iload_n hx hb dX0_growRing_83 rfl (lv_at hl 5 rfl) ?_
          refine lv_iload_n hx hb dX0_growRing_84 rfl (lv_at hl 6 rfl) ?_
          refine lv_iload hx hb dX0_growRing_85 (lv_at hl 2 rfl) ?_
          refine lv_iload hx hb dX0_growRing_87 (lv_at hl 1 rfl) ?_
          have hPc := hP.sub (ws' := [(h, .inr (0, [.int (nI N), .ref a1, .ref a2, .ref a3, .ref a4, .int (nI n), .int came])), (a1, .inl (cI, N, .inl fx)), (a2, .inl (cI, N, .inl fy)), (a3, .inl (cI, N, .inl rx)), (a4, .inl (cI, N, .inl ry))]) [0, 1, 2, 3, 4] rfl
          have hDc := hD.sub (ws' := [(h, .inr (0, [.int (nI N), .ref a1, .ref a2, .ref a3, .ref a4, .int (nI n), .int came])), (a1, .inl (cI, N, .inl fx)), (a2, .inl (cI, N, .inl fy)), (a3, .inl (cI, N, .inl rx)), (a4, .inl (cI, N, .inl ry))]) [0, 1, 2, 3, 4] (by decide) rfl
          have hFc := va_free (wc := [(h, .inr (0, [.int (nI N), .ref a1, .ref a2, .ref a3, .ref a4, .int (nI n), .int came])), (a1, .inl (cI, N, .inl fx)), (a2, .inl (cI, N, .inl fy)), (a3, .inl (cI, N, .inl rx)), (a4, .inl (cI, N, .inl ry))]) hD hS hA [0, 1, 2, 3, 4] rfl
          refine va_callv (va_runV (As := [.int x, .int y, .int (nI L), .int (nI K)]) (rest := []) ⟨hx, hb, hml, hown, hts⟩ (k_X0_fillRing l dC dI cI h a1 a2 a3 a4 N n came fx fy rx ry H.size L K x y hN hn (by omega) (by omega) (by omega)) (cwV 4 hts gX0_growRing_X0_fillRing rfl rfl rfl (by decide +kernel) ⟨Nat.le_of_ble_eq_true rfl, Nat.le_of_ble_eq_true rfl⟩) (oh_preM (ci := 0) (q0 := 0) hK hPc hDc rfl rfl) rfl rfl hl.1 rfl (lv_room (Nat.le_of_ble_eq_true rfl)) dX0_growRing_89 ⟨Nat.zero_le _, Nat.zero_le _⟩) hS (fun q _ h => hFc q h) hFc (fun u_89 t H1 locs ht hvm hw_89 hB hz1 hk1 hS => ?_)
          obtain ⟨hP1, hK1, hD1⟩ := hB
          rw [ht] at hP1
          obtain ⟨rx_89, ry_89, rfl, hf_89⟩ := hw_89
          obtain ⟨hP, hD⟩ := va_join (wr := []) (w1 := [(h, .inr (0, [.int (nI N), .ref a1, .ref a2, .ref a3, .ref a4, .int (nI n), .int came])), (a1, .inl (cI, N, .inl fx)), (a2, .inl (cI, N, .inl fy)), (a3, .inl (cI, N, .inl rx_89)), (a4, .inl (cI, N, .inl ry_89))]) hP hD [0, 1, 2, 3, 4] [] rfl rfl (by decide) (by decide) hk1 hFc hP1 hD1
          generalize H1 = H at hP hS ⊢
          have hP : va_P (dC, dI) vwCl [(h, .inr (0, [.int (nI N), .ref a1, .ref a2, .ref a3, .ref a4, .int (nI n), .int came])), (a1, .inl (cI, N, .inl fx)), (a2, .inl (cI, N, .inl fy)), (a3, .inl (cI, N, .inl rx_89)), (a4, .inl (cI, N, .inl ry_89))] H := hP
          have hD : va_D A [(h, .inr (0, [.int (nI N), .ref a1, .ref a2, .ref a3, .ref a4, .int (nI n), .int came])), (a1, .inl (cI, N, .inl fx)), (a2, .inl (cI, N, .inl fy)), (a3, .inl (cI, N, .inl rx_89)), (a4, .inl (cI, N, .inl ry_89))] := hD
          clear hPc hDc hFc hP1 hK1 hD1 hk1 hz1 ht
          refine lv_aload_n hx hb dX0_growRing_92 rfl (lv_at hl 4 rfl) ?_
          refine lv_iload hx hb dX0_growRing_93 (lv_at hl 1 rfl) ?_
          refine lv_iconst (v := nI 1) hx hb dX0_growRing_95 (by decide) ?_
          refine lv_iadd hx hb dX0_growRing_96 ?_
          rw [nI_add K 1]
          refine va_put (D := (dC, dI)) (ci := 0) (v := .int (nI (K + 1))) (ty := .int) (C := RX0) (T := TX0) (N := 7) hx hb hts hin0 tyX0 tyX0_ok nmX0 hown hK hP hD hS 0 rfl rfl 5 (by decide) (hts (.fieldLink RX0 32 "OnlineHull" "corners" "I") (by decide +kernel)) (fun _ h9 => h9) rfl (by decide +kernel) rfl rfl (Nat.le_of_ble_eq_true rfl) dX0_growRing_97 (fun H locs hP hD hS => ?_)
          have hP : va_P (dC, dI) vwCl [(h, .inr (0, [.int (nI N), .ref a1, .ref a2, .ref a3, .ref a4, .int (nI (K + 1)), .int came])), (a1, .inl (cI, N, .inl fx)), (a2, .inl (cI, N, .inl fy)), (a3, .inl (cI, N, .inl rx_89)), (a4, .inl (cI, N, .inl ry_89))] H := hP
          have hD : va_D A [(h, .inr (0, [.int (nI N), .ref a1, .ref a2, .ref a3, .ref a4, .int (nI (K + 1)), .int came])), (a1, .inl (cI, N, .inl fx)), (a2, .inl (cI, N, .inl fy)), (a3, .inl (cI, N, .inl rx_89)), (a4, .inl (cI, N, .inl ry_89))] := hD
          refine lv_aload_n hx hb dX0_growRing_100 rfl (lv_at hl 4 rfl) ?_
          have hPc := hP.sub (ws' := [(h, .inr (0, [.int (nI N), .ref a1, .ref a2, .ref a3, .ref a4, .int (nI (K + 1)), .int came])), (a1, .inl (cI, N, .inl fx)), (a2, .inl (cI, N, .inl fy)), (a3, .inl (cI, N, .inl rx_89)), (a4, .inl (cI, N, .inl ry_89))]) [0, 1, 2, 3, 4] rfl
          have hDc := hD.sub (ws' := [(h, .inr (0, [.int (nI N), .ref a1, .ref a2, .ref a3, .ref a4, .int (nI (K + 1)), .int came])), (a1, .inl (cI, N, .inl fx)), (a2, .inl (cI, N, .inl fy)), (a3, .inl (cI, N, .inl rx_89)), (a4, .inl (cI, N, .inl ry_89))]) [0, 1, 2, 3, 4] (by decide) rfl
          have hFc := va_free (wc := [(h, .inr (0, [.int (nI N), .ref a1, .ref a2, .ref a3, .ref a4, .int (nI (K + 1)), .int came])), (a1, .inl (cI, N, .inl fx)), (a2, .inl (cI, N, .inl fy)), (a3, .inl (cI, N, .inl rx_89)), (a4, .inl (cI, N, .inl ry_89))]) hD hS hA [0, 1, 2, 3, 4] rfl
          refine va_callv (va_runV (As := []) (rest := []) ⟨hx, hb, hml, hown, hts⟩ (k_X0_takeRing l dC dI cI h a1 a2 a3 a4 N ((K + 1)) came fx fy rx_89 ry_89 H.size hN (by omega) (by omega)) (cwV 0 hts gX0_growRing_X0_takeRing rfl rfl rfl (by decide +kernel) ⟨Nat.le_of_ble_eq_true rfl, Nat.le_of_ble_eq_true rfl⟩) (oh_preM (ci := 0) (q0 := 0) hK hPc hDc rfl rfl) rfl rfl hl.1 rfl (lv_room (Nat.le_of_ble_eq_true rfl)) dX0_growRing_101 ⟨Nat.zero_le _, Nat.zero_le _⟩) hS (fun q _ h => hFc q h) hFc (fun u_101 t H1 locs ht hvm hw_101 hB hz1 hk1 hS => ?_)
          obtain ⟨hP1, hK1, hD1⟩ := hB
          rw [ht] at hP1
          obtain ⟨b_101, fx_101, fy_101, rfl, hb_101, hm_101, hg_101⟩ := hw_101
          obtain ⟨hP, hD⟩ := va_join (wr := []) (w1 := [(h, .inr (0, [.int (nI N), .ref a1, .ref a2, .ref a3, .ref a4, .int (nI ((K + 1))), .int came])), (a1, .inl (cI, N, .inl fx_101)), (a2, .inl (cI, N, .inl fy_101)), (a3, .inl (cI, N, .inl rx_89)), (a4, .inl (cI, N, .inl ry_89))]) hP hD [0, 1, 2, 3, 4] [] rfl rfl (by decide) (by decide) hk1 hFc hP1 hD1
          generalize H1 = H at hP hS ⊢
          have hP : va_P (dC, dI) vwCl [(h, .inr (0, [.int (nI N), .ref a1, .ref a2, .ref a3, .ref a4, .int (nI ((K + 1))), .int came])), (a1, .inl (cI, N, .inl fx_101)), (a2, .inl (cI, N, .inl fy_101)), (a3, .inl (cI, N, .inl rx_89)), (a4, .inl (cI, N, .inl ry_89))] H := hP
          have hD : va_D A [(h, .inr (0, [.int (nI N), .ref a1, .ref a2, .ref a3, .ref a4, .int (nI ((K + 1))), .int came])), (a1, .inl (cI, N, .inl fx_101)), (a2, .inl (cI, N, .inl fy_101)), (a3, .inl (cI, N, .inl rx_89)), (a4, .inl (cI, N, .inl ry_89))] := hD
          clear hPc hDc hFc hP1 hK1 hD1 hk1 hz1 ht
          refine lv_iconst (v := nI 1) hx hb dX0_growRing_104 (by decide) ?_
          refine lv_iload hx hb dX0_growRing_105 (lv_at hl 0 rfl) ?_
          refine lv_iadd hx hb dX0_growRing_107 ?_
          rw [nI_add 1 ((n - K))]
          exact W.iret (v := nI (1 + (n - K))) hx hb hr (fun t ht hW => ⟨⟨_, (fx_101, fy_101, rx_89, ry_89, ((K + 1)), came), rfl, ⟨K + 1, _, oh_stepR hh h2 ho hF hL f1 f0 l1 l0 hKf hb_101 (oh_rowM hf_89 hL hKf.2.1 hb_101 hm_101), Or.inl ⟨by omega, congrArg nI (by omega), _, _, _, _, rfl, oh_rowA hf_89 hL hKf.2.1 hb_101 hg_101⟩⟩, by rw [ht]; exact hP, va_K.moved hW.alike hK, hD⟩, hS.F ht⟩) hS.2.2 dX0_growRing_108
        · have g_67 : ¬ (K + 1) ≤ N := fun q => c_67 ((nI_leI (a := (K + 1)) (b := N) (by omega) (by omega)).mpr q)
          refine lv_bipush (v := -2) hx hb dX0_growRing_70 (by decide) ?_
          exact W.iret (v := -2) hx hb hr (fun t ht hW => ⟨⟨_, (fx, fy, rx, ry, n, came), rfl, by obtain ⟨ρ9, hst⟩ := oh_stepR0 hh h2 ho hF hL f1 f0 l1 l0 hKf; exact ⟨K + 1, ρ9, hst, Or.inr ⟨by omega, rfl, rfl⟩⟩, by rw [ht]; exact hP, va_K.moved hW.alike hK, hD⟩, hS.F ht⟩) hS.2.2 dX0_growRing_72
      · have g_47 : ¬ L ≤ F := fun q => c_47 ((nI_leI (a := L) (b := F) (by omega) (by omega)).mpr q)
        refine lv_iload hx hb dX0_growRing_50 (lv_at hl 0 rfl) ?_
        refine lv_aload_n hx hb dX0_growRing_52 rfl (lv_at hl 3 rfl) ?_
        refine va_get (D := (dC, dI)) (ci := 0) (v := .int (nI n)) (C := RX0) (T := TX0) (N := 7) hx hb hts hin0 hown hK hP 0 rfl rfl 5 (by decide) (hts (.fieldLink RX0 32 "OnlineHull" "corners" "I") (by decide +kernel)) (fun _ h9 => h9) rfl dX0_growRing_53 ?_
        refine lv_iadd hx hb dX0_growRing_56 ?_
        refine lv_topi (fun k_56 e_56 => ?_)
        have e6 := oh_kp2 e_39 e_56 (by omega)
        obtain ⟨K, hKe⟩ : ∃ K, K = F + n + 1 - L := ⟨_, rfl⟩
        rw [← hKe] at e6
        have hKf := oh_kfac hF hL hne (Or.inr ⟨by omega, hKe⟩)
        subst e6
        refine lv_istore (lv' := [(5, .int (nI K)), (4, .int (nI L)), (3, .int (nI F)), (0, .ref h), (1, .int x), (2, .int y)]) hx hb dX0_growRing_57 hl (by decide) rfl (fun ls hl => ?_)
        refine lv_iload hx hb dX0_growRing_59 (lv_at hl 0 rfl) ?_
        refine lv_iconst (v := nI 1) hx hb dX0_growRing_61 (by decide) ?_
        refine lv_iadd hx hb dX0_growRing_62 ?_
        rw [nI_add K 1]
        refine lv_aload_n hx hb dX0_growRing_63 rfl (lv_at hl 3 rfl) ?_
        refine va_get (D := (dC, dI)) (ci := 0) (v := .int (nI N)) (C := RX0) (T := TX0) (N := 7) hx hb hts hin0 hown hK hP 0 rfl rfl 0 (by decide) (hts (.fieldLink RX0 15 "OnlineHull" "cap" "I") (by decide +kernel)) (fun _ h9 => h9) rfl dX0_growRing_64 ?_
        refine lv_icmp_le (tgt := 73) hx hb dX0_growRing_67 (by decide) (fun c_67 => ?_) (fun c_67 => ?_)
        · have g_67 : (K + 1) ≤ N := (nI_leI (a := (K + 1)) (b := N) (by omega) (by omega)).mp c_67
          refine lv_aload_n hx hb dX0_growRing_73 rfl (lv_at hl 3 rfl) ?_
          refine va_get (D := (dC, dI)) (ci := 0) (v := .int (nI n)) (C := RX0) (T := TX0) (N := 7) hx hb hts hin0 hown hK hP 0 rfl rfl 5 (by decide) (hts (.fieldLink RX0 32 "OnlineHull" "corners" "I") (by decide +kernel)) (fun _ h9 => h9) rfl dX0_growRing_74 ?_
          refine lv_iload hx hb dX0_growRing_77 (lv_at hl 0 rfl) ?_
          refine lv_isub hx hb dX0_growRing_79 ?_
          rw [pk_sub (a := n) (b := K) (by omega)]
          refine lv_istore (lv' := [(6, .int (nI (n - K))), (5, .int (nI K)), (4, .int (nI L)), (3, .int (nI F)), (0, .ref h), (1, .int x), (2, .int y)]) hx hb dX0_growRing_80 hl (by decide) rfl (fun ls hl => ?_)
          refine lv_aload_n hx hb dX0_growRing_82 rfl (lv_at hl 4 rfl) ?_
          refine lv_iload_n hx hb dX0_growRing_83 rfl (lv_at hl 5 rfl) ?_
          refine lv_iload_n hx hb dX0_growRing_84 rfl (lv_at hl 6 rfl) ?_
          refine lv_iload hx hb dX0_growRing_85 (lv_at hl 2 rfl) ?_
          refine lv_iload hx hb dX0_growRing_87 (lv_at hl 1 rfl) ?_
          have hPc := hP.sub (ws' := [(h, .inr (0, [.int (nI N), .ref a1, .ref a2, .ref a3, .ref a4, .int (nI n), .int came])), (a1, .inl (cI, N, .inl fx)), (a2, .inl (cI, N, .inl fy)), (a3, .inl (cI, N, .inl rx)), (a4, .inl (cI, N, .inl ry))]) [0, 1, 2, 3, 4] rfl
          have hDc := hD.sub (ws' := [(h, .inr (0, [.int (nI N), .ref a1, .ref a2, .ref a3, .ref a4, .int (nI n), .int came])), (a1, .inl (cI, N, .inl fx)), (a2, .inl (cI, N, .inl fy)), (a3, .inl (cI, N, .inl rx)), (a4, .inl (cI, N, .inl ry))]) [0, 1, 2, 3, 4] (by decide) rfl
          have hFc := va_free (wc := [(h, .inr (0, [.int (nI N), .ref a1, .ref a2, .ref a3, .ref a4, .int (nI n), .int came])), (a1, .inl (cI, N, .inl fx)), (a2, .inl (cI, N, .inl fy)), (a3, .inl (cI, N, .inl rx)), (a4, .inl (cI, N, .inl ry))]) hD hS hA [0, 1, 2, 3, 4] rfl
          refine va_callv (va_runV (As := [.int x, .int y, .int (nI L), .int (nI K)]) (rest := []) ⟨hx, hb, hml, hown, hts⟩ (k_X0_fillRing l dC dI cI h a1 a2 a3 a4 N n came fx fy rx ry H.size L K x y hN hn (by omega) (by omega) (by omega)) (cwV 4 hts gX0_growRing_X0_fillRing rfl rfl rfl (by decide +kernel) ⟨Nat.le_of_ble_eq_true rfl, Nat.le_of_ble_eq_true rfl⟩) (oh_preM (ci := 0) (q0 := 0) hK hPc hDc rfl rfl) rfl rfl hl.1 rfl (lv_room (Nat.le_of_ble_eq_true rfl)) dX0_growRing_89 ⟨Nat.zero_le _, Nat.zero_le _⟩) hS (fun q _ h => hFc q h) hFc (fun u_89 t H1 locs ht hvm hw_89 hB hz1 hk1 hS => ?_)
          obtain ⟨hP1, hK1, hD1⟩ := hB
          rw [ht] at hP1
          obtain ⟨rx_89, ry_89, rfl, hf_89⟩ := hw_89
          obtain ⟨hP, hD⟩ := va_join (wr := []) (w1 := [(h, .inr (0, [.int (nI N), .ref a1, .ref a2, .ref a3, .ref a4, .int (nI n), .int came])), (a1, .inl (cI, N, .inl fx)), (a2, .inl (cI, N, .inl fy)), (a3, .inl (cI, N, .inl rx_89)), (a4, .inl (cI, N, .inl ry_89))]) hP hD [0, 1, 2, 3, 4] [] rfl rfl (by decide) (by decide) hk1 hFc hP1 hD1
          generalize H1 = H at hP hS ⊢
          have hP : va_P (dC, dI) vwCl [(h, .inr (0, [.int (nI N), .ref a1, .ref a2, .ref a3, .ref a4, .int (nI n), .int came])), (a1, .inl (cI, N, .inl fx)), (a2, .inl (cI, N, .inl fy)), (a3, .inl (cI, N, .inl rx_89)), (a4, .inl (cI, N, .inl ry_89))] H := hP
          have hD : va_D A [(h, .inr (0, [.int (nI N), .ref a1, .ref a2, .ref a3, .ref a4, .int (nI n), .int came])), (a1, .inl (cI, N, .inl fx)), (a2, .inl (cI, N, .inl fy)), (a3, .inl (cI, N, .inl rx_89)), (a4, .inl (cI, N, .inl ry_89))] := hD
          clear hPc hDc hFc hP1 hK1 hD1 hk1 hz1 ht
          refine lv_aload_n hx hb dX0_growRing_92 rfl (lv_at hl 4 rfl) ?_
          refine lv_iload hx hb dX0_growRing_93 (lv_at hl 1 rfl) ?_
          refine lv_iconst (v := nI 1) hx hb dX0_growRing_95 (by decide) ?_
          refine lv_iadd hx hb dX0_growRing_96 ?_
          rw [nI_add K 1]
          refine va_put (D := (dC, dI)) (ci := 0) (v := .int (nI (K + 1))) (ty := .int) (C := RX0) (T := TX0) (N := 7) hx hb hts hin0 tyX0 tyX0_ok nmX0 hown hK hP hD hS 0 rfl rfl 5 (by decide) (hts (.fieldLink RX0 32 "OnlineHull" "corners" "I") (by decide +kernel)) (fun _ h9 => h9) rfl (by decide +kernel) rfl rfl (Nat.le_of_ble_eq_true rfl) dX0_growRing_97 (fun H locs hP hD hS => ?_)
          have hP : va_P (dC, dI) vwCl [(h, .inr (0, [.int (nI N), .ref a1, .ref a2, .ref a3, .ref a4, .int (nI (K + 1)), .int came])), (a1, .inl (cI, N, .inl fx)), (a2, .inl (cI, N, .inl fy)), (a3, .inl (cI, N, .inl rx_89)), (a4, .inl (cI, N, .inl ry_89))] H := hP
          have hD : va_D A [(h, .inr (0, [.int (nI N), .ref a1, .ref a2, .ref a3, .ref a4, .int (nI (K + 1)), .int came])), (a1, .inl (cI, N, .inl fx)), (a2, .inl (cI, N, .inl fy)), (a3, .inl (cI, N, .inl rx_89)), (a4, .inl (cI, N, .inl ry_89))] := hD
          refine lv_aload_n hx hb dX0_growRing_100 rfl (lv_at hl 4 rfl) ?_
          have hPc := hP.sub (ws' := [(h, .inr (0, [.int (nI N), .ref a1, .ref a2, .ref a3, .ref a4, .int (nI (K + 1)), .int came])), (a1, .inl (cI, N, .inl fx)), (a2, .inl (cI, N, .inl fy)), (a3, .inl (cI, N, .inl rx_89)), (a4, .inl (cI, N, .inl ry_89))]) [0, 1, 2, 3, 4] rfl
          have hDc := hD.sub (ws' := [(h, .inr (0, [.int (nI N), .ref a1, .ref a2, .ref a3, .ref a4, .int (nI (K + 1)), .int came])), (a1, .inl (cI, N, .inl fx)), (a2, .inl (cI, N, .inl fy)), (a3, .inl (cI, N, .inl rx_89)), (a4, .inl (cI, N, .inl ry_89))]) [0, 1, 2, 3, 4] (by decide) rfl
          have hFc := va_free (wc := [(h, .inr (0, [.int (nI N), .ref a1, .ref a2, .ref a3, .ref a4, .int (nI (K + 1)), .int came])), (a1, .inl (cI, N, .inl fx)), (a2, .inl (cI, N, .inl fy)), (a3, .inl (cI, N, .inl rx_89)), (a4, .inl (cI, N, .inl ry_89))]) hD hS hA [0, 1, 2, 3, 4] rfl
          refine va_callv (va_runV (As := []) (rest := []) ⟨hx, hb, hml, hown, hts⟩ (k_X0_takeRing l dC dI cI h a1 a2 a3 a4 N ((K + 1)) came fx fy rx_89 ry_89 H.size hN (by omega) (by omega)) (cwV 0 hts gX0_growRing_X0_takeRing rfl rfl rfl (by decide +kernel) ⟨Nat.le_of_ble_eq_true rfl, Nat.le_of_ble_eq_true rfl⟩) (oh_preM (ci := 0) (q0 := 0) hK hPc hDc rfl rfl) rfl rfl hl.1 rfl (lv_room (Nat.le_of_ble_eq_true rfl)) dX0_growRing_101 ⟨Nat.zero_le _, Nat.zero_le _⟩) hS (fun q _ h => hFc q h) hFc (fun u_101 t H1 locs ht hvm hw_101 hB hz1 hk1 hS => ?_)
          obtain ⟨hP1, hK1, hD1⟩ := hB
          rw [ht] at hP1
          obtain ⟨b_101, fx_101, fy_101, rfl, hb_101, hm_101, hg_101⟩ := hw_101
          obtain ⟨hP, hD⟩ := va_join (wr := []) (w1 := [(h, .inr (0, [.int (nI N), .ref a1, .ref a2, .ref a3, .ref a4, .int (nI ((K + 1))), .int came])), (a1, .inl (cI, N, .inl fx_101)), (a2, .inl (cI, N, .inl fy_101)), (a3, .inl (cI, N, .inl rx_89)), (a4, .inl (cI, N, .inl ry_89))]) hP hD [0, 1, 2, 3, 4] [] rfl rfl (by decide) (by decide) hk1 hFc hP1 hD1
          generalize H1 = H at hP hS ⊢
          have hP : va_P (dC, dI) vwCl [(h, .inr (0, [.int (nI N), .ref a1, .ref a2, .ref a3, .ref a4, .int (nI ((K + 1))), .int came])), (a1, .inl (cI, N, .inl fx_101)), (a2, .inl (cI, N, .inl fy_101)), (a3, .inl (cI, N, .inl rx_89)), (a4, .inl (cI, N, .inl ry_89))] H := hP
          have hD : va_D A [(h, .inr (0, [.int (nI N), .ref a1, .ref a2, .ref a3, .ref a4, .int (nI ((K + 1))), .int came])), (a1, .inl (cI, N, .inl fx_101)), (a2, .inl (cI, N, .inl fy_101)), (a3, .inl (cI, N, .inl rx_89)), (a4, .inl (cI, N, .inl ry_89))] := hD
          clear hPc hDc hFc hP1 hK1 hD1 hk1 hz1 ht
          refine lv_iconst (v := nI 1) hx hb dX0_growRing_104 (by decide) ?_
          refine lv_iload hx hb dX0_growRing_105 (lv_at hl 0 rfl) ?_
          refine lv_iadd hx hb dX0_growRing_107 ?_
          rw [nI_add 1 ((n - K))]
          exact W.iret (v := nI (1 + (n - K))) hx hb hr (fun t ht hW => ⟨⟨_, (fx_101, fy_101, rx_89, ry_89, ((K + 1)), came), rfl, ⟨K + 1, _, oh_stepR hh h2 ho hF hL f1 f0 l1 l0 hKf hb_101 (oh_rowM hf_89 hL hKf.2.1 hb_101 hm_101), Or.inl ⟨by omega, congrArg nI (by omega), _, _, _, _, rfl, oh_rowA hf_89 hL hKf.2.1 hb_101 hg_101⟩⟩, by rw [ht]; exact hP, va_K.moved hW.alike hK, hD⟩, hS.F ht⟩) hS.2.2 dX0_growRing_108
        · have g_67 : ¬ (K + 1) ≤ N := fun q => c_67 ((nI_leI (a := (K + 1)) (b := N) (by omega) (by omega)).mpr q)
          refine lv_bipush (v := -2) hx hb dX0_growRing_70 (by decide) ?_
          exact W.iret (v := -2) hx hb hr (fun t ht hW => ⟨⟨_, (fx, fy, rx, ry, n, came), rfl, by obtain ⟨ρ9, hst⟩ := oh_stepR0 hh h2 ho hF hL f1 f0 l1 l0 hKf; exact ⟨K + 1, ρ9, hst, Or.inr ⟨by omega, rfl, rfl⟩⟩, by rw [ht]; exact hP, va_K.moved hW.alike hK, hD⟩, hS.F ht⟩) hS.2.2 dX0_growRing_72
    · exact absurd ⟨by rw [nI_toInt (by omega)]; omega, by rw [nI_toInt (by omega)]; omega⟩ b_28
  · exact absurd ⟨by rw [nI_toInt (by omega)]; omega, by rw [nI_toInt (by omega)]; omega⟩ b_19

set_option maxHeartbeats 4000000 in
set_option maxRecDepth 100000 in
theorem k_X0_add (l : Launch) (dC : Nat → ClassId) (dI : Nat → Nat → Nat) (cI : ClassId) (h a1 a2 a3 a4 N n : Nat) (came : Int32) (fx fy rx ry : Nat → Int32) (sz : Nat) (x y : Int32) (hN : N ≤ 64) (hn : n ≤ N) (h3 : 3 ≤ N) (hR : ∀ j, j < n → oh_inR (fx j) (fy j)) (hh : oh_hull n (oh_pt fx fy)) : Met l yX0_add wsX0_add ({ frames := 4, cells := 0, slots := 0, locals := 97 }) (va_Pc [.ref h, .int x, .int y] (fun U => U.heap.size = sz ∧ va_P (dC, dI) vwCl [(h, .inr (0, [.int (nI N), .ref a1, .ref a2, .ref a3, .ref a4, .int (nI n), .int came])), (a1, .inl (cI, N, .inl fx)), (a2, .inl (cI, N, .inl fy)), (a3, .inl (cI, N, .inl rx)), (a4, .inl (cI, N, .inl ry))] U.heap ∧ va_K (dC, dI) vwCl [(cI, .int)] U ∧ va_D (fun _ => True) [(h, .inr (0, [.int (nI N), .ref a1, .ref a2, .ref a3, .ref a4, .int (nI n), .int came])), (a1, .inl (cI, N, .inl fx)), (a2, .inl (cI, N, .inl fy)), (a3, .inl (cI, N, .inl rx)), (a4, .inl (cI, N, .inl ry))])) (va_Qi (S := (Nat → Int32) × (Nat → Int32) × (Nat → Int32) × (Nat → Int32) × Nat × Int32) (fun r u => oh_addC N n fx fy rx ry came x y r u) (fun u t => va_P (dC, dI) vwCl [(h, .inr (0, [.int (nI N), .ref a1, .ref a2, .ref a3, .ref a4, .int (nI u.2.2.2.2.1), .int u.2.2.2.2.2])), (a1, .inl (cI, N, .inl u.1)), (a2, .inl (cI, N, .inl u.2.1)), (a3, .inl (cI, N, .inl u.2.2.1)), (a4, .inl (cI, N, .inl u.2.2.2.1))] t.heap ∧ va_K (dC, dI) vwCl [(cI, .int)] t ∧ va_D (va_A [(h, .inr (0, [.int (nI N), .ref a1, .ref a2, .ref a3, .ref a4, .int (nI n), .int came])), (a1, .inl (cI, N, .inl fx)), (a2, .inl (cI, N, .inl fy)), (a3, .inl (cI, N, .inl rx)), (a4, .inl (cI, N, .inl ry))] sz) [(h, .inr (0, [.int (nI N), .ref a1, .ref a2, .ref a3, .ref a4, .int (nI u.2.2.2.2.1), .int u.2.2.2.2.2])), (a1, .inl (cI, N, .inl u.1)), (a2, .inl (cI, N, .inl u.2.1)), (a3, .inl (cI, N, .inl u.2.2.1)), (a4, .inl (cI, N, .inl u.2.2.2.1))]) (va_A [(h, .inr (0, [.int (nI N), .ref a1, .ref a2, .ref a3, .ref a4, .int (nI n), .int came])), (a1, .inl (cI, N, .inl fx)), (a2, .inl (cI, N, .inl fy)), (a3, .inl (cI, N, .inl rx)), (a4, .inl (cI, N, .inl ry))] sz)) 0 0 (va_A [(h, .inr (0, [.int (nI N), .ref a1, .ref a2, .ref a3, .ref a4, .int (nI n), .int came])), (a1, .inl (cI, N, .inl fx)), (a2, .inl (cI, N, .inl fy)), (a3, .inl (cI, N, .inl rx)), (a4, .inl (cI, N, .inl ry))] sz) := by
  refine Met.ofW (cc := cX0_add) (maxL := 4) (ret := (some .int)) (by decide) rfl ?_
  intro p e s m args below meth c s₁ B hml hv
  obtain ⟨rfl, hsz, hP, hK, hD0⟩ := hv
  have hx := B.exec
  have hb := B.bytes
  have hr := B.returns
  have hts := atoms_spec (ws := wsX0_add) B.pre
  have hown : s.vm.findClass RX0 = some m.cls := findClass_of_methodNamed B.named
  have hlocks := B.notSynchronized
  have hin0 : ∀ w ∈ wsX00, w ∈ wsX0_add := fun w h => List.mem_cons_of_mem _ (List.mem_append_right _ h)
  subst hsz
  have hD := hD0.self (sz := s.heap.size)
  generalize hAe : va_A [(h, .inr (0, [.int (nI N), .ref a1, .ref a2, .ref a3, .ref a4, .int (nI n), .int came])), (a1, .inl (cI, N, .inl fx)), (a2, .inl (cI, N, .inl fy)), (a3, .inl (cI, N, .inl rx)), (a4, .inl (cI, N, .inl ry))] s.heap.size = A at hD ⊢
  have hA : ∀ q : Nat, s.heap.size ≤ q → A q := fun q h => by rw [← hAe]; exact Or.inr h
  have hS : va_S A s.heap s.heap [] := va_S.rf
  have hl := lv_entry ([.ref h, .int x, .int y]) (n := 4) (Nat.le_of_ble_eq_true rfl)
  rw [lg_entry_eq]
  generalize (lg_sl ([.ref h, .int x, .int y]) ++ List.replicate (4 - (lg_sl ([.ref h, .int x, .int y])).length) Slot.unset).toArray = ls at hl ⊢
  have hl : lv_has ls 4 [(0, .ref h), (1, .int x), (2, .int y)] := hl
  suffices hgo : ∀ (H : Heap) (locs : List Loc), va_P (dC, dI) vwCl [(h, .inr (0, [.int (nI N), .ref a1, .ref a2, .ref a3, .ref a4, .int (nI n), .int came])), (a1, .inl (cI, N, .inl fx)), (a2, .inl (cI, N, .inl fy)), (a3, .inl (cI, N, .inl rx)), (a4, .inl (cI, N, .inl ry))] H → va_D A [(h, .inr (0, [.int (nI N), .ref a1, .ref a2, .ref a3, .ref a4, .int (nI n), .int came])), (a1, .inl (cI, N, .inl fx)), (a2, .inl (cI, N, .inl fy)), (a3, .inl (cI, N, .inl rx)), (a4, .inl (cI, N, .inl ry))] → va_S A s.heap H locs → W p l e (headSpec wsX0_add ({ frames := 4, cells := 0, slots := 0, locals := 97 })).room s m ([.ref h, .int x, .int y] : List Value).toArray below meth c H locs 0 0 (MQ below (va_Qi (S := (Nat → Int32) × (Nat → Int32) × (Nat → Int32) × (Nat → Int32) × Nat × Int32) (fun r u => oh_addC N n fx fy rx ry came x y r u) (fun u t => va_P (dC, dI) vwCl [(h, .inr (0, [.int (nI N), .ref a1, .ref a2, .ref a3, .ref a4, .int (nI u.2.2.2.2.1), .int u.2.2.2.2.2])), (a1, .inl (cI, N, .inl u.1)), (a2, .inl (cI, N, .inl u.2.1)), (a3, .inl (cI, N, .inl u.2.2.1)), (a4, .inl (cI, N, .inl u.2.2.2.1))] t.heap ∧ va_K (dC, dI) vwCl [(cI, .int)] t ∧ va_D A [(h, .inr (0, [.int (nI N), .ref a1, .ref a2, .ref a3, .ref a4, .int (nI u.2.2.2.2.1), .int u.2.2.2.2.2])), (a1, .inl (cI, N, .inl u.1)), (a2, .inl (cI, N, .inl u.2.1)), (a3, .inl (cI, N, .inl u.2.2.1)), (a4, .inl (cI, N, .inl u.2.2.2.1))]) A) ([.ref h, .int x, .int y] : List Value).toArray s 0 0 A) (F0 m 0 ls []) from hgo s.heap [] hP hD hS
  clear hP hD hS hD0
  intro H locs hP hD hS
  refine lv_iload_n hx hb dX0_add_0 rfl (lv_at hl 1 rfl) ?_
  refine lv_iload_n hx hb dX0_add_1 rfl (lv_at hl 2 rfl) ?_
  refine vp_callSi (va_Run.run (va_runS (As := [.int x, .int y]) (rest := []) ⟨hx, hb, hml, hown, hts⟩ (k_X0_inRange l x y) (va_cwS 2 hts gX0_add_X0_inRange rfl rfl rfl (by decide +kernel) ⟨Nat.le_of_ble_eq_true rfl, Nat.le_of_ble_eq_true rfl⟩) oh_pre0 rfl rfl hl.1 rfl (lv_room (Nat.le_of_ble_eq_true rfl)) dX0_add_2 ⟨Nat.zero_le _, Nat.zero_le _⟩)) (fun r_2 hr_2 => ?_)
  rcases hr_2 with ⟨b_2, hr_2⟩ | ⟨b_2, hr_2⟩ <;> subst hr_2
  · refine lv_if_ne (tgt := 10) hx hb dX0_add_5 (by decide) (fun _ => ?_) (fun q => absurd q (by decide))
    refine lv_iconst (v := nI 0) hx hb dX0_add_10 (by decide) ?_
    refine lv_istore_n (lv' := [(3, .int (nI 0)), (0, .ref h), (1, .int x), (2, .int y)]) hx hb dX0_add_11 rfl hl (by decide) rfl (fun ls hl => ?_)
    refine lv_aload_n hx hb dX0_add_12 rfl (lv_at hl 1 rfl) ?_
    refine lv_iload_n hx hb dX0_add_13 rfl (lv_at hl 2 rfl) ?_
    refine lv_iload_n hx hb dX0_add_14 rfl (lv_at hl 3 rfl) ?_
    refine vp_callSi (va_Run.run (va_runV (As := [.int x, .int y]) (rest := []) ⟨hx, hb, hml, hown, hts⟩ (k_X0_placeOf l dC dI cI h a1 a2 a3 a4 N n came fx fy rx ry x y hN hn hR b_2) (cwV 2 hts gX0_add_X0_placeOf rfl rfl rfl (by decide +kernel) ⟨Nat.le_of_ble_eq_true rfl, Nat.le_of_ble_eq_true rfl⟩) (oh_pre (ci := 0) (q0 := 0) hK hP rfl rfl) rfl rfl hl.1 rfl (lv_room (Nat.le_of_ble_eq_true rfl)) dX0_add_15 ⟨Nat.zero_le _, Nat.zero_le _⟩)) (fun r_15 hr_15 => ?_)
    refine lv_if_ne (tgt := 46) hx hb dX0_add_18 (by decide) (fun c_18 => ?_) (fun c_18 => ?_)
    · have g_18 : r_15.toInt ≠ 0 := oh_neI0 c_18
      refine lv_iload_n hx hb dX0_add_46 rfl (lv_at hl 0 rfl) ?_
      refine lv_bipush (v := -2) hx hb dX0_add_47 (by decide) ?_
      refine lv_icmp_eq (tgt := 62) hx hb dX0_add_49 (by decide) (fun q => absurd q (by decide)) (fun _ => ?_)
      refine lv_aload_n hx hb dX0_add_52 rfl (lv_at hl 1 rfl) ?_
      refine lv_dup hx hb dX0_add_53 rfl ?_
      refine va_get (D := (dC, dI)) (ci := 0) (v := .int came) (C := RX0) (T := TX0) (N := 7) hx hb hts hin0 hown hK hP 0 rfl rfl 6 (by decide) (hts (.fieldLink RX0 35 "OnlineHull" "came" "I") (by decide +kernel)) (fun _ h9 => h9) rfl dX0_add_54 ?_
      refine lv_iconst (v := nI 1) hx hb dX0_add_57 (by decide) ?_
      refine lv_iadd hx hb dX0_add_58 ?_
      refine va_put (D := (dC, dI)) (ci := 0) (v := .int (came + (nI 1))) (ty := .int) (C := RX0) (T := TX0) (N := 7) hx hb hts hin0 tyX0 tyX0_ok nmX0 hown hK hP hD hS 0 rfl rfl 6 (by decide) (hts (.fieldLink RX0 35 "OnlineHull" "came" "I") (by decide +kernel)) (fun _ h9 => h9) rfl (by decide +kernel) rfl rfl (Nat.le_of_ble_eq_true rfl) dX0_add_59 (fun H locs hP hD hS => ?_)
      have hP : va_P (dC, dI) vwCl [(h, .inr (0, [.int (nI N), .ref a1, .ref a2, .ref a3, .ref a4, .int (nI n), .int (came + (nI 1))])), (a1, .inl (cI, N, .inl fx)), (a2, .inl (cI, N, .inl fy)), (a3, .inl (cI, N, .inl rx)), (a4, .inl (cI, N, .inl ry))] H := hP
      have hD : va_D A [(h, .inr (0, [.int (nI N), .ref a1, .ref a2, .ref a3, .ref a4, .int (nI n), .int (came + (nI 1))])), (a1, .inl (cI, N, .inl fx)), (a2, .inl (cI, N, .inl fy)), (a3, .inl (cI, N, .inl rx)), (a4, .inl (cI, N, .inl ry))] := hD
      refine lv_iload_n hx hb dX0_add_62 rfl (lv_at hl 0 rfl) ?_
      exact W.iret (v := nI 0) hx hb hr (fun t ht hW => ⟨⟨_, (fx, fy, rx, ry, n, came + (nI 1)), rfl, Or.inr ⟨b_2, r_15, hr_15, Or.inl ⟨g_18, rfl, rfl⟩⟩, by rw [ht]; exact hP, va_K.moved hW.alike hK, hD⟩, hS.F ht⟩) hS.2.2 dX0_add_63
    · have g_18 : r_15.toInt = 0 := oh_eqI0 c_18
      refine lv_aload_n hx hb dX0_add_21 rfl (lv_at hl 1 rfl) ?_
      refine lv_iload_n hx hb dX0_add_22 rfl (lv_at hl 2 rfl) ?_
      refine lv_iload_n hx hb dX0_add_23 rfl (lv_at hl 3 rfl) ?_
      refine vp_callSi (va_Run.run (va_runV (As := [.int x, .int y]) (rest := []) ⟨hx, hb, hml, hown, hts⟩ (k_X0_staysInLine l dC dI cI h a1 a2 a3 a4 N n came fx fy rx ry x y hN hn hR b_2) (cwV 2 hts gX0_add_X0_staysInLine rfl rfl rfl (by decide +kernel) ⟨Nat.le_of_ble_eq_true rfl, Nat.le_of_ble_eq_true rfl⟩) (oh_pre (ci := 0) (q0 := 0) hK hP rfl rfl) rfl rfl hl.1 rfl (lv_room (Nat.le_of_ble_eq_true rfl)) dX0_add_24 ⟨Nat.zero_le _, Nat.zero_le _⟩)) (fun r_24 hr_24 => ?_)
      rcases hr_24 with ⟨b_24, hr_24⟩ | ⟨b_24, hr_24⟩ <;> subst hr_24
      · refine lv_if_eq (tgt := 39) hx hb dX0_add_27 (by decide) (fun q => absurd q (by decide)) (fun _ => ?_)
        refine lv_aload_n hx hb dX0_add_30 rfl (lv_at hl 1 rfl) ?_
        refine lv_iload_n hx hb dX0_add_31 rfl (lv_at hl 2 rfl) ?_
        refine lv_iload_n hx hb dX0_add_32 rfl (lv_at hl 3 rfl) ?_
        have hPc := hP.sub (ws' := [(h, .inr (0, [.int (nI N), .ref a1, .ref a2, .ref a3, .ref a4, .int (nI n), .int came])), (a1, .inl (cI, N, .inl fx)), (a2, .inl (cI, N, .inl fy)), (a3, .inl (cI, N, .inl rx)), (a4, .inl (cI, N, .inl ry))]) [0, 1, 2, 3, 4] rfl
        have hDc := hD.sub (ws' := [(h, .inr (0, [.int (nI N), .ref a1, .ref a2, .ref a3, .ref a4, .int (nI n), .int came])), (a1, .inl (cI, N, .inl fx)), (a2, .inl (cI, N, .inl fy)), (a3, .inl (cI, N, .inl rx)), (a4, .inl (cI, N, .inl ry))]) [0, 1, 2, 3, 4] (by decide) rfl
        have hFc := va_free (wc := [(h, .inr (0, [.int (nI N), .ref a1, .ref a2, .ref a3, .ref a4, .int (nI n), .int came])), (a1, .inl (cI, N, .inl fx)), (a2, .inl (cI, N, .inl fy)), (a3, .inl (cI, N, .inl rx)), (a4, .inl (cI, N, .inl ry))]) hD hS hA [0, 1, 2, 3, 4] rfl
        refine va_calli (va_runV (As := [.int x, .int y]) (rest := []) ⟨hx, hb, hml, hown, hts⟩ (k_X0_growLine l dC dI cI h a1 a2 a3 a4 N n came fx fy rx ry H.size x y hN hn h3 hh b_24 (oh_pl3no' hr_15 g_18 b_24)) (cwV 2 hts gX0_add_X0_growLine rfl rfl rfl (by decide +kernel) ⟨Nat.le_of_ble_eq_true rfl, Nat.le_of_ble_eq_true rfl⟩) (oh_preM (ci := 0) (q0 := 0) hK hPc hDc rfl rfl) rfl rfl hl.1 rfl (lv_room (Nat.le_of_ble_eq_true rfl)) dX0_add_33 ⟨Nat.zero_le _, Nat.zero_le _⟩) hS (fun q _ h => hFc q h) hFc (fun r_33 u_33 t H1 locs ht hvm hw_33 hB hz1 hk1 hS => ?_)
        obtain ⟨hP1, hK1, hD1⟩ := hB
        rw [ht] at hP1
        obtain ⟨m9, ρ9, gx9, gy9, rfl, rfl, hmN, hst, har⟩ := hw_33
        obtain ⟨hP, hD⟩ := va_join (wr := []) (w1 := [(h, .inr (0, [.int (nI N), .ref a1, .ref a2, .ref a3, .ref a4, .int (nI m9), .int came])), (a1, .inl (cI, N, .inl gx9)), (a2, .inl (cI, N, .inl gy9)), (a3, .inl (cI, N, .inl rx)), (a4, .inl (cI, N, .inl ry))]) hP hD [0, 1, 2, 3, 4] [] rfl rfl (by decide) (by decide) hk1 hFc hP1 hD1
        generalize H1 = H at hP hS ⊢
        have hP : va_P (dC, dI) vwCl [(h, .inr (0, [.int (nI N), .ref a1, .ref a2, .ref a3, .ref a4, .int (nI m9), .int came])), (a1, .inl (cI, N, .inl gx9)), (a2, .inl (cI, N, .inl gy9)), (a3, .inl (cI, N, .inl rx)), (a4, .inl (cI, N, .inl ry))] H := hP
        have hD : va_D A [(h, .inr (0, [.int (nI N), .ref a1, .ref a2, .ref a3, .ref a4, .int (nI m9), .int came])), (a1, .inl (cI, N, .inl gx9)), (a2, .inl (cI, N, .inl gy9)), (a3, .inl (cI, N, .inl rx)), (a4, .inl (cI, N, .inl ry))] := hD
        clear hPc hDc hFc hP1 hK1 hD1 hk1 hz1 ht
        refine lv_goto (tgt := 45) hx hb dX0_add_36 (by decide) ?_
        refine lv_istore_n (lv' := [(3, .int (nI (n + 2 - m9))), (0, .ref h), (1, .int x), (2, .int y)]) hx hb dX0_add_45 rfl hl (by decide) rfl (fun ls hl => ?_)
        refine lv_iload_n hx hb dX0_add_46 rfl (lv_at hl 0 rfl) ?_
        refine lv_bipush (v := -2) hx hb dX0_add_47 (by decide) ?_
        refine lv_icmp_eq (tgt := 62) hx hb dX0_add_49 (by decide) (fun q => absurd q (oh_nn (by omega))) (fun _ => ?_)
        refine lv_aload_n hx hb dX0_add_52 rfl (lv_at hl 1 rfl) ?_
        refine lv_dup hx hb dX0_add_53 rfl ?_
        refine va_get (D := (dC, dI)) (ci := 0) (v := .int came) (C := RX0) (T := TX0) (N := 7) hx hb hts hin0 hown hK hP 0 rfl rfl 6 (by decide) (hts (.fieldLink RX0 35 "OnlineHull" "came" "I") (by decide +kernel)) (fun _ h9 => h9) rfl dX0_add_54 ?_
        refine lv_iconst (v := nI 1) hx hb dX0_add_57 (by decide) ?_
        refine lv_iadd hx hb dX0_add_58 ?_
        refine va_put (D := (dC, dI)) (ci := 0) (v := .int (came + (nI 1))) (ty := .int) (C := RX0) (T := TX0) (N := 7) hx hb hts hin0 tyX0 tyX0_ok nmX0 hown hK hP hD hS 0 rfl rfl 6 (by decide) (hts (.fieldLink RX0 35 "OnlineHull" "came" "I") (by decide +kernel)) (fun _ h9 => h9) rfl (by decide +kernel) rfl rfl (Nat.le_of_ble_eq_true rfl) dX0_add_59 (fun H locs hP hD hS => ?_)
        have hP : va_P (dC, dI) vwCl [(h, .inr (0, [.int (nI N), .ref a1, .ref a2, .ref a3, .ref a4, .int (nI m9), .int (came + (nI 1))])), (a1, .inl (cI, N, .inl gx9)), (a2, .inl (cI, N, .inl gy9)), (a3, .inl (cI, N, .inl rx)), (a4, .inl (cI, N, .inl ry))] H := hP
        have hD : va_D A [(h, .inr (0, [.int (nI N), .ref a1, .ref a2, .ref a3, .ref a4, .int (nI m9), .int (came + (nI 1))])), (a1, .inl (cI, N, .inl gx9)), (a2, .inl (cI, N, .inl gy9)), (a3, .inl (cI, N, .inl rx)), (a4, .inl (cI, N, .inl ry))] := hD
        refine lv_iload_n hx hb dX0_add_62 rfl (lv_at hl 0 rfl) ?_
        exact W.iret (v := nI (n + 2 - m9)) hx hb hr (fun t ht hW => ⟨⟨_, (gx9, gy9, rx, ry, m9, came + (nI 1)), rfl, Or.inr ⟨b_2, r_15, hr_15, Or.inr ⟨g_18, m9, ρ9, hst, Or.inl ⟨hmN, rfl, _, _, _, _, rfl, har⟩⟩⟩, by rw [ht]; exact hP, va_K.moved hW.alike hK, hD⟩, hS.F ht⟩) hS.2.2 dX0_add_63
      · refine lv_if_eq (tgt := 39) hx hb dX0_add_27 (by decide) (fun _ => ?_) (fun q => absurd q (by decide))
        refine lv_aload_n hx hb dX0_add_39 rfl (lv_at hl 1 rfl) ?_
        refine lv_iload_n hx hb dX0_add_40 rfl (lv_at hl 2 rfl) ?_
        refine lv_iload_n hx hb dX0_add_41 rfl (lv_at hl 3 rfl) ?_
        have hPc := hP.sub (ws' := [(h, .inr (0, [.int (nI N), .ref a1, .ref a2, .ref a3, .ref a4, .int (nI n), .int came])), (a1, .inl (cI, N, .inl fx)), (a2, .inl (cI, N, .inl fy)), (a3, .inl (cI, N, .inl rx)), (a4, .inl (cI, N, .inl ry))]) [0, 1, 2, 3, 4] rfl
        have hDc := hD.sub (ws' := [(h, .inr (0, [.int (nI N), .ref a1, .ref a2, .ref a3, .ref a4, .int (nI n), .int came])), (a1, .inl (cI, N, .inl fx)), (a2, .inl (cI, N, .inl fy)), (a3, .inl (cI, N, .inl rx)), (a4, .inl (cI, N, .inl ry))]) [0, 1, 2, 3, 4] (by decide) rfl
        have hFc := va_free (wc := [(h, .inr (0, [.int (nI N), .ref a1, .ref a2, .ref a3, .ref a4, .int (nI n), .int came])), (a1, .inl (cI, N, .inl fx)), (a2, .inl (cI, N, .inl fy)), (a3, .inl (cI, N, .inl rx)), (a4, .inl (cI, N, .inl ry))]) hD hS hA [0, 1, 2, 3, 4] rfl
        refine va_calli (va_runV (As := [.int x, .int y]) (rest := []) ⟨hx, hb, hml, hown, hts⟩ (k_X0_growRing l dC dI cI h a1 a2 a3 a4 N n came fx fy rx ry H.size x y hN hn hR b_2 hh (by omega) (oh_pl3out hr_15 g_18 b_24)) (cwV 2 hts gX0_add_X0_growRing rfl rfl rfl (by decide +kernel) ⟨Nat.le_of_ble_eq_true rfl, Nat.le_of_ble_eq_true rfl⟩) (oh_preM (ci := 0) (q0 := 0) hK hPc hDc rfl rfl) rfl rfl hl.1 rfl (lv_room (Nat.le_of_ble_eq_true rfl)) dX0_add_42 ⟨Nat.zero_le _, Nat.zero_le _⟩) hS (fun q _ h => hFc q h) hFc (fun r_42 u_42 t H1 locs ht hvm hw_42 hB hz1 hk1 hS => ?_)
        obtain ⟨hP1, hK1, hD1⟩ := hB
        rw [ht] at hP1
        obtain ⟨m9, ρ9, hst, ⟨hmN, rfl, gx9, gy9, rx9, ry9, rfl, har⟩ | ⟨hmN, rfl, rfl⟩⟩ := hw_42
        · obtain ⟨hP, hD⟩ := va_join (wr := []) (w1 := [(h, .inr (0, [.int (nI N), .ref a1, .ref a2, .ref a3, .ref a4, .int (nI m9), .int came])), (a1, .inl (cI, N, .inl gx9)), (a2, .inl (cI, N, .inl gy9)), (a3, .inl (cI, N, .inl rx9)), (a4, .inl (cI, N, .inl ry9))]) hP hD [0, 1, 2, 3, 4] [] rfl rfl (by decide) (by decide) hk1 hFc hP1 hD1
          generalize H1 = H at hP hS ⊢
          have hP : va_P (dC, dI) vwCl [(h, .inr (0, [.int (nI N), .ref a1, .ref a2, .ref a3, .ref a4, .int (nI m9), .int came])), (a1, .inl (cI, N, .inl gx9)), (a2, .inl (cI, N, .inl gy9)), (a3, .inl (cI, N, .inl rx9)), (a4, .inl (cI, N, .inl ry9))] H := hP
          have hD : va_D A [(h, .inr (0, [.int (nI N), .ref a1, .ref a2, .ref a3, .ref a4, .int (nI m9), .int came])), (a1, .inl (cI, N, .inl gx9)), (a2, .inl (cI, N, .inl gy9)), (a3, .inl (cI, N, .inl rx9)), (a4, .inl (cI, N, .inl ry9))] := hD
          clear hPc hDc hFc hP1 hK1 hD1 hk1 hz1 ht
          have hm9 := oh_stepm hst
          refine lv_istore_n (lv' := [(3, .int (nI (n + 2 - m9))), (0, .ref h), (1, .int x), (2, .int y)]) hx hb dX0_add_45 rfl hl (by decide) rfl (fun ls hl => ?_)
          refine lv_iload_n hx hb dX0_add_46 rfl (lv_at hl 0 rfl) ?_
          refine lv_bipush (v := -2) hx hb dX0_add_47 (by decide) ?_
          refine lv_icmp_eq (tgt := 62) hx hb dX0_add_49 (by decide) (fun q => absurd q (oh_nn (by omega))) (fun _ => ?_)
          refine lv_aload_n hx hb dX0_add_52 rfl (lv_at hl 1 rfl) ?_
          refine lv_dup hx hb dX0_add_53 rfl ?_
          refine va_get (D := (dC, dI)) (ci := 0) (v := .int came) (C := RX0) (T := TX0) (N := 7) hx hb hts hin0 hown hK hP 0 rfl rfl 6 (by decide) (hts (.fieldLink RX0 35 "OnlineHull" "came" "I") (by decide +kernel)) (fun _ h9 => h9) rfl dX0_add_54 ?_
          refine lv_iconst (v := nI 1) hx hb dX0_add_57 (by decide) ?_
          refine lv_iadd hx hb dX0_add_58 ?_
          refine va_put (D := (dC, dI)) (ci := 0) (v := .int (came + (nI 1))) (ty := .int) (C := RX0) (T := TX0) (N := 7) hx hb hts hin0 tyX0 tyX0_ok nmX0 hown hK hP hD hS 0 rfl rfl 6 (by decide) (hts (.fieldLink RX0 35 "OnlineHull" "came" "I") (by decide +kernel)) (fun _ h9 => h9) rfl (by decide +kernel) rfl rfl (Nat.le_of_ble_eq_true rfl) dX0_add_59 (fun H locs hP hD hS => ?_)
          have hP : va_P (dC, dI) vwCl [(h, .inr (0, [.int (nI N), .ref a1, .ref a2, .ref a3, .ref a4, .int (nI m9), .int (came + (nI 1))])), (a1, .inl (cI, N, .inl gx9)), (a2, .inl (cI, N, .inl gy9)), (a3, .inl (cI, N, .inl rx9)), (a4, .inl (cI, N, .inl ry9))] H := hP
          have hD : va_D A [(h, .inr (0, [.int (nI N), .ref a1, .ref a2, .ref a3, .ref a4, .int (nI m9), .int (came + (nI 1))])), (a1, .inl (cI, N, .inl gx9)), (a2, .inl (cI, N, .inl gy9)), (a3, .inl (cI, N, .inl rx9)), (a4, .inl (cI, N, .inl ry9))] := hD
          refine lv_iload_n hx hb dX0_add_62 rfl (lv_at hl 0 rfl) ?_
          exact W.iret (v := nI (n + 2 - m9)) hx hb hr (fun t ht hW => ⟨⟨_, (gx9, gy9, rx9, ry9, m9, came + (nI 1)), rfl, Or.inr ⟨b_2, r_15, hr_15, Or.inr ⟨g_18, m9, ρ9, hst, Or.inl ⟨hmN, rfl, _, _, _, _, rfl, har⟩⟩⟩, by rw [ht]; exact hP, va_K.moved hW.alike hK, hD⟩, hS.F ht⟩) hS.2.2 dX0_add_63
        · obtain ⟨hP, hD⟩ := va_join (wr := []) (w1 := [(h, .inr (0, [.int (nI N), .ref a1, .ref a2, .ref a3, .ref a4, .int (nI n), .int came])), (a1, .inl (cI, N, .inl fx)), (a2, .inl (cI, N, .inl fy)), (a3, .inl (cI, N, .inl rx)), (a4, .inl (cI, N, .inl ry))]) hP hD [0, 1, 2, 3, 4] [] rfl rfl (by decide) (by decide) hk1 hFc hP1 hD1
          generalize H1 = H at hP hS ⊢
          have hP : va_P (dC, dI) vwCl [(h, .inr (0, [.int (nI N), .ref a1, .ref a2, .ref a3, .ref a4, .int (nI n), .int came])), (a1, .inl (cI, N, .inl fx)), (a2, .inl (cI, N, .inl fy)), (a3, .inl (cI, N, .inl rx)), (a4, .inl (cI, N, .inl ry))] H := hP
          have hD : va_D A [(h, .inr (0, [.int (nI N), .ref a1, .ref a2, .ref a3, .ref a4, .int (nI n), .int came])), (a1, .inl (cI, N, .inl fx)), (a2, .inl (cI, N, .inl fy)), (a3, .inl (cI, N, .inl rx)), (a4, .inl (cI, N, .inl ry))] := hD
          clear hPc hDc hFc hP1 hK1 hD1 hk1 hz1 ht
          refine lv_istore_n (lv' := [(3, .int (-2)), (0, .ref h), (1, .int x), (2, .int y)]) hx hb dX0_add_45 rfl hl (by decide) rfl (fun ls hl => ?_)
          refine lv_iload_n hx hb dX0_add_46 rfl (lv_at hl 0 rfl) ?_
          refine lv_bipush (v := -2) hx hb dX0_add_47 (by decide) ?_
          refine lv_icmp_eq (tgt := 62) hx hb dX0_add_49 (by decide) (fun _ => ?_) (fun q => absurd q (by decide))
          refine lv_iload_n hx hb dX0_add_62 rfl (lv_at hl 0 rfl) ?_
          exact W.iret (v := -2) hx hb hr (fun t ht hW => ⟨⟨_, (fx, fy, rx, ry, n, came), rfl, Or.inr ⟨b_2, r_15, hr_15, Or.inr ⟨g_18, m9, ρ9, hst, Or.inr ⟨hmN, rfl, rfl⟩⟩⟩, by rw [ht]; exact hP, va_K.moved hW.alike hK, hD⟩, hS.F ht⟩) hS.2.2 dX0_add_63
  · refine lv_if_ne (tgt := 10) hx hb dX0_add_5 (by decide) (fun q => absurd q (by decide)) (fun _ => ?_)
    refine lv_iconst (v := -1) hx hb dX0_add_8 (by decide) ?_
    exact W.iret (v := -1) hx hb hr (fun t ht hW => ⟨⟨_, (fx, fy, rx, ry, n, came), rfl, Or.inl ⟨b_2, rfl, rfl⟩, by rw [ht]; exact hP, va_K.moved hW.alike hK, hD⟩, hS.F ht⟩) hS.2.2 dX0_add_9
