set_option maxHeartbeats 4000000 in
set_option maxRecDepth 100000 in
theorem k_J9_floorMod_7cf53 (l : Launch) (x : Int32) : Met l yJ9_floorMod_7cf53 wsJ9_floorMod_7cf53 ({ frames := 0, cells := 0, slots := 0, locals := 0 }) (va_Pc [.int x, .int (nI 62)] (fun _ => True)) (vp_Si (fun r => r = nI (oh_md x))) 0 0 (fun _ => False) := by
  refine oh_ofWF (cc := cJ9_floorMod_7cf53) (maxL := 3) (ret := (some .int)) (by decide +kernel) rfl ?_
  intro p e s m args below meth c s₁ B hml hv
  obtain ⟨rfl, -⟩ := hv
  have hx := B.exec
  have hb := B.bytes
  have hr := B.returns
  have hts := atoms_spec (ws := wsJ9_floorMod_7cf53) B.pre
  have hlocks := B.notSynchronized
  have hl := lv_entry ([.int x, .int (nI 62)]) (n := 3) (Nat.le_of_ble_eq_true rfl)
  rw [lg_entry_eq]
  generalize (lg_sl ([.int x, .int (nI 62)]) ++ List.replicate (3 - (lg_sl ([.int x, .int (nI 62)])).length) Slot.unset).toArray = ls at hl ⊢
  have hl : lv_has ls 3 [(0, .int x), (1, .int (nI 62))] := hl
  refine lv_iload_n hx hb dJ9_floorMod_7cf53_0 rfl (lv_at hl 0 rfl) ?_
  refine lv_iload_n hx hb dJ9_floorMod_7cf53_1 rfl (lv_at hl 1 rfl) ?_
  refine lv_irem hx hb dJ9_floorMod_7cf53_2 (by decide) ?_
  refine lv_topi (fun t_2 e_2 => ?_)
  have w_2 := oh_rem e_2
  refine lv_istore_n (lv' := [(2, .int t_2), (0, .int x), (1, .int (nI 62))]) hx hb dJ9_floorMod_7cf53_3 rfl hl (by decide) rfl (fun ls hl => ?_)
  refine lv_iload_n hx hb dJ9_floorMod_7cf53_4 rfl (lv_at hl 1 rfl) ?_
  refine lv_iload_n hx hb dJ9_floorMod_7cf53_5 rfl (lv_at hl 2 rfl) ?_
  refine lv_ixor hx hb dJ9_floorMod_7cf53_6 ?_
  refine lv_if_ge (tgt := 18) hx hb dJ9_floorMod_7cf53_7 (by decide) (fun c_7 => ?_) (fun c_7 => ?_)
  · have g_7 : 0 ≤ (x ^^^ (nI 62)).toInt := oh_leI0r c_7
    have h7 : ¬ x.toInt < 0 := fun q => by have := (oh_xs x).mpr q; omega
    refine lv_iload_n hx hb dJ9_floorMod_7cf53_18 rfl (lv_at hl 0 rfl) ?_
    exact W.iret (v := t_2) hx hb hr (fun t ht hW => ⟨_, rfl, oh_md2 w_2 (by have := oh_tm x.toInt; omega), ht⟩) (fun _ h => by cases h) dJ9_floorMod_7cf53_19
  · have g_7 : (x ^^^ (nI 62)).toInt < 0 := oh_nleI0r c_7
    have h7 : x.toInt < 0 := (oh_xs x).mp g_7
    refine lv_iload_n hx hb dJ9_floorMod_7cf53_10 rfl (lv_at hl 0 rfl) ?_
    refine lv_if_eq (tgt := 18) hx hb dJ9_floorMod_7cf53_11 (by decide) (fun c_11 => ?_) (fun c_11 => ?_)
    · have g_11 : t_2.toInt = 0 := oh_eqI0 c_11
      refine lv_iload_n hx hb dJ9_floorMod_7cf53_18 rfl (lv_at hl 0 rfl) ?_
      exact W.iret (v := t_2) hx hb hr (fun t ht hW => ⟨_, rfl, oh_md2 w_2 (by have := oh_tm x.toInt; omega), ht⟩) (fun _ h => by cases h) dJ9_floorMod_7cf53_19
    · have g_11 : t_2.toInt ≠ 0 := oh_neI0 c_11
      have h11 : t_2.toInt < 0 := by have := oh_tm x.toInt; omega
      refine lv_iload_n hx hb dJ9_floorMod_7cf53_14 rfl (lv_at hl 0 rfl) ?_
      refine lv_iload_n hx hb dJ9_floorMod_7cf53_15 rfl (lv_at hl 2 rfl) ?_
      refine lv_iadd hx hb dJ9_floorMod_7cf53_16 ?_
      exact W.iret (v := t_2 + (nI 62)) hx hb hr (fun t ht hW => ⟨_, rfl, oh_md3 w_2 (by omega), ht⟩) (fun _ h => by cases h) dJ9_floorMod_7cf53_17

set_option maxHeartbeats 4000000 in
set_option maxRecDepth 100000 in
theorem k_X0_init (l : Launch) (dC : Nat → ClassId) (dI : Nat → Nat → Nat) (cI : ClassId) (h sz : Nat) (x : Int32) : Met l yX0_init wsX0_init ({ frames := 1, cells := 4, slots := 256, locals := 22 }) (va_Pc [.ref h, .int x] (fun U => U.heap.size = sz ∧ va_P (dC, dI) vwCl [(h, .inr (0, [.int 0, .null, .null, .null, .null, .int 0, .int 0]))] U.heap ∧ va_K (dC, dI) vwCl [(cI, .int)] U ∧ va_D (fun _ => True) [(h, .inr (0, [.int 0, .null, .null, .null, .null, .int 0, .int 0]))])) (va_Qv (S := Nat × Nat × Nat × Nat) (fun _ => True) (fun u t => va_P (dC, dI) vwCl [(h, .inr (0, [.int (nI (3 + oh_md x)), .ref u.1, .ref u.2.1, .ref u.2.2.1, .ref u.2.2.2, .int (nI 0), .int (nI 0)])), (u.1, .inl (cI, 3 + oh_md x, .inl (fun _ => 0))), (u.2.1, .inl (cI, 3 + oh_md x, .inl (fun _ => 0))), (u.2.2.1, .inl (cI, 3 + oh_md x, .inl (fun _ => 0))), (u.2.2.2, .inl (cI, 3 + oh_md x, .inl (fun _ => 0)))] t.heap ∧ va_K (dC, dI) vwCl [(cI, .int)] t ∧ va_D (va_A [(h, .inr (0, [.int 0, .null, .null, .null, .null, .int 0, .int 0]))] sz) [(h, .inr (0, [.int (nI (3 + oh_md x)), .ref u.1, .ref u.2.1, .ref u.2.2.1, .ref u.2.2.2, .int (nI 0), .int (nI 0)])), (u.1, .inl (cI, 3 + oh_md x, .inl (fun _ => 0))), (u.2.1, .inl (cI, 3 + oh_md x, .inl (fun _ => 0))), (u.2.2.1, .inl (cI, 3 + oh_md x, .inl (fun _ => 0))), (u.2.2.2, .inl (cI, 3 + oh_md x, .inl (fun _ => 0)))]) (va_A [(h, .inr (0, [.int 0, .null, .null, .null, .null, .int 0, .int 0]))] sz)) 4 256 (va_A [(h, .inr (0, [.int 0, .null, .null, .null, .null, .int 0, .int 0]))] sz) := by
  refine Met.ofW (cc := cX0_init) (maxL := 2) (ret := none) (by decide) rfl ?_
  intro p e s m args below meth c s₁ B hml hv
  obtain ⟨rfl, hsz, hP, hK, hD0⟩ := hv
  have hx := B.exec
  have hb := B.bytes
  have hr := B.returns
  have hts := atoms_spec (ws := wsX0_init) B.pre
  have hown : s.vm.findClass RX0 = some m.cls := findClass_of_methodNamed B.named
  have hlocks := B.notSynchronized
  have hin : meth.name = "<init>" := (name_of_methodNamed B.named B.method).1
  have hin0 : ∀ w ∈ wsX00, w ∈ wsX0_init := fun w h => List.mem_cons_of_mem _ (List.mem_append_right _ h)
  subst hsz
  have hD := hD0.self (sz := s.heap.size)
  generalize hAe : va_A [(h, .inr (0, [.int 0, .null, .null, .null, .null, .int 0, .int 0]))] s.heap.size = A at hD ⊢
  have hA : ∀ q : Nat, s.heap.size ≤ q → A q := fun q h => by rw [← hAe]; exact Or.inr h
  have hS : va_S A s.heap s.heap [] := va_S.rf
  have hl := lv_entry ([.ref h, .int x]) (n := 2) (Nat.le_of_ble_eq_true rfl)
  rw [lg_entry_eq]
  generalize (lg_sl ([.ref h, .int x]) ++ List.replicate (2 - (lg_sl ([.ref h, .int x])).length) Slot.unset).toArray = ls at hl ⊢
  have hl : lv_has ls 2 [(0, .ref h), (1, .int x)] := hl
  suffices hgo : ∀ (H : Heap) (locs : List Loc), va_P (dC, dI) vwCl [(h, .inr (0, [.int 0, .null, .null, .null, .null, .int 0, .int 0]))] H → va_D A [(h, .inr (0, [.int 0, .null, .null, .null, .null, .int 0, .int 0]))] → va_S A s.heap H locs → W p l e (headSpec wsX0_init ({ frames := 1, cells := 4, slots := 256, locals := 22 })).room s m ([.ref h, .int x] : List Value).toArray below meth c H locs 0 0 (MQ below (va_Qv (S := Nat × Nat × Nat × Nat) (fun _ => True) (fun u t => va_P (dC, dI) vwCl [(h, .inr (0, [.int (nI (3 + oh_md x)), .ref u.1, .ref u.2.1, .ref u.2.2.1, .ref u.2.2.2, .int (nI 0), .int (nI 0)])), (u.1, .inl (cI, 3 + oh_md x, .inl (fun _ => 0))), (u.2.1, .inl (cI, 3 + oh_md x, .inl (fun _ => 0))), (u.2.2.1, .inl (cI, 3 + oh_md x, .inl (fun _ => 0))), (u.2.2.2, .inl (cI, 3 + oh_md x, .inl (fun _ => 0)))] t.heap ∧ va_K (dC, dI) vwCl [(cI, .int)] t ∧ va_D A [(h, .inr (0, [.int (nI (3 + oh_md x)), .ref u.1, .ref u.2.1, .ref u.2.2.1, .ref u.2.2.2, .int (nI 0), .int (nI 0)])), (u.1, .inl (cI, 3 + oh_md x, .inl (fun _ => 0))), (u.2.1, .inl (cI, 3 + oh_md x, .inl (fun _ => 0))), (u.2.2.1, .inl (cI, 3 + oh_md x, .inl (fun _ => 0))), (u.2.2.2, .inl (cI, 3 + oh_md x, .inl (fun _ => 0)))]) A) ([.ref h, .int x] : List Value).toArray s 4 256 A) (F0 m 0 ls []) from hgo s.heap [] hP hD hS
  clear hP hD hS hD0
  intro H locs hP hD hS
  have hmd := oh_md_lt x
  refine lv_aload_n hx hb dX0_init_0 rfl (lv_at hl 0 rfl) ?_
  refine W.objInit hx hb hown (hts (.methodLink RX0 1 objectInit) (by decide +kernel)) (hts (.instanceMethod objectInit) (by decide +kernel)) (hts _ (List.mem_cons_of_mem _ (List.mem_append_left _ (List.mem_of_getElem? (i := 2) rfl)))) rfl (by rw [hml]; exact hl.1) rfl dX0_init_1 (Nat.le_of_ble_eq_true rfl) (Nat.le_of_ble_eq_true rfl) ?_
  refine W.eq (g2 := F0 m 4 ls []) rfl ?_
  refine lv_aload_n hx hb dX0_init_4 rfl (lv_at hl 0 rfl) ?_
  refine lv_iconst (v := nI 3) hx hb dX0_init_5 (by decide) ?_
  refine lv_iload_n hx hb dX0_init_6 rfl (lv_at hl 1 rfl) ?_
  refine lv_bipush (v := nI 62) hx hb dX0_init_7 (by decide) ?_
  refine vp_callSi (va_Run.run (va_runS (As := [.int x, .int (nI 62)]) (rest := [.int (nI 3), .ref h]) ⟨hx, hb, hml, hown, hts⟩ (k_J9_floorMod_7cf53 l x) (va_cwS 2 hts gX0_init_J9_floorMod_7cf53 rfl rfl rfl (by decide +kernel) ⟨Nat.le_of_ble_eq_true rfl, Nat.le_of_ble_eq_true rfl⟩) oh_pre0 rfl rfl hl.1 rfl (lv_room (Nat.le_of_ble_eq_true rfl)) dX0_init_9 ⟨Nat.zero_le _, Nat.zero_le _⟩)) (fun r_9 hr_9 => ?_)
  subst hr_9
  refine lv_iadd hx hb dX0_init_12 ?_
  rw [nI_add 3 ((oh_md x))]
  refine va_putF (D := (dC, dI)) (ci := 0) (v := .int (nI (3 + (oh_md x)))) (ty := .int) (C := RX0) (T := TX0) (N := 7) hx hb hts hin0 tyX0 tyX0_ok nmX0 hown hK hP hD hS 0 rfl rfl 0 (by decide) (hts (.fieldLink RX0 15 "OnlineHull" "cap" "I") (by decide +kernel)) (fun _ h9 => h9) rfl hin rfl (by decide +kernel) rfl rfl (Nat.le_of_ble_eq_true rfl) dX0_init_13 (fun H locs hP hD hS => ?_)
  have hP : va_P (dC, dI) vwCl [(h, .inr (0, [.int (nI (3 + (oh_md x))), .null, .null, .null, .null, .int 0, .int 0]))] H := hP
  have hD : va_D A [(h, .inr (0, [.int (nI (3 + (oh_md x))), .null, .null, .null, .null, .int 0, .int 0]))] := hD
  refine lv_aload_n hx hb dX0_init_16 rfl (lv_at hl 0 rfl) ?_
  refine lv_aload_n hx hb dX0_init_17 rfl (lv_at hl 0 rfl) ?_
  refine va_get (D := (dC, dI)) (ci := 0) (v := .int (nI (3 + (oh_md x)))) (C := RX0) (T := TX0) (N := 7) hx hb hts hin0 hown hK hP 0 rfl rfl 0 (by decide) (hts (.fieldLink RX0 15 "OnlineHull" "cap" "I") (by decide +kernel)) (fun _ h9 => h9) rfl dX0_init_18 ?_
  refine oh_newa hx hb (hts (.arrayClass .int) (by decide +kernel)) hK hP hD hS hA (k := (3 + (oh_md x))) (by omega) (Nat.le_of_ble_eq_true rfl) (show _ ≤ 256 by omega) dX0_init_21 (fun q_21 H hP hD hS => ?_)
  have hP : va_P (dC, dI) vwCl [(h, .inr (0, [.int (nI (3 + (oh_md x))), .null, .null, .null, .null, .int 0, .int 0])), (q_21, .inl (cI, (3 + (oh_md x)), .inl (fun _ => 0)))] H := hP
  have hD : va_D A [(h, .inr (0, [.int (nI (3 + (oh_md x))), .null, .null, .null, .null, .int 0, .int 0])), (q_21, .inl (cI, (3 + (oh_md x)), .inl (fun _ => 0)))] := hD
  refine W.widen (k := 1) (n := 64) (by omega) (by omega) ?_
  refine va_putF (D := (dC, dI)) (ci := 0) (v := .ref q_21) (ty := .array .int) (C := RX0) (T := TX0) (N := 7) hx hb hts hin0 tyX0 tyX0_ok nmX0 hown hK hP hD hS 0 rfl rfl 1 (by decide) (hts (.fieldLink RX0 19 "OnlineHull" "cornerX" "[I") (by decide +kernel)) (fun _ h9 => h9) rfl hin rfl (by decide +kernel) rfl rfl (Nat.le_of_ble_eq_true rfl) dX0_init_23 (fun H locs hP hD hS => ?_)
  have hP : va_P (dC, dI) vwCl [(h, .inr (0, [.int (nI (3 + (oh_md x))), .ref q_21, .null, .null, .null, .int 0, .int 0])), (q_21, .inl (cI, (3 + (oh_md x)), .inl (fun _ => 0)))] H := hP
  have hD : va_D A [(h, .inr (0, [.int (nI (3 + (oh_md x))), .ref q_21, .null, .null, .null, .int 0, .int 0])), (q_21, .inl (cI, (3 + (oh_md x)), .inl (fun _ => 0)))] := hD
  refine lv_aload_n hx hb dX0_init_26 rfl (lv_at hl 0 rfl) ?_
  refine lv_aload_n hx hb dX0_init_27 rfl (lv_at hl 0 rfl) ?_
  refine va_get (D := (dC, dI)) (ci := 0) (v := .int (nI (3 + (oh_md x)))) (C := RX0) (T := TX0) (N := 7) hx hb hts hin0 hown hK hP 0 rfl rfl 0 (by decide) (hts (.fieldLink RX0 15 "OnlineHull" "cap" "I") (by decide +kernel)) (fun _ h9 => h9) rfl dX0_init_28 ?_
  refine oh_newa hx hb (hts (.arrayClass .int) (by decide +kernel)) hK hP hD hS hA (k := (3 + (oh_md x))) (by omega) (Nat.le_of_ble_eq_true rfl) (show _ ≤ 256 by omega) dX0_init_31 (fun q_31 H hP hD hS => ?_)
  have hP : va_P (dC, dI) vwCl [(h, .inr (0, [.int (nI (3 + (oh_md x))), .ref q_21, .null, .null, .null, .int 0, .int 0])), (q_21, .inl (cI, (3 + (oh_md x)), .inl (fun _ => 0))), (q_31, .inl (cI, (3 + (oh_md x)), .inl (fun _ => 0)))] H := hP
  have hD : va_D A [(h, .inr (0, [.int (nI (3 + (oh_md x))), .ref q_21, .null, .null, .null, .int 0, .int 0])), (q_21, .inl (cI, (3 + (oh_md x)), .inl (fun _ => 0))), (q_31, .inl (cI, (3 + (oh_md x)), .inl (fun _ => 0)))] := hD
  refine W.widen (k := 2) (n := 128) (by omega) (by omega) ?_
  refine va_putF (D := (dC, dI)) (ci := 0) (v := .ref q_31) (ty := .array .int) (C := RX0) (T := TX0) (N := 7) hx hb hts hin0 tyX0 tyX0_ok nmX0 hown hK hP hD hS 0 rfl rfl 2 (by decide) (hts (.fieldLink RX0 23 "OnlineHull" "cornerY" "[I") (by decide +kernel)) (fun _ h9 => h9) rfl hin rfl (by decide +kernel) rfl rfl (Nat.le_of_ble_eq_true rfl) dX0_init_33 (fun H locs hP hD hS => ?_)
  have hP : va_P (dC, dI) vwCl [(h, .inr (0, [.int (nI (3 + (oh_md x))), .ref q_21, .ref q_31, .null, .null, .int 0, .int 0])), (q_21, .inl (cI, (3 + (oh_md x)), .inl (fun _ => 0))), (q_31, .inl (cI, (3 + (oh_md x)), .inl (fun _ => 0)))] H := hP
  have hD : va_D A [(h, .inr (0, [.int (nI (3 + (oh_md x))), .ref q_21, .ref q_31, .null, .null, .int 0, .int 0])), (q_21, .inl (cI, (3 + (oh_md x)), .inl (fun _ => 0))), (q_31, .inl (cI, (3 + (oh_md x)), .inl (fun _ => 0)))] := hD
  refine lv_aload_n hx hb dX0_init_36 rfl (lv_at hl 0 rfl) ?_
  refine lv_aload_n hx hb dX0_init_37 rfl (lv_at hl 0 rfl) ?_
  refine va_get (D := (dC, dI)) (ci := 0) (v := .int (nI (3 + (oh_md x)))) (C := RX0) (T := TX0) (N := 7) hx hb hts hin0 hown hK hP 0 rfl rfl 0 (by decide) (hts (.fieldLink RX0 15 "OnlineHull" "cap" "I") (by decide +kernel)) (fun _ h9 => h9) rfl dX0_init_38 ?_
  refine oh_newa hx hb (hts (.arrayClass .int) (by decide +kernel)) hK hP hD hS hA (k := (3 + (oh_md x))) (by omega) (Nat.le_of_ble_eq_true rfl) (show _ ≤ 256 by omega) dX0_init_41 (fun q_41 H hP hD hS => ?_)
  have hP : va_P (dC, dI) vwCl [(h, .inr (0, [.int (nI (3 + (oh_md x))), .ref q_21, .ref q_31, .null, .null, .int 0, .int 0])), (q_21, .inl (cI, (3 + (oh_md x)), .inl (fun _ => 0))), (q_31, .inl (cI, (3 + (oh_md x)), .inl (fun _ => 0))), (q_41, .inl (cI, (3 + (oh_md x)), .inl (fun _ => 0)))] H := hP
  have hD : va_D A [(h, .inr (0, [.int (nI (3 + (oh_md x))), .ref q_21, .ref q_31, .null, .null, .int 0, .int 0])), (q_21, .inl (cI, (3 + (oh_md x)), .inl (fun _ => 0))), (q_31, .inl (cI, (3 + (oh_md x)), .inl (fun _ => 0))), (q_41, .inl (cI, (3 + (oh_md x)), .inl (fun _ => 0)))] := hD
  refine W.widen (k := 3) (n := 192) (by omega) (by omega) ?_
  refine va_putF (D := (dC, dI)) (ci := 0) (v := .ref q_41) (ty := .array .int) (C := RX0) (T := TX0) (N := 7) hx hb hts hin0 tyX0 tyX0_ok nmX0 hown hK hP hD hS 0 rfl rfl 3 (by decide) (hts (.fieldLink RX0 26 "OnlineHull" "ringX" "[I") (by decide +kernel)) (fun _ h9 => h9) rfl hin rfl (by decide +kernel) rfl rfl (Nat.le_of_ble_eq_true rfl) dX0_init_43 (fun H locs hP hD hS => ?_)
  have hP : va_P (dC, dI) vwCl [(h, .inr (0, [.int (nI (3 + (oh_md x))), .ref q_21, .ref q_31, .ref q_41, .null, .int 0, .int 0])), (q_21, .inl (cI, (3 + (oh_md x)), .inl (fun _ => 0))), (q_31, .inl (cI, (3 + (oh_md x)), .inl (fun _ => 0))), (q_41, .inl (cI, (3 + (oh_md x)), .inl (fun _ => 0)))] H := hP
  have hD : va_D A [(h, .inr (0, [.int (nI (3 + (oh_md x))), .ref q_21, .ref q_31, .ref q_41, .null, .int 0, .int 0])), (q_21, .inl (cI, (3 + (oh_md x)), .inl (fun _ => 0))), (q_31, .inl (cI, (3 + (oh_md x)), .inl (fun _ => 0))), (q_41, .inl (cI, (3 + (oh_md x)), .inl (fun _ => 0)))] := hD
  refine lv_aload_n hx hb dX0_init_46 rfl (lv_at hl 0 rfl) ?_
  refine lv_aload_n hx hb dX0_init_47 rfl (lv_at hl 0 rfl) ?_
  refine va_get (D := (dC, dI)) (ci := 0) (v := .int (nI (3 + (oh_md x)))) (C := RX0) (T := TX0) (N := 7) hx hb hts hin0 hown hK hP 0 rfl rfl 0 (by decide) (hts (.fieldLink RX0 15 "OnlineHull" "cap" "I") (by decide +kernel)) (fun _ h9 => h9) rfl dX0_init_48 ?_
  refine oh_newa hx hb (hts (.arrayClass .int) (by decide +kernel)) hK hP hD hS hA (k := (3 + (oh_md x))) (by omega) (Nat.le_of_ble_eq_true rfl) (show _ ≤ 256 by omega) dX0_init_51 (fun q_51 H hP hD hS => ?_)
  have hP : va_P (dC, dI) vwCl [(h, .inr (0, [.int (nI (3 + (oh_md x))), .ref q_21, .ref q_31, .ref q_41, .null, .int 0, .int 0])), (q_21, .inl (cI, (3 + (oh_md x)), .inl (fun _ => 0))), (q_31, .inl (cI, (3 + (oh_md x)), .inl (fun _ => 0))), (q_41, .inl (cI, (3 + (oh_md x)), .inl (fun _ => 0))), (q_51, .inl (cI, (3 + (oh_md x)), .inl (fun _ => 0)))] H := hP
  have hD : va_D A [(h, .inr (0, [.int (nI (3 + (oh_md x))), .ref q_21, .ref q_31, .ref q_41, .null, .int 0, .int 0])), (q_21, .inl (cI, (3 + (oh_md x)), .inl (fun _ => 0))), (q_31, .inl (cI, (3 + (oh_md x)), .inl (fun _ => 0))), (q_41, .inl (cI, (3 + (oh_md x)), .inl (fun _ => 0))), (q_51, .inl (cI, (3 + (oh_md x)), .inl (fun _ => 0)))] := hD
  refine W.widen (k := 4) (n := 256) (by omega) (by omega) ?_
  refine va_putF (D := (dC, dI)) (ci := 0) (v := .ref q_51) (ty := .array .int) (C := RX0) (T := TX0) (N := 7) hx hb hts hin0 tyX0 tyX0_ok nmX0 hown hK hP hD hS 0 rfl rfl 4 (by decide) (hts (.fieldLink RX0 29 "OnlineHull" "ringY" "[I") (by decide +kernel)) (fun _ h9 => h9) rfl hin rfl (by decide +kernel) rfl rfl (Nat.le_of_ble_eq_true rfl) dX0_init_53 (fun H locs hP hD hS => ?_)
  have hP : va_P (dC, dI) vwCl [(h, .inr (0, [.int (nI (3 + (oh_md x))), .ref q_21, .ref q_31, .ref q_41, .ref q_51, .int 0, .int 0])), (q_21, .inl (cI, (3 + (oh_md x)), .inl (fun _ => 0))), (q_31, .inl (cI, (3 + (oh_md x)), .inl (fun _ => 0))), (q_41, .inl (cI, (3 + (oh_md x)), .inl (fun _ => 0))), (q_51, .inl (cI, (3 + (oh_md x)), .inl (fun _ => 0)))] H := hP
  have hD : va_D A [(h, .inr (0, [.int (nI (3 + (oh_md x))), .ref q_21, .ref q_31, .ref q_41, .ref q_51, .int 0, .int 0])), (q_21, .inl (cI, (3 + (oh_md x)), .inl (fun _ => 0))), (q_31, .inl (cI, (3 + (oh_md x)), .inl (fun _ => 0))), (q_41, .inl (cI, (3 + (oh_md x)), .inl (fun _ => 0))), (q_51, .inl (cI, (3 + (oh_md x)), .inl (fun _ => 0)))] := hD
  refine lv_aload_n hx hb dX0_init_56 rfl (lv_at hl 0 rfl) ?_
  refine lv_iconst (v := nI 0) hx hb dX0_init_57 (by decide) ?_
  refine va_put (D := (dC, dI)) (ci := 0) (v := .int (nI 0)) (ty := .int) (C := RX0) (T := TX0) (N := 7) hx hb hts hin0 tyX0 tyX0_ok nmX0 hown hK hP hD hS 0 rfl rfl 5 (by decide) (hts (.fieldLink RX0 32 "OnlineHull" "corners" "I") (by decide +kernel)) (fun _ h9 => h9) rfl (by decide +kernel) rfl rfl (Nat.le_of_ble_eq_true rfl) dX0_init_58 (fun H locs hP hD hS => ?_)
  have hP : va_P (dC, dI) vwCl [(h, .inr (0, [.int (nI (3 + (oh_md x))), .ref q_21, .ref q_31, .ref q_41, .ref q_51, .int (nI 0), .int 0])), (q_21, .inl (cI, (3 + (oh_md x)), .inl (fun _ => 0))), (q_31, .inl (cI, (3 + (oh_md x)), .inl (fun _ => 0))), (q_41, .inl (cI, (3 + (oh_md x)), .inl (fun _ => 0))), (q_51, .inl (cI, (3 + (oh_md x)), .inl (fun _ => 0)))] H := hP
  have hD : va_D A [(h, .inr (0, [.int (nI (3 + (oh_md x))), .ref q_21, .ref q_31, .ref q_41, .ref q_51, .int (nI 0), .int 0])), (q_21, .inl (cI, (3 + (oh_md x)), .inl (fun _ => 0))), (q_31, .inl (cI, (3 + (oh_md x)), .inl (fun _ => 0))), (q_41, .inl (cI, (3 + (oh_md x)), .inl (fun _ => 0))), (q_51, .inl (cI, (3 + (oh_md x)), .inl (fun _ => 0)))] := hD
  refine lv_aload_n hx hb dX0_init_61 rfl (lv_at hl 0 rfl) ?_
  refine lv_iconst (v := nI 0) hx hb dX0_init_62 (by decide) ?_
  refine va_put (D := (dC, dI)) (ci := 0) (v := .int (nI 0)) (ty := .int) (C := RX0) (T := TX0) (N := 7) hx hb hts hin0 tyX0 tyX0_ok nmX0 hown hK hP hD hS 0 rfl rfl 6 (by decide) (hts (.fieldLink RX0 35 "OnlineHull" "came" "I") (by decide +kernel)) (fun _ h9 => h9) rfl (by decide +kernel) rfl rfl (Nat.le_of_ble_eq_true rfl) dX0_init_63 (fun H locs hP hD hS => ?_)
  have hP : va_P (dC, dI) vwCl [(h, .inr (0, [.int (nI (3 + (oh_md x))), .ref q_21, .ref q_31, .ref q_41, .ref q_51, .int (nI 0), .int (nI 0)])), (q_21, .inl (cI, (3 + (oh_md x)), .inl (fun _ => 0))), (q_31, .inl (cI, (3 + (oh_md x)), .inl (fun _ => 0))), (q_41, .inl (cI, (3 + (oh_md x)), .inl (fun _ => 0))), (q_51, .inl (cI, (3 + (oh_md x)), .inl (fun _ => 0)))] H := hP
  have hD : va_D A [(h, .inr (0, [.int (nI (3 + (oh_md x))), .ref q_21, .ref q_31, .ref q_41, .ref q_51, .int (nI 0), .int (nI 0)])), (q_21, .inl (cI, (3 + (oh_md x)), .inl (fun _ => 0))), (q_31, .inl (cI, (3 + (oh_md x)), .inl (fun _ => 0))), (q_41, .inl (cI, (3 + (oh_md x)), .inl (fun _ => 0))), (q_51, .inl (cI, (3 + (oh_md x)), .inl (fun _ => 0)))] := hD
  exact W.vret hx hb hr (fun t ht hW => ⟨⟨(q_21, q_31, q_41, q_51), rfl, trivial, by rw [ht]; exact hP, va_K.moved hW.alike hK, hD⟩, hS.F ht⟩) hS.2.2 dX0_init_66

set_option maxHeartbeats 4000000 in
set_option maxRecDepth 100000 in
theorem k_X1_init (l : Launch) (dC : Nat → ClassId) (dI : Nat → Nat → Nat) (cI : ClassId) (h sz : Nat) (x : Int32) : Met l yX1_init wsX1_init ({ frames := 1, cells := 5, slots := 331, locals := 12 }) (va_Pc [.ref h, .int x] (fun U => U.heap.size = sz ∧ va_P (dC, dI) vwCl [(h, .inr (1, [.int 0, .int 0, .int 0, .null, .null, .null, .null, .null]))] U.heap ∧ va_K (dC, dI) vwCl [(cI, .int)] U ∧ va_D (fun _ => True) [(h, .inr (1, [.int 0, .int 0, .int 0, .null, .null, .null, .null, .null]))])) (va_Qv (S := Nat × Nat × Nat × Nat × Nat) (fun _ => True) (fun u t => va_P (dC, dI) vwCl [(h, .inr (1, [.int (nI (3 + oh_md x)), .int 0, .int 0, .ref u.1, .ref u.2.1, .ref u.2.2.1, .ref u.2.2.2.1, .ref u.2.2.2.2])), (u.1, .inl (cI, 66, .inl (fun _ => 0))), (u.2.1, .inl (cI, 66, .inl (fun _ => 0))), (u.2.2.1, .inl (cI, 66, .inl (fun _ => 0))), (u.2.2.2.1, .inl (cI, 66, .inl (fun _ => 0))), (u.2.2.2.2, .inl (cI, 67, .inl (fun _ => 0)))] t.heap ∧ va_K (dC, dI) vwCl [(cI, .int)] t ∧ va_D (va_A [(h, .inr (1, [.int 0, .int 0, .int 0, .null, .null, .null, .null, .null]))] sz) [(h, .inr (1, [.int (nI (3 + oh_md x)), .int 0, .int 0, .ref u.1, .ref u.2.1, .ref u.2.2.1, .ref u.2.2.2.1, .ref u.2.2.2.2])), (u.1, .inl (cI, 66, .inl (fun _ => 0))), (u.2.1, .inl (cI, 66, .inl (fun _ => 0))), (u.2.2.1, .inl (cI, 66, .inl (fun _ => 0))), (u.2.2.2.1, .inl (cI, 66, .inl (fun _ => 0))), (u.2.2.2.2, .inl (cI, 67, .inl (fun _ => 0)))]) (va_A [(h, .inr (1, [.int 0, .int 0, .int 0, .null, .null, .null, .null, .null]))] sz)) 5 331 (va_A [(h, .inr (1, [.int 0, .int 0, .int 0, .null, .null, .null, .null, .null]))] sz) := by
  refine Met.ofW (cc := cX1_init) (maxL := 3) (ret := none) (by decide) rfl ?_
  intro p e s m args below meth c s₁ B hml hv
  obtain ⟨rfl, hsz, hP, hK, hD0⟩ := hv
  have hx := B.exec
  have hb := B.bytes
  have hr := B.returns
  have hts := atoms_spec (ws := wsX1_init) B.pre
  have hown : s.vm.findClass RX1 = some m.cls := findClass_of_methodNamed B.named
  have hlocks := B.notSynchronized
  have hin : meth.name = "<init>" := (name_of_methodNamed B.named B.method).1
  have hin0 : ∀ w ∈ wsX10, w ∈ wsX1_init := fun w h => List.mem_cons_of_mem _ (List.mem_append_right _ h)
  subst hsz
  have hD := hD0.self (sz := s.heap.size)
  generalize hAe : va_A [(h, .inr (1, [.int 0, .int 0, .int 0, .null, .null, .null, .null, .null]))] s.heap.size = A at hD ⊢
  have hA : ∀ q : Nat, s.heap.size ≤ q → A q := fun q h => by rw [← hAe]; exact Or.inr h
  have hS : va_S A s.heap s.heap [] := va_S.rf
  have hl := lv_entry ([.ref h, .int x]) (n := 3) (Nat.le_of_ble_eq_true rfl)
  rw [lg_entry_eq]
  generalize (lg_sl ([.ref h, .int x]) ++ List.replicate (3 - (lg_sl ([.ref h, .int x])).length) Slot.unset).toArray = ls at hl ⊢
  have hl : lv_has ls 3 [(0, .ref h), (1, .int x)] := hl
  suffices hgo : ∀ (H : Heap) (locs : List Loc), va_P (dC, dI) vwCl [(h, .inr (1, [.int 0, .int 0, .int 0, .null, .null, .null, .null, .null]))] H → va_D A [(h, .inr (1, [.int 0, .int 0, .int 0, .null, .null, .null, .null, .null]))] → va_S A s.heap H locs → W p l e (headSpec wsX1_init ({ frames := 1, cells := 5, slots := 331, locals := 12 })).room s m ([.ref h, .int x] : List Value).toArray below meth c H locs 0 0 (MQ below (va_Qv (S := Nat × Nat × Nat × Nat × Nat) (fun _ => True) (fun u t => va_P (dC, dI) vwCl [(h, .inr (1, [.int (nI (3 + oh_md x)), .int 0, .int 0, .ref u.1, .ref u.2.1, .ref u.2.2.1, .ref u.2.2.2.1, .ref u.2.2.2.2])), (u.1, .inl (cI, 66, .inl (fun _ => 0))), (u.2.1, .inl (cI, 66, .inl (fun _ => 0))), (u.2.2.1, .inl (cI, 66, .inl (fun _ => 0))), (u.2.2.2.1, .inl (cI, 66, .inl (fun _ => 0))), (u.2.2.2.2, .inl (cI, 67, .inl (fun _ => 0)))] t.heap ∧ va_K (dC, dI) vwCl [(cI, .int)] t ∧ va_D A [(h, .inr (1, [.int (nI (3 + oh_md x)), .int 0, .int 0, .ref u.1, .ref u.2.1, .ref u.2.2.1, .ref u.2.2.2.1, .ref u.2.2.2.2])), (u.1, .inl (cI, 66, .inl (fun _ => 0))), (u.2.1, .inl (cI, 66, .inl (fun _ => 0))), (u.2.2.1, .inl (cI, 66, .inl (fun _ => 0))), (u.2.2.2.1, .inl (cI, 66, .inl (fun _ => 0))), (u.2.2.2.2, .inl (cI, 67, .inl (fun _ => 0)))]) A) ([.ref h, .int x] : List Value).toArray s 5 331 A) (F0 m 0 ls []) from hgo s.heap [] hP hD hS
  clear hP hD hS hD0
  intro H locs hP hD hS
  have hmd := oh_md_lt x
  refine lv_aload_n hx hb dX1_init_0 rfl (lv_at hl 0 rfl) ?_
  refine W.objInit hx hb hown (hts (.methodLink RX1 1 objectInit) (by decide +kernel)) (hts (.instanceMethod objectInit) (by decide +kernel)) (hts _ (List.mem_cons_of_mem _ (List.mem_append_left _ (List.mem_of_getElem? (i := 2) rfl)))) rfl (by rw [hml]; exact hl.1) rfl dX1_init_1 (Nat.le_of_ble_eq_true rfl) (Nat.le_of_ble_eq_true rfl) ?_
  refine W.eq (g2 := F0 m 4 ls []) rfl ?_
  refine lv_aload_n hx hb dX1_init_4 rfl (lv_at hl 0 rfl) ?_
  refine lv_bipush (v := nI 66) hx hb dX1_init_5 (by decide) ?_
  refine oh_newa hx hb (hts (.arrayClass .int) (by decide +kernel)) hK hP hD hS hA (k := 66) (by omega) (Nat.le_of_ble_eq_true rfl) (show _ ≤ 331 by omega) dX1_init_7 (fun q_7 H hP hD hS => ?_)
  have hP : va_P (dC, dI) vwCl [(h, .inr (1, [.int 0, .int 0, .int 0, .null, .null, .null, .null, .null])), (q_7, .inl (cI, 66, .inl (fun _ => 0)))] H := hP
  have hD : va_D A [(h, .inr (1, [.int 0, .int 0, .int 0, .null, .null, .null, .null, .null])), (q_7, .inl (cI, 66, .inl (fun _ => 0)))] := hD
  refine W.widen (k := 1) (n := 66) (by omega) (by omega) ?_
  refine va_putF (D := (dC, dI)) (ci := 1) (v := .ref q_7) (ty := .array .int) (C := RX1) (T := TX1) (N := 8) hx hb hts hin0 tyX1 tyX1_ok nmX1 hown hK hP hD hS 0 rfl rfl 3 (by decide) (hts (.fieldLink RX1 7 "OnlineHullModel" "xs" "[I") (by decide +kernel)) (fun _ h9 => h9) rfl hin rfl (by decide +kernel) rfl rfl (Nat.le_of_ble_eq_true rfl) dX1_init_9 (fun H locs hP hD hS => ?_)
  have hP : va_P (dC, dI) vwCl [(h, .inr (1, [.int 0, .int 0, .int 0, .ref q_7, .null, .null, .null, .null])), (q_7, .inl (cI, 66, .inl (fun _ => 0)))] H := hP
  have hD : va_D A [(h, .inr (1, [.int 0, .int 0, .int 0, .ref q_7, .null, .null, .null, .null])), (q_7, .inl (cI, 66, .inl (fun _ => 0)))] := hD
  refine lv_aload_n hx hb dX1_init_12 rfl (lv_at hl 0 rfl) ?_
  refine lv_bipush (v := nI 66) hx hb dX1_init_13 (by decide) ?_
  refine oh_newa hx hb (hts (.arrayClass .int) (by decide +kernel)) hK hP hD hS hA (k := 66) (by omega) (Nat.le_of_ble_eq_true rfl) (show _ ≤ 331 by omega) dX1_init_15 (fun q_15 H hP hD hS => ?_)
  have hP : va_P (dC, dI) vwCl [(h, .inr (1, [.int 0, .int 0, .int 0, .ref q_7, .null, .null, .null, .null])), (q_7, .inl (cI, 66, .inl (fun _ => 0))), (q_15, .inl (cI, 66, .inl (fun _ => 0)))] H := hP
  have hD : va_D A [(h, .inr (1, [.int 0, .int 0, .int 0, .ref q_7, .null, .null, .null, .null])), (q_7, .inl (cI, 66, .inl (fun _ => 0))), (q_15, .inl (cI, 66, .inl (fun _ => 0)))] := hD
  refine W.widen (k := 2) (n := 132) (by omega) (by omega) ?_
  refine va_putF (D := (dC, dI)) (ci := 1) (v := .ref q_15) (ty := .array .int) (C := RX1) (T := TX1) (N := 8) hx hb hts hin0 tyX1 tyX1_ok nmX1 hown hK hP hD hS 0 rfl rfl 4 (by decide) (hts (.fieldLink RX1 13 "OnlineHullModel" "ys" "[I") (by decide +kernel)) (fun _ h9 => h9) rfl hin rfl (by decide +kernel) rfl rfl (Nat.le_of_ble_eq_true rfl) dX1_init_17 (fun H locs hP hD hS => ?_)
  have hP : va_P (dC, dI) vwCl [(h, .inr (1, [.int 0, .int 0, .int 0, .ref q_7, .ref q_15, .null, .null, .null])), (q_7, .inl (cI, 66, .inl (fun _ => 0))), (q_15, .inl (cI, 66, .inl (fun _ => 0)))] H := hP
  have hD : va_D A [(h, .inr (1, [.int 0, .int 0, .int 0, .ref q_7, .ref q_15, .null, .null, .null])), (q_7, .inl (cI, 66, .inl (fun _ => 0))), (q_15, .inl (cI, 66, .inl (fun _ => 0)))] := hD
  refine lv_aload_n hx hb dX1_init_20 rfl (lv_at hl 0 rfl) ?_
  refine lv_bipush (v := nI 66) hx hb dX1_init_21 (by decide) ?_
  refine oh_newa hx hb (hts (.arrayClass .int) (by decide +kernel)) hK hP hD hS hA (k := 66) (by omega) (Nat.le_of_ble_eq_true rfl) (show _ ≤ 331 by omega) dX1_init_23 (fun q_23 H hP hD hS => ?_)
  have hP : va_P (dC, dI) vwCl [(h, .inr (1, [.int 0, .int 0, .int 0, .ref q_7, .ref q_15, .null, .null, .null])), (q_7, .inl (cI, 66, .inl (fun _ => 0))), (q_15, .inl (cI, 66, .inl (fun _ => 0))), (q_23, .inl (cI, 66, .inl (fun _ => 0)))] H := hP
  have hD : va_D A [(h, .inr (1, [.int 0, .int 0, .int 0, .ref q_7, .ref q_15, .null, .null, .null])), (q_7, .inl (cI, 66, .inl (fun _ => 0))), (q_15, .inl (cI, 66, .inl (fun _ => 0))), (q_23, .inl (cI, 66, .inl (fun _ => 0)))] := hD
  refine W.widen (k := 3) (n := 198) (by omega) (by omega) ?_
  refine va_putF (D := (dC, dI)) (ci := 1) (v := .ref q_23) (ty := .array .int) (C := RX1) (T := TX1) (N := 8) hx hb hts hin0 tyX1 tyX1_ok nmX1 hown hK hP hD hS 0 rfl rfl 5 (by decide) (hts (.fieldLink RX1 16 "OnlineHullModel" "px" "[I") (by decide +kernel)) (fun _ h9 => h9) rfl hin rfl (by decide +kernel) rfl rfl (Nat.le_of_ble_eq_true rfl) dX1_init_25 (fun H locs hP hD hS => ?_)
  have hP : va_P (dC, dI) vwCl [(h, .inr (1, [.int 0, .int 0, .int 0, .ref q_7, .ref q_15, .ref q_23, .null, .null])), (q_7, .inl (cI, 66, .inl (fun _ => 0))), (q_15, .inl (cI, 66, .inl (fun _ => 0))), (q_23, .inl (cI, 66, .inl (fun _ => 0)))] H := hP
  have hD : va_D A [(h, .inr (1, [.int 0, .int 0, .int 0, .ref q_7, .ref q_15, .ref q_23, .null, .null])), (q_7, .inl (cI, 66, .inl (fun _ => 0))), (q_15, .inl (cI, 66, .inl (fun _ => 0))), (q_23, .inl (cI, 66, .inl (fun _ => 0)))] := hD
  refine lv_aload_n hx hb dX1_init_28 rfl (lv_at hl 0 rfl) ?_
  refine lv_bipush (v := nI 66) hx hb dX1_init_29 (by decide) ?_
  refine oh_newa hx hb (hts (.arrayClass .int) (by decide +kernel)) hK hP hD hS hA (k := 66) (by omega) (Nat.le_of_ble_eq_true rfl) (show _ ≤ 331 by omega) dX1_init_31 (fun q_31 H hP hD hS => ?_)
  have hP : va_P (dC, dI) vwCl [(h, .inr (1, [.int 0, .int 0, .int 0, .ref q_7, .ref q_15, .ref q_23, .null, .null])), (q_7, .inl (cI, 66, .inl (fun _ => 0))), (q_15, .inl (cI, 66, .inl (fun _ => 0))), (q_23, .inl (cI, 66, .inl (fun _ => 0))), (q_31, .inl (cI, 66, .inl (fun _ => 0)))] H := hP
  have hD : va_D A [(h, .inr (1, [.int 0, .int 0, .int 0, .ref q_7, .ref q_15, .ref q_23, .null, .null])), (q_7, .inl (cI, 66, .inl (fun _ => 0))), (q_15, .inl (cI, 66, .inl (fun _ => 0))), (q_23, .inl (cI, 66, .inl (fun _ => 0))), (q_31, .inl (cI, 66, .inl (fun _ => 0)))] := hD
  refine W.widen (k := 4) (n := 264) (by omega) (by omega) ?_
  refine va_putF (D := (dC, dI)) (ci := 1) (v := .ref q_31) (ty := .array .int) (C := RX1) (T := TX1) (N := 8) hx hb hts hin0 tyX1 tyX1_ok nmX1 hown hK hP hD hS 0 rfl rfl 6 (by decide) (hts (.fieldLink RX1 19 "OnlineHullModel" "py" "[I") (by decide +kernel)) (fun _ h9 => h9) rfl hin rfl (by decide +kernel) rfl rfl (Nat.le_of_ble_eq_true rfl) dX1_init_33 (fun H locs hP hD hS => ?_)
  have hP : va_P (dC, dI) vwCl [(h, .inr (1, [.int 0, .int 0, .int 0, .ref q_7, .ref q_15, .ref q_23, .ref q_31, .null])), (q_7, .inl (cI, 66, .inl (fun _ => 0))), (q_15, .inl (cI, 66, .inl (fun _ => 0))), (q_23, .inl (cI, 66, .inl (fun _ => 0))), (q_31, .inl (cI, 66, .inl (fun _ => 0)))] H := hP
  have hD : va_D A [(h, .inr (1, [.int 0, .int 0, .int 0, .ref q_7, .ref q_15, .ref q_23, .ref q_31, .null])), (q_7, .inl (cI, 66, .inl (fun _ => 0))), (q_15, .inl (cI, 66, .inl (fun _ => 0))), (q_23, .inl (cI, 66, .inl (fun _ => 0))), (q_31, .inl (cI, 66, .inl (fun _ => 0)))] := hD
  refine lv_aload_n hx hb dX1_init_36 rfl (lv_at hl 0 rfl) ?_
  refine lv_bipush (v := nI 67) hx hb dX1_init_37 (by decide) ?_
  refine oh_newa hx hb (hts (.arrayClass .int) (by decide +kernel)) hK hP hD hS hA (k := 67) (by omega) (Nat.le_of_ble_eq_true rfl) (show _ ≤ 331 by omega) dX1_init_39 (fun q_39 H hP hD hS => ?_)
  have hP : va_P (dC, dI) vwCl [(h, .inr (1, [.int 0, .int 0, .int 0, .ref q_7, .ref q_15, .ref q_23, .ref q_31, .null])), (q_7, .inl (cI, 66, .inl (fun _ => 0))), (q_15, .inl (cI, 66, .inl (fun _ => 0))), (q_23, .inl (cI, 66, .inl (fun _ => 0))), (q_31, .inl (cI, 66, .inl (fun _ => 0))), (q_39, .inl (cI, 67, .inl (fun _ => 0)))] H := hP
  have hD : va_D A [(h, .inr (1, [.int 0, .int 0, .int 0, .ref q_7, .ref q_15, .ref q_23, .ref q_31, .null])), (q_7, .inl (cI, 66, .inl (fun _ => 0))), (q_15, .inl (cI, 66, .inl (fun _ => 0))), (q_23, .inl (cI, 66, .inl (fun _ => 0))), (q_31, .inl (cI, 66, .inl (fun _ => 0))), (q_39, .inl (cI, 67, .inl (fun _ => 0)))] := hD
  refine W.widen (k := 5) (n := 331) (by omega) (by omega) ?_
  refine va_putF (D := (dC, dI)) (ci := 1) (v := .ref q_39) (ty := .array .int) (C := RX1) (T := TX1) (N := 8) hx hb hts hin0 tyX1 tyX1_ok nmX1 hown hK hP hD hS 0 rfl rfl 7 (by decide) (hts (.fieldLink RX1 22 "OnlineHullModel" "round" "[I") (by decide +kernel)) (fun _ h9 => h9) rfl hin rfl (by decide +kernel) rfl rfl (Nat.le_of_ble_eq_true rfl) dX1_init_41 (fun H locs hP hD hS => ?_)
  have hP : va_P (dC, dI) vwCl [(h, .inr (1, [.int 0, .int 0, .int 0, .ref q_7, .ref q_15, .ref q_23, .ref q_31, .ref q_39])), (q_7, .inl (cI, 66, .inl (fun _ => 0))), (q_15, .inl (cI, 66, .inl (fun _ => 0))), (q_23, .inl (cI, 66, .inl (fun _ => 0))), (q_31, .inl (cI, 66, .inl (fun _ => 0))), (q_39, .inl (cI, 67, .inl (fun _ => 0)))] H := hP
  have hD : va_D A [(h, .inr (1, [.int 0, .int 0, .int 0, .ref q_7, .ref q_15, .ref q_23, .ref q_31, .ref q_39])), (q_7, .inl (cI, 66, .inl (fun _ => 0))), (q_15, .inl (cI, 66, .inl (fun _ => 0))), (q_23, .inl (cI, 66, .inl (fun _ => 0))), (q_31, .inl (cI, 66, .inl (fun _ => 0))), (q_39, .inl (cI, 67, .inl (fun _ => 0)))] := hD
  refine lv_iload_n hx hb dX1_init_44 rfl (lv_at hl 1 rfl) ?_
  refine lv_bipush (v := nI 62) hx hb dX1_init_45 (by decide) ?_
  refine lv_irem hx hb dX1_init_47 (by decide) ?_
  refine lv_topi (fun t_47 e_47 => ?_)
  have w_47 := oh_rem e_47
  refine lv_istore_n (lv' := [(2, .int t_47), (0, .ref h), (1, .int x)]) hx hb dX1_init_48 rfl hl (by decide) rfl (fun ls hl => ?_)
  refine lv_aload_n hx hb dX1_init_49 rfl (lv_at hl 1 rfl) ?_
  refine lv_iconst (v := nI 3) hx hb dX1_init_50 (by decide) ?_
  refine lv_iload_n hx hb dX1_init_51 rfl (lv_at hl 0 rfl) ?_
  refine lv_if_ge (tgt := 62) hx hb dX1_init_52 (by decide) (fun c_52 => ?_) (fun c_52 => ?_)
  · have g_52 : 0 ≤ t_47.toInt := oh_leI0r c_52
    have e9 := oh_md2 w_47 g_52
    subst e9
    skip
    refine lv_iload_n hx hb dX1_init_62 rfl (lv_at hl 0 rfl) ?_
    refine lv_iadd hx hb dX1_init_63 ?_
    rw [nI_add 3 ((oh_md x))]
    refine va_putF (D := (dC, dI)) (ci := 1) (v := .int (nI (3 + (oh_md x)))) (ty := .int) (C := RX1) (T := TX1) (N := 8) hx hb hts hin0 tyX1 tyX1_ok nmX1 hown hK hP hD hS 0 rfl rfl 0 (by decide) (hts (.fieldLink RX1 25 "OnlineHullModel" "cap" "I") (by decide +kernel)) (fun _ h9 => h9) rfl hin rfl (by decide +kernel) rfl rfl (Nat.le_of_ble_eq_true rfl) dX1_init_64 (fun H locs hP hD hS => ?_)
    have hP : va_P (dC, dI) vwCl [(h, .inr (1, [.int (nI (3 + (oh_md x))), .int 0, .int 0, .ref q_7, .ref q_15, .ref q_23, .ref q_31, .ref q_39])), (q_7, .inl (cI, 66, .inl (fun _ => 0))), (q_15, .inl (cI, 66, .inl (fun _ => 0))), (q_23, .inl (cI, 66, .inl (fun _ => 0))), (q_31, .inl (cI, 66, .inl (fun _ => 0))), (q_39, .inl (cI, 67, .inl (fun _ => 0)))] H := hP
    have hD : va_D A [(h, .inr (1, [.int (nI (3 + (oh_md x))), .int 0, .int 0, .ref q_7, .ref q_15, .ref q_23, .ref q_31, .ref q_39])), (q_7, .inl (cI, 66, .inl (fun _ => 0))), (q_15, .inl (cI, 66, .inl (fun _ => 0))), (q_23, .inl (cI, 66, .inl (fun _ => 0))), (q_31, .inl (cI, 66, .inl (fun _ => 0))), (q_39, .inl (cI, 67, .inl (fun _ => 0)))] := hD
    exact W.vret hx hb hr (fun t ht hW => ⟨⟨(q_7, q_15, q_23, q_31, q_39), rfl, trivial, by rw [ht]; exact hP, va_K.moved hW.alike hK, hD⟩, hS.F ht⟩) hS.2.2 dX1_init_67
  · have g_52 : t_47.toInt < 0 := oh_nleI0r c_52
    refine lv_iload_n hx hb dX1_init_55 rfl (lv_at hl 0 rfl) ?_
    refine lv_bipush (v := nI 62) hx hb dX1_init_56 (by decide) ?_
    refine lv_iadd hx hb dX1_init_58 ?_
    refine lv_topi (fun t_58 e_58 => ?_)
    have e8 := oh_md3 w_47 g_52
    rw [← e_58] at e8
    subst e8
    refine lv_goto (tgt := 63) hx hb dX1_init_59 (by decide) ?_
    refine lv_iadd hx hb dX1_init_63 ?_
    rw [nI_add 3 ((oh_md x))]
    refine va_putF (D := (dC, dI)) (ci := 1) (v := .int (nI (3 + (oh_md x)))) (ty := .int) (C := RX1) (T := TX1) (N := 8) hx hb hts hin0 tyX1 tyX1_ok nmX1 hown hK hP hD hS 0 rfl rfl 0 (by decide) (hts (.fieldLink RX1 25 "OnlineHullModel" "cap" "I") (by decide +kernel)) (fun _ h9 => h9) rfl hin rfl (by decide +kernel) rfl rfl (Nat.le_of_ble_eq_true rfl) dX1_init_64 (fun H locs hP hD hS => ?_)
    have hP : va_P (dC, dI) vwCl [(h, .inr (1, [.int (nI (3 + (oh_md x))), .int 0, .int 0, .ref q_7, .ref q_15, .ref q_23, .ref q_31, .ref q_39])), (q_7, .inl (cI, 66, .inl (fun _ => 0))), (q_15, .inl (cI, 66, .inl (fun _ => 0))), (q_23, .inl (cI, 66, .inl (fun _ => 0))), (q_31, .inl (cI, 66, .inl (fun _ => 0))), (q_39, .inl (cI, 67, .inl (fun _ => 0)))] H := hP
    have hD : va_D A [(h, .inr (1, [.int (nI (3 + (oh_md x))), .int 0, .int 0, .ref q_7, .ref q_15, .ref q_23, .ref q_31, .ref q_39])), (q_7, .inl (cI, 66, .inl (fun _ => 0))), (q_15, .inl (cI, 66, .inl (fun _ => 0))), (q_23, .inl (cI, 66, .inl (fun _ => 0))), (q_31, .inl (cI, 66, .inl (fun _ => 0))), (q_39, .inl (cI, 67, .inl (fun _ => 0)))] := hD
    exact W.vret hx hb hr (fun t ht hW => ⟨⟨(q_7, q_15, q_23, q_31, q_39), rfl, trivial, by rw [ht]; exact hP, va_K.moved hW.alike hK, hD⟩, hS.F ht⟩) hS.2.2 dX1_init_67

set_option maxHeartbeats 4000000 in
set_option maxRecDepth 100000 in
theorem k_L_cell (l : Launch) (b L : Nat) (xs : Nat → Int32) (hL : L ≤ 2049) : Met l yL_cell wsL_cell ({ frames := 0, cells := 0, slots := 0, locals := 0 }) (va_Pc [.ref b, .int (nI 0)] (fun U => va_X b L xs U U.heap)) (vp_Si (fun r => r = oh_cell L xs)) 0 0 (fun _ => False) := by
  refine Met.ofW (cc := cL_cell) (maxL := 2) (ret := (some .int)) (by decide) rfl ?_
  intro p e s m args below meth c s₁ B hml hv
  obtain ⟨rfl, hX⟩ := hv
  have hx := B.exec
  have hb := B.bytes
  have hr := B.returns
  have hts := atoms_spec (ws := wsL_cell) B.pre
  have hown : s.vm.findClass RL = some m.cls := findClass_of_methodNamed B.named
  have hlocks := B.notSynchronized
  have hl := lv_entry ([.ref b, .int (nI 0)]) (n := 2) (Nat.le_of_ble_eq_true rfl)
  rw [lg_entry_eq]
  generalize (lg_sl ([.ref b, .int (nI 0)]) ++ List.replicate (2 - (lg_sl ([.ref b, .int (nI 0)])).length) Slot.unset).toArray = ls at hl ⊢
  have hl : lv_has ls 2 [(0, .ref b), (1, .int (nI 0))] := hl
  have hbl : b < s.heap.size := by obtain ⟨scr, h1, -⟩ := hX; exact (Array.getElem?_eq_some_iff.mp h1).1
  have hS : va_S (fun _ => False) s.heap s.heap [] := va_S.rf
  have hbA : ¬ (fun _ : Nat => False) b := fun h => h
  refine lv_iload_n hx hb dL_cell_0 rfl (lv_at hl 1 rfl) ?_
  refine lv_aload_n hx hb dL_cell_1 rfl (lv_at hl 0 rfl) ?_
  refine va_slen hx hb hX hbl hbA hS dL_cell_2 ?_
  refine lv_icmp_ge (tgt := 12) hx hb dL_cell_3 (by decide) (fun c_3 => ?_) (fun c_3 => ?_)
  · have g_3 : L ≤ 0 := (nI_leI (a := L) (b := 0) (by omega) (by omega)).mp c_3
    refine lv_iconst (v := nI 0) hx hb dL_cell_12 (by decide) ?_
    exact W.iret (v := nI 0) hx hb hr (fun t ht hW => ⟨_, rfl, by unfold oh_cell; first | rw [if_pos (by omega)] | (rw [if_neg (by omega)]; rfl), ht⟩) (fun _ h => by cases h) dL_cell_13
  · have g_3 : ¬ L ≤ 0 := fun q => c_3 ((nI_leI (a := L) (b := 0) (by omega) (by omega)).mpr q)
    refine lv_aload_n hx hb dL_cell_6 rfl (lv_at hl 0 rfl) ?_
    refine lv_iload_n hx hb dL_cell_7 rfl (lv_at hl 1 rfl) ?_
    refine oh_sld hx hb hX hbl hbA hS (k := 0) (by omega) (by omega) dL_cell_8 ?_
    refine lv_goto (tgt := 13) hx hb dL_cell_9 (by decide) ?_
    exact W.iret (v := xs 0) hx hb hr (fun t ht hW => ⟨_, rfl, by unfold oh_cell; first | rw [if_pos (by omega)] | (rw [if_neg (by omega)]; rfl), ht⟩) (fun _ h => by cases h) dL_cell_13
