set_option maxHeartbeats 4000000 in
set_option maxRecDepth 100000 in
theorem k_X0_inRange (l : Launch) (x y : Int32) : Met l yX0_inRange wsX0_inRange ({ frames := 0, cells := 0, slots := 0, locals := 0 }) (va_Pc [.int x, .int y] (fun _ => True)) (vp_Si (fun r => (oh_inR x y ∧ r = 1) ∨ (¬ oh_inR x y ∧ r = 0))) 0 0 (fun _ => False) := by
  refine Met.ofW (cc := cX0_inRange) (maxL := 2) (ret := (some .boolean)) (by decide) rfl ?_
  intro p e s m args below meth c s₁ B hml hv
  obtain ⟨rfl, -⟩ := hv
  have hx := B.exec
  have hb := B.bytes
  have hr := B.returns
  have hts := atoms_spec (ws := wsX0_inRange) B.pre
  have hown : s.vm.findClass RX0 = some m.cls := findClass_of_methodNamed B.named
  have hlocks := B.notSynchronized
  have hl := lv_entry ([.int x, .int y]) (n := 2) (Nat.le_of_ble_eq_true rfl)
  rw [lg_entry_eq]
  generalize (lg_sl ([.int x, .int y]) ++ List.replicate (2 - (lg_sl ([.int x, .int y])).length) Slot.unset).toArray = ls at hl ⊢
  have hl : lv_has ls 2 [(0, .int x), (1, .int y)] := hl
  refine lv_sipush (v := -16383) hx hb dX0_inRange_0 (by decide) ?_
  refine lv_iload_n hx hb dX0_inRange_3 rfl (lv_at hl 0 rfl) ?_
  refine lv_icmp_gt (tgt := 32) hx hb dX0_inRange_4 (by decide) (fun c_4 => ?_) (fun c_4 => ?_)
  · have g_4 : x.toInt < (-16383) := by have q := oh_ltI c_4; rw [(show (-16383 : Int32).toInt = -16383 by decide)] at q; exact q
    refine lv_iconst (v := nI 0) hx hb dX0_inRange_32 (by decide) ?_
    exact W.zret (v := nI 0) hx hb hr (by decide) (fun t ht hW => ⟨_, rfl, Or.inr ⟨fun q => by unfold oh_inR at q; omega, rfl⟩, ht⟩) (fun _ h => by cases h) dX0_inRange_33
  · have g_4 : (-16383) ≤ x.toInt := by have q := oh_nltI c_4; rw [(show (-16383 : Int32).toInt = -16383 by decide)] at q; exact q
    refine lv_iload_n hx hb dX0_inRange_7 rfl (lv_at hl 0 rfl) ?_
    refine lv_sipush (v := nI 16383) hx hb dX0_inRange_8 (by decide) ?_
    refine lv_icmp_gt (tgt := 32) hx hb dX0_inRange_11 (by decide) (fun c_11 => ?_) (fun c_11 => ?_)
    · have g_11 : (16383 : Int) < x.toInt := by have q := oh_ltI c_11; rw [nI_toInt (n := 16383) (by omega)] at q; exact q
      refine lv_iconst (v := nI 0) hx hb dX0_inRange_32 (by decide) ?_
      exact W.zret (v := nI 0) hx hb hr (by decide) (fun t ht hW => ⟨_, rfl, Or.inr ⟨fun q => by unfold oh_inR at q; omega, rfl⟩, ht⟩) (fun _ h => by cases h) dX0_inRange_33
    · have g_11 : x.toInt ≤ (16383 : Int) := by have q := oh_nltI c_11; rw [nI_toInt (n := 16383) (by omega)] at q; exact q
      refine lv_sipush (v := -16383) hx hb dX0_inRange_14 (by decide) ?_
      refine lv_iload_n hx hb dX0_inRange_17 rfl (lv_at hl 1 rfl) ?_
      refine lv_icmp_gt (tgt := 32) hx hb dX0_inRange_18 (by decide) (fun c_18 => ?_) (fun c_18 => ?_)
      · have g_18 : y.toInt < (-16383) := by have q := oh_ltI c_18; rw [(show (-16383 : Int32).toInt = -16383 by decide)] at q; exact q
        refine lv_iconst (v := nI 0) hx hb dX0_inRange_32 (by decide) ?_
        exact W.zret (v := nI 0) hx hb hr (by decide) (fun t ht hW => ⟨_, rfl, Or.inr ⟨fun q => by unfold oh_inR at q; omega, rfl⟩, ht⟩) (fun _ h => by cases h) dX0_inRange_33
      · have g_18 : (-16383) ≤ y.toInt := by have q := oh_nltI c_18; rw [(show (-16383 : Int32).toInt = -16383 by decide)] at q; exact q
        refine lv_iload_n hx hb dX0_inRange_21 rfl (lv_at hl 1 rfl) ?_
        refine lv_sipush (v := nI 16383) hx hb dX0_inRange_22 (by decide) ?_
        refine lv_icmp_gt (tgt := 32) hx hb dX0_inRange_25 (by decide) (fun c_25 => ?_) (fun c_25 => ?_)
        · have g_25 : (16383 : Int) < y.toInt := by have q := oh_ltI c_25; rw [nI_toInt (n := 16383) (by omega)] at q; exact q
          refine lv_iconst (v := nI 0) hx hb dX0_inRange_32 (by decide) ?_
          exact W.zret (v := nI 0) hx hb hr (by decide) (fun t ht hW => ⟨_, rfl, Or.inr ⟨fun q => by unfold oh_inR at q; omega, rfl⟩, ht⟩) (fun _ h => by cases h) dX0_inRange_33
        · have g_25 : y.toInt ≤ (16383 : Int) := by have q := oh_nltI c_25; rw [nI_toInt (n := 16383) (by omega)] at q; exact q
          refine lv_iconst (v := nI 1) hx hb dX0_inRange_28 (by decide) ?_
          refine lv_goto (tgt := 33) hx hb dX0_inRange_29 (by decide) ?_
          exact W.zret (v := nI 1) hx hb hr (by decide) (fun t ht hW => ⟨_, rfl, Or.inl ⟨⟨by omega, by omega, by omega, by omega⟩, rfl⟩, ht⟩) (fun _ h => by cases h) dX0_inRange_33

set_option maxHeartbeats 4000000 in
set_option maxRecDepth 100000 in
theorem k_X0_comesBefore (l : Launch) (a b x y : Int32) : Met l yX0_comesBefore wsX0_comesBefore ({ frames := 0, cells := 0, slots := 0, locals := 0 }) (va_Pc [.int a, .int b, .int x, .int y] (fun _ => True)) (vp_Si (fun r => (oh_lx (a.toInt, b.toInt) (x.toInt, y.toInt) ∧ r = 1) ∨ (¬ oh_lx (a.toInt, b.toInt) (x.toInt, y.toInt) ∧ r = 0))) 0 0 (fun _ => False) := by
  refine Met.ofW (cc := cX0_comesBefore) (maxL := 4) (ret := (some .boolean)) (by decide) rfl ?_
  intro p e s m args below meth c s₁ B hml hv
  obtain ⟨rfl, -⟩ := hv
  have hx := B.exec
  have hb := B.bytes
  have hr := B.returns
  have hts := atoms_spec (ws := wsX0_comesBefore) B.pre
  have hown : s.vm.findClass RX0 = some m.cls := findClass_of_methodNamed B.named
  have hlocks := B.notSynchronized
  have hl := lv_entry ([.int a, .int b, .int x, .int y]) (n := 4) (Nat.le_of_ble_eq_true rfl)
  rw [lg_entry_eq]
  generalize (lg_sl ([.int a, .int b, .int x, .int y]) ++ List.replicate (4 - (lg_sl ([.int a, .int b, .int x, .int y])).length) Slot.unset).toArray = ls at hl ⊢
  have hl : lv_has ls 4 [(0, .int a), (1, .int b), (2, .int x), (3, .int y)] := hl
  refine lv_iload_n hx hb dX0_comesBefore_0 rfl (lv_at hl 0 rfl) ?_
  refine lv_iload_n hx hb dX0_comesBefore_1 rfl (lv_at hl 2 rfl) ?_
  refine lv_icmp_lt (tgt := 15) hx hb dX0_comesBefore_2 (by decide) (fun c_2 => ?_) (fun c_2 => ?_)
  · have g_2 : a.toInt < x.toInt := oh_ltI c_2
    refine lv_iconst (v := nI 1) hx hb dX0_comesBefore_15 (by decide) ?_
    refine lv_goto (tgt := 20) hx hb dX0_comesBefore_16 (by decide) ?_
    exact W.zret (v := nI 1) hx hb hr (by decide) (fun t ht hW => ⟨_, rfl, Or.inl ⟨by show _ ∨ _; dsimp only; omega, rfl⟩, ht⟩) (fun _ h => by cases h) dX0_comesBefore_20
  · have g_2 : x.toInt ≤ a.toInt := oh_nltI c_2
    refine lv_iload_n hx hb dX0_comesBefore_5 rfl (lv_at hl 0 rfl) ?_
    refine lv_iload_n hx hb dX0_comesBefore_6 rfl (lv_at hl 2 rfl) ?_
    refine lv_icmp_ne (tgt := 19) hx hb dX0_comesBefore_7 (by decide) (fun c_7 => ?_) (fun c_7 => ?_)
    · have g_7 : a.toInt ≠ x.toInt := oh_neI c_7
      refine lv_iconst (v := nI 0) hx hb dX0_comesBefore_19 (by decide) ?_
      exact W.zret (v := nI 0) hx hb hr (by decide) (fun t ht hW => ⟨_, rfl, Or.inr ⟨fun q => by unfold oh_lx at q; dsimp only at q; omega, rfl⟩, ht⟩) (fun _ h => by cases h) dX0_comesBefore_20
    · have g_7 : a.toInt = x.toInt := oh_eqI c_7
      refine lv_iload_n hx hb dX0_comesBefore_10 rfl (lv_at hl 1 rfl) ?_
      refine lv_iload_n hx hb dX0_comesBefore_11 rfl (lv_at hl 3 rfl) ?_
      refine lv_icmp_ge (tgt := 19) hx hb dX0_comesBefore_12 (by decide) (fun c_12 => ?_) (fun c_12 => ?_)
      · have g_12 : y.toInt ≤ b.toInt := oh_leI c_12
        refine lv_iconst (v := nI 0) hx hb dX0_comesBefore_19 (by decide) ?_
        exact W.zret (v := nI 0) hx hb hr (by decide) (fun t ht hW => ⟨_, rfl, Or.inr ⟨fun q => by unfold oh_lx at q; dsimp only at q; omega, rfl⟩, ht⟩) (fun _ h => by cases h) dX0_comesBefore_20
      · have g_12 : b.toInt < y.toInt := oh_nleI c_12
        refine lv_iconst (v := nI 1) hx hb dX0_comesBefore_15 (by decide) ?_
        refine lv_goto (tgt := 20) hx hb dX0_comesBefore_16 (by decide) ?_
        exact W.zret (v := nI 1) hx hb hr (by decide) (fun t ht hW => ⟨_, rfl, Or.inl ⟨by show _ ∨ _; dsimp only; omega, rfl⟩, ht⟩) (fun _ h => by cases h) dX0_comesBefore_20

set_option maxHeartbeats 4000000 in
set_option maxRecDepth 100000 in
theorem k_X0_isCorner (l : Launch) (dC : Nat → ClassId) (dI : Nat → Nat → Nat) (cI : ClassId) (h a1 a2 a3 a4 N n : Nat) (came : Int32) (fx fy rx ry : Nat → Int32) (i : Int32) (hN : N ≤ 64) (hn : n ≤ N) : Met l yX0_isCorner wsX0_isCorner ({ frames := 0, cells := 0, slots := 0, locals := 0 }) (va_Pc [.ref h, .int i] (fun U => va_P (dC, dI) vwCl [(h, .inr (0, [.int (nI N), .ref a1, .ref a2, .ref a3, .ref a4, .int (nI n), .int came])), (a1, .inl (cI, N, .inl fx)), (a2, .inl (cI, N, .inl fy)), (a3, .inl (cI, N, .inl rx)), (a4, .inl (cI, N, .inl ry))] U.heap ∧ va_K (dC, dI) vwCl [(cI, .int)] U)) (vp_Si (fun r => ((0 ≤ i.toInt ∧ i.toInt < (n : Int)) ∧ r = 1) ∨ (¬ (0 ≤ i.toInt ∧ i.toInt < (n : Int)) ∧ r = 0))) 0 0 (fun _ => False) := by
  refine Met.ofW (cc := cX0_isCorner) (maxL := 2) (ret := (some .boolean)) (by decide) rfl ?_
  intro p e s m args below meth c s₁ B hml hv
  obtain ⟨rfl, hP, hK⟩ := hv
  have hx := B.exec
  have hb := B.bytes
  have hr := B.returns
  have hts := atoms_spec (ws := wsX0_isCorner) B.pre
  have hown : s.vm.findClass RX0 = some m.cls := findClass_of_methodNamed B.named
  have hlocks := B.notSynchronized
  have hin0 : ∀ w ∈ wsX00, w ∈ wsX0_isCorner := fun w h => List.mem_cons_of_mem _ (List.mem_append_right _ h)
  have hl := lv_entry ([.ref h, .int i]) (n := 2) (Nat.le_of_ble_eq_true rfl)
  rw [lg_entry_eq]
  generalize (lg_sl ([.ref h, .int i]) ++ List.replicate (2 - (lg_sl ([.ref h, .int i])).length) Slot.unset).toArray = ls at hl ⊢
  have hl : lv_has ls 2 [(0, .ref h), (1, .int i)] := hl
  refine lv_iconst (v := nI 0) hx hb dX0_isCorner_0 (by decide) ?_
  refine lv_iload_n hx hb dX0_isCorner_1 rfl (lv_at hl 1 rfl) ?_
  refine lv_icmp_gt (tgt := 17) hx hb dX0_isCorner_2 (by decide) (fun c_2 => ?_) (fun c_2 => ?_)
  · have g_2 : i.toInt < (0 : Int) := by have q := oh_ltI c_2; rw [nI_toInt (n := 0) (by omega)] at q; exact q
    refine lv_iconst (v := nI 0) hx hb dX0_isCorner_17 (by decide) ?_
    exact W.zret (v := nI 0) hx hb hr (by decide) (fun t ht hW => ⟨_, rfl, Or.inr ⟨fun q => by omega, rfl⟩, ht⟩) (fun _ h => by cases h) dX0_isCorner_18
  · have g_2 : (0 : Int) ≤ i.toInt := by have q := oh_nltI c_2; rw [nI_toInt (n := 0) (by omega)] at q; exact q
    refine lv_iload_n hx hb dX0_isCorner_5 rfl (lv_at hl 1 rfl) ?_
    refine lv_aload_n hx hb dX0_isCorner_6 rfl (lv_at hl 0 rfl) ?_
    refine va_get (D := (dC, dI)) (ci := 0) (v := .int (nI n)) (C := RX0) (T := TX0) (N := 7) hx hb hts hin0 hown hK hP 0 rfl rfl 5 (by decide) (hts (.fieldLink RX0 32 "OnlineHull" "corners" "I") (by decide +kernel)) (fun _ h9 => h9) rfl dX0_isCorner_7 ?_
    refine lv_icmp_ge (tgt := 17) hx hb dX0_isCorner_10 (by decide) (fun c_10 => ?_) (fun c_10 => ?_)
    · have g_10 : (n : Int) ≤ i.toInt := by have q := oh_leI c_10; rw [nI_toInt (n := n) (by omega)] at q; exact q
      refine lv_iconst (v := nI 0) hx hb dX0_isCorner_17 (by decide) ?_
      exact W.zret (v := nI 0) hx hb hr (by decide) (fun t ht hW => ⟨_, rfl, Or.inr ⟨fun q => by omega, rfl⟩, ht⟩) (fun _ h => by cases h) dX0_isCorner_18
    · have g_10 : i.toInt < (n : Int) := by have q := oh_nleI c_10; rw [nI_toInt (n := n) (by omega)] at q; exact q
      refine lv_iconst (v := nI 1) hx hb dX0_isCorner_13 (by decide) ?_
      refine lv_goto (tgt := 18) hx hb dX0_isCorner_14 (by decide) ?_
      exact W.zret (v := nI 1) hx hb hr (by decide) (fun t ht hW => ⟨_, rfl, Or.inl ⟨⟨by omega, by omega⟩, rfl⟩, ht⟩) (fun _ h => by cases h) dX0_isCorner_18

set_option maxHeartbeats 4000000 in
set_option maxRecDepth 100000 in
theorem k_X0_next (l : Launch) (dC : Nat → ClassId) (dI : Nat → Nat → Nat) (cI : ClassId) (h a1 a2 a3 a4 N n : Nat) (came : Int32) (fx fy rx ry : Nat → Int32) (i : Nat) (hN : N ≤ 64) (hn : n ≤ N) (hi : i < n) : Met l yX0_next wsX0_next ({ frames := 0, cells := 0, slots := 0, locals := 0 }) (va_Pc [.ref h, .int (nI i)] (fun U => va_P (dC, dI) vwCl [(h, .inr (0, [.int (nI N), .ref a1, .ref a2, .ref a3, .ref a4, .int (nI n), .int came])), (a1, .inl (cI, N, .inl fx)), (a2, .inl (cI, N, .inl fy)), (a3, .inl (cI, N, .inl rx)), (a4, .inl (cI, N, .inl ry))] U.heap ∧ va_K (dC, dI) vwCl [(cI, .int)] U)) (vp_Si (fun r => r = nI (oh_nx n i))) 0 0 (fun _ => False) := by
  refine Met.ofW (cc := cX0_next) (maxL := 2) (ret := (some .int)) (by decide) rfl ?_
  intro p e s m args below meth c s₁ B hml hv
  obtain ⟨rfl, hP, hK⟩ := hv
  have hx := B.exec
  have hb := B.bytes
  have hr := B.returns
  have hts := atoms_spec (ws := wsX0_next) B.pre
  have hown : s.vm.findClass RX0 = some m.cls := findClass_of_methodNamed B.named
  have hlocks := B.notSynchronized
  have hin0 : ∀ w ∈ wsX00, w ∈ wsX0_next := fun w h => List.mem_cons_of_mem _ (List.mem_append_right _ h)
  have hl := lv_entry ([.ref h, .int (nI i)]) (n := 2) (Nat.le_of_ble_eq_true rfl)
  rw [lg_entry_eq]
  generalize (lg_sl ([.ref h, .int (nI i)]) ++ List.replicate (2 - (lg_sl ([.ref h, .int (nI i)])).length) Slot.unset).toArray = ls at hl ⊢
  have hl : lv_has ls 2 [(0, .ref h), (1, .int (nI i))] := hl
  refine lv_iload_n hx hb dX0_next_0 rfl (lv_at hl 1 rfl) ?_
  refine lv_iconst (v := nI 1) hx hb dX0_next_1 (by decide) ?_
  refine lv_iadd hx hb dX0_next_2 ?_
  rw [nI_add i 1]
  refine lv_aload_n hx hb dX0_next_3 rfl (lv_at hl 0 rfl) ?_
  refine va_get (D := (dC, dI)) (ci := 0) (v := .int (nI n)) (C := RX0) (T := TX0) (N := 7) hx hb hts hin0 hown hK hP 0 rfl rfl 5 (by decide) (hts (.fieldLink RX0 32 "OnlineHull" "corners" "I") (by decide +kernel)) (fun _ h9 => h9) rfl dX0_next_4 ?_
  refine lv_icmp_ge (tgt := 16) hx hb dX0_next_7 (by decide) (fun c_7 => ?_) (fun c_7 => ?_)
  · have g_7 : n ≤ (i + 1) := (nI_leI (a := n) (b := (i + 1)) (by omega) (by omega)).mp c_7
    refine lv_iconst (v := nI 0) hx hb dX0_next_16 (by decide) ?_
    exact W.iret (v := nI 0) hx hb hr (fun t ht hW => ⟨_, rfl, by unfold oh_nx; first | rw [if_pos (by omega)] | rw [if_neg (by omega)], ht⟩) (fun _ h => by cases h) dX0_next_17
  · have g_7 : ¬ n ≤ (i + 1) := fun q => c_7 ((nI_leI (a := n) (b := (i + 1)) (by omega) (by omega)).mpr q)
    refine lv_iload_n hx hb dX0_next_10 rfl (lv_at hl 1 rfl) ?_
    refine lv_iconst (v := nI 1) hx hb dX0_next_11 (by decide) ?_
    refine lv_iadd hx hb dX0_next_12 ?_
    rw [nI_add i 1]
    refine lv_goto (tgt := 17) hx hb dX0_next_13 (by decide) ?_
    exact W.iret (v := nI (i + 1)) hx hb hr (fun t ht hW => ⟨_, rfl, by unfold oh_nx; first | rw [if_pos (by omega)] | rw [if_neg (by omega)], ht⟩) (fun _ h => by cases h) dX0_next_17

set_option maxHeartbeats 4000000 in
set_option maxRecDepth 100000 in
theorem k_X0_previous (l : Launch) (dC : Nat → ClassId) (dI : Nat → Nat → Nat) (cI : ClassId) (h a1 a2 a3 a4 N n : Nat) (came : Int32) (fx fy rx ry : Nat → Int32) (i : Nat) (hN : N ≤ 64) (hn : n ≤ N) (hi : i < n) : Met l yX0_previous wsX0_previous ({ frames := 0, cells := 0, slots := 0, locals := 0 }) (va_Pc [.ref h, .int (nI i)] (fun U => va_P (dC, dI) vwCl [(h, .inr (0, [.int (nI N), .ref a1, .ref a2, .ref a3, .ref a4, .int (nI n), .int came])), (a1, .inl (cI, N, .inl fx)), (a2, .inl (cI, N, .inl fy)), (a3, .inl (cI, N, .inl rx)), (a4, .inl (cI, N, .inl ry))] U.heap ∧ va_K (dC, dI) vwCl [(cI, .int)] U)) (vp_Si (fun r => r = nI (oh_pv n i))) 0 0 (fun _ => False) := by
  refine Met.ofW (cc := cX0_previous) (maxL := 2) (ret := (some .int)) (by decide) rfl ?_
  intro p e s m args below meth c s₁ B hml hv
  obtain ⟨rfl, hP, hK⟩ := hv
  have hx := B.exec
  have hb := B.bytes
  have hr := B.returns
  have hts := atoms_spec (ws := wsX0_previous) B.pre
  have hown : s.vm.findClass RX0 = some m.cls := findClass_of_methodNamed B.named
  have hlocks := B.notSynchronized
  have hin0 : ∀ w ∈ wsX00, w ∈ wsX0_previous := fun w h => List.mem_cons_of_mem _ (List.mem_append_right _ h)
  have hl := lv_entry ([.ref h, .int (nI i)]) (n := 2) (Nat.le_of_ble_eq_true rfl)
  rw [lg_entry_eq]
  generalize (lg_sl ([.ref h, .int (nI i)]) ++ List.replicate (2 - (lg_sl ([.ref h, .int (nI i)])).length) Slot.unset).toArray = ls at hl ⊢
  have hl : lv_has ls 2 [(0, .ref h), (1, .int (nI i))] := hl
  refine lv_iload_n hx hb dX0_previous_0 rfl (lv_at hl 1 rfl) ?_
  refine lv_if_le (tgt := 10) hx hb dX0_previous_1 (by decide) (fun c_1 => ?_) (fun c_1 => ?_)
  · have g_1 : i ≤ 0 := (nI_leI (a := i) (b := 0) (by omega) (by omega)).mp (nI_0 ▸ c_1)
    refine lv_aload_n hx hb dX0_previous_10 rfl (lv_at hl 0 rfl) ?_
    refine va_get (D := (dC, dI)) (ci := 0) (v := .int (nI n)) (C := RX0) (T := TX0) (N := 7) hx hb hts hin0 hown hK hP 0 rfl rfl 5 (by decide) (hts (.fieldLink RX0 32 "OnlineHull" "corners" "I") (by decide +kernel)) (fun _ h9 => h9) rfl dX0_previous_11 ?_
    refine lv_iconst (v := nI 1) hx hb dX0_previous_14 (by decide) ?_
    refine lv_isub hx hb dX0_previous_15 ?_
    rw [pk_sub (a := n) (b := 1) (by omega)]
    exact W.iret (v := nI (n - 1)) hx hb hr (fun t ht hW => ⟨_, rfl, by unfold oh_pv; first | rw [if_pos (by omega)] | rw [if_neg (by omega)], ht⟩) (fun _ h => by cases h) dX0_previous_16
  · have g_1 : ¬ i ≤ 0 := fun q => (nI_0 ▸ c_1) ((nI_leI (a := i) (b := 0) (by omega) (by omega)).mpr q)
    refine lv_iload_n hx hb dX0_previous_4 rfl (lv_at hl 1 rfl) ?_
    refine lv_iconst (v := nI 1) hx hb dX0_previous_5 (by decide) ?_
    refine lv_isub hx hb dX0_previous_6 ?_
    rw [pk_sub (a := i) (b := 1) (by omega)]
    refine lv_goto (tgt := 16) hx hb dX0_previous_7 (by decide) ?_
    exact W.iret (v := nI (i - 1)) hx hb hr (fun t ht hW => ⟨_, rfl, by unfold oh_pv; first | rw [if_pos (by omega)] | rw [if_neg (by omega)], ht⟩) (fun _ h => by cases h) dX0_previous_16

set_option maxHeartbeats 4000000 in
set_option maxRecDepth 100000 in
theorem k_X0_turn (l : Launch) (dC : Nat → ClassId) (dI : Nat → Nat → Nat) (cI : ClassId) (h a1 a2 a3 a4 N n : Nat) (came : Int32) (fx fy rx ry : Nat → Int32) (i : Nat) (x y : Int32) (hN : N ≤ 64) (hn : n ≤ N) (hi : i < n) (hR : ∀ j, j < n → oh_inR (fx j) (fy j)) (hq : oh_inR x y) : Met l yX0_turn wsX0_turn ({ frames := 1, cells := 0, slots := 0, locals := 21 }) (va_Pc [.ref h, .int (nI i), .int x, .int y] (fun U => va_P (dC, dI) vwCl [(h, .inr (0, [.int (nI N), .ref a1, .ref a2, .ref a3, .ref a4, .int (nI n), .int came])), (a1, .inl (cI, N, .inl fx)), (a2, .inl (cI, N, .inl fy)), (a3, .inl (cI, N, .inl rx)), (a4, .inl (cI, N, .inl ry))] U.heap ∧ va_K (dC, dI) vwCl [(cI, .int)] U)) (vp_Si (fun r => r.toInt = oh_sd n (oh_pt fx fy) (x.toInt, y.toInt) i)) 0 0 (fun _ => False) := by
  refine Met.ofW (cc := cX0_turn) (maxL := 7) (ret := (some .int)) (by decide) rfl ?_
  intro p e s m args below meth c s₁ B hml hv
  obtain ⟨rfl, hP, hK⟩ := hv
  have hx := B.exec
  have hb := B.bytes
  have hr := B.returns
  have hts := atoms_spec (ws := wsX0_turn) B.pre
  have hown : s.vm.findClass RX0 = some m.cls := findClass_of_methodNamed B.named
  have hlocks := B.notSynchronized
  have hin0 : ∀ w ∈ wsX00, w ∈ wsX0_turn := fun w h => List.mem_cons_of_mem _ (List.mem_append_right _ h)
  have hl := lv_entry ([.ref h, .int (nI i), .int x, .int y]) (n := 7) (Nat.le_of_ble_eq_true rfl)
  rw [lg_entry_eq]
  generalize (lg_sl ([.ref h, .int (nI i), .int x, .int y]) ++ List.replicate (7 - (lg_sl ([.ref h, .int (nI i), .int x, .int y])).length) Slot.unset).toArray = ls at hl ⊢
  have hl : lv_has ls 7 [(0, .ref h), (1, .int (nI i)), (2, .int x), (3, .int y)] := hl
  have hj : oh_nx n i < n := oh_nx_lt hi
  refine lv_aload_n hx hb dX0_turn_0 rfl (lv_at hl 0 rfl) ?_
  refine lv_iload_n hx hb dX0_turn_1 rfl (lv_at hl 1 rfl) ?_
  refine vp_callSi (va_Run.run (va_runV (As := [.int (nI i)]) (rest := []) ⟨hx, hb, hml, hown, hts⟩ (k_X0_next l dC dI cI h a1 a2 a3 a4 N n came fx fy rx ry i hN hn (by omega)) (cwV 1 hts gX0_turn_X0_next rfl rfl rfl (by decide +kernel) ⟨Nat.le_of_ble_eq_true rfl, Nat.le_of_ble_eq_true rfl⟩) (oh_pre (ci := 0) (q0 := 0) hK hP rfl rfl) rfl rfl hl.1 rfl (lv_room (Nat.le_of_ble_eq_true rfl)) dX0_turn_2 ⟨Nat.zero_le _, Nat.zero_le _⟩)) (fun r_2 hr_2 => ?_)
  subst hr_2
  refine lv_istore (lv' := [(4, .int (nI (oh_nx n i))), (0, .ref h), (1, .int (nI i)), (2, .int x), (3, .int y)]) hx hb dX0_turn_5 hl (by decide) rfl (fun ls hl => ?_)
  refine lv_aload_n hx hb dX0_turn_7 rfl (lv_at hl 1 rfl) ?_
  refine va_get (D := (dC, dI)) (ci := 0) (v := .ref a1) (C := RX0) (T := TX0) (N := 7) hx hb hts hin0 hown hK hP 0 rfl rfl 1 (by decide) (hts (.fieldLink RX0 19 "OnlineHull" "cornerX" "[I") (by decide +kernel)) (fun _ h9 => h9) rfl dX0_turn_8 ?_
  refine lv_iload hx hb dX0_turn_11 (lv_at hl 0 rfl) ?_
  refine oh_ald hx hb hK hP 1 0 rfl rfl (k := (oh_nx n i)) (by omega) (by omega) dX0_turn_13 ?_
  refine lv_aload_n hx hb dX0_turn_14 rfl (lv_at hl 1 rfl) ?_
  refine va_get (D := (dC, dI)) (ci := 0) (v := .ref a1) (C := RX0) (T := TX0) (N := 7) hx hb hts hin0 hown hK hP 0 rfl rfl 1 (by decide) (hts (.fieldLink RX0 19 "OnlineHull" "cornerX" "[I") (by decide +kernel)) (fun _ h9 => h9) rfl dX0_turn_15 ?_
  refine lv_iload_n hx hb dX0_turn_18 rfl (lv_at hl 2 rfl) ?_
  refine oh_ald hx hb hK hP 1 0 rfl rfl (k := i) (by omega) (by omega) dX0_turn_19 ?_
  refine lv_isub hx hb dX0_turn_20 ?_
  refine lv_istore (lv' := [(5, .int ((fx ((oh_nx n i))) - (fx i))), (4, .int (nI (oh_nx n i))), (0, .ref h), (1, .int (nI i)), (2, .int x), (3, .int y)]) hx hb dX0_turn_21 hl (by decide) rfl (fun ls hl => ?_)
  refine lv_aload_n hx hb dX0_turn_23 rfl (lv_at hl 2 rfl) ?_
  refine va_get (D := (dC, dI)) (ci := 0) (v := .ref a2) (C := RX0) (T := TX0) (N := 7) hx hb hts hin0 hown hK hP 0 rfl rfl 2 (by decide) (hts (.fieldLink RX0 23 "OnlineHull" "cornerY" "[I") (by decide +kernel)) (fun _ h9 => h9) rfl dX0_turn_24 ?_
  refine lv_iload hx hb dX0_turn_27 (lv_at hl 1 rfl) ?_
  refine oh_ald hx hb hK hP 2 0 rfl rfl (k := (oh_nx n i)) (by omega) (by omega) dX0_turn_29 ?_
  refine lv_aload_n hx hb dX0_turn_30 rfl (lv_at hl 2 rfl) ?_
  refine va_get (D := (dC, dI)) (ci := 0) (v := .ref a2) (C := RX0) (T := TX0) (N := 7) hx hb hts hin0 hown hK hP 0 rfl rfl 2 (by decide) (hts (.fieldLink RX0 23 "OnlineHull" "cornerY" "[I") (by decide +kernel)) (fun _ h9 => h9) rfl dX0_turn_31 ?_
  refine lv_iload_n hx hb dX0_turn_34 rfl (lv_at hl 3 rfl) ?_
  refine oh_ald hx hb hK hP 2 0 rfl rfl (k := i) (by omega) (by omega) dX0_turn_35 ?_
  refine lv_isub hx hb dX0_turn_36 ?_
  refine lv_istore (lv' := [(6, .int ((fy ((oh_nx n i))) - (fy i))), (5, .int ((fx ((oh_nx n i))) - (fx i))), (4, .int (nI (oh_nx n i))), (0, .ref h), (1, .int (nI i)), (2, .int x), (3, .int y)]) hx hb dX0_turn_37 hl (by decide) rfl (fun ls hl => ?_)
  refine lv_iload hx hb dX0_turn_39 (lv_at hl 1 rfl) ?_
  refine lv_iload_n hx hb dX0_turn_41 rfl (lv_at hl 6 rfl) ?_
  refine lv_aload_n hx hb dX0_turn_42 rfl (lv_at hl 3 rfl) ?_
  refine va_get (D := (dC, dI)) (ci := 0) (v := .ref a2) (C := RX0) (T := TX0) (N := 7) hx hb hts hin0 hown hK hP 0 rfl rfl 2 (by decide) (hts (.fieldLink RX0 23 "OnlineHull" "cornerY" "[I") (by decide +kernel)) (fun _ h9 => h9) rfl dX0_turn_43 ?_
  refine lv_iload_n hx hb dX0_turn_46 rfl (lv_at hl 4 rfl) ?_
  refine oh_ald hx hb hK hP 2 0 rfl rfl (k := i) (by omega) (by omega) dX0_turn_47 ?_
  refine lv_isub hx hb dX0_turn_48 ?_
  refine lv_imul hx hb dX0_turn_49 ?_
  refine lv_iload hx hb dX0_turn_50 (lv_at hl 0 rfl) ?_
  refine lv_iload_n hx hb dX0_turn_52 rfl (lv_at hl 5 rfl) ?_
  refine lv_aload_n hx hb dX0_turn_53 rfl (lv_at hl 3 rfl) ?_
  refine va_get (D := (dC, dI)) (ci := 0) (v := .ref a1) (C := RX0) (T := TX0) (N := 7) hx hb hts hin0 hown hK hP 0 rfl rfl 1 (by decide) (hts (.fieldLink RX0 19 "OnlineHull" "cornerX" "[I") (by decide +kernel)) (fun _ h9 => h9) rfl dX0_turn_54 ?_
  refine lv_iload_n hx hb dX0_turn_57 rfl (lv_at hl 4 rfl) ?_
  refine oh_ald hx hb hK hP 1 0 rfl rfl (k := i) (by omega) (by omega) dX0_turn_58 ?_
  refine lv_isub hx hb dX0_turn_59 ?_
  refine lv_imul hx hb dX0_turn_60 ?_
  refine lv_isub hx hb dX0_turn_61 ?_
  exact W.iret (v := (((fx ((oh_nx n i))) - (fx i)) * (y - (fy i))) - (((fy ((oh_nx n i))) - (fy i)) * (x - (fx i)))) hx hb hr (fun t ht hW => ⟨_, rfl, oh_t32 (hR i hi) (hR _ hj) hq, ht⟩) (fun _ h => by cases h) dX0_turn_62

set_option maxHeartbeats 4000000 in
set_option maxRecDepth 100000 in
theorem k_X0_reach (l : Launch) (dC : Nat → ClassId) (dI : Nat → Nat → Nat) (cI : ClassId) (h a1 a2 a3 a4 N n : Nat) (came : Int32) (fx fy rx ry : Nat → Int32) (i : Nat) (x y : Int32) (hN : N ≤ 64) (hn : n ≤ N) (hi : i < n) (hR : ∀ j, j < n → oh_inR (fx j) (fy j)) (hq : oh_inR x y) : Met l yX0_reach wsX0_reach ({ frames := 0, cells := 0, slots := 0, locals := 0 }) (va_Pc [.ref h, .int (nI i), .int x, .int y] (fun U => va_P (dC, dI) vwCl [(h, .inr (0, [.int (nI N), .ref a1, .ref a2, .ref a3, .ref a4, .int (nI n), .int came])), (a1, .inl (cI, N, .inl fx)), (a2, .inl (cI, N, .inl fy)), (a3, .inl (cI, N, .inl rx)), (a4, .inl (cI, N, .inl ry))] U.heap ∧ va_K (dC, dI) vwCl [(cI, .int)] U)) (vp_Si (fun r => r.toInt = x.toInt * (fx i).toInt + y.toInt * (fy i).toInt)) 0 0 (fun _ => False) := by
  refine Met.ofW (cc := cX0_reach) (maxL := 4) (ret := (some .int)) (by decide) rfl ?_
  intro p e s m args below meth c s₁ B hml hv
  obtain ⟨rfl, hP, hK⟩ := hv
  have hx := B.exec
  have hb := B.bytes
  have hr := B.returns
  have hts := atoms_spec (ws := wsX0_reach) B.pre
  have hown : s.vm.findClass RX0 = some m.cls := findClass_of_methodNamed B.named
  have hlocks := B.notSynchronized
  have hin0 : ∀ w ∈ wsX00, w ∈ wsX0_reach := fun w h => List.mem_cons_of_mem _ (List.mem_append_right _ h)
  have hl := lv_entry ([.ref h, .int (nI i), .int x, .int y]) (n := 4) (Nat.le_of_ble_eq_true rfl)
  rw [lg_entry_eq]
  generalize (lg_sl ([.ref h, .int (nI i), .int x, .int y]) ++ List.replicate (4 - (lg_sl ([.ref h, .int (nI i), .int x, .int y])).length) Slot.unset).toArray = ls at hl ⊢
  have hl : lv_has ls 4 [(0, .ref h), (1, .int (nI i)), (2, .int x), (3, .int y)] := hl
  refine lv_iload_n hx hb dX0_reach_0 rfl (lv_at hl 2 rfl) ?_
  refine lv_aload_n hx hb dX0_reach_1 rfl (lv_at hl 0 rfl) ?_
  refine va_get (D := (dC, dI)) (ci := 0) (v := .ref a1) (C := RX0) (T := TX0) (N := 7) hx hb hts hin0 hown hK hP 0 rfl rfl 1 (by decide) (hts (.fieldLink RX0 19 "OnlineHull" "cornerX" "[I") (by decide +kernel)) (fun _ h9 => h9) rfl dX0_reach_2 ?_
  refine lv_iload_n hx hb dX0_reach_5 rfl (lv_at hl 1 rfl) ?_
  refine oh_ald hx hb hK hP 1 0 rfl rfl (k := i) (by omega) (by omega) dX0_reach_6 ?_
  refine lv_imul hx hb dX0_reach_7 ?_
  refine lv_iload_n hx hb dX0_reach_8 rfl (lv_at hl 3 rfl) ?_
  refine lv_aload_n hx hb dX0_reach_9 rfl (lv_at hl 0 rfl) ?_
  refine va_get (D := (dC, dI)) (ci := 0) (v := .ref a2) (C := RX0) (T := TX0) (N := 7) hx hb hts hin0 hown hK hP 0 rfl rfl 2 (by decide) (hts (.fieldLink RX0 23 "OnlineHull" "cornerY" "[I") (by decide +kernel)) (fun _ h9 => h9) rfl dX0_reach_10 ?_
  refine lv_iload_n hx hb dX0_reach_13 rfl (lv_at hl 1 rfl) ?_
  refine oh_ald hx hb hK hP 2 0 rfl rfl (k := i) (by omega) (by omega) dX0_reach_14 ?_
  refine lv_imul hx hb dX0_reach_15 ?_
  refine lv_iadd hx hb dX0_reach_16 ?_
  exact W.iret (v := (x * (fx i)) + (y * (fy i))) hx hb hr (fun t ht hW => ⟨_, rfl, oh_r32 hq (hR i hi), ht⟩) (fun _ h => by cases h) dX0_reach_17

set_option maxHeartbeats 4000000 in
set_option maxRecDepth 100000 in
theorem k_X0_squaredDistance (l : Launch) (dC : Nat → ClassId) (dI : Nat → Nat → Nat) (cI : ClassId) (h a1 a2 a3 a4 N n : Nat) (came : Int32) (fx fy rx ry : Nat → Int32) (i j : Nat) (hN : N ≤ 64) (hn : n ≤ N) (hi : i < n) (hj : j < n) (hR : ∀ j, j < n → oh_inR (fx j) (fy j)) : Met l yX0_squaredDistance wsX0_squaredDistance ({ frames := 0, cells := 0, slots := 0, locals := 0 }) (va_Pc [.ref h, .int (nI i), .int (nI j)] (fun U => va_P (dC, dI) vwCl [(h, .inr (0, [.int (nI N), .ref a1, .ref a2, .ref a3, .ref a4, .int (nI n), .int came])), (a1, .inl (cI, N, .inl fx)), (a2, .inl (cI, N, .inl fy)), (a3, .inl (cI, N, .inl rx)), (a4, .inl (cI, N, .inl ry))] U.heap ∧ va_K (dC, dI) vwCl [(cI, .int)] U)) (vp_Si (fun r => r.toInt = oh_d2 (oh_pt fx fy j) (oh_pt fx fy i))) 0 0 (fun _ => False) := by
  refine Met.ofW (cc := cX0_squaredDistance) (maxL := 5) (ret := (some .int)) (by decide) rfl ?_
  intro p e s m args below meth c s₁ B hml hv
  obtain ⟨rfl, hP, hK⟩ := hv
  have hx := B.exec
  have hb := B.bytes
  have hr := B.returns
  have hts := atoms_spec (ws := wsX0_squaredDistance) B.pre
  have hown : s.vm.findClass RX0 = some m.cls := findClass_of_methodNamed B.named
  have hlocks := B.notSynchronized
  have hin0 : ∀ w ∈ wsX00, w ∈ wsX0_squaredDistance := fun w h => List.mem_cons_of_mem _ (List.mem_append_right _ h)
  have hl := lv_entry ([.ref h, .int (nI i), .int (nI j)]) (n := 5) (Nat.le_of_ble_eq_true rfl)
  rw [lg_entry_eq]
  generalize (lg_sl ([.ref h, .int (nI i), .int (nI j)]) ++ List.replicate (5 - (lg_sl ([.ref h, .int (nI i), .int (nI j)])).length) Slot.unset).toArray = ls at hl ⊢
  have hl : lv_has ls 5 [(0, .ref h), (1, .int (nI i)), (2, .int (nI j))] := hl
  refine lv_aload_n hx hb dX0_squaredDistance_0 rfl (lv_at hl 0 rfl) ?_
  refine va_get (D := (dC, dI)) (ci := 0) (v := .ref a1) (C := RX0) (T := TX0) (N := 7) hx hb hts hin0 hown hK hP 0 rfl rfl 1 (by decide) (hts (.fieldLink RX0 19 "OnlineHull" "cornerX" "[I") (by decide +kernel)) (fun _ h9 => h9) rfl dX0_squaredDistance_1 ?_
  refine lv_iload_n hx hb dX0_squaredDistance_4 rfl (lv_at hl 1 rfl) ?_
  refine oh_ald hx hb hK hP 1 0 rfl rfl (k := i) (by omega) (by omega) dX0_squaredDistance_5 ?_
  refine lv_aload_n hx hb dX0_squaredDistance_6 rfl (lv_at hl 0 rfl) ?_
  refine va_get (D := (dC, dI)) (ci := 0) (v := .ref a1) (C := RX0) (T := TX0) (N := 7) hx hb hts hin0 hown hK hP 0 rfl rfl 1 (by decide) (hts (.fieldLink RX0 19 "OnlineHull" "cornerX" "[I") (by decide +kernel)) (fun _ h9 => h9) rfl dX0_squaredDistance_7 ?_
  refine lv_iload_n hx hb dX0_squaredDistance_10 rfl (lv_at hl 2 rfl) ?_
  refine oh_ald hx hb hK hP 1 0 rfl rfl (k := j) (by omega) (by omega) dX0_squaredDistance_11 ?_
  refine lv_isub hx hb dX0_squaredDistance_12 ?_
  refine lv_istore_n (lv' := [(3, .int ((fx i) - (fx j))), (0, .ref h), (1, .int (nI i)), (2, .int (nI j))]) hx hb dX0_squaredDistance_13 rfl hl (by decide) rfl (fun ls hl => ?_)
  refine lv_aload_n hx hb dX0_squaredDistance_14 rfl (lv_at hl 1 rfl) ?_
  refine va_get (D := (dC, dI)) (ci := 0) (v := .ref a2) (C := RX0) (T := TX0) (N := 7) hx hb hts hin0 hown hK hP 0 rfl rfl 2 (by decide) (hts (.fieldLink RX0 23 "OnlineHull" "cornerY" "[I") (by decide +kernel)) (fun _ h9 => h9) rfl dX0_squaredDistance_15 ?_
  refine lv_iload_n hx hb dX0_squaredDistance_18 rfl (lv_at hl 2 rfl) ?_
  refine oh_ald hx hb hK hP 2 0 rfl rfl (k := i) (by omega) (by omega) dX0_squaredDistance_19 ?_
  refine lv_aload_n hx hb dX0_squaredDistance_20 rfl (lv_at hl 1 rfl) ?_
  refine va_get (D := (dC, dI)) (ci := 0) (v := .ref a2) (C := RX0) (T := TX0) (N := 7) hx hb hts hin0 hown hK hP 0 rfl rfl 2 (by decide) (hts (.fieldLink RX0 23 "OnlineHull" "cornerY" "[I") (by decide +kernel)) (fun _ h9 => h9) rfl dX0_squaredDistance_21 ?_
  refine lv_iload_n hx hb dX0_squaredDistance_24 rfl (lv_at hl 3 rfl) ?_
  refine oh_ald hx hb hK hP 2 0 rfl rfl (k := j) (by omega) (by omega) dX0_squaredDistance_25 ?_
  refine lv_isub hx hb dX0_squaredDistance_26 ?_
  refine lv_istore (lv' := [(4, .int ((fy i) - (fy j))), (3, .int ((fx i) - (fx j))), (0, .ref h), (1, .int (nI i)), (2, .int (nI j))]) hx hb dX0_squaredDistance_27 hl (by decide) rfl (fun ls hl => ?_)
  refine lv_iload_n hx hb dX0_squaredDistance_29 rfl (lv_at hl 1 rfl) ?_
  refine lv_iload_n hx hb dX0_squaredDistance_30 rfl (lv_at hl 1 rfl) ?_
  refine lv_imul hx hb dX0_squaredDistance_31 ?_
  refine lv_iload hx hb dX0_squaredDistance_32 (lv_at hl 0 rfl) ?_
  refine lv_iload hx hb dX0_squaredDistance_34 (lv_at hl 0 rfl) ?_
  refine lv_imul hx hb dX0_squaredDistance_36 ?_
  refine lv_iadd hx hb dX0_squaredDistance_37 ?_
  exact W.iret (v := (((fx i) - (fx j)) * ((fx i) - (fx j))) + (((fy i) - (fy j)) * ((fy i) - (fy j)))) hx hb hr (fun t ht hW => ⟨_, rfl, oh_q32 (hR i hi) (hR j hj), ht⟩) (fun _ h => by cases h) dX0_squaredDistance_38

set_option maxHeartbeats 4000000 in
set_option maxRecDepth 100000 in
theorem k_X0_size (l : Launch) (dC : Nat → ClassId) (dI : Nat → Nat → Nat) (cI : ClassId) (h a1 a2 a3 a4 N n : Nat) (came : Int32) (fx fy rx ry : Nat → Int32) (hN : N ≤ 64) (hn : n ≤ N) : Met l yX0_size wsX0_size ({ frames := 0, cells := 0, slots := 0, locals := 0 }) (va_Pc [.ref h] (fun U => va_P (dC, dI) vwCl [(h, .inr (0, [.int (nI N), .ref a1, .ref a2, .ref a3, .ref a4, .int (nI n), .int came])), (a1, .inl (cI, N, .inl fx)), (a2, .inl (cI, N, .inl fy)), (a3, .inl (cI, N, .inl rx)), (a4, .inl (cI, N, .inl ry))] U.heap ∧ va_K (dC, dI) vwCl [(cI, .int)] U)) (vp_Si (fun r => r = nI n)) 0 0 (fun _ => False) := by
  refine Met.ofW (cc := cX0_size) (maxL := 1) (ret := (some .int)) (by decide) rfl ?_
  intro p e s m args below meth c s₁ B hml hv
  obtain ⟨rfl, hP, hK⟩ := hv
  have hx := B.exec
  have hb := B.bytes
  have hr := B.returns
  have hts := atoms_spec (ws := wsX0_size) B.pre
  have hown : s.vm.findClass RX0 = some m.cls := findClass_of_methodNamed B.named
  have hlocks := B.notSynchronized
  have hin0 : ∀ w ∈ wsX00, w ∈ wsX0_size := fun w h => List.mem_cons_of_mem _ (List.mem_append_right _ h)
  have hl := lv_entry ([.ref h]) (n := 1) (Nat.le_of_ble_eq_true rfl)
  rw [lg_entry_eq]
  generalize (lg_sl ([.ref h]) ++ List.replicate (1 - (lg_sl ([.ref h])).length) Slot.unset).toArray = ls at hl ⊢
  have hl : lv_has ls 1 [(0, .ref h)] := hl
  refine lv_aload_n hx hb dX0_size_0 rfl (lv_at hl 0 rfl) ?_
  refine va_get (D := (dC, dI)) (ci := 0) (v := .int (nI n)) (C := RX0) (T := TX0) (N := 7) hx hb hts hin0 hown hK hP 0 rfl rfl 5 (by decide) (hts (.fieldLink RX0 32 "OnlineHull" "corners" "I") (by decide +kernel)) (fun _ h9 => h9) rfl dX0_size_1 ?_
  exact W.iret (v := nI n) hx hb hr (fun t ht hW => ⟨_, rfl, rfl, ht⟩) (fun _ h => by cases h) dX0_size_4

set_option maxHeartbeats 4000000 in
set_option maxRecDepth 100000 in
theorem k_X0_points (l : Launch) (dC : Nat → ClassId) (dI : Nat → Nat → Nat) (cI : ClassId) (h a1 a2 a3 a4 N n : Nat) (came : Int32) (fx fy rx ry : Nat → Int32) (hN : N ≤ 64) (hn : n ≤ N) : Met l yX0_points wsX0_points ({ frames := 0, cells := 0, slots := 0, locals := 0 }) (va_Pc [.ref h] (fun U => va_P (dC, dI) vwCl [(h, .inr (0, [.int (nI N), .ref a1, .ref a2, .ref a3, .ref a4, .int (nI n), .int came])), (a1, .inl (cI, N, .inl fx)), (a2, .inl (cI, N, .inl fy)), (a3, .inl (cI, N, .inl rx)), (a4, .inl (cI, N, .inl ry))] U.heap ∧ va_K (dC, dI) vwCl [(cI, .int)] U)) (vp_Si (fun r => r = came)) 0 0 (fun _ => False) := by
  refine Met.ofW (cc := cX0_points) (maxL := 1) (ret := (some .int)) (by decide) rfl ?_
  intro p e s m args below meth c s₁ B hml hv
  obtain ⟨rfl, hP, hK⟩ := hv
  have hx := B.exec
  have hb := B.bytes
  have hr := B.returns
  have hts := atoms_spec (ws := wsX0_points) B.pre
  have hown : s.vm.findClass RX0 = some m.cls := findClass_of_methodNamed B.named
  have hlocks := B.notSynchronized
  have hin0 : ∀ w ∈ wsX00, w ∈ wsX0_points := fun w h => List.mem_cons_of_mem _ (List.mem_append_right _ h)
  have hl := lv_entry ([.ref h]) (n := 1) (Nat.le_of_ble_eq_true rfl)
  rw [lg_entry_eq]
  generalize (lg_sl ([.ref h]) ++ List.replicate (1 - (lg_sl ([.ref h])).length) Slot.unset).toArray = ls at hl ⊢
  have hl : lv_has ls 1 [(0, .ref h)] := hl
  refine lv_aload_n hx hb dX0_points_0 rfl (lv_at hl 0 rfl) ?_
  refine va_get (D := (dC, dI)) (ci := 0) (v := .int came) (C := RX0) (T := TX0) (N := 7) hx hb hts hin0 hown hK hP 0 rfl rfl 6 (by decide) (hts (.fieldLink RX0 35 "OnlineHull" "came" "I") (by decide +kernel)) (fun _ h9 => h9) rfl dX0_points_1 ?_
  exact W.iret (v := came) hx hb hr (fun t ht hW => ⟨_, rfl, rfl, ht⟩) (fun _ h => by cases h) dX0_points_4

set_option maxHeartbeats 4000000 in
set_option maxRecDepth 100000 in
theorem k_X0_xOf (l : Launch) (dC : Nat → ClassId) (dI : Nat → Nat → Nat) (cI : ClassId) (h a1 a2 a3 a4 N n : Nat) (came : Int32) (fx fy rx ry : Nat → Int32) (i : Int32) (hN : N ≤ 64) (hn : n ≤ N) : Met l yX0_xOf wsX0_xOf ({ frames := 1, cells := 0, slots := 0, locals := 21 }) (va_Pc [.ref h, .int i] (fun U => va_P (dC, dI) vwCl [(h, .inr (0, [.int (nI N), .ref a1, .ref a2, .ref a3, .ref a4, .int (nI n), .int came])), (a1, .inl (cI, N, .inl fx)), (a2, .inl (cI, N, .inl fy)), (a3, .inl (cI, N, .inl rx)), (a4, .inl (cI, N, .inl ry))] U.heap ∧ va_K (dC, dI) vwCl [(cI, .int)] U)) (vp_Si (fun r => (∃ k : Nat, k < n ∧ i = nI k ∧ r = fx k) ∨ (¬ (0 ≤ i.toInt ∧ i.toInt < (n : Int)) ∧ r = 0))) 0 0 (fun _ => False) := by
  refine Met.ofW (cc := cX0_xOf) (maxL := 2) (ret := (some .int)) (by decide) rfl ?_
  intro p e s m args below meth c s₁ B hml hv
  obtain ⟨rfl, hP, hK⟩ := hv
  have hx := B.exec
  have hb := B.bytes
  have hr := B.returns
  have hts := atoms_spec (ws := wsX0_xOf) B.pre
  have hown : s.vm.findClass RX0 = some m.cls := findClass_of_methodNamed B.named
  have hlocks := B.notSynchronized
  have hin0 : ∀ w ∈ wsX00, w ∈ wsX0_xOf := fun w h => List.mem_cons_of_mem _ (List.mem_append_right _ h)
  have hl := lv_entry ([.ref h, .int i]) (n := 2) (Nat.le_of_ble_eq_true rfl)
  rw [lg_entry_eq]
  generalize (lg_sl ([.ref h, .int i]) ++ List.replicate (2 - (lg_sl ([.ref h, .int i])).length) Slot.unset).toArray = ls at hl ⊢
  have hl : lv_has ls 2 [(0, .ref h), (1, .int i)] := hl
  refine lv_aload_n hx hb dX0_xOf_0 rfl (lv_at hl 0 rfl) ?_
  refine lv_iload_n hx hb dX0_xOf_1 rfl (lv_at hl 1 rfl) ?_
  refine vp_callSi (va_Run.run (va_runV (As := [.int i]) (rest := []) ⟨hx, hb, hml, hown, hts⟩ (k_X0_isCorner l dC dI cI h a1 a2 a3 a4 N n came fx fy rx ry i hN hn) (cwV 1 hts gX0_xOf_X0_isCorner rfl rfl rfl (by decide +kernel) ⟨Nat.le_of_ble_eq_true rfl, Nat.le_of_ble_eq_true rfl⟩) (oh_pre (ci := 0) (q0 := 0) hK hP rfl rfl) rfl rfl hl.1 rfl (lv_room (Nat.le_of_ble_eq_true rfl)) dX0_xOf_2 ⟨Nat.zero_le _, Nat.zero_le _⟩)) (fun r_2 hr_2 => ?_)
  rcases hr_2 with ⟨b_2, hr_2⟩ | ⟨b_2, hr_2⟩ <;> subst hr_2
  · obtain ⟨k, hk, rfl⟩ : ∃ k : Nat, k < n ∧ i = nI k := ⟨i.toInt.toNat, by omega, Int32.toInt_inj.mp (by rw [nI_toInt (by omega)]; omega)⟩
    refine lv_if_eq (tgt := 17) hx hb dX0_xOf_5 (by decide) (fun q => absurd q (by decide)) (fun _ => ?_)
    refine lv_aload_n hx hb dX0_xOf_8 rfl (lv_at hl 0 rfl) ?_
    refine va_get (D := (dC, dI)) (ci := 0) (v := .ref a1) (C := RX0) (T := TX0) (N := 7) hx hb hts hin0 hown hK hP 0 rfl rfl 1 (by decide) (hts (.fieldLink RX0 19 "OnlineHull" "cornerX" "[I") (by decide +kernel)) (fun _ h9 => h9) rfl dX0_xOf_9 ?_
    refine lv_iload_n hx hb dX0_xOf_12 rfl (lv_at hl 1 rfl) ?_
    refine oh_ald hx hb hK hP 1 0 rfl rfl (k := k) (by omega) (by omega) dX0_xOf_13 ?_
    refine lv_goto (tgt := 18) hx hb dX0_xOf_14 (by decide) ?_
    exact W.iret (v := fx k) hx hb hr (fun t ht hW => ⟨_, rfl, Or.inl ⟨k, by omega, rfl, rfl⟩, ht⟩) (fun _ h => by cases h) dX0_xOf_18
  · refine lv_if_eq (tgt := 17) hx hb dX0_xOf_5 (by decide) (fun _ => ?_) (fun q => absurd q (by decide))
    refine lv_iconst (v := nI 0) hx hb dX0_xOf_17 (by decide) ?_
    exact W.iret (v := nI 0) hx hb hr (fun t ht hW => ⟨_, rfl, Or.inr ⟨b_2, rfl⟩, ht⟩) (fun _ h => by cases h) dX0_xOf_18

set_option maxHeartbeats 4000000 in
set_option maxRecDepth 100000 in
theorem k_X0_yOf (l : Launch) (dC : Nat → ClassId) (dI : Nat → Nat → Nat) (cI : ClassId) (h a1 a2 a3 a4 N n : Nat) (came : Int32) (fx fy rx ry : Nat → Int32) (i : Int32) (hN : N ≤ 64) (hn : n ≤ N) : Met l yX0_yOf wsX0_yOf ({ frames := 1, cells := 0, slots := 0, locals := 21 }) (va_Pc [.ref h, .int i] (fun U => va_P (dC, dI) vwCl [(h, .inr (0, [.int (nI N), .ref a1, .ref a2, .ref a3, .ref a4, .int (nI n), .int came])), (a1, .inl (cI, N, .inl fx)), (a2, .inl (cI, N, .inl fy)), (a3, .inl (cI, N, .inl rx)), (a4, .inl (cI, N, .inl ry))] U.heap ∧ va_K (dC, dI) vwCl [(cI, .int)] U)) (vp_Si (fun r => (∃ k : Nat, k < n ∧ i = nI k ∧ r = fy k) ∨ (¬ (0 ≤ i.toInt ∧ i.toInt < (n : Int)) ∧ r = 0))) 0 0 (fun _ => False) := by
  refine Met.ofW (cc := cX0_yOf) (maxL := 2) (ret := (some .int)) (by decide) rfl ?_
  intro p e s m args below meth c s₁ B hml hv
  obtain ⟨rfl, hP, hK⟩ := hv
  have hx := B.exec
  have hb := B.bytes
  have hr := B.returns
  have hts := atoms_spec (ws := wsX0_yOf) B.pre
  have hown : s.vm.findClass RX0 = some m.cls := findClass_of_methodNamed B.named
  have hlocks := B.notSynchronized
  have hin0 : ∀ w ∈ wsX00, w ∈ wsX0_yOf := fun w h => List.mem_cons_of_mem _ (List.mem_append_right _ h)
  have hl := lv_entry ([.ref h, .int i]) (n := 2) (Nat.le_of_ble_eq_true rfl)
  rw [lg_entry_eq]
  generalize (lg_sl ([.ref h, .int i]) ++ List.replicate (2 - (lg_sl ([.ref h, .int i])).length) Slot.unset).toArray = ls at hl ⊢
  have hl : lv_has ls 2 [(0, .ref h), (1, .int i)] := hl
  refine lv_aload_n hx hb dX0_yOf_0 rfl (lv_at hl 0 rfl) ?_
  refine lv_iload_n hx hb dX0_yOf_1 rfl (lv_at hl 1 rfl) ?_
  refine vp_callSi (va_Run.run (va_runV (As := [.int i]) (rest := []) ⟨hx, hb, hml, hown, hts⟩ (k_X0_isCorner l dC dI cI h a1 a2 a3 a4 N n came fx fy rx ry i hN hn) (cwV 1 hts gX0_yOf_X0_isCorner rfl rfl rfl (by decide +kernel) ⟨Nat.le_of_ble_eq_true rfl, Nat.le_of_ble_eq_true rfl⟩) (oh_pre (ci := 0) (q0 := 0) hK hP rfl rfl) rfl rfl hl.1 rfl (lv_room (Nat.le_of_ble_eq_true rfl)) dX0_yOf_2 ⟨Nat.zero_le _, Nat.zero_le _⟩)) (fun r_2 hr_2 => ?_)
  rcases hr_2 with ⟨b_2, hr_2⟩ | ⟨b_2, hr_2⟩ <;> subst hr_2
  · obtain ⟨k, hk, rfl⟩ : ∃ k : Nat, k < n ∧ i = nI k := ⟨i.toInt.toNat, by omega, Int32.toInt_inj.mp (by rw [nI_toInt (by omega)]; omega)⟩
    refine lv_if_eq (tgt := 17) hx hb dX0_yOf_5 (by decide) (fun q => absurd q (by decide)) (fun _ => ?_)
    refine lv_aload_n hx hb dX0_yOf_8 rfl (lv_at hl 0 rfl) ?_
    refine va_get (D := (dC, dI)) (ci := 0) (v := .ref a2) (C := RX0) (T := TX0) (N := 7) hx hb hts hin0 hown hK hP 0 rfl rfl 2 (by decide) (hts (.fieldLink RX0 23 "OnlineHull" "cornerY" "[I") (by decide +kernel)) (fun _ h9 => h9) rfl dX0_yOf_9 ?_
    refine lv_iload_n hx hb dX0_yOf_12 rfl (lv_at hl 1 rfl) ?_
    refine oh_ald hx hb hK hP 2 0 rfl rfl (k := k) (by omega) (by omega) dX0_yOf_13 ?_
    refine lv_goto (tgt := 18) hx hb dX0_yOf_14 (by decide) ?_
    exact W.iret (v := fy k) hx hb hr (fun t ht hW => ⟨_, rfl, Or.inl ⟨k, by omega, rfl, rfl⟩, ht⟩) (fun _ h => by cases h) dX0_yOf_18
  · refine lv_if_eq (tgt := 17) hx hb dX0_yOf_5 (by decide) (fun _ => ?_) (fun q => absurd q (by decide))
    refine lv_iconst (v := nI 0) hx hb dX0_yOf_17 (by decide) ?_
    exact W.iret (v := nI 0) hx hb hr (fun t ht hW => ⟨_, rfl, Or.inr ⟨b_2, rfl⟩, ht⟩) (fun _ h => by cases h) dX0_yOf_18
