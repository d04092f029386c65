set_option maxHeartbeats 4000000 in
set_option maxRecDepth 100000 in
theorem k_X1_inRange (l : Launch) (x y : Int32) : Met l yX1_inRange wsX1_inRange ({ frames := 0, cells := 0, slots := 0, locals := 0 }) (va_Pc [.int x, .int y] (fun _ => True)) (vp_Si (fun r => (oh_inR x y ∧ r = 1) ∨ (¬ oh_inR x y ∧ r = 0))) 0 0 (fun _ => False) := by
  refine Met.ofW (cc := cX1_inRange) (maxL := 2) (ret := (some .boolean)) (by decide) rfl ?_
  intro p e s m args below meth c s₁ B hml hv
  obtain ⟨rfl, -⟩ := hv
  have hx := B.exec
  have hb := B.bytes
  have hr := B.returns
  have hts := atoms_spec (ws := wsX1_inRange) B.pre
  have hown : s.vm.findClass RX1 = some m.cls := findClass_of_methodNamed B.named
  have hlocks := B.notSynchronized
  have hl := lv_entry ([.int x, .int y]) (n := 2) (Nat.le_of_ble_eq_true rfl)
  rw [lg_entry_eq]
  generalize (lg_sl ([.int x, .int y]) ++ List.replicate (2 - (lg_sl ([.int x, .int y])).length) Slot.unset).toArray = ls at hl ⊢
  have hl : lv_has ls 2 [(0, .int x), (1, .int y)] := hl
  refine lv_iload_n hx hb dX1_inRange_0 rfl (lv_at hl 0 rfl) ?_
  refine lv_sipush (v := -16383) hx hb dX1_inRange_1 (by decide) ?_
  refine lv_icmp_lt (tgt := 32) hx hb dX1_inRange_4 (by decide) (fun c_4 => ?_) (fun c_4 => ?_)
  · have g_4 : x.toInt < (-16383) := by have q := oh_ltI c_4; rw [(show (-16383 : Int32).toInt = -16383 by decide)] at q; exact q
    refine lv_iconst (v := nI 0) hx hb dX1_inRange_32 (by decide) ?_
    exact W.zret (v := nI 0) hx hb hr (by decide) (fun t ht hW => ⟨_, rfl, Or.inr ⟨fun q => by unfold oh_inR at q; omega, rfl⟩, ht⟩) (fun _ h => by cases h) dX1_inRange_33
  · have g_4 : (-16383) ≤ x.toInt := by have q := oh_nltI c_4; rw [(show (-16383 : Int32).toInt = -16383 by decide)] at q; exact q
    refine lv_iload_n hx hb dX1_inRange_7 rfl (lv_at hl 0 rfl) ?_
    refine lv_sipush (v := nI 16383) hx hb dX1_inRange_8 (by decide) ?_
    refine lv_icmp_gt (tgt := 32) hx hb dX1_inRange_11 (by decide) (fun c_11 => ?_) (fun c_11 => ?_)
    · have g_11 : (16383 : Int) < x.toInt := by have q := oh_ltI c_11; rw [nI_toInt (n := 16383) (by omega)] at q; exact q
      refine lv_iconst (v := nI 0) hx hb dX1_inRange_32 (by decide) ?_
      exact W.zret (v := nI 0) hx hb hr (by decide) (fun t ht hW => ⟨_, rfl, Or.inr ⟨fun q => by unfold oh_inR at q; omega, rfl⟩, ht⟩) (fun _ h => by cases h) dX1_inRange_33
    · have g_11 : x.toInt ≤ (16383 : Int) := by have q := oh_nltI c_11; rw [nI_toInt (n := 16383) (by omega)] at q; exact q
      refine lv_iload_n hx hb dX1_inRange_14 rfl (lv_at hl 1 rfl) ?_
      refine lv_sipush (v := -16383) hx hb dX1_inRange_15 (by decide) ?_
      refine lv_icmp_lt (tgt := 32) hx hb dX1_inRange_18 (by decide) (fun c_18 => ?_) (fun c_18 => ?_)
      · have g_18 : y.toInt < (-16383) := by have q := oh_ltI c_18; rw [(show (-16383 : Int32).toInt = -16383 by decide)] at q; exact q
        refine lv_iconst (v := nI 0) hx hb dX1_inRange_32 (by decide) ?_
        exact W.zret (v := nI 0) hx hb hr (by decide) (fun t ht hW => ⟨_, rfl, Or.inr ⟨fun q => by unfold oh_inR at q; omega, rfl⟩, ht⟩) (fun _ h => by cases h) dX1_inRange_33
      · have g_18 : (-16383) ≤ y.toInt := by have q := oh_nltI c_18; rw [(show (-16383 : Int32).toInt = -16383 by decide)] at q; exact q
        refine lv_iload_n hx hb dX1_inRange_21 rfl (lv_at hl 1 rfl) ?_
        refine lv_sipush (v := nI 16383) hx hb dX1_inRange_22 (by decide) ?_
        refine lv_icmp_gt (tgt := 32) hx hb dX1_inRange_25 (by decide) (fun c_25 => ?_) (fun c_25 => ?_)
        · have g_25 : (16383 : Int) < y.toInt := by have q := oh_ltI c_25; rw [nI_toInt (n := 16383) (by omega)] at q; exact q
          refine lv_iconst (v := nI 0) hx hb dX1_inRange_32 (by decide) ?_
          exact W.zret (v := nI 0) hx hb hr (by decide) (fun t ht hW => ⟨_, rfl, Or.inr ⟨fun q => by unfold oh_inR at q; omega, rfl⟩, ht⟩) (fun _ h => by cases h) dX1_inRange_33
        · have g_25 : y.toInt ≤ (16383 : Int) := by have q := oh_nltI c_25; rw [nI_toInt (n := 16383) (by omega)] at q; exact q
          refine lv_iconst (v := nI 1) hx hb dX1_inRange_28 (by decide) ?_
          refine lv_goto (tgt := 33) hx hb dX1_inRange_29 (by decide) ?_
          exact W.zret (v := nI 1) hx hb hr (by decide) (fun t ht hW => ⟨_, rfl, Or.inl ⟨⟨by omega, by omega, by omega, by omega⟩, rfl⟩, ht⟩) (fun _ h => by cases h) dX1_inRange_33

set_option maxHeartbeats 4000000 in
set_option maxRecDepth 100000 in
theorem k_X1_turn (l : Launch) (ax ay bx bY cx cy : Int32) (ha : oh_inR ax ay) (hb9 : oh_inR bx bY) (hc : oh_inR cx cy) : Met l yX1_turn wsX1_turn ({ frames := 0, cells := 0, slots := 0, locals := 0 }) (va_Pc [.long ax.toInt64, .long ay.toInt64, .long bx.toInt64, .long bY.toInt64, .long cx.toInt64, .long cy.toInt64] (fun _ => True)) (vp_Sl (fun r => r.toInt = oh_cp (ax.toInt, ay.toInt) (bx.toInt, bY.toInt) (cx.toInt, cy.toInt))) 0 0 (fun _ => False) := by
  refine Met.ofW (cc := cX1_turn) (maxL := 12) (ret := (some .long)) (by decide) rfl ?_
  intro p e s m args below meth c s₁ B hml hv
  obtain ⟨rfl, -⟩ := hv
  have hx := B.exec
  have hb := B.bytes
  have hr := B.returns
  have hts := atoms_spec (ws := wsX1_turn) B.pre
  have hown : s.vm.findClass RX1 = some m.cls := findClass_of_methodNamed B.named
  have hlocks := B.notSynchronized
  have hl := lv_entry ([.long ax.toInt64, .long ay.toInt64, .long bx.toInt64, .long bY.toInt64, .long cx.toInt64, .long cy.toInt64]) (n := 12) (Nat.le_of_ble_eq_true rfl)
  rw [lg_entry_eq]
  generalize (lg_sl ([.long ax.toInt64, .long ay.toInt64, .long bx.toInt64, .long bY.toInt64, .long cx.toInt64, .long cy.toInt64]) ++ List.replicate (12 - (lg_sl ([.long ax.toInt64, .long ay.toInt64, .long bx.toInt64, .long bY.toInt64, .long cx.toInt64, .long cy.toInt64])).length) Slot.unset).toArray = ls at hl ⊢
  have hl : lv_has ls 12 [(0, .long ax.toInt64), (2, .long ay.toInt64), (4, .long bx.toInt64), (6, .long bY.toInt64), (8, .long cx.toInt64), (10, .long cy.toInt64)] := hl
  refine lv_lload hx hb dX1_turn_0 (lv_at hl 2 rfl) ?_
  refine lv_lload_n hx hb dX1_turn_2 rfl (lv_at hl 0 rfl) ?_
  refine lv_lsub hx hb dX1_turn_3 ?_
  refine lv_lload hx hb dX1_turn_4 (lv_at hl 5 rfl) ?_
  refine lv_lload_n hx hb dX1_turn_6 rfl (lv_at hl 1 rfl) ?_
  refine lv_lsub hx hb dX1_turn_7 ?_
  refine lv_lmul hx hb dX1_turn_8 ?_
  refine lv_lload hx hb dX1_turn_9 (lv_at hl 3 rfl) ?_
  refine lv_lload_n hx hb dX1_turn_11 rfl (lv_at hl 1 rfl) ?_
  refine lv_lsub hx hb dX1_turn_12 ?_
  refine lv_lload hx hb dX1_turn_13 (lv_at hl 4 rfl) ?_
  refine lv_lload_n hx hb dX1_turn_15 rfl (lv_at hl 0 rfl) ?_
  refine lv_lsub hx hb dX1_turn_16 ?_
  refine lv_lmul hx hb dX1_turn_17 ?_
  refine lv_lsub hx hb dX1_turn_18 ?_
  exact W.lret (v := ((bx.toInt64 - ax.toInt64) * (cy.toInt64 - ay.toInt64)) - ((bY.toInt64 - ay.toInt64) * (cx.toInt64 - ax.toInt64))) hx hb hr (fun t ht hW => ⟨_, rfl, oh_t64i ha hb9 hc, ht⟩) (fun _ h => by cases h) dX1_turn_19

set_option maxHeartbeats 4000000 in
set_option maxRecDepth 100000 in
theorem k_X1_between (l : Launch) (v a b : Int32) : Met l yX1_between wsX1_between ({ frames := 0, cells := 0, slots := 0, locals := 0 }) (va_Pc [.int v, .int a, .int b] (fun _ => True)) (vp_Si (fun r => (oh_bt v.toInt a.toInt b.toInt ∧ r = 1) ∨ (¬ oh_bt v.toInt a.toInt b.toInt ∧ r = 0))) 0 0 (fun _ => False) := by
  refine Met.ofW (cc := cX1_between) (maxL := 3) (ret := (some .boolean)) (by decide) rfl ?_
  intro p e s m args below meth c s₁ B hml hv
  obtain ⟨rfl, -⟩ := hv
  have hx := B.exec
  have hb := B.bytes
  have hr := B.returns
  have hts := atoms_spec (ws := wsX1_between) B.pre
  have hown : s.vm.findClass RX1 = some m.cls := findClass_of_methodNamed B.named
  have hlocks := B.notSynchronized
  have hl := lv_entry ([.int v, .int a, .int b]) (n := 3) (Nat.le_of_ble_eq_true rfl)
  rw [lg_entry_eq]
  generalize (lg_sl ([.int v, .int a, .int b]) ++ List.replicate (3 - (lg_sl ([.int v, .int a, .int b])).length) Slot.unset).toArray = ls at hl ⊢
  have hl : lv_has ls 3 [(0, .int v), (1, .int a), (2, .int b)] := hl
  refine lv_iload_n hx hb dX1_between_0 rfl (lv_at hl 0 rfl) ?_
  refine lv_iload_n hx hb dX1_between_1 rfl (lv_at hl 1 rfl) ?_
  refine lv_icmp_lt (tgt := 10) hx hb dX1_between_2 (by decide) (fun c_2 => ?_) (fun c_2 => ?_)
  · have g_2 : v.toInt < a.toInt := oh_ltI c_2
    refine lv_iload_n hx hb dX1_between_10 rfl (lv_at hl 0 rfl) ?_
    refine lv_iload_n hx hb dX1_between_11 rfl (lv_at hl 2 rfl) ?_
    refine lv_icmp_lt (tgt := 24) hx hb dX1_between_12 (by decide) (fun c_12 => ?_) (fun c_12 => ?_)
    · have g_12 : v.toInt < b.toInt := oh_ltI c_12
      refine lv_iconst (v := nI 0) hx hb dX1_between_24 (by decide) ?_
      exact W.zret (v := nI 0) hx hb hr (by decide) (fun t ht hW => ⟨_, rfl, Or.inr ⟨fun q => by unfold oh_bt at q; omega, rfl⟩, ht⟩) (fun _ h => by cases h) dX1_between_25
    · have g_12 : b.toInt ≤ v.toInt := oh_nltI c_12
      refine lv_iload_n hx hb dX1_between_15 rfl (lv_at hl 0 rfl) ?_
      refine lv_iload_n hx hb dX1_between_16 rfl (lv_at hl 1 rfl) ?_
      refine lv_icmp_gt (tgt := 24) hx hb dX1_between_17 (by decide) (fun c_17 => ?_) (fun c_17 => ?_)
      · have g_17 : a.toInt < v.toInt := oh_ltI c_17
        refine lv_iconst (v := nI 0) hx hb dX1_between_24 (by decide) ?_
        exact W.zret (v := nI 0) hx hb hr (by decide) (fun t ht hW => ⟨_, rfl, Or.inr ⟨fun q => by unfold oh_bt at q; omega, rfl⟩, ht⟩) (fun _ h => by cases h) dX1_between_25
      · have g_17 : v.toInt ≤ a.toInt := oh_nltI c_17
        refine lv_iconst (v := nI 1) hx hb dX1_between_20 (by decide) ?_
        refine lv_goto (tgt := 25) hx hb dX1_between_21 (by decide) ?_
        exact W.zret (v := nI 1) hx hb hr (by decide) (fun t ht hW => ⟨_, rfl, Or.inl ⟨by unfold oh_bt; omega, rfl⟩, ht⟩) (fun _ h => by cases h) dX1_between_25
  · have g_2 : a.toInt ≤ v.toInt := oh_nltI c_2
    refine lv_iload_n hx hb dX1_between_5 rfl (lv_at hl 0 rfl) ?_
    refine lv_iload_n hx hb dX1_between_6 rfl (lv_at hl 2 rfl) ?_
    refine lv_icmp_le (tgt := 20) hx hb dX1_between_7 (by decide) (fun c_7 => ?_) (fun c_7 => ?_)
    · have g_7 : v.toInt ≤ b.toInt := oh_leI c_7
      refine lv_iconst (v := nI 1) hx hb dX1_between_20 (by decide) ?_
      refine lv_goto (tgt := 25) hx hb dX1_between_21 (by decide) ?_
      exact W.zret (v := nI 1) hx hb hr (by decide) (fun t ht hW => ⟨_, rfl, Or.inl ⟨by unfold oh_bt; omega, rfl⟩, ht⟩) (fun _ h => by cases h) dX1_between_25
    · have g_7 : b.toInt < v.toInt := oh_nleI c_7
      refine lv_iload_n hx hb dX1_between_10 rfl (lv_at hl 0 rfl) ?_
      refine lv_iload_n hx hb dX1_between_11 rfl (lv_at hl 2 rfl) ?_
      refine lv_icmp_lt (tgt := 24) hx hb dX1_between_12 (by decide) (fun c_12 => ?_) (fun c_12 => ?_)
      · have g_12 : v.toInt < b.toInt := oh_ltI c_12
        refine lv_iconst (v := nI 0) hx hb dX1_between_24 (by decide) ?_
        exact W.zret (v := nI 0) hx hb hr (by decide) (fun t ht hW => ⟨_, rfl, Or.inr ⟨fun q => by unfold oh_bt at q; omega, rfl⟩, ht⟩) (fun _ h => by cases h) dX1_between_25
      · have g_12 : b.toInt ≤ v.toInt := oh_nltI c_12
        refine lv_iload_n hx hb dX1_between_15 rfl (lv_at hl 0 rfl) ?_
        refine lv_iload_n hx hb dX1_between_16 rfl (lv_at hl 1 rfl) ?_
        refine lv_icmp_gt (tgt := 24) hx hb dX1_between_17 (by decide) (fun c_17 => ?_) (fun c_17 => ?_)
        · have g_17 : a.toInt < v.toInt := oh_ltI c_17
          refine lv_iconst (v := nI 0) hx hb dX1_between_24 (by decide) ?_
          exact W.zret (v := nI 0) hx hb hr (by decide) (fun t ht hW => ⟨_, rfl, Or.inr ⟨fun q => by unfold oh_bt at q; omega, rfl⟩, ht⟩) (fun _ h => by cases h) dX1_between_25
        · have g_17 : v.toInt ≤ a.toInt := oh_nltI c_17
          refine lv_iconst (v := nI 1) hx hb dX1_between_20 (by decide) ?_
          refine lv_goto (tgt := 25) hx hb dX1_between_21 (by decide) ?_
          exact W.zret (v := nI 1) hx hb hr (by decide) (fun t ht hW => ⟨_, rfl, Or.inl ⟨by unfold oh_bt; omega, rfl⟩, ht⟩) (fun _ h => by cases h) dX1_between_25

set_option maxHeartbeats 4000000 in
set_option maxRecDepth 100000 in
theorem k_X1_side (l : Launch) (dC : Nat → ClassId) (dI : Nat → Nat → Nat) (cI : ClassId) (h b1 b2 b3 b4 b5 N n : Nat) (pts : Int32) (xs ys px py rd : Nat → Int32) (i : Nat) (x y : Int32) (hN : N ≤ 64) (hn : n ≤ N) (hi : i < n) (hR : ∀ j, j < n → oh_inR (xs j) (ys j)) (hq : oh_inR x y) : Met l yX1_side wsX1_side ({ frames := 1, cells := 0, slots := 0, locals := 31 }) (va_Pc [.ref h, .int (nI i), .int x, .int y] (fun U => va_P (dC, dI) vwCl [(h, .inr (1, [.int (nI N), .int (nI n), .int pts, .ref b1, .ref b2, .ref b3, .ref b4, .ref b5])), (b1, .inl (cI, 66, .inl xs)), (b2, .inl (cI, 66, .inl ys)), (b3, .inl (cI, 66, .inl px)), (b4, .inl (cI, 66, .inl py)), (b5, .inl (cI, 67, .inl rd))] U.heap ∧ va_K (dC, dI) vwCl [(cI, .int)] U)) (vp_Sl (fun r => r.toInt = oh_sd n (oh_pt xs ys) (x.toInt, y.toInt) i)) 0 0 (fun _ => False) := by
  refine Met.ofW (cc := cX1_side) (maxL := 5) (ret := (some .long)) (by decide) rfl ?_
  intro p e s m args below meth c s₁ B hml hv
  obtain ⟨rfl, hP, hK⟩ := hv
  have hx := B.exec
  have hb := B.bytes
  have hr := B.returns
  have hts := atoms_spec (ws := wsX1_side) B.pre
  have hown : s.vm.findClass RX1 = some m.cls := findClass_of_methodNamed B.named
  have hlocks := B.notSynchronized
  have hin0 : ∀ w ∈ wsX10, w ∈ wsX1_side := fun w h => List.mem_cons_of_mem _ (List.mem_append_right _ h)
  have hl := lv_entry ([.ref h, .int (nI i), .int x, .int y]) (n := 5) (Nat.le_of_ble_eq_true rfl)
  rw [lg_entry_eq]
  generalize (lg_sl ([.ref h, .int (nI i), .int x, .int y]) ++ List.replicate (5 - (lg_sl ([.ref h, .int (nI i), .int x, .int y])).length) Slot.unset).toArray = ls at hl ⊢
  have hl : lv_has ls 5 [(0, .ref h), (1, .int (nI i)), (2, .int x), (3, .int y)] := hl
  refine lv_iload_n hx hb dX1_side_0 rfl (lv_at hl 1 rfl) ?_
  refine lv_iconst (v := nI 1) hx hb dX1_side_1 (by decide) ?_
  refine lv_iadd hx hb dX1_side_2 ?_
  rw [nI_add i 1]
  refine lv_aload_n hx hb dX1_side_3 rfl (lv_at hl 0 rfl) ?_
  refine va_get (D := (dC, dI)) (ci := 1) (v := .int (nI n)) (C := RX1) (T := TX1) (N := 8) hx hb hts hin0 hown hK hP 0 rfl rfl 1 (by decide) (hts (.fieldLink RX1 29 "OnlineHullModel" "corners" "I") (by decide +kernel)) (fun _ h9 => h9) rfl dX1_side_4 ?_
  refine lv_icmp_ne (tgt := 14) hx hb dX1_side_7 (by decide) (fun c_7 => ?_) (fun c_7 => ?_)
  · have g_7 : (i + 1) ≠ n := fun q => c_7 ((nI_eq (a := (i + 1)) (b := n) (by omega) (by omega)).mpr q)
    refine lv_iload_n hx hb dX1_side_14 rfl (lv_at hl 1 rfl) ?_
    refine lv_iconst (v := nI 1) hx hb dX1_side_15 (by decide) ?_
    refine lv_iadd hx hb dX1_side_16 ?_
    rw [nI_add i 1]
    refine lv_istore (lv' := [(4, .int (nI (i + 1))), (0, .ref h), (1, .int (nI i)), (2, .int x), (3, .int y)]) hx hb dX1_side_17 hl (by decide) rfl (fun ls hl => ?_)
    refine lv_aload_n hx hb dX1_side_19 rfl (lv_at hl 1 rfl) ?_
    refine va_get (D := (dC, dI)) (ci := 1) (v := .ref b1) (C := RX1) (T := TX1) (N := 8) hx hb hts hin0 hown hK hP 0 rfl rfl 3 (by decide) (hts (.fieldLink RX1 7 "OnlineHullModel" "xs" "[I") (by decide +kernel)) (fun _ h9 => h9) rfl dX1_side_20 ?_
    refine lv_iload_n hx hb dX1_side_23 rfl (lv_at hl 2 rfl) ?_
    refine oh_ald hx hb hK hP 1 0 rfl rfl (k := i) (by omega) (by omega) dX1_side_24 ?_
    refine lv_i2l (v := (xs i).toInt64) hx hb dX1_side_25 rfl ?_
    refine lv_aload_n hx hb dX1_side_26 rfl (lv_at hl 1 rfl) ?_
    refine va_get (D := (dC, dI)) (ci := 1) (v := .ref b2) (C := RX1) (T := TX1) (N := 8) hx hb hts hin0 hown hK hP 0 rfl rfl 4 (by decide) (hts (.fieldLink RX1 13 "OnlineHullModel" "ys" "[I") (by decide +kernel)) (fun _ h9 => h9) rfl dX1_side_27 ?_
    refine lv_iload_n hx hb dX1_side_30 rfl (lv_at hl 2 rfl) ?_
    refine oh_ald hx hb hK hP 2 0 rfl rfl (k := i) (by omega) (by omega) dX1_side_31 ?_
    refine lv_i2l (v := (ys i).toInt64) hx hb dX1_side_32 rfl ?_
    refine lv_aload_n hx hb dX1_side_33 rfl (lv_at hl 1 rfl) ?_
    refine va_get (D := (dC, dI)) (ci := 1) (v := .ref b1) (C := RX1) (T := TX1) (N := 8) hx hb hts hin0 hown hK hP 0 rfl rfl 3 (by decide) (hts (.fieldLink RX1 7 "OnlineHullModel" "xs" "[I") (by decide +kernel)) (fun _ h9 => h9) rfl dX1_side_34 ?_
    refine lv_iload hx hb dX1_side_37 (lv_at hl 0 rfl) ?_
    refine oh_ald hx hb hK hP 1 0 rfl rfl (k := (i + 1)) (by omega) (by omega) dX1_side_39 ?_
    refine lv_i2l (v := (xs ((i + 1))).toInt64) hx hb dX1_side_40 rfl ?_
    refine lv_aload_n hx hb dX1_side_41 rfl (lv_at hl 1 rfl) ?_
    refine va_get (D := (dC, dI)) (ci := 1) (v := .ref b2) (C := RX1) (T := TX1) (N := 8) hx hb hts hin0 hown hK hP 0 rfl rfl 4 (by decide) (hts (.fieldLink RX1 13 "OnlineHullModel" "ys" "[I") (by decide +kernel)) (fun _ h9 => h9) rfl dX1_side_42 ?_
    refine lv_iload hx hb dX1_side_45 (lv_at hl 0 rfl) ?_
    refine oh_ald hx hb hK hP 2 0 rfl rfl (k := (i + 1)) (by omega) (by omega) dX1_side_47 ?_
    refine lv_i2l (v := (ys ((i + 1))).toInt64) hx hb dX1_side_48 rfl ?_
    refine lv_iload_n hx hb dX1_side_49 rfl (lv_at hl 3 rfl) ?_
    refine lv_i2l (v := x.toInt64) hx hb dX1_side_50 rfl ?_
    refine lv_iload_n hx hb dX1_side_51 rfl (lv_at hl 4 rfl) ?_
    refine lv_i2l (v := y.toInt64) hx hb dX1_side_52 rfl ?_
    refine vp_callSl (va_Run.run (va_runS (As := [.long ((xs i).toInt64), .long ((ys i).toInt64), .long ((xs ((i + 1))).toInt64), .long ((ys ((i + 1))).toInt64), .long x.toInt64, .long y.toInt64]) (rest := []) ⟨hx, hb, hml, hown, hts⟩ (k_X1_turn l (xs i) (ys i) (xs ((i + 1))) (ys ((i + 1))) x y (hR i hi) (hR _ (by omega)) hq) (va_cwS 6 hts gX1_side_X1_turn rfl rfl rfl (by decide +kernel) ⟨Nat.le_of_ble_eq_true rfl, Nat.le_of_ble_eq_true rfl⟩) oh_pre0 rfl rfl hl.1 rfl (lv_room (Nat.le_of_ble_eq_true rfl)) dX1_side_53 ⟨Nat.zero_le _, Nat.zero_le _⟩)) (fun r_53 hr_53 => ?_)
    exact W.lret (v := r_53) hx hb hr (fun t ht hW => ⟨_, rfl, by first | exact hr_53.trans (oh_sdE1 (n := n) (i := i) (P := oh_pt xs ys) (q := (x.toInt, y.toInt)) (by omega)) | exact hr_53.trans (oh_sdE2 (n := n) (i := i) (P := oh_pt xs ys) (q := (x.toInt, y.toInt)) (by omega)), ht⟩) (fun _ h => by cases h) dX1_side_56
  · have g_7 : (i + 1) = n := (nI_eq (a := (i + 1)) (b := n) (by omega) (by omega)).mp c_7
    refine lv_iconst (v := nI 0) hx hb dX1_side_10 (by decide) ?_
    refine lv_goto (tgt := 17) hx hb dX1_side_11 (by decide) ?_
    refine lv_istore (lv' := [(4, .int (nI 0)), (0, .ref h), (1, .int (nI i)), (2, .int x), (3, .int y)]) hx hb dX1_side_17 hl (by decide) rfl (fun ls hl => ?_)
    refine lv_aload_n hx hb dX1_side_19 rfl (lv_at hl 1 rfl) ?_
    refine va_get (D := (dC, dI)) (ci := 1) (v := .ref b1) (C := RX1) (T := TX1) (N := 8) hx hb hts hin0 hown hK hP 0 rfl rfl 3 (by decide) (hts (.fieldLink RX1 7 "OnlineHullModel" "xs" "[I") (by decide +kernel)) (fun _ h9 => h9) rfl dX1_side_20 ?_
    refine lv_iload_n hx hb dX1_side_23 rfl (lv_at hl 2 rfl) ?_
    refine oh_ald hx hb hK hP 1 0 rfl rfl (k := i) (by omega) (by omega) dX1_side_24 ?_
    refine lv_i2l (v := (xs i).toInt64) hx hb dX1_side_25 rfl ?_
    refine lv_aload_n hx hb dX1_side_26 rfl (lv_at hl 1 rfl) ?_
    refine va_get (D := (dC, dI)) (ci := 1) (v := .ref b2) (C := RX1) (T := TX1) (N := 8) hx hb hts hin0 hown hK hP 0 rfl rfl 4 (by decide) (hts (.fieldLink RX1 13 "OnlineHullModel" "ys" "[I") (by decide +kernel)) (fun _ h9 => h9) rfl dX1_side_27 ?_
    refine lv_iload_n hx hb dX1_side_30 rfl (lv_at hl 2 rfl) ?_
    refine oh_ald hx hb hK hP 2 0 rfl rfl (k := i) (by omega) (by omega) dX1_side_31 ?_
    refine lv_i2l (v := (ys i).toInt64) hx hb dX1_side_32 rfl ?_
    refine lv_aload_n hx hb dX1_side_33 rfl (lv_at hl 1 rfl) ?_
    refine va_get (D := (dC, dI)) (ci := 1) (v := .ref b1) (C := RX1) (T := TX1) (N := 8) hx hb hts hin0 hown hK hP 0 rfl rfl 3 (by decide) (hts (.fieldLink RX1 7 "OnlineHullModel" "xs" "[I") (by decide +kernel)) (fun _ h9 => h9) rfl dX1_side_34 ?_
    refine lv_iload hx hb dX1_side_37 (lv_at hl 0 rfl) ?_
    refine oh_ald hx hb hK hP 1 0 rfl rfl (k := 0) (by omega) (by omega) dX1_side_39 ?_
    refine lv_i2l (v := (xs 0).toInt64) hx hb dX1_side_40 rfl ?_
    refine lv_aload_n hx hb dX1_side_41 rfl (lv_at hl 1 rfl) ?_
    refine va_get (D := (dC, dI)) (ci := 1) (v := .ref b2) (C := RX1) (T := TX1) (N := 8) hx hb hts hin0 hown hK hP 0 rfl rfl 4 (by decide) (hts (.fieldLink RX1 13 "OnlineHullModel" "ys" "[I") (by decide +kernel)) (fun _ h9 => h9) rfl dX1_side_42 ?_
    refine lv_iload hx hb dX1_side_45 (lv_at hl 0 rfl) ?_
    refine oh_ald hx hb hK hP 2 0 rfl rfl (k := 0) (by omega) (by omega) dX1_side_47 ?_
    refine lv_i2l (v := (ys 0).toInt64) hx hb dX1_side_48 rfl ?_
    refine lv_iload_n hx hb dX1_side_49 rfl (lv_at hl 3 rfl) ?_
    refine lv_i2l (v := x.toInt64) hx hb dX1_side_50 rfl ?_
    refine lv_iload_n hx hb dX1_side_51 rfl (lv_at hl 4 rfl) ?_
    refine lv_i2l (v := y.toInt64) hx hb dX1_side_52 rfl ?_
    refine vp_callSl (va_Run.run (va_runS (As := [.long ((xs i).toInt64), .long ((ys i).toInt64), .long ((xs 0).toInt64), .long ((ys 0).toInt64), .long x.toInt64, .long y.toInt64]) (rest := []) ⟨hx, hb, hml, hown, hts⟩ (k_X1_turn l (xs i) (ys i) (xs 0) (ys 0) x y (hR i hi) (hR _ (by omega)) hq) (va_cwS 6 hts gX1_side_X1_turn rfl rfl rfl (by decide +kernel) ⟨Nat.le_of_ble_eq_true rfl, Nat.le_of_ble_eq_true rfl⟩) oh_pre0 rfl rfl hl.1 rfl (lv_room (Nat.le_of_ble_eq_true rfl)) dX1_side_53 ⟨Nat.zero_le _, Nat.zero_le _⟩)) (fun r_53 hr_53 => ?_)
    exact W.lret (v := r_53) hx hb hr (fun t ht hW => ⟨_, rfl, by first | exact hr_53.trans (oh_sdE1 (n := n) (i := i) (P := oh_pt xs ys) (q := (x.toInt, y.toInt)) (by omega)) | exact hr_53.trans (oh_sdE2 (n := n) (i := i) (P := oh_pt xs ys) (q := (x.toInt, y.toInt)) (by omega)), ht⟩) (fun _ h => by cases h) dX1_side_56

set_option maxHeartbeats 4000000 in
set_option maxRecDepth 100000 in
theorem k_X1_inside (l : Launch) (dC : Nat → ClassId) (dI : Nat → Nat → Nat) (cI : ClassId) (h b1 b2 b3 b4 b5 N n : Nat) (pts : Int32) (xs ys px py rd : Nat → Int32) (x y : Int32) (hN : N ≤ 64) (hn : n ≤ N) (hR : ∀ j, j < n → oh_inR (xs j) (ys j)) (hh : oh_hull n (oh_pt xs ys)) : Met l yX1_inside wsX1_inside ({ frames := 2, cells := 0, slots := 0, locals := 55 }) (va_Pc [.ref h, .int x, .int y] (fun U => va_P (dC, dI) vwCl [(h, .inr (1, [.int (nI N), .int (nI n), .int pts, .ref b1, .ref b2, .ref b3, .ref b4, .ref b5])), (b1, .inl (cI, 66, .inl xs)), (b2, .inl (cI, 66, .inl ys)), (b3, .inl (cI, 66, .inl px)), (b4, .inl (cI, 66, .inl py)), (b5, .inl (cI, 67, .inl rd))] U.heap ∧ va_K (dC, dI) vwCl [(cI, .int)] U)) (vp_Si (fun r => (oh_inR x y ∧ oh_pl3 n (oh_pt xs ys) (x.toInt, y.toInt) r) ∨ (¬ oh_inR x y ∧ r = 0))) 0 0 (fun _ => False) := by
  refine Met.ofW (cc := cX1_inside) (maxL := 7) (ret := (some .int)) (by decide) rfl ?_
  intro p e s m args below meth c s₁ B hml hv
  obtain ⟨rfl, hP, hK⟩ := hv
  have hx := B.exec
  have hb := B.bytes
  have hr := B.returns
  have hts := atoms_spec (ws := wsX1_inside) B.pre
  have hown : s.vm.findClass RX1 = some m.cls := findClass_of_methodNamed B.named
  have hlocks := B.notSynchronized
  have hin0 : ∀ w ∈ wsX10, w ∈ wsX1_inside := fun w h => List.mem_cons_of_mem _ (List.mem_append_right _ h)
  have hl := lv_entry ([.ref h, .int x, .int y]) (n := 7) (Nat.le_of_ble_eq_true rfl)
  rw [lg_entry_eq]
  generalize (lg_sl ([.ref h, .int x, .int y]) ++ List.replicate (7 - (lg_sl ([.ref h, .int x, .int y])).length) Slot.unset).toArray = ls at hl ⊢
  have hl : lv_has ls 7 [(0, .ref h), (1, .int x), (2, .int y)] := hl
  refine lv_aload_n hx hb dX1_inside_0 rfl (lv_at hl 0 rfl) ?_
  refine va_get (D := (dC, dI)) (ci := 1) (v := .int (nI n)) (C := RX1) (T := TX1) (N := 8) hx hb hts hin0 hown hK hP 0 rfl rfl 1 (by decide) (hts (.fieldLink RX1 29 "OnlineHullModel" "corners" "I") (by decide +kernel)) (fun _ h9 => h9) rfl dX1_inside_1 ?_
  refine lv_if_eq (tgt := 15) hx hb dX1_inside_4 (by decide) (fun c_4 => ?_) (fun c_4 => ?_)
  · have g_4 : n = 0 := (nI_eq (a := n) (b := 0) (by omega) (by omega)).mp (c_4.trans nI_0.symm)
    refine lv_iconst (v := nI 0) hx hb dX1_inside_15 (by decide) ?_
    exact W.iret (v := nI 0) hx hb hr (fun t ht hW => ⟨_, rfl, by by_cases w : oh_inR x y; exact Or.inl ⟨w, Or.inl ⟨by first | omega | exact absurd w b_9, rfl⟩⟩; exact Or.inr ⟨w, rfl⟩, ht⟩) (fun _ h => by cases h) dX1_inside_16
  · have g_4 : n ≠ 0 := fun q => (fun q => c_4 (q.trans nI_0)) ((nI_eq (a := n) (b := 0) (by omega) (by omega)).mpr q)
    refine lv_iload_n hx hb dX1_inside_7 rfl (lv_at hl 1 rfl) ?_
    refine lv_iload_n hx hb dX1_inside_8 rfl (lv_at hl 2 rfl) ?_
    refine vp_callSi (va_Run.run (va_runS (As := [.int x, .int y]) (rest := []) ⟨hx, hb, hml, hown, hts⟩ (k_X1_inRange l x y) (va_cwS 2 hts gX1_inside_X1_inRange rfl rfl rfl (by decide +kernel) ⟨Nat.le_of_ble_eq_true rfl, Nat.le_of_ble_eq_true rfl⟩) oh_pre0 rfl rfl hl.1 rfl (lv_room (Nat.le_of_ble_eq_true rfl)) dX1_inside_9 ⟨Nat.zero_le _, Nat.zero_le _⟩)) (fun r_9 hr_9 => ?_)
    rcases hr_9 with ⟨b_9, hr_9⟩ | ⟨b_9, hr_9⟩ <;> subst hr_9
    · refine lv_if_ne (tgt := 17) hx hb dX1_inside_12 (by decide) (fun _ => ?_) (fun q => absurd q (by decide))
      refine lv_aload_n hx hb dX1_inside_17 rfl (lv_at hl 0 rfl) ?_
      refine va_get (D := (dC, dI)) (ci := 1) (v := .int (nI n)) (C := RX1) (T := TX1) (N := 8) hx hb hts hin0 hown hK hP 0 rfl rfl 1 (by decide) (hts (.fieldLink RX1 29 "OnlineHullModel" "corners" "I") (by decide +kernel)) (fun _ h9 => h9) rfl dX1_inside_18 ?_
      refine lv_iconst (v := nI 3) hx hb dX1_inside_21 (by decide) ?_
      refine lv_icmp_ge (tgt := 128) hx hb dX1_inside_22 (by decide) (fun c_22 => ?_) (fun c_22 => ?_)
      · have g_22 : 3 ≤ n := (nI_leI (a := 3) (b := n) (by omega) (by omega)).mp c_22
        refine lv_iconst (v := nI 0) hx hb dX1_inside_128 (by decide) ?_
        refine lv_istore_n (lv' := [(3, .int (nI 0)), (0, .ref h), (1, .int x), (2, .int y)]) hx hb dX1_inside_129 rfl hl (by decide) rfl (fun ls hl => ?_)
        refine lv_iconst (v := nI 0) hx hb dX1_inside_130 (by decide) ?_
        refine lv_istore (lv' := [(4, .int (nI 0)), (3, .int (nI 0)), (0, .ref h), (1, .int x), (2, .int y)]) hx hb dX1_inside_131 hl (by decide) rfl (fun ls hl => ?_)
        have loop : ∀ (k_loop : Nat) (i : Nat) (w : Nat), (i ≤ n) → (n + 1 ≤ i + k_loop) → (w ≤ 1) → (∀ j, j < i → 0 ≤ oh_sd n (oh_pt xs ys) (x.toInt, y.toInt) j) → (w = 0 → ∀ j, j < i → 0 < oh_sd n (oh_pt xs ys) (x.toInt, y.toInt) j) → (w = 1 → ∃ j, j < i ∧ oh_sd n (oh_pt xs ys) (x.toInt, y.toInt) j = 0) → ∀ (ls : Array Slot), lv_has ls 7 [(0, .ref h), (1, .int x), (2, .int y), (3, .int (nI w)), (4, .int (nI i))] → W p l e (headSpec wsX1_inside ({ frames := 2, cells := 0, slots := 0, locals := 55 })).room s m ([.ref h, .int x, .int y] : List Value).toArray below meth c s.heap [] 0 0 (MQ below (vp_Si (fun r => (oh_inR x y ∧ oh_pl3 n (oh_pt xs ys) (x.toInt, y.toInt) r) ∨ (¬ oh_inR x y ∧ r = 0))) ([.ref h, .int x, .int y] : List Value).toArray s 0 0 (fun _ => False)) (F0 m 133 ls []) := by
          clear hl
          intro k_loop
          induction k_loop with
          | zero =>
            intro i w hi hk hw hI1 hI2 hI3
            exfalso; omega
          | succ k_loop ih_loop =>
            intro i w hi hk hw hI1 hI2 hI3 ls hl
            refine lv_iload hx hb dX1_inside_133 (lv_at hl 4 rfl) ?_
            refine lv_aload_n hx hb dX1_inside_135 rfl (lv_at hl 0 rfl) ?_
            refine va_get (D := (dC, dI)) (ci := 1) (v := .int (nI n)) (C := RX1) (T := TX1) (N := 8) hx hb hts hin0 hown hK hP 0 rfl rfl 1 (by decide) (hts (.fieldLink RX1 29 "OnlineHullModel" "corners" "I") (by decide +kernel)) (fun _ h9 => h9) rfl dX1_inside_136 ?_
            refine lv_icmp_ge (tgt := 184) hx hb dX1_inside_139 (by decide) (fun c_139 => ?_) (fun c_139 => ?_)
            · have g_139 : n ≤ i := (nI_leI (a := n) (b := i) (by omega) (by omega)).mp c_139
              refine lv_iload_n hx hb dX1_inside_184 rfl (lv_at hl 3 rfl) ?_
              refine lv_if_eq (tgt := 192) hx hb dX1_inside_185 (by decide) (fun c_185 => ?_) (fun c_185 => ?_)
              · have g_185 : w = 0 := (nI_eq (a := w) (b := 0) (by omega) (by omega)).mp (c_185.trans nI_0.symm)
                refine lv_iconst (v := nI 2) hx hb dX1_inside_192 (by decide) ?_
                exact W.iret (v := nI 2) hx hb hr (fun t ht hW => ⟨_, rfl, Or.inl ⟨b_9, Or.inr (Or.inr ⟨by omega, Or.inr (Or.inr ⟨rfl, fun j hj => hI2 (by omega) j (by omega)⟩)⟩)⟩, ht⟩) (fun _ h => by cases h) dX1_inside_193
              · have g_185 : w ≠ 0 := fun q => (fun q => c_185 (q.trans nI_0)) ((nI_eq (a := w) (b := 0) (by omega) (by omega)).mpr q)
                refine lv_iconst (v := nI 1) hx hb dX1_inside_188 (by decide) ?_
                refine lv_goto (tgt := 193) hx hb dX1_inside_189 (by decide) ?_
                exact W.iret (v := nI 1) hx hb hr (fun t ht hW => ⟨_, rfl, Or.inl ⟨b_9, Or.inr (Or.inr ⟨by omega, Or.inr (Or.inl ⟨rfl, fun j hj => hI1 j (by omega), by obtain ⟨j, h1, h2⟩ := hI3 (by omega); exact ⟨j, by omega, h2⟩⟩)⟩)⟩, ht⟩) (fun _ h => by cases h) dX1_inside_193
            · have g_139 : ¬ n ≤ i := fun q => c_139 ((nI_leI (a := n) (b := i) (by omega) (by omega)).mpr q)
              refine lv_aload_n hx hb dX1_inside_142 rfl (lv_at hl 0 rfl) ?_
              refine lv_iload hx hb dX1_inside_143 (lv_at hl 4 rfl) ?_
              refine lv_iload_n hx hb dX1_inside_145 rfl (lv_at hl 1 rfl) ?_
              refine lv_iload_n hx hb dX1_inside_146 rfl (lv_at hl 2 rfl) ?_
              refine vp_callSl (va_Run.run (va_runV (As := [.int (nI i), .int x, .int y]) (rest := []) ⟨hx, hb, hml, hown, hts⟩ (k_X1_side l dC dI cI h b1 b2 b3 b4 b5 N n pts xs ys px py rd i x y hN hn (by omega) hR b_9) (cwV 3 hts gX1_inside_X1_side rfl rfl rfl (by decide +kernel) ⟨Nat.le_of_ble_eq_true rfl, Nat.le_of_ble_eq_true rfl⟩) (oh_pre (ci := 1) (q0 := 0) hK hP rfl rfl) rfl rfl hl.1 rfl (lv_room (Nat.le_of_ble_eq_true rfl)) dX1_inside_147 ⟨Nat.zero_le _, Nat.zero_le _⟩)) (fun r_147 hr_147 => ?_)
              refine lv_lstore (lv' := [(5, .long r_147), (0, .ref h), (1, .int x), (2, .int y), (3, .int (nI w)), (4, .int (nI i))]) hx hb dX1_inside_150 hl (by decide) rfl (fun ls hl => ?_)
              refine lv_lload hx hb dX1_inside_152 (lv_at hl 0 rfl) ?_
              refine lv_lconst (v := 0) hx hb dX1_inside_154 (by decide) ?_
              refine W.lcmp hx hb dX1_inside_155 ?_
              refine lv_if_ge (tgt := 161) hx hb dX1_inside_156 (by decide) (fun c_156 => ?_) (fun c_156 => ?_)
              · have g_156 : r_147.toInt ≥ 0 := oh_lc_ge0 c_156
                refine lv_iload_n hx hb dX1_inside_161 rfl (lv_at hl 4 rfl) ?_
                refine lv_if_ne (tgt := 172) hx hb dX1_inside_162 (by decide) (fun c_162 => ?_) (fun c_162 => ?_)
                · have g_162 : w ≠ 0 := fun q => (fun q => c_162 (q.trans nI_0)) ((nI_eq (a := w) (b := 0) (by omega) (by omega)).mpr q)
                  refine lv_iconst (v := nI 1) hx hb dX1_inside_172 (by decide) ?_
                  refine lv_goto (tgt := 177) hx hb dX1_inside_173 (by decide) ?_
                  refine lv_istore_n (lv' := [(3, .int (nI 1)), (5, .long r_147), (0, .ref h), (1, .int x), (2, .int y), (4, .int (nI i))]) hx hb dX1_inside_177 rfl hl (by decide) rfl (fun ls hl => ?_)
                  refine lv_iinc (v := nI (i + 1)) (lv' := [(4, .int (nI (i + 1))), (3, .int (nI 1)), (5, .long r_147), (0, .ref h), (1, .int x), (2, .int y)]) hx hb dX1_inside_178 hl (k := 5) rfl (nI_1 i) (by decide) rfl (fun ls hl => ?_)
                  refine lv_goto (tgt := 133) hx hb dX1_inside_181 (by decide) ?_
                  exact ih_loop (i + 1) 1 (by omega) (by omega) (by omega) (lt_s hI1 (by omega)) (fun e => absurd e (by omega)) (fun _ => by by_cases w0 : w = 1; obtain ⟨j, h1, h2⟩ := hI3 w0; exact ⟨j, by omega, h2⟩; exact ⟨i, by omega, by omega⟩) ls (lv_sub hl [3, 4, 5, 1, 0] rfl)
                · have g_162 : w = 0 := (nI_eq (a := w) (b := 0) (by omega) (by omega)).mp (c_162.trans nI_0.symm)
                  refine lv_lload hx hb dX1_inside_165 (lv_at hl 0 rfl) ?_
                  refine lv_lconst (v := 0) hx hb dX1_inside_167 (by decide) ?_
                  refine W.lcmp hx hb dX1_inside_168 ?_
                  refine lv_if_ne (tgt := 176) hx hb dX1_inside_169 (by decide) (fun c_169 => ?_) (fun c_169 => ?_)
                  · have g_169 : r_147.toInt ≠ 0 := oh_lc_ne0 c_169
                    refine lv_iconst (v := nI 0) hx hb dX1_inside_176 (by decide) ?_
                    refine lv_istore_n (lv' := [(3, .int (nI 0)), (5, .long r_147), (0, .ref h), (1, .int x), (2, .int y), (4, .int (nI i))]) hx hb dX1_inside_177 rfl hl (by decide) rfl (fun ls hl => ?_)
                    refine lv_iinc (v := nI (i + 1)) (lv' := [(4, .int (nI (i + 1))), (3, .int (nI 0)), (5, .long r_147), (0, .ref h), (1, .int x), (2, .int y)]) hx hb dX1_inside_178 hl (k := 5) rfl (nI_1 i) (by decide) rfl (fun ls hl => ?_)
                    refine lv_goto (tgt := 133) hx hb dX1_inside_181 (by decide) ?_
                    exact ih_loop (i + 1) 0 (by omega) (by omega) (by omega) (lt_s hI1 (by omega)) (fun _ => lt_s (hI2 (by omega)) (by omega)) (fun e => absurd e (by omega)) ls (lv_sub hl [3, 4, 5, 1, 0] rfl)
                  · have g_169 : r_147.toInt = 0 := oh_lc_nne0 c_169
                    refine lv_iconst (v := nI 1) hx hb dX1_inside_172 (by decide) ?_
                    refine lv_goto (tgt := 177) hx hb dX1_inside_173 (by decide) ?_
                    refine lv_istore_n (lv' := [(3, .int (nI 1)), (5, .long r_147), (0, .ref h), (1, .int x), (2, .int y), (4, .int (nI i))]) hx hb dX1_inside_177 rfl hl (by decide) rfl (fun ls hl => ?_)
                    refine lv_iinc (v := nI (i + 1)) (lv' := [(4, .int (nI (i + 1))), (3, .int (nI 1)), (5, .long r_147), (0, .ref h), (1, .int x), (2, .int y)]) hx hb dX1_inside_178 hl (k := 5) rfl (nI_1 i) (by decide) rfl (fun ls hl => ?_)
                    refine lv_goto (tgt := 133) hx hb dX1_inside_181 (by decide) ?_
                    exact ih_loop (i + 1) 1 (by omega) (by omega) (by omega) (lt_s hI1 (by omega)) (fun e => absurd e (by omega)) (fun _ => by by_cases w0 : w = 1; obtain ⟨j, h1, h2⟩ := hI3 w0; exact ⟨j, by omega, h2⟩; exact ⟨i, by omega, by omega⟩) ls (lv_sub hl [3, 4, 5, 1, 0] rfl)
              · have g_156 : r_147.toInt < 0 := oh_lc_nge0 c_156
                refine lv_iconst (v := nI 0) hx hb dX1_inside_159 (by decide) ?_
                exact W.iret (v := nI 0) hx hb hr (fun t ht hW => ⟨_, rfl, Or.inl ⟨b_9, Or.inr (Or.inr ⟨by omega, Or.inl ⟨rfl, i, by omega, by omega⟩⟩)⟩, ht⟩) (fun _ h => by cases h) dX1_inside_160
        exact loop (n + 1) 0 0 (by omega) (by omega) (by omega) (fun j hj => by omega) (fun _ j hj => by omega) (fun e => absurd e (by omega)) ls (lv_sub hl [2, 3, 4, 1, 0] rfl)
      · have g_22 : ¬ 3 ≤ n := fun q => c_22 ((nI_leI (a := 3) (b := n) (by omega) (by omega)).mpr q)
        refine lv_aload_n hx hb dX1_inside_25 rfl (lv_at hl 0 rfl) ?_
        refine va_get (D := (dC, dI)) (ci := 1) (v := .int (nI n)) (C := RX1) (T := TX1) (N := 8) hx hb hts hin0 hown hK hP 0 rfl rfl 1 (by decide) (hts (.fieldLink RX1 29 "OnlineHullModel" "corners" "I") (by decide +kernel)) (fun _ h9 => h9) rfl dX1_inside_26 ?_
        refine lv_iconst (v := nI 1) hx hb dX1_inside_29 (by decide) ?_
        refine lv_isub hx hb dX1_inside_30 ?_
        rw [pk_sub (a := n) (b := 1) (by omega)]
        refine lv_istore_n (lv' := [(3, .int (nI (n - 1))), (0, .ref h), (1, .int x), (2, .int y)]) hx hb dX1_inside_31 rfl hl (by decide) rfl (fun ls hl => ?_)
        refine lv_aload_n hx hb dX1_inside_32 rfl (lv_at hl 1 rfl) ?_
        refine va_get (D := (dC, dI)) (ci := 1) (v := .ref b1) (C := RX1) (T := TX1) (N := 8) hx hb hts hin0 hown hK hP 0 rfl rfl 3 (by decide) (hts (.fieldLink RX1 7 "OnlineHullModel" "xs" "[I") (by decide +kernel)) (fun _ h9 => h9) rfl dX1_inside_33 ?_
        refine lv_iconst (v := nI 0) hx hb dX1_inside_36 (by decide) ?_
        refine oh_ald hx hb hK hP 1 0 rfl rfl (k := 0) (by omega) (by omega) dX1_inside_37 ?_
        refine lv_i2l (v := (xs 0).toInt64) hx hb dX1_inside_38 rfl ?_
        refine lv_aload_n hx hb dX1_inside_39 rfl (lv_at hl 1 rfl) ?_
        refine va_get (D := (dC, dI)) (ci := 1) (v := .ref b2) (C := RX1) (T := TX1) (N := 8) hx hb hts hin0 hown hK hP 0 rfl rfl 4 (by decide) (hts (.fieldLink RX1 13 "OnlineHullModel" "ys" "[I") (by decide +kernel)) (fun _ h9 => h9) rfl dX1_inside_40 ?_
        refine lv_iconst (v := nI 0) hx hb dX1_inside_43 (by decide) ?_
        refine oh_ald hx hb hK hP 2 0 rfl rfl (k := 0) (by omega) (by omega) dX1_inside_44 ?_
        refine lv_i2l (v := (ys 0).toInt64) hx hb dX1_inside_45 rfl ?_
        refine lv_aload_n hx hb dX1_inside_46 rfl (lv_at hl 1 rfl) ?_
        refine va_get (D := (dC, dI)) (ci := 1) (v := .ref b1) (C := RX1) (T := TX1) (N := 8) hx hb hts hin0 hown hK hP 0 rfl rfl 3 (by decide) (hts (.fieldLink RX1 7 "OnlineHullModel" "xs" "[I") (by decide +kernel)) (fun _ h9 => h9) rfl dX1_inside_47 ?_
        refine lv_iload_n hx hb dX1_inside_50 rfl (lv_at hl 0 rfl) ?_
        refine oh_ald hx hb hK hP 1 0 rfl rfl (k := (n - 1)) (by omega) (by omega) dX1_inside_51 ?_
        refine lv_i2l (v := (xs ((n - 1))).toInt64) hx hb dX1_inside_52 rfl ?_
        refine lv_aload_n hx hb dX1_inside_53 rfl (lv_at hl 1 rfl) ?_
        refine va_get (D := (dC, dI)) (ci := 1) (v := .ref b2) (C := RX1) (T := TX1) (N := 8) hx hb hts hin0 hown hK hP 0 rfl rfl 4 (by decide) (hts (.fieldLink RX1 13 "OnlineHullModel" "ys" "[I") (by decide +kernel)) (fun _ h9 => h9) rfl dX1_inside_54 ?_
        refine lv_iload_n hx hb dX1_inside_57 rfl (lv_at hl 0 rfl) ?_
        refine oh_ald hx hb hK hP 2 0 rfl rfl (k := (n - 1)) (by omega) (by omega) dX1_inside_58 ?_
        refine lv_i2l (v := (ys ((n - 1))).toInt64) hx hb dX1_inside_59 rfl ?_
        refine lv_iload_n hx hb dX1_inside_60 rfl (lv_at hl 2 rfl) ?_
        refine lv_i2l (v := x.toInt64) hx hb dX1_inside_61 rfl ?_
        refine lv_iload_n hx hb dX1_inside_62 rfl (lv_at hl 3 rfl) ?_
        refine lv_i2l (v := y.toInt64) hx hb dX1_inside_63 rfl ?_
        refine vp_callSl (va_Run.run (va_runS (As := [.long ((xs 0).toInt64), .long ((ys 0).toInt64), .long ((xs ((n - 1))).toInt64), .long ((ys ((n - 1))).toInt64), .long x.toInt64, .long y.toInt64]) (rest := []) ⟨hx, hb, hml, hown, hts⟩ (k_X1_turn l (xs 0) (ys 0) (xs ((n - 1))) (ys ((n - 1))) x y (hR 0 (by omega)) (hR (n - 1) (by omega)) b_9) (va_cwS 6 hts gX1_inside_X1_turn rfl rfl rfl (by decide +kernel) ⟨Nat.le_of_ble_eq_true rfl, Nat.le_of_ble_eq_true rfl⟩) oh_pre0 rfl rfl hl.1 rfl (lv_room (Nat.le_of_ble_eq_true rfl)) dX1_inside_64 ⟨Nat.zero_le _, Nat.zero_le _⟩)) (fun r_64 hr_64 => ?_)
        refine lv_lconst (v := 0) hx hb dX1_inside_67 (by decide) ?_
        refine W.lcmp hx hb dX1_inside_68 ?_
        refine lv_if_ne (tgt := 114) hx hb dX1_inside_69 (by decide) (fun c_69 => ?_) (fun c_69 => ?_)
        · have g_69 : r_64.toInt ≠ 0 := oh_lc_ne0 c_69
          refine lv_iconst (v := nI 0) hx hb dX1_inside_114 (by decide) ?_
          refine lv_istore (lv' := [(4, .int (nI 0)), (3, .int (nI (n - 1))), (0, .ref h), (1, .int x), (2, .int y)]) hx hb dX1_inside_115 hl (by decide) rfl (fun ls hl => ?_)
          refine lv_iload hx hb dX1_inside_117 (lv_at hl 0 rfl) ?_
          refine lv_if_eq (tgt := 126) hx hb dX1_inside_119 (by decide) (fun _ => ?_) (fun q => absurd q (by decide))
          refine lv_iconst (v := nI 0) hx hb dX1_inside_126 (by decide) ?_
          exact W.iret (v := nI 0) hx hb hr (fun t ht hW => ⟨_, rfl, Or.inl ⟨b_9, Or.inr (Or.inl ⟨by omega, by omega, Or.inr ⟨rfl, fun w => by have w2 := (oh_on_bt hh (by omega) (by omega)).mp w; first | exact b_85 w2.2.1 | exact b_104 w2.2.2 | exact g_69 (hr_64.trans w2.1)⟩⟩)⟩, ht⟩) (fun _ h => by cases h) dX1_inside_127
        · have g_69 : r_64.toInt = 0 := oh_lc_nne0 c_69
          refine lv_iload_n hx hb dX1_inside_72 rfl (lv_at hl 2 rfl) ?_
          refine lv_aload_n hx hb dX1_inside_73 rfl (lv_at hl 1 rfl) ?_
          refine va_get (D := (dC, dI)) (ci := 1) (v := .ref b1) (C := RX1) (T := TX1) (N := 8) hx hb hts hin0 hown hK hP 0 rfl rfl 3 (by decide) (hts (.fieldLink RX1 7 "OnlineHullModel" "xs" "[I") (by decide +kernel)) (fun _ h9 => h9) rfl dX1_inside_74 ?_
          refine lv_iconst (v := nI 0) hx hb dX1_inside_77 (by decide) ?_
          refine oh_ald hx hb hK hP 1 0 rfl rfl (k := 0) (by omega) (by omega) dX1_inside_78 ?_
          refine lv_aload_n hx hb dX1_inside_79 rfl (lv_at hl 1 rfl) ?_
          refine va_get (D := (dC, dI)) (ci := 1) (v := .ref b1) (C := RX1) (T := TX1) (N := 8) hx hb hts hin0 hown hK hP 0 rfl rfl 3 (by decide) (hts (.fieldLink RX1 7 "OnlineHullModel" "xs" "[I") (by decide +kernel)) (fun _ h9 => h9) rfl dX1_inside_80 ?_
          refine lv_iload_n hx hb dX1_inside_83 rfl (lv_at hl 0 rfl) ?_
          refine oh_ald hx hb hK hP 1 0 rfl rfl (k := (n - 1)) (by omega) (by omega) dX1_inside_84 ?_
          refine vp_callSi (va_Run.run (va_runS (As := [.int x, .int (xs 0), .int (xs ((n - 1)))]) (rest := []) ⟨hx, hb, hml, hown, hts⟩ (k_X1_between l x (xs 0) (xs ((n - 1)))) (va_cwS 3 hts gX1_inside_X1_between rfl rfl rfl (by decide +kernel) ⟨Nat.le_of_ble_eq_true rfl, Nat.le_of_ble_eq_true rfl⟩) oh_pre0 rfl rfl hl.1 rfl (lv_room (Nat.le_of_ble_eq_true rfl)) dX1_inside_85 ⟨Nat.zero_le _, Nat.zero_le _⟩)) (fun r_85 hr_85 => ?_)
          rcases hr_85 with ⟨b_85, hr_85⟩ | ⟨b_85, hr_85⟩ <;> subst hr_85
          · refine lv_if_eq (tgt := 114) hx hb dX1_inside_88 (by decide) (fun q => absurd q (by decide)) (fun _ => ?_)
            refine lv_iload_n hx hb dX1_inside_91 rfl (lv_at hl 3 rfl) ?_
            refine lv_aload_n hx hb dX1_inside_92 rfl (lv_at hl 1 rfl) ?_
            refine va_get (D := (dC, dI)) (ci := 1) (v := .ref b2) (C := RX1) (T := TX1) (N := 8) hx hb hts hin0 hown hK hP 0 rfl rfl 4 (by decide) (hts (.fieldLink RX1 13 "OnlineHullModel" "ys" "[I") (by decide +kernel)) (fun _ h9 => h9) rfl dX1_inside_93 ?_
            refine lv_iconst (v := nI 0) hx hb dX1_inside_96 (by decide) ?_
            refine oh_ald hx hb hK hP 2 0 rfl rfl (k := 0) (by omega) (by omega) dX1_inside_97 ?_
            refine lv_aload_n hx hb dX1_inside_98 rfl (lv_at hl 1 rfl) ?_
            refine va_get (D := (dC, dI)) (ci := 1) (v := .ref b2) (C := RX1) (T := TX1) (N := 8) hx hb hts hin0 hown hK hP 0 rfl rfl 4 (by decide) (hts (.fieldLink RX1 13 "OnlineHullModel" "ys" "[I") (by decide +kernel)) (fun _ h9 => h9) rfl dX1_inside_99 ?_
            refine lv_iload_n hx hb dX1_inside_102 rfl (lv_at hl 0 rfl) ?_
            refine oh_ald hx hb hK hP 2 0 rfl rfl (k := (n - 1)) (by omega) (by omega) dX1_inside_103 ?_
            refine vp_callSi (va_Run.run (va_runS (As := [.int y, .int (ys 0), .int (ys ((n - 1)))]) (rest := []) ⟨hx, hb, hml, hown, hts⟩ (k_X1_between l y (ys 0) (ys ((n - 1)))) (va_cwS 3 hts gX1_inside_X1_between rfl rfl rfl (by decide +kernel) ⟨Nat.le_of_ble_eq_true rfl, Nat.le_of_ble_eq_true rfl⟩) oh_pre0 rfl rfl hl.1 rfl (lv_room (Nat.le_of_ble_eq_true rfl)) dX1_inside_104 ⟨Nat.zero_le _, Nat.zero_le _⟩)) (fun r_104 hr_104 => ?_)
            rcases hr_104 with ⟨b_104, hr_104⟩ | ⟨b_104, hr_104⟩ <;> subst hr_104
            · refine lv_if_eq (tgt := 114) hx hb dX1_inside_107 (by decide) (fun q => absurd q (by decide)) (fun _ => ?_)
              refine lv_iconst (v := nI 1) hx hb dX1_inside_110 (by decide) ?_
              refine lv_goto (tgt := 115) hx hb dX1_inside_111 (by decide) ?_
              refine lv_istore (lv' := [(4, .int (nI 1)), (3, .int (nI (n - 1))), (0, .ref h), (1, .int x), (2, .int y)]) hx hb dX1_inside_115 hl (by decide) rfl (fun ls hl => ?_)
              refine lv_iload hx hb dX1_inside_117 (lv_at hl 0 rfl) ?_
              refine lv_if_eq (tgt := 126) hx hb dX1_inside_119 (by decide) (fun q => absurd q (by decide)) (fun _ => ?_)
              refine lv_iconst (v := nI 1) hx hb dX1_inside_122 (by decide) ?_
              refine lv_goto (tgt := 127) hx hb dX1_inside_123 (by decide) ?_
              exact W.iret (v := nI 1) hx hb hr (fun t ht hW => ⟨_, rfl, Or.inl ⟨b_9, Or.inr (Or.inl ⟨by omega, by omega, Or.inl ⟨rfl, (oh_on_bt hh (by omega) (by omega)).mpr ⟨hr_64.symm.trans g_69, b_85, b_104⟩⟩⟩)⟩, ht⟩) (fun _ h => by cases h) dX1_inside_127
            · refine lv_if_eq (tgt := 114) hx hb dX1_inside_107 (by decide) (fun _ => ?_) (fun q => absurd q (by decide))
              refine lv_iconst (v := nI 0) hx hb dX1_inside_114 (by decide) ?_
              refine lv_istore (lv' := [(4, .int (nI 0)), (3, .int (nI (n - 1))), (0, .ref h), (1, .int x), (2, .int y)]) hx hb dX1_inside_115 hl (by decide) rfl (fun ls hl => ?_)
              refine lv_iload hx hb dX1_inside_117 (lv_at hl 0 rfl) ?_
              refine lv_if_eq (tgt := 126) hx hb dX1_inside_119 (by decide) (fun _ => ?_) (fun q => absurd q (by decide))
              refine lv_iconst (v := nI 0) hx hb dX1_inside_126 (by decide) ?_
              exact W.iret (v := nI 0) hx hb hr (fun t ht hW => ⟨_, rfl, Or.inl ⟨b_9, Or.inr (Or.inl ⟨by omega, by omega, Or.inr ⟨rfl, fun w => by have w2 := (oh_on_bt hh (by omega) (by omega)).mp w; first | exact b_85 w2.2.1 | exact b_104 w2.2.2 | exact g_69 (hr_64.trans w2.1)⟩⟩)⟩, ht⟩) (fun _ h => by cases h) dX1_inside_127
          · refine lv_if_eq (tgt := 114) hx hb dX1_inside_88 (by decide) (fun _ => ?_) (fun q => absurd q (by decide))
            refine lv_iconst (v := nI 0) hx hb dX1_inside_114 (by decide) ?_
            refine lv_istore (lv' := [(4, .int (nI 0)), (3, .int (nI (n - 1))), (0, .ref h), (1, .int x), (2, .int y)]) hx hb dX1_inside_115 hl (by decide) rfl (fun ls hl => ?_)
            refine lv_iload hx hb dX1_inside_117 (lv_at hl 0 rfl) ?_
            refine lv_if_eq (tgt := 126) hx hb dX1_inside_119 (by decide) (fun _ => ?_) (fun q => absurd q (by decide))
            refine lv_iconst (v := nI 0) hx hb dX1_inside_126 (by decide) ?_
            exact W.iret (v := nI 0) hx hb hr (fun t ht hW => ⟨_, rfl, Or.inl ⟨b_9, Or.inr (Or.inl ⟨by omega, by omega, Or.inr ⟨rfl, fun w => by have w2 := (oh_on_bt hh (by omega) (by omega)).mp w; first | exact b_85 w2.2.1 | exact b_104 w2.2.2 | exact g_69 (hr_64.trans w2.1)⟩⟩)⟩, ht⟩) (fun _ h => by cases h) dX1_inside_127
    · refine lv_if_ne (tgt := 17) hx hb dX1_inside_12 (by decide) (fun q => absurd q (by decide)) (fun _ => ?_)
      refine lv_iconst (v := nI 0) hx hb dX1_inside_15 (by decide) ?_
      exact W.iret (v := nI 0) hx hb hr (fun t ht hW => ⟨_, rfl, by by_cases w : oh_inR x y; exact Or.inl ⟨w, Or.inl ⟨by first | omega | exact absurd w b_9, rfl⟩⟩; exact Or.inr ⟨w, rfl⟩, ht⟩) (fun _ h => by cases h) dX1_inside_16

set_option maxHeartbeats 4000000 in
set_option maxRecDepth 100000 in
theorem k_X1_isNext (l : Launch) (dC : Nat → ClassId) (dI : Nat → Nat → Nat) (cI : ClassId) (h b1 b2 b3 b4 b5 N n : Nat) (pts : Int32) (xs ys px py rd : Nat → Int32) (c9 i v k : Nat) (hc9 : c9 ≤ 66) (hi : i < c9) (hv : v < c9) (hk : k < c9) (hRp : ∀ j, j < c9 → oh_inR (px j) (py j)) : Met l yX1_isNext wsX1_isNext ({ frames := 1, cells := 0, slots := 0, locals := 31 }) (va_Pc [.ref h, .int (nI i), .int (nI v), .int (nI k)] (fun U => va_P (dC, dI) vwCl [(h, .inr (1, [.int (nI N), .int (nI n), .int pts, .ref b1, .ref b2, .ref b3, .ref b4, .ref b5])), (b1, .inl (cI, 66, .inl xs)), (b2, .inl (cI, 66, .inl ys)), (b3, .inl (cI, 66, .inl px)), (b4, .inl (cI, 66, .inl py)), (b5, .inl (cI, 67, .inl rd))] U.heap ∧ va_K (dC, dI) vwCl [(cI, .int)] U)) (vp_Si (fun r => (oh_Nx (oh_pt px py) i v k ∧ r = 1) ∨ (¬ oh_Nx (oh_pt px py) i v k ∧ r = 0))) 0 0 (fun _ => False) := by
  refine Met.ofW (cc := cX1_isNext) (maxL := 14) (ret := (some .boolean)) (by decide) rfl ?_
  intro p e s m args below meth c s₁ B hml hv
  obtain ⟨rfl, hP, hK⟩ := hv
  have hx := B.exec
  have hb := B.bytes
  have hr := B.returns
  have hts := atoms_spec (ws := wsX1_isNext) B.pre
  have hown : s.vm.findClass RX1 = some m.cls := findClass_of_methodNamed B.named
  have hlocks := B.notSynchronized
  have hin0 : ∀ w ∈ wsX10, w ∈ wsX1_isNext := fun w h => List.mem_cons_of_mem _ (List.mem_append_right _ h)
  have hl := lv_entry ([.ref h, .int (nI i), .int (nI v), .int (nI k)]) (n := 14) (Nat.le_of_ble_eq_true rfl)
  rw [lg_entry_eq]
  generalize (lg_sl ([.ref h, .int (nI i), .int (nI v), .int (nI k)]) ++ List.replicate (14 - (lg_sl ([.ref h, .int (nI i), .int (nI v), .int (nI k)])).length) Slot.unset).toArray = ls at hl ⊢
  have hl : lv_has ls 14 [(0, .ref h), (1, .int (nI i)), (2, .int (nI v)), (3, .int (nI k))] := hl
  refine lv_aload_n hx hb dX1_isNext_0 rfl (lv_at hl 0 rfl) ?_
  refine va_get (D := (dC, dI)) (ci := 1) (v := .ref b3) (C := RX1) (T := TX1) (N := 8) hx hb hts hin0 hown hK hP 0 rfl rfl 5 (by decide) (hts (.fieldLink RX1 16 "OnlineHullModel" "px" "[I") (by decide +kernel)) (fun _ h9 => h9) rfl dX1_isNext_1 ?_
  refine lv_iload_n hx hb dX1_isNext_4 rfl (lv_at hl 1 rfl) ?_
  refine oh_ald hx hb hK hP 3 0 rfl rfl (k := i) (by omega) (by omega) dX1_isNext_5 ?_
  refine lv_i2l (v := (px i).toInt64) hx hb dX1_isNext_6 rfl ?_
  refine lv_aload_n hx hb dX1_isNext_7 rfl (lv_at hl 0 rfl) ?_
  refine va_get (D := (dC, dI)) (ci := 1) (v := .ref b4) (C := RX1) (T := TX1) (N := 8) hx hb hts hin0 hown hK hP 0 rfl rfl 6 (by decide) (hts (.fieldLink RX1 19 "OnlineHullModel" "py" "[I") (by decide +kernel)) (fun _ h9 => h9) rfl dX1_isNext_8 ?_
  refine lv_iload_n hx hb dX1_isNext_11 rfl (lv_at hl 1 rfl) ?_
  refine oh_ald hx hb hK hP 4 0 rfl rfl (k := i) (by omega) (by omega) dX1_isNext_12 ?_
  refine lv_i2l (v := (py i).toInt64) hx hb dX1_isNext_13 rfl ?_
  refine lv_aload_n hx hb dX1_isNext_14 rfl (lv_at hl 0 rfl) ?_
  refine va_get (D := (dC, dI)) (ci := 1) (v := .ref b3) (C := RX1) (T := TX1) (N := 8) hx hb hts hin0 hown hK hP 0 rfl rfl 5 (by decide) (hts (.fieldLink RX1 16 "OnlineHullModel" "px" "[I") (by decide +kernel)) (fun _ h9 => h9) rfl dX1_isNext_15 ?_
  refine lv_iload_n hx hb dX1_isNext_18 rfl (lv_at hl 2 rfl) ?_
  refine oh_ald hx hb hK hP 3 0 rfl rfl (k := v) (by omega) (by omega) dX1_isNext_19 ?_
  refine lv_i2l (v := (px v).toInt64) hx hb dX1_isNext_20 rfl ?_
  refine lv_aload_n hx hb dX1_isNext_21 rfl (lv_at hl 0 rfl) ?_
  refine va_get (D := (dC, dI)) (ci := 1) (v := .ref b4) (C := RX1) (T := TX1) (N := 8) hx hb hts hin0 hown hK hP 0 rfl rfl 6 (by decide) (hts (.fieldLink RX1 19 "OnlineHullModel" "py" "[I") (by decide +kernel)) (fun _ h9 => h9) rfl dX1_isNext_22 ?_
  refine lv_iload_n hx hb dX1_isNext_25 rfl (lv_at hl 2 rfl) ?_
  refine oh_ald hx hb hK hP 4 0 rfl rfl (k := v) (by omega) (by omega) dX1_isNext_26 ?_
  refine lv_i2l (v := (py v).toInt64) hx hb dX1_isNext_27 rfl ?_
  refine lv_aload_n hx hb dX1_isNext_28 rfl (lv_at hl 0 rfl) ?_
  refine va_get (D := (dC, dI)) (ci := 1) (v := .ref b3) (C := RX1) (T := TX1) (N := 8) hx hb hts hin0 hown hK hP 0 rfl rfl 5 (by decide) (hts (.fieldLink RX1 16 "OnlineHullModel" "px" "[I") (by decide +kernel)) (fun _ h9 => h9) rfl dX1_isNext_29 ?_
  refine lv_iload_n hx hb dX1_isNext_32 rfl (lv_at hl 3 rfl) ?_
  refine oh_ald hx hb hK hP 3 0 rfl rfl (k := k) (by omega) (by omega) dX1_isNext_33 ?_
  refine lv_i2l (v := (px k).toInt64) hx hb dX1_isNext_34 rfl ?_
  refine lv_aload_n hx hb dX1_isNext_35 rfl (lv_at hl 0 rfl) ?_
  refine va_get (D := (dC, dI)) (ci := 1) (v := .ref b4) (C := RX1) (T := TX1) (N := 8) hx hb hts hin0 hown hK hP 0 rfl rfl 6 (by decide) (hts (.fieldLink RX1 19 "OnlineHullModel" "py" "[I") (by decide +kernel)) (fun _ h9 => h9) rfl dX1_isNext_36 ?_
  refine lv_iload_n hx hb dX1_isNext_39 rfl (lv_at hl 3 rfl) ?_
  refine oh_ald hx hb hK hP 4 0 rfl rfl (k := k) (by omega) (by omega) dX1_isNext_40 ?_
  refine lv_i2l (v := (py k).toInt64) hx hb dX1_isNext_41 rfl ?_
  refine vp_callSl (va_Run.run (va_runS (As := [.long ((px i).toInt64), .long ((py i).toInt64), .long ((px v).toInt64), .long ((py v).toInt64), .long ((px k).toInt64), .long ((py k).toInt64)]) (rest := []) ⟨hx, hb, hml, hown, hts⟩ (k_X1_turn l (px i) (py i) (px v) (py v) (px k) (py k) (hRp i hi) (hRp v hv) (hRp k hk)) (va_cwS 6 hts gX1_isNext_X1_turn rfl rfl rfl (by decide +kernel) ⟨Nat.le_of_ble_eq_true rfl, Nat.le_of_ble_eq_true rfl⟩) oh_pre0 rfl rfl hl.1 rfl (lv_room (Nat.le_of_ble_eq_true rfl)) dX1_isNext_42 ⟨Nat.zero_le _, Nat.zero_le _⟩)) (fun r_42 hr_42 => ?_)
  have hr_42 : r_42.toInt = oh_cp ((oh_pt px py) i) ((oh_pt px py) v) ((oh_pt px py) k) := hr_42
  refine lv_lstore (lv' := [(4, .long r_42), (0, .ref h), (1, .int (nI i)), (2, .int (nI v)), (3, .int (nI k))]) hx hb dX1_isNext_45 hl (by decide) rfl (fun ls hl => ?_)
  refine lv_aload_n hx hb dX1_isNext_47 rfl (lv_at hl 1 rfl) ?_
  refine va_get (D := (dC, dI)) (ci := 1) (v := .ref b3) (C := RX1) (T := TX1) (N := 8) hx hb hts hin0 hown hK hP 0 rfl rfl 5 (by decide) (hts (.fieldLink RX1 16 "OnlineHullModel" "px" "[I") (by decide +kernel)) (fun _ h9 => h9) rfl dX1_isNext_48 ?_
  refine lv_iload_n hx hb dX1_isNext_51 rfl (lv_at hl 3 rfl) ?_
  refine oh_ald hx hb hK hP 3 0 rfl rfl (k := v) (by omega) (by omega) dX1_isNext_52 ?_
  refine lv_aload_n hx hb dX1_isNext_53 rfl (lv_at hl 1 rfl) ?_
  refine va_get (D := (dC, dI)) (ci := 1) (v := .ref b3) (C := RX1) (T := TX1) (N := 8) hx hb hts hin0 hown hK hP 0 rfl rfl 5 (by decide) (hts (.fieldLink RX1 16 "OnlineHullModel" "px" "[I") (by decide +kernel)) (fun _ h9 => h9) rfl dX1_isNext_54 ?_
  refine lv_iload_n hx hb dX1_isNext_57 rfl (lv_at hl 2 rfl) ?_
  refine oh_ald hx hb hK hP 3 0 rfl rfl (k := i) (by omega) (by omega) dX1_isNext_58 ?_
  refine lv_isub hx hb dX1_isNext_59 ?_
  refine lv_i2l (v := ((px v) - (px i)).toInt64) hx hb dX1_isNext_60 rfl ?_
  refine lv_lstore (lv' := [(6, .long (((px v) - (px i)).toInt64)), (4, .long r_42), (0, .ref h), (1, .int (nI i)), (2, .int (nI v)), (3, .int (nI k))]) hx hb dX1_isNext_61 hl (by decide) rfl (fun ls hl => ?_)
  refine lv_aload_n hx hb dX1_isNext_63 rfl (lv_at hl 2 rfl) ?_
  refine va_get (D := (dC, dI)) (ci := 1) (v := .ref b4) (C := RX1) (T := TX1) (N := 8) hx hb hts hin0 hown hK hP 0 rfl rfl 6 (by decide) (hts (.fieldLink RX1 19 "OnlineHullModel" "py" "[I") (by decide +kernel)) (fun _ h9 => h9) rfl dX1_isNext_64 ?_
  refine lv_iload_n hx hb dX1_isNext_67 rfl (lv_at hl 4 rfl) ?_
  refine oh_ald hx hb hK hP 4 0 rfl rfl (k := v) (by omega) (by omega) dX1_isNext_68 ?_
  refine lv_aload_n hx hb dX1_isNext_69 rfl (lv_at hl 2 rfl) ?_
  refine va_get (D := (dC, dI)) (ci := 1) (v := .ref b4) (C := RX1) (T := TX1) (N := 8) hx hb hts hin0 hown hK hP 0 rfl rfl 6 (by decide) (hts (.fieldLink RX1 19 "OnlineHullModel" "py" "[I") (by decide +kernel)) (fun _ h9 => h9) rfl dX1_isNext_70 ?_
  refine lv_iload_n hx hb dX1_isNext_73 rfl (lv_at hl 3 rfl) ?_
  refine oh_ald hx hb hK hP 4 0 rfl rfl (k := i) (by omega) (by omega) dX1_isNext_74 ?_
  refine lv_isub hx hb dX1_isNext_75 ?_
  refine lv_i2l (v := ((py v) - (py i)).toInt64) hx hb dX1_isNext_76 rfl ?_
  refine lv_lstore (lv' := [(8, .long (((py v) - (py i)).toInt64)), (6, .long (((px v) - (px i)).toInt64)), (4, .long r_42), (0, .ref h), (1, .int (nI i)), (2, .int (nI v)), (3, .int (nI k))]) hx hb dX1_isNext_77 hl (by decide) rfl (fun ls hl => ?_)
  refine lv_aload_n hx hb dX1_isNext_79 rfl (lv_at hl 3 rfl) ?_
  refine va_get (D := (dC, dI)) (ci := 1) (v := .ref b3) (C := RX1) (T := TX1) (N := 8) hx hb hts hin0 hown hK hP 0 rfl rfl 5 (by decide) (hts (.fieldLink RX1 16 "OnlineHullModel" "px" "[I") (by decide +kernel)) (fun _ h9 => h9) rfl dX1_isNext_80 ?_
  refine lv_iload_n hx hb dX1_isNext_83 rfl (lv_at hl 6 rfl) ?_
  refine oh_ald hx hb hK hP 3 0 rfl rfl (k := k) (by omega) (by omega) dX1_isNext_84 ?_
  refine lv_aload_n hx hb dX1_isNext_85 rfl (lv_at hl 3 rfl) ?_
  refine va_get (D := (dC, dI)) (ci := 1) (v := .ref b3) (C := RX1) (T := TX1) (N := 8) hx hb hts hin0 hown hK hP 0 rfl rfl 5 (by decide) (hts (.fieldLink RX1 16 "OnlineHullModel" "px" "[I") (by decide +kernel)) (fun _ h9 => h9) rfl dX1_isNext_86 ?_
  refine lv_iload_n hx hb dX1_isNext_89 rfl (lv_at hl 4 rfl) ?_
  refine oh_ald hx hb hK hP 3 0 rfl rfl (k := i) (by omega) (by omega) dX1_isNext_90 ?_
  refine lv_isub hx hb dX1_isNext_91 ?_
  refine lv_i2l (v := ((px k) - (px i)).toInt64) hx hb dX1_isNext_92 rfl ?_
  refine lv_lstore (lv' := [(10, .long (((px k) - (px i)).toInt64)), (8, .long (((py v) - (py i)).toInt64)), (6, .long (((px v) - (px i)).toInt64)), (4, .long r_42), (0, .ref h), (1, .int (nI i)), (2, .int (nI v)), (3, .int (nI k))]) hx hb dX1_isNext_93 hl (by decide) rfl (fun ls hl => ?_)
  refine lv_aload_n hx hb dX1_isNext_95 rfl (lv_at hl 4 rfl) ?_
  refine va_get (D := (dC, dI)) (ci := 1) (v := .ref b4) (C := RX1) (T := TX1) (N := 8) hx hb hts hin0 hown hK hP 0 rfl rfl 6 (by decide) (hts (.fieldLink RX1 19 "OnlineHullModel" "py" "[I") (by decide +kernel)) (fun _ h9 => h9) rfl dX1_isNext_96 ?_
  refine lv_iload_n hx hb dX1_isNext_99 rfl (lv_at hl 7 rfl) ?_
  refine oh_ald hx hb hK hP 4 0 rfl rfl (k := k) (by omega) (by omega) dX1_isNext_100 ?_
  refine lv_aload_n hx hb dX1_isNext_101 rfl (lv_at hl 4 rfl) ?_
  refine va_get (D := (dC, dI)) (ci := 1) (v := .ref b4) (C := RX1) (T := TX1) (N := 8) hx hb hts hin0 hown hK hP 0 rfl rfl 6 (by decide) (hts (.fieldLink RX1 19 "OnlineHullModel" "py" "[I") (by decide +kernel)) (fun _ h9 => h9) rfl dX1_isNext_102 ?_
  refine lv_iload_n hx hb dX1_isNext_105 rfl (lv_at hl 5 rfl) ?_
  refine oh_ald hx hb hK hP 4 0 rfl rfl (k := i) (by omega) (by omega) dX1_isNext_106 ?_
  refine lv_isub hx hb dX1_isNext_107 ?_
  refine lv_i2l (v := ((py k) - (py i)).toInt64) hx hb dX1_isNext_108 rfl ?_
  refine lv_lstore (lv' := [(12, .long (((py k) - (py i)).toInt64)), (10, .long (((px k) - (px i)).toInt64)), (8, .long (((py v) - (py i)).toInt64)), (6, .long (((px v) - (px i)).toInt64)), (4, .long r_42), (0, .ref h), (1, .int (nI i)), (2, .int (nI v)), (3, .int (nI k))]) hx hb dX1_isNext_109 hl (by decide) rfl (fun ls hl => ?_)
  have w4 : _ = oh_d2 ((oh_pt px py) i) ((oh_pt px py) k) := oh_q64 (hRp k hk) (hRp i hi)
  have w5 : _ = oh_d2 ((oh_pt px py) i) ((oh_pt px py) v) := oh_q64 (hRp v hv) (hRp i hi)
  refine lv_lload hx hb dX1_isNext_111 (lv_at hl 4 rfl) ?_
  refine lv_lconst (v := 0) hx hb dX1_isNext_113 (by decide) ?_
  refine W.lcmp hx hb dX1_isNext_114 ?_
  refine lv_if_lt (tgt := 151) hx hb dX1_isNext_115 (by decide) (fun c_115 => ?_) (fun c_115 => ?_)
  · have g_115 : r_42.toInt < 0 := oh_lc_lt0 c_115
    refine lv_iconst (v := nI 1) hx hb dX1_isNext_151 (by decide) ?_
    refine lv_goto (tgt := 156) hx hb dX1_isNext_152 (by decide) ?_
    exact W.zret (v := nI 1) hx hb hr (by decide) (fun t ht hW => ⟨_, rfl, Or.inl ⟨by have w4 := oh_q64 (hRp k hk) (hRp i hi); have w5 := oh_q64 (hRp v hv) (hRp i hi); first | exact Or.inl (by omega) | exact Or.inr ⟨by omega, by omega⟩, rfl⟩, ht⟩) (fun _ h => by cases h) dX1_isNext_156
  · have g_115 : r_42.toInt ≥ 0 := oh_lc_nlt0 c_115
    refine lv_lload hx hb dX1_isNext_118 (lv_at hl 4 rfl) ?_
    refine lv_lconst (v := 0) hx hb dX1_isNext_120 (by decide) ?_
    refine W.lcmp hx hb dX1_isNext_121 ?_
    refine lv_if_ne (tgt := 155) hx hb dX1_isNext_122 (by decide) (fun c_122 => ?_) (fun c_122 => ?_)
    · have g_122 : r_42.toInt ≠ 0 := oh_lc_ne0 c_122
      refine lv_iconst (v := nI 0) hx hb dX1_isNext_155 (by decide) ?_
      exact W.zret (v := nI 0) hx hb hr (by decide) (fun t ht hW => ⟨_, rfl, Or.inr ⟨fun w => by have w4 := oh_q64 (hRp k hk) (hRp i hi); have w5 := oh_q64 (hRp v hv) (hRp i hi); rcases w with w | ⟨w, w2⟩ <;> omega, rfl⟩, ht⟩) (fun _ h => by cases h) dX1_isNext_156
    · have g_122 : r_42.toInt = 0 := oh_lc_nne0 c_122
      refine lv_lload hx hb dX1_isNext_125 (lv_at hl 1 rfl) ?_
      refine lv_lload hx hb dX1_isNext_127 (lv_at hl 1 rfl) ?_
      refine lv_lmul hx hb dX1_isNext_129 ?_
      refine lv_lload hx hb dX1_isNext_130 (lv_at hl 0 rfl) ?_
      refine lv_lload hx hb dX1_isNext_132 (lv_at hl 0 rfl) ?_
      refine lv_lmul hx hb dX1_isNext_134 ?_
      refine lv_ladd hx hb dX1_isNext_135 ?_
      refine lv_lload hx hb dX1_isNext_136 (lv_at hl 3 rfl) ?_
      refine lv_lload hx hb dX1_isNext_138 (lv_at hl 3 rfl) ?_
      refine lv_lmul hx hb dX1_isNext_140 ?_
      refine lv_lload hx hb dX1_isNext_141 (lv_at hl 2 rfl) ?_
      refine lv_lload hx hb dX1_isNext_143 (lv_at hl 2 rfl) ?_
      refine lv_lmul hx hb dX1_isNext_145 ?_
      refine lv_ladd hx hb dX1_isNext_146 ?_
      refine W.lcmp hx hb dX1_isNext_147 ?_
      refine lv_if_le (tgt := 155) hx hb dX1_isNext_148 (by decide) (fun c_148 => ?_) (fun c_148 => ?_)
      · have g_148 : (((((px k) - (px i)).toInt64) * (((px k) - (px i)).toInt64)) + ((((py k) - (py i)).toInt64) * (((py k) - (py i)).toInt64))).toInt ≤ (((((px v) - (px i)).toInt64) * (((px v) - (px i)).toInt64)) + ((((py v) - (py i)).toInt64) * (((py v) - (py i)).toInt64))).toInt := oh_lc_le c_148
        refine lv_iconst (v := nI 0) hx hb dX1_isNext_155 (by decide) ?_
        exact W.zret (v := nI 0) hx hb hr (by decide) (fun t ht hW => ⟨_, rfl, Or.inr ⟨fun w => by have w4 := oh_q64 (hRp k hk) (hRp i hi); have w5 := oh_q64 (hRp v hv) (hRp i hi); rcases w with w | ⟨w, w2⟩ <;> omega, rfl⟩, ht⟩) (fun _ h => by cases h) dX1_isNext_156
      · have g_148 : (((((px k) - (px i)).toInt64) * (((px k) - (px i)).toInt64)) + ((((py k) - (py i)).toInt64) * (((py k) - (py i)).toInt64))).toInt > (((((px v) - (px i)).toInt64) * (((px v) - (px i)).toInt64)) + ((((py v) - (py i)).toInt64) * (((py v) - (py i)).toInt64))).toInt := oh_lc_nle c_148
        refine lv_iconst (v := nI 1) hx hb dX1_isNext_151 (by decide) ?_
        refine lv_goto (tgt := 156) hx hb dX1_isNext_152 (by decide) ?_
        exact W.zret (v := nI 1) hx hb hr (by decide) (fun t ht hW => ⟨_, rfl, Or.inl ⟨by have w4 := oh_q64 (hRp k hk) (hRp i hi); have w5 := oh_q64 (hRp v hv) (hRp i hi); first | exact Or.inl (by omega) | exact Or.inr ⟨by omega, by omega⟩, rfl⟩, ht⟩) (fun _ h => by cases h) dX1_isNext_156

set_option maxHeartbeats 4000000 in
set_option maxRecDepth 100000 in
theorem k_X1_size (l : Launch) (dC : Nat → ClassId) (dI : Nat → Nat → Nat) (cI : ClassId) (h b1 b2 b3 b4 b5 N n : Nat) (pts : Int32) (xs ys px py rd : Nat → Int32) (hN : N ≤ 64) (hn : n ≤ N) : Met l yX1_size wsX1_size ({ frames := 0, cells := 0, slots := 0, locals := 0 }) (va_Pc [.ref h] (fun U => va_P (dC, dI) vwCl [(h, .inr (1, [.int (nI N), .int (nI n), .int pts, .ref b1, .ref b2, .ref b3, .ref b4, .ref b5])), (b1, .inl (cI, 66, .inl xs)), (b2, .inl (cI, 66, .inl ys)), (b3, .inl (cI, 66, .inl px)), (b4, .inl (cI, 66, .inl py)), (b5, .inl (cI, 67, .inl rd))] U.heap ∧ va_K (dC, dI) vwCl [(cI, .int)] U)) (vp_Si (fun r => r = nI n)) 0 0 (fun _ => False) := by
  refine Met.ofW (cc := cX1_size) (maxL := 1) (ret := (some .int)) (by decide) rfl ?_
  intro p e s m args below meth c s₁ B hml hv
  obtain ⟨rfl, hP, hK⟩ := hv
  have hx := B.exec
  have hb := B.bytes
  have hr := B.returns
  have hts := atoms_spec (ws := wsX1_size) B.pre
  have hown : s.vm.findClass RX1 = some m.cls := findClass_of_methodNamed B.named
  have hlocks := B.notSynchronized
  have hin0 : ∀ w ∈ wsX10, w ∈ wsX1_size := fun w h => List.mem_cons_of_mem _ (List.mem_append_right _ h)
  have hl := lv_entry ([.ref h]) (n := 1) (Nat.le_of_ble_eq_true rfl)
  rw [lg_entry_eq]
  generalize (lg_sl ([.ref h]) ++ List.replicate (1 - (lg_sl ([.ref h])).length) Slot.unset).toArray = ls at hl ⊢
  have hl : lv_has ls 1 [(0, .ref h)] := hl
  refine lv_aload_n hx hb dX1_size_0 rfl (lv_at hl 0 rfl) ?_
  refine va_get (D := (dC, dI)) (ci := 1) (v := .int (nI n)) (C := RX1) (T := TX1) (N := 8) hx hb hts hin0 hown hK hP 0 rfl rfl 1 (by decide) (hts (.fieldLink RX1 29 "OnlineHullModel" "corners" "I") (by decide +kernel)) (fun _ h9 => h9) rfl dX1_size_1 ?_
  exact W.iret (v := nI n) hx hb hr (fun t ht hW => ⟨_, rfl, rfl, ht⟩) (fun _ h => by cases h) dX1_size_4

set_option maxHeartbeats 4000000 in
set_option maxRecDepth 100000 in
theorem k_X1_points (l : Launch) (dC : Nat → ClassId) (dI : Nat → Nat → Nat) (cI : ClassId) (h b1 b2 b3 b4 b5 N n : Nat) (pts : Int32) (xs ys px py rd : Nat → Int32) (hN : N ≤ 64) (hn : n ≤ N) : Met l yX1_points wsX1_points ({ frames := 0, cells := 0, slots := 0, locals := 0 }) (va_Pc [.ref h] (fun U => va_P (dC, dI) vwCl [(h, .inr (1, [.int (nI N), .int (nI n), .int pts, .ref b1, .ref b2, .ref b3, .ref b4, .ref b5])), (b1, .inl (cI, 66, .inl xs)), (b2, .inl (cI, 66, .inl ys)), (b3, .inl (cI, 66, .inl px)), (b4, .inl (cI, 66, .inl py)), (b5, .inl (cI, 67, .inl rd))] U.heap ∧ va_K (dC, dI) vwCl [(cI, .int)] U)) (vp_Si (fun r => r = pts)) 0 0 (fun _ => False) := by
  refine Met.ofW (cc := cX1_points) (maxL := 1) (ret := (some .int)) (by decide) rfl ?_
  intro p e s m args below meth c s₁ B hml hv
  obtain ⟨rfl, hP, hK⟩ := hv
  have hx := B.exec
  have hb := B.bytes
  have hr := B.returns
  have hts := atoms_spec (ws := wsX1_points) B.pre
  have hown : s.vm.findClass RX1 = some m.cls := findClass_of_methodNamed B.named
  have hlocks := B.notSynchronized
  have hin0 : ∀ w ∈ wsX10, w ∈ wsX1_points := fun w h => List.mem_cons_of_mem _ (List.mem_append_right _ h)
  have hl := lv_entry ([.ref h]) (n := 1) (Nat.le_of_ble_eq_true rfl)
  rw [lg_entry_eq]
  generalize (lg_sl ([.ref h]) ++ List.replicate (1 - (lg_sl ([.ref h])).length) Slot.unset).toArray = ls at hl ⊢
  have hl : lv_has ls 1 [(0, .ref h)] := hl
  refine lv_aload_n hx hb dX1_points_0 rfl (lv_at hl 0 rfl) ?_
  refine va_get (D := (dC, dI)) (ci := 1) (v := .int pts) (C := RX1) (T := TX1) (N := 8) hx hb hts hin0 hown hK hP 0 rfl rfl 2 (by decide) (hts (.fieldLink RX1 55 "OnlineHullModel" "points" "I") (by decide +kernel)) (fun _ h9 => h9) rfl dX1_points_1 ?_
  exact W.iret (v := pts) hx hb hr (fun t ht hW => ⟨_, rfl, rfl, ht⟩) (fun _ h => by cases h) dX1_points_4

set_option maxHeartbeats 4000000 in
set_option maxRecDepth 100000 in
theorem k_X1_xOf (l : Launch) (dC : Nat → ClassId) (dI : Nat → Nat → Nat) (cI : ClassId) (h b1 b2 b3 b4 b5 N n : Nat) (pts : Int32) (xs ys px py rd : Nat → Int32) (i : Int32) (hN : N ≤ 64) (hn : n ≤ N) : Met l yX1_xOf wsX1_xOf ({ frames := 0, cells := 0, slots := 0, locals := 0 }) (va_Pc [.ref h, .int i] (fun U => va_P (dC, dI) vwCl [(h, .inr (1, [.int (nI N), .int (nI n), .int pts, .ref b1, .ref b2, .ref b3, .ref b4, .ref b5])), (b1, .inl (cI, 66, .inl xs)), (b2, .inl (cI, 66, .inl ys)), (b3, .inl (cI, 66, .inl px)), (b4, .inl (cI, 66, .inl py)), (b5, .inl (cI, 67, .inl rd))] U.heap ∧ va_K (dC, dI) vwCl [(cI, .int)] U)) (vp_Si (fun r => (∃ k : Nat, k < n ∧ i = nI k ∧ r = xs k) ∨ (¬ (0 ≤ i.toInt ∧ i.toInt < (n : Int)) ∧ r = 0))) 0 0 (fun _ => False) := by
  refine Met.ofW (cc := cX1_xOf) (maxL := 2) (ret := (some .int)) (by decide) rfl ?_
  intro p e s m args below meth c s₁ B hml hv
  obtain ⟨rfl, hP, hK⟩ := hv
  have hx := B.exec
  have hb := B.bytes
  have hr := B.returns
  have hts := atoms_spec (ws := wsX1_xOf) B.pre
  have hown : s.vm.findClass RX1 = some m.cls := findClass_of_methodNamed B.named
  have hlocks := B.notSynchronized
  have hin0 : ∀ w ∈ wsX10, w ∈ wsX1_xOf := fun w h => List.mem_cons_of_mem _ (List.mem_append_right _ h)
  have hl := lv_entry ([.ref h, .int i]) (n := 2) (Nat.le_of_ble_eq_true rfl)
  rw [lg_entry_eq]
  generalize (lg_sl ([.ref h, .int i]) ++ List.replicate (2 - (lg_sl ([.ref h, .int i])).length) Slot.unset).toArray = ls at hl ⊢
  have hl : lv_has ls 2 [(0, .ref h), (1, .int i)] := hl
  refine lv_iload_n hx hb dX1_xOf_0 rfl (lv_at hl 1 rfl) ?_
  refine lv_if_lt (tgt := 21) hx hb dX1_xOf_1 (by decide) (fun c_1 => ?_) (fun c_1 => ?_)
  · have g_1 : i.toInt < 0 := oh_ltI0 c_1
    refine lv_iconst (v := nI 0) hx hb dX1_xOf_21 (by decide) ?_
    exact W.iret (v := nI 0) hx hb hr (fun t ht hW => ⟨_, rfl, Or.inr ⟨by omega, rfl⟩, ht⟩) (fun _ h => by cases h) dX1_xOf_22
  · have g_1 : 0 ≤ i.toInt := oh_nltI0 c_1
    refine lv_iload_n hx hb dX1_xOf_4 rfl (lv_at hl 1 rfl) ?_
    refine lv_aload_n hx hb dX1_xOf_5 rfl (lv_at hl 0 rfl) ?_
    refine va_get (D := (dC, dI)) (ci := 1) (v := .int (nI n)) (C := RX1) (T := TX1) (N := 8) hx hb hts hin0 hown hK hP 0 rfl rfl 1 (by decide) (hts (.fieldLink RX1 29 "OnlineHullModel" "corners" "I") (by decide +kernel)) (fun _ h9 => h9) rfl dX1_xOf_6 ?_
    refine lv_icmp_ge (tgt := 21) hx hb dX1_xOf_9 (by decide) (fun c_9 => ?_) (fun c_9 => ?_)
    · have g_9 : (n : Int) ≤ i.toInt := by have q := oh_leI c_9; rw [nI_toInt (n := n) (by omega)] at q; exact q
      refine lv_iconst (v := nI 0) hx hb dX1_xOf_21 (by decide) ?_
      exact W.iret (v := nI 0) hx hb hr (fun t ht hW => ⟨_, rfl, Or.inr ⟨by omega, rfl⟩, ht⟩) (fun _ h => by cases h) dX1_xOf_22
    · have g_9 : i.toInt < (n : Int) := by have q := oh_nleI c_9; rw [nI_toInt (n := n) (by omega)] at q; exact q
      obtain ⟨k, hk, rfl⟩ : ∃ k : Nat, k < n ∧ i = nI k := ⟨i.toInt.toNat, by omega, Int32.toInt_inj.mp (by rw [nI_toInt (by omega)]; omega)⟩
      refine lv_aload_n hx hb dX1_xOf_12 rfl (lv_at hl 0 rfl) ?_
      refine va_get (D := (dC, dI)) (ci := 1) (v := .ref b1) (C := RX1) (T := TX1) (N := 8) hx hb hts hin0 hown hK hP 0 rfl rfl 3 (by decide) (hts (.fieldLink RX1 7 "OnlineHullModel" "xs" "[I") (by decide +kernel)) (fun _ h9 => h9) rfl dX1_xOf_13 ?_
      refine lv_iload_n hx hb dX1_xOf_16 rfl (lv_at hl 1 rfl) ?_
      refine oh_ald hx hb hK hP 1 0 rfl rfl (k := k) (by omega) (by omega) dX1_xOf_17 ?_
      refine lv_goto (tgt := 22) hx hb dX1_xOf_18 (by decide) ?_
      exact W.iret (v := xs k) hx hb hr (fun t ht hW => ⟨_, rfl, Or.inl ⟨k, by omega, rfl, rfl⟩, ht⟩) (fun _ h => by cases h) dX1_xOf_22

set_option maxHeartbeats 4000000 in
set_option maxRecDepth 100000 in
theorem k_X1_yOf (l : Launch) (dC : Nat → ClassId) (dI : Nat → Nat → Nat) (cI : ClassId) (h b1 b2 b3 b4 b5 N n : Nat) (pts : Int32) (xs ys px py rd : Nat → Int32) (i : Int32) (hN : N ≤ 64) (hn : n ≤ N) : Met l yX1_yOf wsX1_yOf ({ frames := 0, cells := 0, slots := 0, locals := 0 }) (va_Pc [.ref h, .int i] (fun U => va_P (dC, dI) vwCl [(h, .inr (1, [.int (nI N), .int (nI n), .int pts, .ref b1, .ref b2, .ref b3, .ref b4, .ref b5])), (b1, .inl (cI, 66, .inl xs)), (b2, .inl (cI, 66, .inl ys)), (b3, .inl (cI, 66, .inl px)), (b4, .inl (cI, 66, .inl py)), (b5, .inl (cI, 67, .inl rd))] U.heap ∧ va_K (dC, dI) vwCl [(cI, .int)] U)) (vp_Si (fun r => (∃ k : Nat, k < n ∧ i = nI k ∧ r = ys k) ∨ (¬ (0 ≤ i.toInt ∧ i.toInt < (n : Int)) ∧ r = 0))) 0 0 (fun _ => False) := by
  refine Met.ofW (cc := cX1_yOf) (maxL := 2) (ret := (some .int)) (by decide) rfl ?_
  intro p e s m args below meth c s₁ B hml hv
  obtain ⟨rfl, hP, hK⟩ := hv
  have hx := B.exec
  have hb := B.bytes
  have hr := B.returns
  have hts := atoms_spec (ws := wsX1_yOf) B.pre
  have hown : s.vm.findClass RX1 = some m.cls := findClass_of_methodNamed B.named
  have hlocks := B.notSynchronized
  have hin0 : ∀ w ∈ wsX10, w ∈ wsX1_yOf := fun w h => List.mem_cons_of_mem _ (List.mem_append_right _ h)
  have hl := lv_entry ([.ref h, .int i]) (n := 2) (Nat.le_of_ble_eq_true rfl)
  rw [lg_entry_eq]
  generalize (lg_sl ([.ref h, .int i]) ++ List.replicate (2 - (lg_sl ([.ref h, .int i])).length) Slot.unset).toArray = ls at hl ⊢
  have hl : lv_has ls 2 [(0, .ref h), (1, .int i)] := hl
  refine lv_iload_n hx hb dX1_yOf_0 rfl (lv_at hl 1 rfl) ?_
  refine lv_if_lt (tgt := 21) hx hb dX1_yOf_1 (by decide) (fun c_1 => ?_) (fun c_1 => ?_)
  · have g_1 : i.toInt < 0 := oh_ltI0 c_1
    refine lv_iconst (v := nI 0) hx hb dX1_yOf_21 (by decide) ?_
    exact W.iret (v := nI 0) hx hb hr (fun t ht hW => ⟨_, rfl, Or.inr ⟨by omega, rfl⟩, ht⟩) (fun _ h => by cases h) dX1_yOf_22
  · have g_1 : 0 ≤ i.toInt := oh_nltI0 c_1
    refine lv_iload_n hx hb dX1_yOf_4 rfl (lv_at hl 1 rfl) ?_
    refine lv_aload_n hx hb dX1_yOf_5 rfl (lv_at hl 0 rfl) ?_
    refine va_get (D := (dC, dI)) (ci := 1) (v := .int (nI n)) (C := RX1) (T := TX1) (N := 8) hx hb hts hin0 hown hK hP 0 rfl rfl 1 (by decide) (hts (.fieldLink RX1 29 "OnlineHullModel" "corners" "I") (by decide +kernel)) (fun _ h9 => h9) rfl dX1_yOf_6 ?_
    refine lv_icmp_ge (tgt := 21) hx hb dX1_yOf_9 (by decide) (fun c_9 => ?_) (fun c_9 => ?_)
    · have g_9 : (n : Int) ≤ i.toInt := by have q := oh_leI c_9; rw [nI_toInt (n := n) (by omega)] at q; exact q
      refine lv_iconst (v := nI 0) hx hb dX1_yOf_21 (by decide) ?_
      exact W.iret (v := nI 0) hx hb hr (fun t ht hW => ⟨_, rfl, Or.inr ⟨by omega, rfl⟩, ht⟩) (fun _ h => by cases h) dX1_yOf_22
    · have g_9 : i.toInt < (n : Int) := by have q := oh_nleI c_9; rw [nI_toInt (n := n) (by omega)] at q; exact q
      obtain ⟨k, hk, rfl⟩ : ∃ k : Nat, k < n ∧ i = nI k := ⟨i.toInt.toNat, by omega, Int32.toInt_inj.mp (by rw [nI_toInt (by omega)]; omega)⟩
      refine lv_aload_n hx hb dX1_yOf_12 rfl (lv_at hl 0 rfl) ?_
      refine va_get (D := (dC, dI)) (ci := 1) (v := .ref b2) (C := RX1) (T := TX1) (N := 8) hx hb hts hin0 hown hK hP 0 rfl rfl 4 (by decide) (hts (.fieldLink RX1 13 "OnlineHullModel" "ys" "[I") (by decide +kernel)) (fun _ h9 => h9) rfl dX1_yOf_13 ?_
      refine lv_iload_n hx hb dX1_yOf_16 rfl (lv_at hl 1 rfl) ?_
      refine oh_ald hx hb hK hP 2 0 rfl rfl (k := k) (by omega) (by omega) dX1_yOf_17 ?_
      refine lv_goto (tgt := 22) hx hb dX1_yOf_18 (by decide) ?_
      exact W.iret (v := ys k) hx hb hr (fun t ht hW => ⟨_, rfl, Or.inl ⟨k, by omega, rfl, rfl⟩, ht⟩) (fun _ h => by cases h) dX1_yOf_22

set_option maxHeartbeats 4000000 in
set_option maxRecDepth 100000 in
theorem k_X1_twiceArea (l : Launch) (dC : Nat → ClassId) (dI : Nat → Nat → Nat) (cI : ClassId) (h b1 b2 b3 b4 b5 N n : Nat) (pts : Int32) (xs ys px py rd : Nat → Int32) (hN : N ≤ 64) (hn : n ≤ N) (hR : ∀ j, j < n → oh_inR (xs j) (ys j)) : Met l yX1_twiceArea wsX1_twiceArea ({ frames := 1, cells := 0, slots := 0, locals := 31 }) (va_Pc [.ref h] (fun U => va_P (dC, dI) vwCl [(h, .inr (1, [.int (nI N), .int (nI n), .int pts, .ref b1, .ref b2, .ref b3, .ref b4, .ref b5])), (b1, .inl (cI, 66, .inl xs)), (b2, .inl (cI, 66, .inl ys)), (b3, .inl (cI, 66, .inl px)), (b4, .inl (cI, 66, .inl py)), (b5, .inl (cI, 67, .inl rd))] U.heap ∧ va_K (dC, dI) vwCl [(cI, .int)] U)) (vp_Si (fun r => r = Int32.ofInt (oh_ar (oh_pt xs ys) (n - 2)))) 0 0 (fun _ => False) := by
  refine Met.ofW (cc := cX1_twiceArea) (maxL := 4) (ret := (some .int)) (by decide) rfl ?_
  intro p e s m args below meth c s₁ B hml hv
  obtain ⟨rfl, hP, hK⟩ := hv
  have hx := B.exec
  have hb := B.bytes
  have hr := B.returns
  have hts := atoms_spec (ws := wsX1_twiceArea) B.pre
  have hown : s.vm.findClass RX1 = some m.cls := findClass_of_methodNamed B.named
  have hlocks := B.notSynchronized
  have hin0 : ∀ w ∈ wsX10, w ∈ wsX1_twiceArea := fun w h => List.mem_cons_of_mem _ (List.mem_append_right _ h)
  have hl := lv_entry ([.ref h]) (n := 4) (Nat.le_of_ble_eq_true rfl)
  rw [lg_entry_eq]
  generalize (lg_sl ([.ref h]) ++ List.replicate (4 - (lg_sl ([.ref h])).length) Slot.unset).toArray = ls at hl ⊢
  have hl : lv_has ls 4 [(0, .ref h)] := hl
  refine lv_lconst (v := 0) hx hb dX1_twiceArea_0 (by decide) ?_
  refine lv_lstore_n (lv' := [(1, .long 0), (0, .ref h)]) hx hb dX1_twiceArea_1 rfl hl (by decide) rfl (fun ls hl => ?_)
  refine lv_iconst (v := nI 1) hx hb dX1_twiceArea_2 (by decide) ?_
  refine lv_istore_n (lv' := [(3, .int (nI 1)), (1, .long 0), (0, .ref h)]) hx hb dX1_twiceArea_3 rfl hl (by decide) rfl (fun ls hl => ?_)
  have loop : ∀ (k_loop : Nat) (i : Nat) (sum : Int64), (1 ≤ i) → (i + 1 ≤ n ∨ i = 1) → (n + 2 ≤ i + k_loop) → (sum = Int64.ofInt (oh_ar (oh_pt xs ys) (i - 1))) → ∀ (ls : Array Slot), lv_has ls 4 [(0, .ref h), (1, .long sum), (3, .int (nI i))] → W p l e (headSpec wsX1_twiceArea ({ frames := 1, cells := 0, slots := 0, locals := 31 })).room s m ([.ref h] : List Value).toArray below meth c s.heap [] 0 0 (MQ below (vp_Si (fun r => r = Int32.ofInt (oh_ar (oh_pt xs ys) (n - 2)))) ([.ref h] : List Value).toArray s 0 0 (fun _ => False)) (F0 m 4 ls []) := by
    clear hl
    intro k_loop
    induction k_loop with
    | zero =>
      intro i sum hi1 hi hk hI
      exfalso; omega
    | succ k_loop ih_loop =>
      intro i sum hi1 hi hk hI ls hl
      refine lv_iload_n hx hb dX1_twiceArea_4 rfl (lv_at hl 2 rfl) ?_
      refine lv_iconst (v := nI 1) hx hb dX1_twiceArea_5 (by decide) ?_
      refine lv_iadd hx hb dX1_twiceArea_6 ?_
      rw [nI_add i 1]
      refine lv_aload_n hx hb dX1_twiceArea_7 rfl (lv_at hl 0 rfl) ?_
      refine va_get (D := (dC, dI)) (ci := 1) (v := .int (nI n)) (C := RX1) (T := TX1) (N := 8) hx hb hts hin0 hown hK hP 0 rfl rfl 1 (by decide) (hts (.fieldLink RX1 29 "OnlineHullModel" "corners" "I") (by decide +kernel)) (fun _ h9 => h9) rfl dX1_twiceArea_8 ?_
      refine lv_icmp_ge (tgt := 72) hx hb dX1_twiceArea_11 (by decide) (fun c_11 => ?_) (fun c_11 => ?_)
      · have g_11 : n ≤ (i + 1) := (nI_leI (a := n) (b := (i + 1)) (by omega) (by omega)).mp c_11
        refine lv_lload_n hx hb dX1_twiceArea_72 rfl (lv_at hl 1 rfl) ?_
        refine lv_l2i (v := sum.toInt32) hx hb dX1_twiceArea_73 rfl ?_
        exact W.iret (v := sum.toInt32) hx hb hr (fun t ht hW => ⟨_, rfl, by rw [hI, Int64.toInt32_ofInt, show i - 1 = n - 2 by omega], ht⟩) (fun _ h => by cases h) dX1_twiceArea_74
      · have g_11 : ¬ n ≤ (i + 1) := fun q => c_11 ((nI_leI (a := n) (b := (i + 1)) (by omega) (by omega)).mpr q)
        refine lv_lload_n hx hb dX1_twiceArea_14 rfl (lv_at hl 1 rfl) ?_
        refine lv_aload_n hx hb dX1_twiceArea_15 rfl (lv_at hl 0 rfl) ?_
        refine va_get (D := (dC, dI)) (ci := 1) (v := .ref b1) (C := RX1) (T := TX1) (N := 8) hx hb hts hin0 hown hK hP 0 rfl rfl 3 (by decide) (hts (.fieldLink RX1 7 "OnlineHullModel" "xs" "[I") (by decide +kernel)) (fun _ h9 => h9) rfl dX1_twiceArea_16 ?_
        refine lv_iconst (v := nI 0) hx hb dX1_twiceArea_19 (by decide) ?_
        refine oh_ald hx hb hK hP 1 0 rfl rfl (k := 0) (by omega) (by omega) dX1_twiceArea_20 ?_
        refine lv_i2l (v := (xs 0).toInt64) hx hb dX1_twiceArea_21 rfl ?_
        refine lv_aload_n hx hb dX1_twiceArea_22 rfl (lv_at hl 0 rfl) ?_
        refine va_get (D := (dC, dI)) (ci := 1) (v := .ref b2) (C := RX1) (T := TX1) (N := 8) hx hb hts hin0 hown hK hP 0 rfl rfl 4 (by decide) (hts (.fieldLink RX1 13 "OnlineHullModel" "ys" "[I") (by decide +kernel)) (fun _ h9 => h9) rfl dX1_twiceArea_23 ?_
        refine lv_iconst (v := nI 0) hx hb dX1_twiceArea_26 (by decide) ?_
        refine oh_ald hx hb hK hP 2 0 rfl rfl (k := 0) (by omega) (by omega) dX1_twiceArea_27 ?_
        refine lv_i2l (v := (ys 0).toInt64) hx hb dX1_twiceArea_28 rfl ?_
        refine lv_aload_n hx hb dX1_twiceArea_29 rfl (lv_at hl 0 rfl) ?_
        refine va_get (D := (dC, dI)) (ci := 1) (v := .ref b1) (C := RX1) (T := TX1) (N := 8) hx hb hts hin0 hown hK hP 0 rfl rfl 3 (by decide) (hts (.fieldLink RX1 7 "OnlineHullModel" "xs" "[I") (by decide +kernel)) (fun _ h9 => h9) rfl dX1_twiceArea_30 ?_
        refine lv_iload_n hx hb dX1_twiceArea_33 rfl (lv_at hl 2 rfl) ?_
        refine oh_ald hx hb hK hP 1 0 rfl rfl (k := i) (by omega) (by omega) dX1_twiceArea_34 ?_
        refine lv_i2l (v := (xs i).toInt64) hx hb dX1_twiceArea_35 rfl ?_
        refine lv_aload_n hx hb dX1_twiceArea_36 rfl (lv_at hl 0 rfl) ?_
        refine va_get (D := (dC, dI)) (ci := 1) (v := .ref b2) (C := RX1) (T := TX1) (N := 8) hx hb hts hin0 hown hK hP 0 rfl rfl 4 (by decide) (hts (.fieldLink RX1 13 "OnlineHullModel" "ys" "[I") (by decide +kernel)) (fun _ h9 => h9) rfl dX1_twiceArea_37 ?_
        refine lv_iload_n hx hb dX1_twiceArea_40 rfl (lv_at hl 2 rfl) ?_
        refine oh_ald hx hb hK hP 2 0 rfl rfl (k := i) (by omega) (by omega) dX1_twiceArea_41 ?_
        refine lv_i2l (v := (ys i).toInt64) hx hb dX1_twiceArea_42 rfl ?_
        refine lv_aload_n hx hb dX1_twiceArea_43 rfl (lv_at hl 0 rfl) ?_
        refine va_get (D := (dC, dI)) (ci := 1) (v := .ref b1) (C := RX1) (T := TX1) (N := 8) hx hb hts hin0 hown hK hP 0 rfl rfl 3 (by decide) (hts (.fieldLink RX1 7 "OnlineHullModel" "xs" "[I") (by decide +kernel)) (fun _ h9 => h9) rfl dX1_twiceArea_44 ?_
        refine lv_iload_n hx hb dX1_twiceArea_47 rfl (lv_at hl 2 rfl) ?_
        refine lv_iconst (v := nI 1) hx hb dX1_twiceArea_48 (by decide) ?_
        refine lv_iadd hx hb dX1_twiceArea_49 ?_
        rw [nI_add i 1]
        refine oh_ald hx hb hK hP 1 0 rfl rfl (k := (i + 1)) (by omega) (by omega) dX1_twiceArea_50 ?_
        refine lv_i2l (v := (xs ((i + 1))).toInt64) hx hb dX1_twiceArea_51 rfl ?_
        refine lv_aload_n hx hb dX1_twiceArea_52 rfl (lv_at hl 0 rfl) ?_
        refine va_get (D := (dC, dI)) (ci := 1) (v := .ref b2) (C := RX1) (T := TX1) (N := 8) hx hb hts hin0 hown hK hP 0 rfl rfl 4 (by decide) (hts (.fieldLink RX1 13 "OnlineHullModel" "ys" "[I") (by decide +kernel)) (fun _ h9 => h9) rfl dX1_twiceArea_53 ?_
        refine lv_iload_n hx hb dX1_twiceArea_56 rfl (lv_at hl 2 rfl) ?_
        refine lv_iconst (v := nI 1) hx hb dX1_twiceArea_57 (by decide) ?_
        refine lv_iadd hx hb dX1_twiceArea_58 ?_
        rw [nI_add i 1]
        refine oh_ald hx hb hK hP 2 0 rfl rfl (k := (i + 1)) (by omega) (by omega) dX1_twiceArea_59 ?_
        refine lv_i2l (v := (ys ((i + 1))).toInt64) hx hb dX1_twiceArea_60 rfl ?_
        refine vp_callSl (va_Run.run (va_runS (As := [.long ((xs 0).toInt64), .long ((ys 0).toInt64), .long ((xs i).toInt64), .long ((ys i).toInt64), .long ((xs ((i + 1))).toInt64), .long ((ys ((i + 1))).toInt64)]) (rest := [.long sum]) ⟨hx, hb, hml, hown, hts⟩ (k_X1_turn l (xs 0) (ys 0) (xs i) (ys i) (xs ((i + 1))) (ys ((i + 1))) (hR 0 (by omega)) (hR i (by omega)) (hR (i + 1) (by omega))) (va_cwS 6 hts gX1_twiceArea_X1_turn rfl rfl rfl (by decide +kernel) ⟨Nat.le_of_ble_eq_true rfl, Nat.le_of_ble_eq_true rfl⟩) oh_pre0 rfl rfl hl.1 rfl (lv_room (Nat.le_of_ble_eq_true rfl)) dX1_twiceArea_61 ⟨Nat.zero_le _, Nat.zero_le _⟩)) (fun r_61 hr_61 => ?_)
        refine lv_ladd hx hb dX1_twiceArea_64 ?_
        refine lv_lstore_n (lv' := [(1, .long (sum + r_61)), (0, .ref h), (3, .int (nI i))]) hx hb dX1_twiceArea_65 rfl hl (by decide) rfl (fun ls hl => ?_)
        refine lv_iinc (v := nI (i + 1)) (lv' := [(3, .int (nI (i + 1))), (1, .long (sum + r_61)), (0, .ref h)]) hx hb dX1_twiceArea_66 hl (k := 2) rfl (nI_1 i) (by decide) rfl (fun ls hl => ?_)
        refine lv_goto (tgt := 4) hx hb dX1_twiceArea_69 (by decide) ?_
        exact ih_loop (i + 1) (sum + r_61) (by omega) (by omega) (by omega) (oh_arL hI hr_61 hi1) ls (lv_sub hl [2, 1, 0] rfl)
  exact loop (n + 2) 1 0 (by omega) (by omega) (by omega) (rfl) ls (lv_sub hl [2, 1, 0] rfl)

set_option maxHeartbeats 4000000 in
set_option maxRecDepth 100000 in
theorem k_X1_farthest (l : Launch) (dC : Nat → ClassId) (dI : Nat → Nat → Nat) (cI : ClassId) (h b1 b2 b3 b4 b5 N n : Nat) (pts : Int32) (xs ys px py rd : Nat → Int32) (x y : Int32) (hN : N ≤ 64) (hn : n ≤ N) (hR : ∀ j, j < n → oh_inR (xs j) (ys j)) : Met l yX1_farthest wsX1_farthest ({ frames := 1, cells := 0, slots := 0, locals := 21 }) (va_Pc [.ref h, .int x, .int y] (fun U => va_P (dC, dI) vwCl [(h, .inr (1, [.int (nI N), .int (nI n), .int pts, .ref b1, .ref b2, .ref b3, .ref b4, .ref b5])), (b1, .inl (cI, 66, .inl xs)), (b2, .inl (cI, 66, .inl ys)), (b3, .inl (cI, 66, .inl px)), (b4, .inl (cI, 66, .inl py)), (b5, .inl (cI, 67, .inl rd))] U.heap ∧ va_K (dC, dI) vwCl [(cI, .int)] U)) (vp_Si (fun r => oh_far n (oh_pt xs ys) x y r)) 0 0 (fun _ => False) := by
  refine Met.ofW (cc := cX1_farthest) (maxL := 5) (ret := (some .int)) (by decide) rfl ?_
  intro p e s m args below meth c s₁ B hml hv
  obtain ⟨rfl, hP, hK⟩ := hv
  have hx := B.exec
  have hb := B.bytes
  have hr := B.returns
  have hts := atoms_spec (ws := wsX1_farthest) B.pre
  have hown : s.vm.findClass RX1 = some m.cls := findClass_of_methodNamed B.named
  have hlocks := B.notSynchronized
  have hin0 : ∀ w ∈ wsX10, w ∈ wsX1_farthest := fun w h => List.mem_cons_of_mem _ (List.mem_append_right _ h)
  have hl := lv_entry ([.ref h, .int x, .int y]) (n := 5) (Nat.le_of_ble_eq_true rfl)
  rw [lg_entry_eq]
  generalize (lg_sl ([.ref h, .int x, .int y]) ++ List.replicate (5 - (lg_sl ([.ref h, .int x, .int y])).length) Slot.unset).toArray = ls at hl ⊢
  have hl : lv_has ls 5 [(0, .ref h), (1, .int x), (2, .int y)] := hl
  refine lv_aload_n hx hb dX1_farthest_0 rfl (lv_at hl 0 rfl) ?_
  refine va_get (D := (dC, dI)) (ci := 1) (v := .int (nI n)) (C := RX1) (T := TX1) (N := 8) hx hb hts hin0 hown hK hP 0 rfl rfl 1 (by decide) (hts (.fieldLink RX1 29 "OnlineHullModel" "corners" "I") (by decide +kernel)) (fun _ h9 => h9) rfl dX1_farthest_1 ?_
  refine lv_if_eq (tgt := 15) hx hb dX1_farthest_4 (by decide) (fun c_4 => ?_) (fun c_4 => ?_)
  · have g_4 : n = 0 := (nI_eq (a := n) (b := 0) (by omega) (by omega)).mp (c_4.trans nI_0.symm)
    refine lv_iconst (v := -1) hx hb dX1_farthest_15 (by decide) ?_
    exact W.iret (v := -1) hx hb hr (fun t ht hW => ⟨_, rfl, Or.inl ⟨by first | exact Or.inl (by omega) | exact Or.inr b_9, rfl⟩, ht⟩) (fun _ h => by cases h) dX1_farthest_16
  · have g_4 : n ≠ 0 := fun q => (fun q => c_4 (q.trans nI_0)) ((nI_eq (a := n) (b := 0) (by omega) (by omega)).mpr q)
    refine lv_iload_n hx hb dX1_farthest_7 rfl (lv_at hl 1 rfl) ?_
    refine lv_iload_n hx hb dX1_farthest_8 rfl (lv_at hl 2 rfl) ?_
    refine vp_callSi (va_Run.run (va_runS (As := [.int x, .int y]) (rest := []) ⟨hx, hb, hml, hown, hts⟩ (k_X1_inRange l x y) (va_cwS 2 hts gX1_farthest_X1_inRange rfl rfl rfl (by decide +kernel) ⟨Nat.le_of_ble_eq_true rfl, Nat.le_of_ble_eq_true rfl⟩) oh_pre0 rfl rfl hl.1 rfl (lv_room (Nat.le_of_ble_eq_true rfl)) dX1_farthest_9 ⟨Nat.zero_le _, Nat.zero_le _⟩)) (fun r_9 hr_9 => ?_)
    rcases hr_9 with ⟨b_9, hr_9⟩ | ⟨b_9, hr_9⟩ <;> subst hr_9
    · refine lv_if_ne (tgt := 17) hx hb dX1_farthest_12 (by decide) (fun _ => ?_) (fun q => absurd q (by decide))
      refine lv_iconst (v := nI 0) hx hb dX1_farthest_17 (by decide) ?_
      refine lv_istore_n (lv' := [(3, .int (nI 0)), (0, .ref h), (1, .int x), (2, .int y)]) hx hb dX1_farthest_18 rfl hl (by decide) rfl (fun ls hl => ?_)
      refine lv_iconst (v := nI 1) hx hb dX1_farthest_19 (by decide) ?_
      refine lv_istore (lv' := [(4, .int (nI 1)), (3, .int (nI 0)), (0, .ref h), (1, .int x), (2, .int y)]) hx hb dX1_farthest_20 hl (by decide) rfl (fun ls hl => ?_)
      have loop : ∀ (k_loop : Nat) (i : Nat) (b : Nat), (1 ≤ i) → (i ≤ n) → (n + 1 ≤ i + k_loop) → (b < i) → (∀ j, j < i → oh_rc (oh_pt xs ys) x.toInt y.toInt j ≤ oh_rc (oh_pt xs ys) x.toInt y.toInt b) → (∀ j, j < b → oh_rc (oh_pt xs ys) x.toInt y.toInt j < oh_rc (oh_pt xs ys) x.toInt y.toInt b) → ∀ (ls : Array Slot), lv_has ls 5 [(0, .ref h), (1, .int x), (2, .int y), (3, .int (nI b)), (4, .int (nI i))] → W p l e (headSpec wsX1_farthest ({ frames := 1, cells := 0, slots := 0, locals := 21 })).room s m ([.ref h, .int x, .int y] : List Value).toArray below meth c s.heap [] 0 0 (MQ below (vp_Si (fun r => oh_far n (oh_pt xs ys) x y r)) ([.ref h, .int x, .int y] : List Value).toArray s 0 0 (fun _ => False)) (F0 m 22 ls []) := by
        clear hl
        intro k_loop
        induction k_loop with
        | zero =>
          intro i b hi1 hi hk hb9 hI1 hI2
          exfalso; omega
        | succ k_loop ih_loop =>
          intro i b hi1 hi hk hb9 hI1 hI2 ls hl
          refine lv_iload hx hb dX1_farthest_22 (lv_at hl 4 rfl) ?_
          refine lv_aload_n hx hb dX1_farthest_24 rfl (lv_at hl 0 rfl) ?_
          refine va_get (D := (dC, dI)) (ci := 1) (v := .int (nI n)) (C := RX1) (T := TX1) (N := 8) hx hb hts hin0 hown hK hP 0 rfl rfl 1 (by decide) (hts (.fieldLink RX1 29 "OnlineHullModel" "corners" "I") (by decide +kernel)) (fun _ h9 => h9) rfl dX1_farthest_25 ?_
          refine lv_icmp_ge (tgt := 83) hx hb dX1_farthest_28 (by decide) (fun c_28 => ?_) (fun c_28 => ?_)
          · have g_28 : n ≤ i := (nI_leI (a := n) (b := i) (by omega) (by omega)).mp c_28
            refine lv_iload_n hx hb dX1_farthest_83 rfl (lv_at hl 3 rfl) ?_
            exact W.iret (v := nI b) hx hb hr (fun t ht hW => ⟨_, rfl, Or.inr ⟨b_9, b, by omega, rfl, fun j hj => hI1 j (by omega), hI2⟩, ht⟩) (fun _ h => by cases h) dX1_farthest_84
          · have g_28 : ¬ n ≤ i := fun q => c_28 ((nI_leI (a := n) (b := i) (by omega) (by omega)).mpr q)
            refine lv_aload_n hx hb dX1_farthest_31 rfl (lv_at hl 0 rfl) ?_
            refine va_get (D := (dC, dI)) (ci := 1) (v := .ref b1) (C := RX1) (T := TX1) (N := 8) hx hb hts hin0 hown hK hP 0 rfl rfl 3 (by decide) (hts (.fieldLink RX1 7 "OnlineHullModel" "xs" "[I") (by decide +kernel)) (fun _ h9 => h9) rfl dX1_farthest_32 ?_
            refine lv_iload hx hb dX1_farthest_35 (lv_at hl 4 rfl) ?_
            refine oh_ald hx hb hK hP 1 0 rfl rfl (k := i) (by omega) (by omega) dX1_farthest_37 ?_
            refine lv_iload_n hx hb dX1_farthest_38 rfl (lv_at hl 1 rfl) ?_
            refine lv_imul hx hb dX1_farthest_39 ?_
            refine lv_aload_n hx hb dX1_farthest_40 rfl (lv_at hl 0 rfl) ?_
            refine va_get (D := (dC, dI)) (ci := 1) (v := .ref b2) (C := RX1) (T := TX1) (N := 8) hx hb hts hin0 hown hK hP 0 rfl rfl 4 (by decide) (hts (.fieldLink RX1 13 "OnlineHullModel" "ys" "[I") (by decide +kernel)) (fun _ h9 => h9) rfl dX1_farthest_41 ?_
            refine lv_iload hx hb dX1_farthest_44 (lv_at hl 4 rfl) ?_
            refine oh_ald hx hb hK hP 2 0 rfl rfl (k := i) (by omega) (by omega) dX1_farthest_46 ?_
            refine lv_iload_n hx hb dX1_farthest_47 rfl (lv_at hl 2 rfl) ?_
            refine lv_imul hx hb dX1_farthest_48 ?_
            refine lv_iadd hx hb dX1_farthest_49 ?_
            refine lv_topi (fun t_49 e_49 => ?_)
            have w_49 : t_49.toInt = oh_rc (oh_pt xs ys) x.toInt y.toInt i := oh_rc32 e_49 b_9 (hR i (by omega))
            refine lv_aload_n hx hb dX1_farthest_50 rfl (lv_at hl 0 rfl) ?_
            refine va_get (D := (dC, dI)) (ci := 1) (v := .ref b1) (C := RX1) (T := TX1) (N := 8) hx hb hts hin0 hown hK hP 0 rfl rfl 3 (by decide) (hts (.fieldLink RX1 7 "OnlineHullModel" "xs" "[I") (by decide +kernel)) (fun _ h9 => h9) rfl dX1_farthest_51 ?_
            refine lv_iload_n hx hb dX1_farthest_54 rfl (lv_at hl 3 rfl) ?_
            refine oh_ald hx hb hK hP 1 0 rfl rfl (k := b) (by omega) (by omega) dX1_farthest_55 ?_
            refine lv_iload_n hx hb dX1_farthest_56 rfl (lv_at hl 1 rfl) ?_
            refine lv_imul hx hb dX1_farthest_57 ?_
            refine lv_aload_n hx hb dX1_farthest_58 rfl (lv_at hl 0 rfl) ?_
            refine va_get (D := (dC, dI)) (ci := 1) (v := .ref b2) (C := RX1) (T := TX1) (N := 8) hx hb hts hin0 hown hK hP 0 rfl rfl 4 (by decide) (hts (.fieldLink RX1 13 "OnlineHullModel" "ys" "[I") (by decide +kernel)) (fun _ h9 => h9) rfl dX1_farthest_59 ?_
            refine lv_iload_n hx hb dX1_farthest_62 rfl (lv_at hl 3 rfl) ?_
            refine oh_ald hx hb hK hP 2 0 rfl rfl (k := b) (by omega) (by omega) dX1_farthest_63 ?_
            refine lv_iload_n hx hb dX1_farthest_64 rfl (lv_at hl 2 rfl) ?_
            refine lv_imul hx hb dX1_farthest_65 ?_
            refine lv_iadd hx hb dX1_farthest_66 ?_
            refine lv_topi (fun t_66 e_66 => ?_)
            have w_66 : t_66.toInt = oh_rc (oh_pt xs ys) x.toInt y.toInt b := oh_rc32 e_66 b_9 (hR b (by omega))
            refine lv_icmp_le (tgt := 75) hx hb dX1_farthest_67 (by decide) (fun c_67 => ?_) (fun c_67 => ?_)
            · have g_67 : t_49.toInt ≤ t_66.toInt := oh_leI c_67
              refine lv_iload_n hx hb dX1_farthest_75 rfl (lv_at hl 3 rfl) ?_
              refine lv_istore_n (lv' := [(3, .int (nI b)), (0, .ref h), (1, .int x), (2, .int y), (4, .int (nI i))]) hx hb dX1_farthest_76 rfl hl (by decide) rfl (fun ls hl => ?_)
              refine lv_iinc (v := nI (i + 1)) (lv' := [(4, .int (nI (i + 1))), (3, .int (nI b)), (0, .ref h), (1, .int x), (2, .int y)]) hx hb dX1_farthest_77 hl (k := 4) rfl (nI_1 i) (by decide) rfl (fun ls hl => ?_)
              refine lv_goto (tgt := 22) hx hb dX1_farthest_80 (by decide) ?_
              exact ih_loop (i + 1) b (by omega) (by omega) (by omega) (by omega) (lt_s hI1 (by omega)) (hI2) ls (lv_sub hl [2, 3, 4, 1, 0] rfl)
            · have g_67 : t_66.toInt < t_49.toInt := oh_nleI c_67
              refine lv_iload hx hb dX1_farthest_70 (lv_at hl 4 rfl) ?_
              refine lv_goto (tgt := 76) hx hb dX1_farthest_72 (by decide) ?_
              refine lv_istore_n (lv' := [(3, .int (nI i)), (0, .ref h), (1, .int x), (2, .int y), (4, .int (nI i))]) hx hb dX1_farthest_76 rfl hl (by decide) rfl (fun ls hl => ?_)
              refine lv_iinc (v := nI (i + 1)) (lv' := [(4, .int (nI (i + 1))), (3, .int (nI i)), (0, .ref h), (1, .int x), (2, .int y)]) hx hb dX1_farthest_77 hl (k := 4) rfl (nI_1 i) (by decide) rfl (fun ls hl => ?_)
              refine lv_goto (tgt := 22) hx hb dX1_farthest_80 (by decide) ?_
              exact ih_loop (i + 1) i (by omega) (by omega) (by omega) (by omega) (lt_s (fun j hj => by have := hI1 j hj; omega) (Int.le_refl _)) (fun j hj => by have := hI1 j hj; omega) ls (lv_sub hl [2, 3, 4, 1, 0] rfl)
      exact loop (n + 1) 1 0 (by omega) (by omega) (by omega) (by omega) (fun j hj => by rw [show j = 0 by omega]; exact Int.le_refl _) (fun j hj => by omega) ls (lv_sub hl [2, 3, 4, 1, 0] rfl)
    · refine lv_if_ne (tgt := 17) hx hb dX1_farthest_12 (by decide) (fun q => absurd q (by decide)) (fun _ => ?_)
      refine lv_iconst (v := -1) hx hb dX1_farthest_15 (by decide) ?_
      exact W.iret (v := -1) hx hb hr (fun t ht hW => ⟨_, rfl, Or.inl ⟨by first | exact Or.inl (by omega) | exact Or.inr b_9, rfl⟩, ht⟩) (fun _ h => by cases h) dX1_farthest_16

set_option maxHeartbeats 4000000 in
set_option maxRecDepth 100000 in
theorem k_X1_tangent (l : Launch) (dC : Nat → ClassId) (dI : Nat → Nat → Nat) (cI : ClassId) (h b1 b2 b3 b4 b5 N n : Nat) (pts : Int32) (xs ys px py rd : Nat → Int32) (x y wh : Int32) (hN : N ≤ 64) (hn : n ≤ N) (hR : ∀ j, j < n → oh_inR (xs j) (ys j)) (hh : oh_hull n (oh_pt xs ys)) : Met l yX1_tangent wsX1_tangent ({ frames := 3, cells := 0, slots := 0, locals := 81 }) (va_Pc [.ref h, .int x, .int y, .int wh] (fun U => va_P (dC, dI) vwCl [(h, .inr (1, [.int (nI N), .int (nI n), .int pts, .ref b1, .ref b2, .ref b3, .ref b4, .ref b5])), (b1, .inl (cI, 66, .inl xs)), (b2, .inl (cI, 66, .inl ys)), (b3, .inl (cI, 66, .inl px)), (b4, .inl (cI, 66, .inl py)), (b5, .inl (cI, 67, .inl rd))] U.heap ∧ va_K (dC, dI) vwCl [(cI, .int)] U)) (vp_Si (fun r => oh_tan n (oh_pt xs ys) x y wh r)) 0 0 (fun _ => False) := by
  refine Met.ofW (cc := cX1_tangent) (maxL := 10) (ret := (some .int)) (by decide) rfl ?_
  intro p e s m args below meth c s₁ B hml hv
  obtain ⟨rfl, hP, hK⟩ := hv
  have hx := B.exec
  have hb := B.bytes
  have hr := B.returns
  have hts := atoms_spec (ws := wsX1_tangent) B.pre
  have hown : s.vm.findClass RX1 = some m.cls := findClass_of_methodNamed B.named
  have hlocks := B.notSynchronized
  have hin0 : ∀ w ∈ wsX10, w ∈ wsX1_tangent := fun w h => List.mem_cons_of_mem _ (List.mem_append_right _ h)
  have hl := lv_entry ([.ref h, .int x, .int y, .int wh]) (n := 10) (Nat.le_of_ble_eq_true rfl)
  rw [lg_entry_eq]
  generalize (lg_sl ([.ref h, .int x, .int y, .int wh]) ++ List.replicate (10 - (lg_sl ([.ref h, .int x, .int y, .int wh])).length) Slot.unset).toArray = ls at hl ⊢
  have hl : lv_has ls 10 [(0, .ref h), (1, .int x), (2, .int y), (3, .int wh)] := hl
  refine lv_aload_n hx hb dX1_tangent_0 rfl (lv_at hl 0 rfl) ?_
  refine va_get (D := (dC, dI)) (ci := 1) (v := .int (nI n)) (C := RX1) (T := TX1) (N := 8) hx hb hts hin0 hown hK hP 0 rfl rfl 1 (by decide) (hts (.fieldLink RX1 29 "OnlineHullModel" "corners" "I") (by decide +kernel)) (fun _ h9 => h9) rfl dX1_tangent_1 ?_
  refine lv_iconst (v := nI 3) hx hb dX1_tangent_4 (by decide) ?_
  refine lv_icmp_lt (tgt := 34) hx hb dX1_tangent_5 (by decide) (fun c_5 => ?_) (fun c_5 => ?_)
  · have g_5 : n < 3 := (nI_ltI (a := n) (b := 3) (by omega) (by omega)).mp c_5
    refine lv_iconst (v := -1) hx hb dX1_tangent_34 (by decide) ?_
    exact W.iret (v := -1) hx hb hr (fun t ht hW => ⟨_, rfl, Or.inr ⟨rfl, fun w => by first | exact b_19 w.2.1 | (have := w.1; omega) | (rcases w.2.2.2 with w | w <;> subst w <;> revert c_9 <;> decide) | (rcases w.2.2.2 with w | w <;> subst w <;> revert c_14 <;> decide) | (have w5 := (oh_plR0 (oh_pl3R w.1 hpl)).1.mpr w.2.2.1; omega)⟩, ht⟩) (fun _ h => by cases h) dX1_tangent_35
  · have g_5 : ¬ n < 3 := fun q => c_5 ((nI_ltI (a := n) (b := 3) (by omega) (by omega)).mpr q)
    refine lv_iload_n hx hb dX1_tangent_8 rfl (lv_at hl 3 rfl) ?_
    refine lv_if_lt (tgt := 34) hx hb dX1_tangent_9 (by decide) (fun c_9 => ?_) (fun c_9 => ?_)
    · have g_9 : wh.toInt < 0 := oh_ltI0 c_9
      refine lv_iconst (v := -1) hx hb dX1_tangent_34 (by decide) ?_
      exact W.iret (v := -1) hx hb hr (fun t ht hW => ⟨_, rfl, Or.inr ⟨rfl, fun w => by first | exact b_19 w.2.1 | (have := w.1; omega) | (rcases w.2.2.2 with w | w <;> subst w <;> revert c_9 <;> decide) | (rcases w.2.2.2 with w | w <;> subst w <;> revert c_14 <;> decide) | (have w5 := (oh_plR0 (oh_pl3R w.1 hpl)).1.mpr w.2.2.1; omega)⟩, ht⟩) (fun _ h => by cases h) dX1_tangent_35
    · have g_9 : 0 ≤ wh.toInt := oh_nltI0 c_9
      refine lv_iload_n hx hb dX1_tangent_12 rfl (lv_at hl 3 rfl) ?_
      refine lv_iconst (v := nI 1) hx hb dX1_tangent_13 (by decide) ?_
      refine lv_icmp_gt (tgt := 34) hx hb dX1_tangent_14 (by decide) (fun c_14 => ?_) (fun c_14 => ?_)
      · have g_14 : (1 : Int) < wh.toInt := by have q := oh_ltI c_14; rw [nI_toInt (n := 1) (by omega)] at q; exact q
        refine lv_iconst (v := -1) hx hb dX1_tangent_34 (by decide) ?_
        exact W.iret (v := -1) hx hb hr (fun t ht hW => ⟨_, rfl, Or.inr ⟨rfl, fun w => by first | exact b_19 w.2.1 | (have := w.1; omega) | (rcases w.2.2.2 with w | w <;> subst w <;> revert c_9 <;> decide) | (rcases w.2.2.2 with w | w <;> subst w <;> revert c_14 <;> decide) | (have w5 := (oh_plR0 (oh_pl3R w.1 hpl)).1.mpr w.2.2.1; omega)⟩, ht⟩) (fun _ h => by cases h) dX1_tangent_35
      · have g_14 : wh.toInt ≤ (1 : Int) := by have q := oh_nltI c_14; rw [nI_toInt (n := 1) (by omega)] at q; exact q
        refine lv_iload_n hx hb dX1_tangent_17 rfl (lv_at hl 1 rfl) ?_
        refine lv_iload_n hx hb dX1_tangent_18 rfl (lv_at hl 2 rfl) ?_
        refine vp_callSi (va_Run.run (va_runS (As := [.int x, .int y]) (rest := []) ⟨hx, hb, hml, hown, hts⟩ (k_X1_inRange l x y) (va_cwS 2 hts gX1_tangent_X1_inRange rfl rfl rfl (by decide +kernel) ⟨Nat.le_of_ble_eq_true rfl, Nat.le_of_ble_eq_true rfl⟩) oh_pre0 rfl rfl hl.1 rfl (lv_room (Nat.le_of_ble_eq_true rfl)) dX1_tangent_19 ⟨Nat.zero_le _, Nat.zero_le _⟩)) (fun r_19 hr_19 => ?_)
        rcases hr_19 with ⟨b_19, hr_19⟩ | ⟨b_19, hr_19⟩ <;> subst hr_19
        · refine lv_if_eq (tgt := 34) hx hb dX1_tangent_22 (by decide) (fun q => absurd q (by decide)) (fun _ => ?_)
          refine lv_aload_n hx hb dX1_tangent_25 rfl (lv_at hl 0 rfl) ?_
          refine lv_iload_n hx hb dX1_tangent_26 rfl (lv_at hl 1 rfl) ?_
          refine lv_iload_n hx hb dX1_tangent_27 rfl (lv_at hl 2 rfl) ?_
          refine vp_callSi (va_Run.run (va_runV (As := [.int x, .int y]) (rest := []) ⟨hx, hb, hml, hown, hts⟩ (k_X1_inside l dC dI cI h b1 b2 b3 b4 b5 N n pts xs ys px py rd x y hN hn hR hh) (cwV 2 hts gX1_tangent_X1_inside rfl rfl rfl (by decide +kernel) ⟨Nat.le_of_ble_eq_true rfl, Nat.le_of_ble_eq_true rfl⟩) (oh_pre (ci := 1) (q0 := 0) hK hP rfl rfl) rfl rfl hl.1 rfl (lv_room (Nat.le_of_ble_eq_true rfl)) dX1_tangent_28 ⟨Nat.zero_le _, Nat.zero_le _⟩)) (fun r_28 hr_28 => ?_)
          have hpl : oh_pl3 n (oh_pt xs ys) (x.toInt, y.toInt) r_28 := hr_28.elim (fun w => w.2) (fun w => absurd b_19 w.1)
          refine lv_if_le (tgt := 36) hx hb dX1_tangent_31 (by decide) (fun c_31 => ?_) (fun c_31 => ?_)
          · have g_31 : r_28.toInt ≤ 0 := oh_leI0 c_31
            have hout : ∃ j, j < n ∧ oh_sd n (oh_pt xs ys) (x.toInt, y.toInt) j < 0 := (oh_plR0 (oh_pl3R (by omega) hpl)).1.mp (by have := (oh_plR0 (oh_pl3R (by omega) hpl)).2; omega)
            have hwh : wh = 0 ∨ wh = 1 := by rcases (show wh.toInt = 0 ∨ wh.toInt = 1 by omega) with w | w; exact Or.inl (Int32.toInt_inj.mp w); exact Or.inr (Int32.toInt_inj.mp w)
            have hz0 : wh = 0 ↔ wh.toInt = 0 := ⟨fun e => by rw [e]; rfl, fun e => Int32.toInt_inj.mp e⟩
            refine lv_iconst (v := -1) hx hb dX1_tangent_36 (by decide) ?_
            refine lv_istore (lv' := [(4, .int (-1)), (0, .ref h), (1, .int x), (2, .int y), (3, .int wh)]) hx hb dX1_tangent_37 hl (by decide) rfl (fun ls hl => ?_)
            refine lv_iconst (v := nI 0) hx hb dX1_tangent_39 (by decide) ?_
            refine lv_istore (lv' := [(5, .int (nI 0)), (4, .int (-1)), (0, .ref h), (1, .int x), (2, .int y), (3, .int wh)]) hx hb dX1_tangent_40 hl (by decide) rfl (fun ls hl => ?_)
            have loop : ∀ (k_loop : Nat) (i : Nat) (fo : Int32), (i ≤ n) → (n + 1 ≤ i + k_loop) → ((fo = -1 ∧ ∀ j, j < i → ¬ ((wh = 0 ∧ oh_sd n (oh_pt xs ys) (x.toInt, y.toInt) j < 0 ∧ 0 ≤ oh_sd n (oh_pt xs ys) (x.toInt, y.toInt) (oh_pv n j)) ∨ (wh = 1 ∧ 0 ≤ oh_sd n (oh_pt xs ys) (x.toInt, y.toInt) j ∧ oh_sd n (oh_pt xs ys) (x.toInt, y.toInt) (oh_pv n j) < 0))) ∨ (∃ j, j < i ∧ fo = nI j ∧ ((wh = 0 ∧ oh_sd n (oh_pt xs ys) (x.toInt, y.toInt) j < 0 ∧ 0 ≤ oh_sd n (oh_pt xs ys) (x.toInt, y.toInt) (oh_pv n j)) ∨ (wh = 1 ∧ 0 ≤ oh_sd n (oh_pt xs ys) (x.toInt, y.toInt) j ∧ oh_sd n (oh_pt xs ys) (x.toInt, y.toInt) (oh_pv n j) < 0)))) → ∀ (ls : Array Slot), lv_has ls 10 [(0, .ref h), (1, .int x), (2, .int y), (3, .int wh), (4, .int fo), (5, .int (nI i))] → W p l e (headSpec wsX1_tangent ({ frames := 3, cells := 0, slots := 0, locals := 81 })).room s m ([.ref h, .int x, .int y, .int wh] : List Value).toArray below meth c s.heap [] 0 0 (MQ below (vp_Si (fun r => oh_tan n (oh_pt xs ys) x y wh r)) ([.ref h, .int x, .int y, .int wh] : List Value).toArray s 0 0 (fun _ => False)) (F0 m 42 ls []) := by
              clear hl
              intro k_loop
              induction k_loop with
              | zero =>
                intro i fo hi hk hI
                exfalso; omega
              | succ k_loop ih_loop =>
                intro i fo hi hk hI ls hl
                refine lv_iload hx hb dX1_tangent_42 (lv_at hl 5 rfl) ?_
                refine lv_aload_n hx hb dX1_tangent_44 rfl (lv_at hl 0 rfl) ?_
                refine va_get (D := (dC, dI)) (ci := 1) (v := .int (nI n)) (C := RX1) (T := TX1) (N := 8) hx hb hts hin0 hown hK hP 0 rfl rfl 1 (by decide) (hts (.fieldLink RX1 29 "OnlineHullModel" "corners" "I") (by decide +kernel)) (fun _ h9 => h9) rfl dX1_tangent_45 ?_
                refine lv_icmp_ge (tgt := 170) hx hb dX1_tangent_48 (by decide) (fun c_48 => ?_) (fun c_48 => ?_)
                · have g_48 : n ≤ i := (nI_leI (a := n) (b := i) (by omega) (by omega)).mp c_48
                  refine lv_iload hx hb dX1_tangent_170 (lv_at hl 4 rfl) ?_
                  exact W.iret (v := fo) hx hb hr (fun t ht hW => ⟨_, rfl, by rw [show i = n by omega] at hI; exact oh_tanR (by omega) b_19 hout hwh hI, ht⟩) (fun _ h => by cases h) dX1_tangent_172
                · have g_48 : ¬ n ≤ i := fun q => c_48 ((nI_leI (a := n) (b := i) (by omega) (by omega)).mpr q)
                  refine lv_iload hx hb dX1_tangent_51 (lv_at hl 5 rfl) ?_
                  refine lv_if_ne (tgt := 65) hx hb dX1_tangent_53 (by decide) (fun c_53 => ?_) (fun c_53 => ?_)
                  · have g_53 : i ≠ 0 := fun q => (fun q => c_53 (q.trans nI_0)) ((nI_eq (a := i) (b := 0) (by omega) (by omega)).mpr q)
                    refine lv_iload hx hb dX1_tangent_65 (lv_at hl 5 rfl) ?_
                    refine lv_iconst (v := nI 1) hx hb dX1_tangent_67 (by decide) ?_
                    refine lv_isub hx hb dX1_tangent_68 ?_
                    rw [pk_sub (a := i) (b := 1) (by omega)]
                    refine lv_istore (lv' := [(6, .int (nI (i - 1))), (0, .ref h), (1, .int x), (2, .int y), (3, .int wh), (4, .int fo), (5, .int (nI i))]) hx hb dX1_tangent_69 hl (by decide) rfl (fun ls hl => ?_)
                    refine lv_aload_n hx hb dX1_tangent_71 rfl (lv_at hl 1 rfl) ?_
                    refine lv_iload hx hb dX1_tangent_72 (lv_at hl 6 rfl) ?_
                    refine lv_iload_n hx hb dX1_tangent_74 rfl (lv_at hl 2 rfl) ?_
                    refine lv_iload_n hx hb dX1_tangent_75 rfl (lv_at hl 3 rfl) ?_
                    refine vp_callSl (va_Run.run (va_runV (As := [.int (nI i), .int x, .int y]) (rest := []) ⟨hx, hb, hml, hown, hts⟩ (k_X1_side l dC dI cI h b1 b2 b3 b4 b5 N n pts xs ys px py rd i x y hN hn (by omega) hR b_19) (cwV 3 hts gX1_tangent_X1_side rfl rfl rfl (by decide +kernel) ⟨Nat.le_of_ble_eq_true rfl, Nat.le_of_ble_eq_true rfl⟩) (oh_pre (ci := 1) (q0 := 0) hK hP rfl rfl) rfl rfl hl.1 rfl (lv_room (Nat.le_of_ble_eq_true rfl)) dX1_tangent_76 ⟨Nat.zero_le _, Nat.zero_le _⟩)) (fun r_76 hr_76 => ?_)
                    refine lv_lconst (v := 0) hx hb dX1_tangent_79 (by decide) ?_
                    refine W.lcmp hx hb dX1_tangent_80 ?_
                    refine lv_if_ge (tgt := 88) hx hb dX1_tangent_81 (by decide) (fun c_81 => ?_) (fun c_81 => ?_)
                    · have g_81 : r_76.toInt ≥ 0 := oh_lc_ge0 c_81
                      refine lv_iconst (v := nI 0) hx hb dX1_tangent_88 (by decide) ?_
                      refine lv_istore (lv' := [(7, .int (nI 0)), (6, .int (nI (i - 1))), (0, .ref h), (1, .int x), (2, .int y), (3, .int wh), (4, .int fo), (5, .int (nI i))]) hx hb dX1_tangent_89 hl (by decide) rfl (fun ls hl => ?_)
                      refine lv_aload_n hx hb dX1_tangent_91 rfl (lv_at hl 2 rfl) ?_
                      refine lv_iload hx hb dX1_tangent_92 (lv_at hl 1 rfl) ?_
                      refine lv_iload_n hx hb dX1_tangent_94 rfl (lv_at hl 3 rfl) ?_
                      refine lv_iload_n hx hb dX1_tangent_95 rfl (lv_at hl 4 rfl) ?_
                      refine vp_callSl (va_Run.run (va_runV (As := [.int (nI (i - 1)), .int x, .int y]) (rest := []) ⟨hx, hb, hml, hown, hts⟩ (k_X1_side l dC dI cI h b1 b2 b3 b4 b5 N n pts xs ys px py rd ((i - 1)) x y hN hn (by omega) hR b_19) (cwV 3 hts gX1_tangent_X1_side rfl rfl rfl (by decide +kernel) ⟨Nat.le_of_ble_eq_true rfl, Nat.le_of_ble_eq_true rfl⟩) (oh_pre (ci := 1) (q0 := 0) hK hP rfl rfl) rfl rfl hl.1 rfl (lv_room (Nat.le_of_ble_eq_true rfl)) dX1_tangent_96 ⟨Nat.zero_le _, Nat.zero_le _⟩)) (fun r_96 hr_96 => ?_)
                      have hr_96 : r_96.toInt = oh_sd n (oh_pt xs ys) (x.toInt, y.toInt) (oh_pv n i) := by rw [hr_96]; unfold oh_pv; first | rw [if_pos (by omega)] | rw [if_neg (by omega)]
                      refine lv_lconst (v := 0) hx hb dX1_tangent_99 (by decide) ?_
                      refine W.lcmp hx hb dX1_tangent_100 ?_
                      refine lv_if_ge (tgt := 108) hx hb dX1_tangent_101 (by decide) (fun c_101 => ?_) (fun c_101 => ?_)
                      · have g_101 : r_96.toInt ≥ 0 := oh_lc_ge0 c_101
                        refine lv_iconst (v := nI 0) hx hb dX1_tangent_108 (by decide) ?_
                        refine lv_istore (lv' := [(8, .int (nI 0)), (7, .int (nI 0)), (6, .int (nI (i - 1))), (0, .ref h), (1, .int x), (2, .int y), (3, .int wh), (4, .int fo), (5, .int (nI i))]) hx hb dX1_tangent_109 hl (by decide) rfl (fun ls hl => ?_)
                        refine lv_iload_n hx hb dX1_tangent_111 rfl (lv_at hl 6 rfl) ?_
                        refine lv_if_ne (tgt := 133) hx hb dX1_tangent_112 (by decide) (fun c_112 => ?_) (fun c_112 => ?_)
                        · have g_112 : wh.toInt ≠ 0 := oh_neI0 c_112
                          have hw1 : wh = 1 := hwh.resolve_left c_112
                          refine lv_iload hx hb dX1_tangent_133 (lv_at hl 0 rfl) ?_
                          refine lv_if_eq (tgt := 147) hx hb dX1_tangent_135 (by decide) (fun _ => ?_) (fun q => absurd q (by decide))
                          refine lv_iconst (v := nI 0) hx hb dX1_tangent_147 (by decide) ?_
                          refine lv_istore (lv' := [(9, .int (nI 0)), (8, .int (nI 0)), (7, .int (nI 0)), (6, .int (nI (i - 1))), (0, .ref h), (1, .int x), (2, .int y), (3, .int wh), (4, .int fo), (5, .int (nI i))]) hx hb dX1_tangent_148 hl (by decide) rfl (fun ls hl => ?_)
                          refine lv_iload hx hb dX1_tangent_150 (lv_at hl 0 rfl) ?_
                          refine lv_if_eq (tgt := 160) hx hb dX1_tangent_152 (by decide) (fun _ => ?_) (fun q => absurd q (by decide))
                          refine lv_iload hx hb dX1_tangent_160 (lv_at hl 8 rfl) ?_
                          refine lv_istore (lv' := [(4, .int fo), (9, .int (nI 0)), (8, .int (nI 0)), (7, .int (nI 0)), (6, .int (nI (i - 1))), (0, .ref h), (1, .int x), (2, .int y), (3, .int wh), (5, .int (nI i))]) hx hb dX1_tangent_162 hl (by decide) rfl (fun ls hl => ?_)
                          refine lv_iinc (v := nI (i + 1)) (lv' := [(5, .int (nI (i + 1))), (4, .int fo), (9, .int (nI 0)), (8, .int (nI 0)), (7, .int (nI 0)), (6, .int (nI (i - 1))), (0, .ref h), (1, .int x), (2, .int y), (3, .int wh)]) hx hb dX1_tangent_164 hl (k := 9) rfl (nI_1 i) (by decide) rfl (fun ls hl => ?_)
                          refine lv_goto (tgt := 42) hx hb dX1_tangent_167 (by decide) ?_
                          exact ih_loop (i + 1) fo (by omega) (by omega) (oh_tanK hI (fun w => by rcases w with ⟨w1, w2, w3⟩ | ⟨w1, w2, w3⟩ <;> first | omega | exact absurd w1 c_112 | exact absurd (c_112.symm.trans w1) (by decide))) ls (lv_sub hl [6, 7, 8, 9, 1, 0] rfl)
                        · have g_112 : wh.toInt = 0 := oh_eqI0 c_112
                          refine lv_iload hx hb dX1_tangent_115 (lv_at hl 1 rfl) ?_
                          refine lv_if_eq (tgt := 129) hx hb dX1_tangent_117 (by decide) (fun _ => ?_) (fun q => absurd q (by decide))
                          refine lv_iconst (v := nI 0) hx hb dX1_tangent_129 (by decide) ?_
                          refine lv_goto (tgt := 148) hx hb dX1_tangent_130 (by decide) ?_
                          refine lv_istore (lv' := [(9, .int (nI 0)), (8, .int (nI 0)), (7, .int (nI 0)), (6, .int (nI (i - 1))), (0, .ref h), (1, .int x), (2, .int y), (3, .int wh), (4, .int fo), (5, .int (nI i))]) hx hb dX1_tangent_148 hl (by decide) rfl (fun ls hl => ?_)
                          refine lv_iload hx hb dX1_tangent_150 (lv_at hl 0 rfl) ?_
                          refine lv_if_eq (tgt := 160) hx hb dX1_tangent_152 (by decide) (fun _ => ?_) (fun q => absurd q (by decide))
                          refine lv_iload hx hb dX1_tangent_160 (lv_at hl 8 rfl) ?_
                          refine lv_istore (lv' := [(4, .int fo), (9, .int (nI 0)), (8, .int (nI 0)), (7, .int (nI 0)), (6, .int (nI (i - 1))), (0, .ref h), (1, .int x), (2, .int y), (3, .int wh), (5, .int (nI i))]) hx hb dX1_tangent_162 hl (by decide) rfl (fun ls hl => ?_)
                          refine lv_iinc (v := nI (i + 1)) (lv' := [(5, .int (nI (i + 1))), (4, .int fo), (9, .int (nI 0)), (8, .int (nI 0)), (7, .int (nI 0)), (6, .int (nI (i - 1))), (0, .ref h), (1, .int x), (2, .int y), (3, .int wh)]) hx hb dX1_tangent_164 hl (k := 9) rfl (nI_1 i) (by decide) rfl (fun ls hl => ?_)
                          refine lv_goto (tgt := 42) hx hb dX1_tangent_167 (by decide) ?_
                          exact ih_loop (i + 1) fo (by omega) (by omega) (oh_tanK hI (fun w => by rcases w with ⟨w1, w2, w3⟩ | ⟨w1, w2, w3⟩ <;> first | omega | exact absurd w1 c_112 | exact absurd (c_112.symm.trans w1) (by decide))) ls (lv_sub hl [6, 7, 8, 9, 1, 0] rfl)
                      · have g_101 : r_96.toInt < 0 := oh_lc_nge0 c_101
                        refine lv_iconst (v := nI 1) hx hb dX1_tangent_104 (by decide) ?_
                        refine lv_goto (tgt := 109) hx hb dX1_tangent_105 (by decide) ?_
                        refine lv_istore (lv' := [(8, .int (nI 1)), (7, .int (nI 0)), (6, .int (nI (i - 1))), (0, .ref h), (1, .int x), (2, .int y), (3, .int wh), (4, .int fo), (5, .int (nI i))]) hx hb dX1_tangent_109 hl (by decide) rfl (fun ls hl => ?_)
                        refine lv_iload_n hx hb dX1_tangent_111 rfl (lv_at hl 6 rfl) ?_
                        refine lv_if_ne (tgt := 133) hx hb dX1_tangent_112 (by decide) (fun c_112 => ?_) (fun c_112 => ?_)
                        · have g_112 : wh.toInt ≠ 0 := oh_neI0 c_112
                          have hw1 : wh = 1 := hwh.resolve_left c_112
                          refine lv_iload hx hb dX1_tangent_133 (lv_at hl 0 rfl) ?_
                          refine lv_if_eq (tgt := 147) hx hb dX1_tangent_135 (by decide) (fun q => absurd q (by decide)) (fun _ => ?_)
                          refine lv_iload hx hb dX1_tangent_138 (lv_at hl 1 rfl) ?_
                          refine lv_if_ne (tgt := 147) hx hb dX1_tangent_140 (by decide) (fun q => absurd q (by decide)) (fun _ => ?_)
                          refine lv_iconst (v := nI 1) hx hb dX1_tangent_143 (by decide) ?_
                          refine lv_goto (tgt := 148) hx hb dX1_tangent_144 (by decide) ?_
                          refine lv_istore (lv' := [(9, .int (nI 1)), (8, .int (nI 1)), (7, .int (nI 0)), (6, .int (nI (i - 1))), (0, .ref h), (1, .int x), (2, .int y), (3, .int wh), (4, .int fo), (5, .int (nI i))]) hx hb dX1_tangent_148 hl (by decide) rfl (fun ls hl => ?_)
                          refine lv_iload hx hb dX1_tangent_150 (lv_at hl 0 rfl) ?_
                          refine lv_if_eq (tgt := 160) hx hb dX1_tangent_152 (by decide) (fun q => absurd q (by decide)) (fun _ => ?_)
                          refine lv_iload hx hb dX1_tangent_155 (lv_at hl 9 rfl) ?_
                          refine lv_goto (tgt := 162) hx hb dX1_tangent_157 (by decide) ?_
                          refine lv_istore (lv' := [(4, .int (nI i)), (9, .int (nI 1)), (8, .int (nI 1)), (7, .int (nI 0)), (6, .int (nI (i - 1))), (0, .ref h), (1, .int x), (2, .int y), (3, .int wh), (5, .int (nI i))]) hx hb dX1_tangent_162 hl (by decide) rfl (fun ls hl => ?_)
                          refine lv_iinc (v := nI (i + 1)) (lv' := [(5, .int (nI (i + 1))), (4, .int (nI i)), (9, .int (nI 1)), (8, .int (nI 1)), (7, .int (nI 0)), (6, .int (nI (i - 1))), (0, .ref h), (1, .int x), (2, .int y), (3, .int wh)]) hx hb dX1_tangent_164 hl (k := 9) rfl (nI_1 i) (by decide) rfl (fun ls hl => ?_)
                          refine lv_goto (tgt := 42) hx hb dX1_tangent_167 (by decide) ?_
                          exact ih_loop (i + 1) (nI i) (by omega) (by omega) (Or.inr ⟨i, by omega, rfl, by first | exact Or.inr ⟨hw1, by omega, by omega⟩ | exact Or.inl ⟨c_112, by omega, by omega⟩⟩) ls (lv_sub hl [6, 7, 8, 9, 1, 0] rfl)
                        · have g_112 : wh.toInt = 0 := oh_eqI0 c_112
                          refine lv_iload hx hb dX1_tangent_115 (lv_at hl 1 rfl) ?_
                          refine lv_if_eq (tgt := 129) hx hb dX1_tangent_117 (by decide) (fun _ => ?_) (fun q => absurd q (by decide))
                          refine lv_iconst (v := nI 0) hx hb dX1_tangent_129 (by decide) ?_
                          refine lv_goto (tgt := 148) hx hb dX1_tangent_130 (by decide) ?_
                          refine lv_istore (lv' := [(9, .int (nI 0)), (8, .int (nI 1)), (7, .int (nI 0)), (6, .int (nI (i - 1))), (0, .ref h), (1, .int x), (2, .int y), (3, .int wh), (4, .int fo), (5, .int (nI i))]) hx hb dX1_tangent_148 hl (by decide) rfl (fun ls hl => ?_)
                          refine lv_iload hx hb dX1_tangent_150 (lv_at hl 0 rfl) ?_
                          refine lv_if_eq (tgt := 160) hx hb dX1_tangent_152 (by decide) (fun _ => ?_) (fun q => absurd q (by decide))
                          refine lv_iload hx hb dX1_tangent_160 (lv_at hl 8 rfl) ?_
                          refine lv_istore (lv' := [(4, .int fo), (9, .int (nI 0)), (8, .int (nI 1)), (7, .int (nI 0)), (6, .int (nI (i - 1))), (0, .ref h), (1, .int x), (2, .int y), (3, .int wh), (5, .int (nI i))]) hx hb dX1_tangent_162 hl (by decide) rfl (fun ls hl => ?_)
                          refine lv_iinc (v := nI (i + 1)) (lv' := [(5, .int (nI (i + 1))), (4, .int fo), (9, .int (nI 0)), (8, .int (nI 1)), (7, .int (nI 0)), (6, .int (nI (i - 1))), (0, .ref h), (1, .int x), (2, .int y), (3, .int wh)]) hx hb dX1_tangent_164 hl (k := 9) rfl (nI_1 i) (by decide) rfl (fun ls hl => ?_)
                          refine lv_goto (tgt := 42) hx hb dX1_tangent_167 (by decide) ?_
                          exact ih_loop (i + 1) fo (by omega) (by omega) (oh_tanK hI (fun w => by rcases w with ⟨w1, w2, w3⟩ | ⟨w1, w2, w3⟩ <;> first | omega | exact absurd w1 c_112 | exact absurd (c_112.symm.trans w1) (by decide))) ls (lv_sub hl [6, 7, 8, 9, 1, 0] rfl)
                    · have g_81 : r_76.toInt < 0 := oh_lc_nge0 c_81
                      refine lv_iconst (v := nI 1) hx hb dX1_tangent_84 (by decide) ?_
                      refine lv_goto (tgt := 89) hx hb dX1_tangent_85 (by decide) ?_
                      refine lv_istore (lv' := [(7, .int (nI 1)), (6, .int (nI (i - 1))), (0, .ref h), (1, .int x), (2, .int y), (3, .int wh), (4, .int fo), (5, .int (nI i))]) hx hb dX1_tangent_89 hl (by decide) rfl (fun ls hl => ?_)
                      refine lv_aload_n hx hb dX1_tangent_91 rfl (lv_at hl 2 rfl) ?_
                      refine lv_iload hx hb dX1_tangent_92 (lv_at hl 1 rfl) ?_
                      refine lv_iload_n hx hb dX1_tangent_94 rfl (lv_at hl 3 rfl) ?_
                      refine lv_iload_n hx hb dX1_tangent_95 rfl (lv_at hl 4 rfl) ?_
                      refine vp_callSl (va_Run.run (va_runV (As := [.int (nI (i - 1)), .int x, .int y]) (rest := []) ⟨hx, hb, hml, hown, hts⟩ (k_X1_side l dC dI cI h b1 b2 b3 b4 b5 N n pts xs ys px py rd ((i - 1)) x y hN hn (by omega) hR b_19) (cwV 3 hts gX1_tangent_X1_side rfl rfl rfl (by decide +kernel) ⟨Nat.le_of_ble_eq_true rfl, Nat.le_of_ble_eq_true rfl⟩) (oh_pre (ci := 1) (q0 := 0) hK hP rfl rfl) rfl rfl hl.1 rfl (lv_room (Nat.le_of_ble_eq_true rfl)) dX1_tangent_96 ⟨Nat.zero_le _, Nat.zero_le _⟩)) (fun r_96 hr_96 => ?_)
                      have hr_96 : r_96.toInt = oh_sd n (oh_pt xs ys) (x.toInt, y.toInt) (oh_pv n i) := by rw [hr_96]; unfold oh_pv; first | rw [if_pos (by omega)] | rw [if_neg (by omega)]
                      refine lv_lconst (v := 0) hx hb dX1_tangent_99 (by decide) ?_
                      refine W.lcmp hx hb dX1_tangent_100 ?_
                      refine lv_if_ge (tgt := 108) hx hb dX1_tangent_101 (by decide) (fun c_101 => ?_) (fun c_101 => ?_)
                      · have g_101 : r_96.toInt ≥ 0 := oh_lc_ge0 c_101
                        refine lv_iconst (v := nI 0) hx hb dX1_tangent_108 (by decide) ?_
                        refine lv_istore (lv' := [(8, .int (nI 0)), (7, .int (nI 1)), (6, .int (nI (i - 1))), (0, .ref h), (1, .int x), (2, .int y), (3, .int wh), (4, .int fo), (5, .int (nI i))]) hx hb dX1_tangent_109 hl (by decide) rfl (fun ls hl => ?_)
                        refine lv_iload_n hx hb dX1_tangent_111 rfl (lv_at hl 6 rfl) ?_
                        refine lv_if_ne (tgt := 133) hx hb dX1_tangent_112 (by decide) (fun c_112 => ?_) (fun c_112 => ?_)
                        · have g_112 : wh.toInt ≠ 0 := oh_neI0 c_112
                          have hw1 : wh = 1 := hwh.resolve_left c_112
                          refine lv_iload hx hb dX1_tangent_133 (lv_at hl 0 rfl) ?_
                          refine lv_if_eq (tgt := 147) hx hb dX1_tangent_135 (by decide) (fun _ => ?_) (fun q => absurd q (by decide))
                          refine lv_iconst (v := nI 0) hx hb dX1_tangent_147 (by decide) ?_
                          refine lv_istore (lv' := [(9, .int (nI 0)), (8, .int (nI 0)), (7, .int (nI 1)), (6, .int (nI (i - 1))), (0, .ref h), (1, .int x), (2, .int y), (3, .int wh), (4, .int fo), (5, .int (nI i))]) hx hb dX1_tangent_148 hl (by decide) rfl (fun ls hl => ?_)
                          refine lv_iload hx hb dX1_tangent_150 (lv_at hl 0 rfl) ?_
                          refine lv_if_eq (tgt := 160) hx hb dX1_tangent_152 (by decide) (fun _ => ?_) (fun q => absurd q (by decide))
                          refine lv_iload hx hb dX1_tangent_160 (lv_at hl 8 rfl) ?_
                          refine lv_istore (lv' := [(4, .int fo), (9, .int (nI 0)), (8, .int (nI 0)), (7, .int (nI 1)), (6, .int (nI (i - 1))), (0, .ref h), (1, .int x), (2, .int y), (3, .int wh), (5, .int (nI i))]) hx hb dX1_tangent_162 hl (by decide) rfl (fun ls hl => ?_)
                          refine lv_iinc (v := nI (i + 1)) (lv' := [(5, .int (nI (i + 1))), (4, .int fo), (9, .int (nI 0)), (8, .int (nI 0)), (7, .int (nI 1)), (6, .int (nI (i - 1))), (0, .ref h), (1, .int x), (2, .int y), (3, .int wh)]) hx hb dX1_tangent_164 hl (k := 9) rfl (nI_1 i) (by decide) rfl (fun ls hl => ?_)
                          refine lv_goto (tgt := 42) hx hb dX1_tangent_167 (by decide) ?_
                          exact ih_loop (i + 1) fo (by omega) (by omega) (oh_tanK hI (fun w => by rcases w with ⟨w1, w2, w3⟩ | ⟨w1, w2, w3⟩ <;> first | omega | exact absurd w1 c_112 | exact absurd (c_112.symm.trans w1) (by decide))) ls (lv_sub hl [6, 7, 8, 9, 1, 0] rfl)
                        · have g_112 : wh.toInt = 0 := oh_eqI0 c_112
                          refine lv_iload hx hb dX1_tangent_115 (lv_at hl 1 rfl) ?_
                          refine lv_if_eq (tgt := 129) hx hb dX1_tangent_117 (by decide) (fun q => absurd q (by decide)) (fun _ => ?_)
                          refine lv_iload hx hb dX1_tangent_120 (lv_at hl 0 rfl) ?_
                          refine lv_if_ne (tgt := 129) hx hb dX1_tangent_122 (by decide) (fun q => absurd q (by decide)) (fun _ => ?_)
                          refine lv_iconst (v := nI 1) hx hb dX1_tangent_125 (by decide) ?_
                          refine lv_goto (tgt := 148) hx hb dX1_tangent_126 (by decide) ?_
                          refine lv_istore (lv' := [(9, .int (nI 1)), (8, .int (nI 0)), (7, .int (nI 1)), (6, .int (nI (i - 1))), (0, .ref h), (1, .int x), (2, .int y), (3, .int wh), (4, .int fo), (5, .int (nI i))]) hx hb dX1_tangent_148 hl (by decide) rfl (fun ls hl => ?_)
                          refine lv_iload hx hb dX1_tangent_150 (lv_at hl 0 rfl) ?_
                          refine lv_if_eq (tgt := 160) hx hb dX1_tangent_152 (by decide) (fun q => absurd q (by decide)) (fun _ => ?_)
                          refine lv_iload hx hb dX1_tangent_155 (lv_at hl 9 rfl) ?_
                          refine lv_goto (tgt := 162) hx hb dX1_tangent_157 (by decide) ?_
                          refine lv_istore (lv' := [(4, .int (nI i)), (9, .int (nI 1)), (8, .int (nI 0)), (7, .int (nI 1)), (6, .int (nI (i - 1))), (0, .ref h), (1, .int x), (2, .int y), (3, .int wh), (5, .int (nI i))]) hx hb dX1_tangent_162 hl (by decide) rfl (fun ls hl => ?_)
                          refine lv_iinc (v := nI (i + 1)) (lv' := [(5, .int (nI (i + 1))), (4, .int (nI i)), (9, .int (nI 1)), (8, .int (nI 0)), (7, .int (nI 1)), (6, .int (nI (i - 1))), (0, .ref h), (1, .int x), (2, .int y), (3, .int wh)]) hx hb dX1_tangent_164 hl (k := 9) rfl (nI_1 i) (by decide) rfl (fun ls hl => ?_)
                          refine lv_goto (tgt := 42) hx hb dX1_tangent_167 (by decide) ?_
                          exact ih_loop (i + 1) (nI i) (by omega) (by omega) (Or.inr ⟨i, by omega, rfl, by first | exact Or.inr ⟨hw1, by omega, by omega⟩ | exact Or.inl ⟨c_112, by omega, by omega⟩⟩) ls (lv_sub hl [6, 7, 8, 9, 1, 0] rfl)
                      · have g_101 : r_96.toInt < 0 := oh_lc_nge0 c_101
                        refine lv_iconst (v := nI 1) hx hb dX1_tangent_104 (by decide) ?_
                        refine lv_goto (tgt := 109) hx hb dX1_tangent_105 (by decide) ?_
                        refine lv_istore (lv' := [(8, .int (nI 1)), (7, .int (nI 1)), (6, .int (nI (i - 1))), (0, .ref h), (1, .int x), (2, .int y), (3, .int wh), (4, .int fo), (5, .int (nI i))]) hx hb dX1_tangent_109 hl (by decide) rfl (fun ls hl => ?_)
                        refine lv_iload_n hx hb dX1_tangent_111 rfl (lv_at hl 6 rfl) ?_
                        refine lv_if_ne (tgt := 133) hx hb dX1_tangent_112 (by decide) (fun c_112 => ?_) (fun c_112 => ?_)
                        · have g_112 : wh.toInt ≠ 0 := oh_neI0 c_112
                          have hw1 : wh = 1 := hwh.resolve_left c_112
                          refine lv_iload hx hb dX1_tangent_133 (lv_at hl 0 rfl) ?_
                          refine lv_if_eq (tgt := 147) hx hb dX1_tangent_135 (by decide) (fun q => absurd q (by decide)) (fun _ => ?_)
                          refine lv_iload hx hb dX1_tangent_138 (lv_at hl 1 rfl) ?_
                          refine lv_if_ne (tgt := 147) hx hb dX1_tangent_140 (by decide) (fun _ => ?_) (fun q => absurd q (by decide))
                          refine lv_iconst (v := nI 0) hx hb dX1_tangent_147 (by decide) ?_
                          refine lv_istore (lv' := [(9, .int (nI 0)), (8, .int (nI 1)), (7, .int (nI 1)), (6, .int (nI (i - 1))), (0, .ref h), (1, .int x), (2, .int y), (3, .int wh), (4, .int fo), (5, .int (nI i))]) hx hb dX1_tangent_148 hl (by decide) rfl (fun ls hl => ?_)
                          refine lv_iload hx hb dX1_tangent_150 (lv_at hl 0 rfl) ?_
                          refine lv_if_eq (tgt := 160) hx hb dX1_tangent_152 (by decide) (fun _ => ?_) (fun q => absurd q (by decide))
                          refine lv_iload hx hb dX1_tangent_160 (lv_at hl 8 rfl) ?_
                          refine lv_istore (lv' := [(4, .int fo), (9, .int (nI 0)), (8, .int (nI 1)), (7, .int (nI 1)), (6, .int (nI (i - 1))), (0, .ref h), (1, .int x), (2, .int y), (3, .int wh), (5, .int (nI i))]) hx hb dX1_tangent_162 hl (by decide) rfl (fun ls hl => ?_)
                          refine lv_iinc (v := nI (i + 1)) (lv' := [(5, .int (nI (i + 1))), (4, .int fo), (9, .int (nI 0)), (8, .int (nI 1)), (7, .int (nI 1)), (6, .int (nI (i - 1))), (0, .ref h), (1, .int x), (2, .int y), (3, .int wh)]) hx hb dX1_tangent_164 hl (k := 9) rfl (nI_1 i) (by decide) rfl (fun ls hl => ?_)
                          refine lv_goto (tgt := 42) hx hb dX1_tangent_167 (by decide) ?_
                          exact ih_loop (i + 1) fo (by omega) (by omega) (oh_tanK hI (fun w => by rcases w with ⟨w1, w2, w3⟩ | ⟨w1, w2, w3⟩ <;> first | omega | exact absurd w1 c_112 | exact absurd (c_112.symm.trans w1) (by decide))) ls (lv_sub hl [6, 7, 8, 9, 1, 0] rfl)
                        · have g_112 : wh.toInt = 0 := oh_eqI0 c_112
                          refine lv_iload hx hb dX1_tangent_115 (lv_at hl 1 rfl) ?_
                          refine lv_if_eq (tgt := 129) hx hb dX1_tangent_117 (by decide) (fun q => absurd q (by decide)) (fun _ => ?_)
                          refine lv_iload hx hb dX1_tangent_120 (lv_at hl 0 rfl) ?_
                          refine lv_if_ne (tgt := 129) hx hb dX1_tangent_122 (by decide) (fun _ => ?_) (fun q => absurd q (by decide))
                          refine lv_iconst (v := nI 0) hx hb dX1_tangent_129 (by decide) ?_
                          refine lv_goto (tgt := 148) hx hb dX1_tangent_130 (by decide) ?_
                          refine lv_istore (lv' := [(9, .int (nI 0)), (8, .int (nI 1)), (7, .int (nI 1)), (6, .int (nI (i - 1))), (0, .ref h), (1, .int x), (2, .int y), (3, .int wh), (4, .int fo), (5, .int (nI i))]) hx hb dX1_tangent_148 hl (by decide) rfl (fun ls hl => ?_)
                          refine lv_iload hx hb dX1_tangent_150 (lv_at hl 0 rfl) ?_
                          refine lv_if_eq (tgt := 160) hx hb dX1_tangent_152 (by decide) (fun _ => ?_) (fun q => absurd q (by decide))
                          refine lv_iload hx hb dX1_tangent_160 (lv_at hl 8 rfl) ?_
                          refine lv_istore (lv' := [(4, .int fo), (9, .int (nI 0)), (8, .int (nI 1)), (7, .int (nI 1)), (6, .int (nI (i - 1))), (0, .ref h), (1, .int x), (2, .int y), (3, .int wh), (5, .int (nI i))]) hx hb dX1_tangent_162 hl (by decide) rfl (fun ls hl => ?_)
                          refine lv_iinc (v := nI (i + 1)) (lv' := [(5, .int (nI (i + 1))), (4, .int fo), (9, .int (nI 0)), (8, .int (nI 1)), (7, .int (nI 1)), (6, .int (nI (i - 1))), (0, .ref h), (1, .int x), (2, .int y), (3, .int wh)]) hx hb dX1_tangent_164 hl (k := 9) rfl (nI_1 i) (by decide) rfl (fun ls hl => ?_)
                          refine lv_goto (tgt := 42) hx hb dX1_tangent_167 (by decide) ?_
                          exact ih_loop (i + 1) fo (by omega) (by omega) (oh_tanK hI (fun w => by rcases w with ⟨w1, w2, w3⟩ | ⟨w1, w2, w3⟩ <;> first | omega | exact absurd w1 c_112 | exact absurd (c_112.symm.trans w1) (by decide))) ls (lv_sub hl [6, 7, 8, 9, 1, 0] rfl)
                  · have g_53 : i = 0 := (nI_eq (a := i) (b := 0) (by omega) (by omega)).mp (c_53.trans nI_0.symm)
                    refine lv_aload_n hx hb dX1_tangent_56 rfl (lv_at hl 0 rfl) ?_
                    refine va_get (D := (dC, dI)) (ci := 1) (v := .int (nI n)) (C := RX1) (T := TX1) (N := 8) hx hb hts hin0 hown hK hP 0 rfl rfl 1 (by decide) (hts (.fieldLink RX1 29 "OnlineHullModel" "corners" "I") (by decide +kernel)) (fun _ h9 => h9) rfl dX1_tangent_57 ?_
                    refine lv_iconst (v := nI 1) hx hb dX1_tangent_60 (by decide) ?_
                    refine lv_isub hx hb dX1_tangent_61 ?_
                    rw [pk_sub (a := n) (b := 1) (by omega)]
                    refine lv_goto (tgt := 69) hx hb dX1_tangent_62 (by decide) ?_
                    refine lv_istore (lv' := [(6, .int (nI (n - 1))), (0, .ref h), (1, .int x), (2, .int y), (3, .int wh), (4, .int fo), (5, .int (nI i))]) hx hb dX1_tangent_69 hl (by decide) rfl (fun ls hl => ?_)
                    refine lv_aload_n hx hb dX1_tangent_71 rfl (lv_at hl 1 rfl) ?_
                    refine lv_iload hx hb dX1_tangent_72 (lv_at hl 6 rfl) ?_
                    refine lv_iload_n hx hb dX1_tangent_74 rfl (lv_at hl 2 rfl) ?_
                    refine lv_iload_n hx hb dX1_tangent_75 rfl (lv_at hl 3 rfl) ?_
                    refine vp_callSl (va_Run.run (va_runV (As := [.int (nI i), .int x, .int y]) (rest := []) ⟨hx, hb, hml, hown, hts⟩ (k_X1_side l dC dI cI h b1 b2 b3 b4 b5 N n pts xs ys px py rd i x y hN hn (by omega) hR b_19) (cwV 3 hts gX1_tangent_X1_side rfl rfl rfl (by decide +kernel) ⟨Nat.le_of_ble_eq_true rfl, Nat.le_of_ble_eq_true rfl⟩) (oh_pre (ci := 1) (q0 := 0) hK hP rfl rfl) rfl rfl hl.1 rfl (lv_room (Nat.le_of_ble_eq_true rfl)) dX1_tangent_76 ⟨Nat.zero_le _, Nat.zero_le _⟩)) (fun r_76 hr_76 => ?_)
                    refine lv_lconst (v := 0) hx hb dX1_tangent_79 (by decide) ?_
                    refine W.lcmp hx hb dX1_tangent_80 ?_
                    refine lv_if_ge (tgt := 88) hx hb dX1_tangent_81 (by decide) (fun c_81 => ?_) (fun c_81 => ?_)
                    · have g_81 : r_76.toInt ≥ 0 := oh_lc_ge0 c_81
                      refine lv_iconst (v := nI 0) hx hb dX1_tangent_88 (by decide) ?_
                      refine lv_istore (lv' := [(7, .int (nI 0)), (6, .int (nI (n - 1))), (0, .ref h), (1, .int x), (2, .int y), (3, .int wh), (4, .int fo), (5, .int (nI i))]) hx hb dX1_tangent_89 hl (by decide) rfl (fun ls hl => ?_)
                      refine lv_aload_n hx hb dX1_tangent_91 rfl (lv_at hl 2 rfl) ?_
                      refine lv_iload hx hb dX1_tangent_92 (lv_at hl 1 rfl) ?_
                      refine lv_iload_n hx hb dX1_tangent_94 rfl (lv_at hl 3 rfl) ?_
                      refine lv_iload_n hx hb dX1_tangent_95 rfl (lv_at hl 4 rfl) ?_
                      refine vp_callSl (va_Run.run (va_runV (As := [.int (nI (n - 1)), .int x, .int y]) (rest := []) ⟨hx, hb, hml, hown, hts⟩ (k_X1_side l dC dI cI h b1 b2 b3 b4 b5 N n pts xs ys px py rd ((n - 1)) x y hN hn (by omega) hR b_19) (cwV 3 hts gX1_tangent_X1_side rfl rfl rfl (by decide +kernel) ⟨Nat.le_of_ble_eq_true rfl, Nat.le_of_ble_eq_true rfl⟩) (oh_pre (ci := 1) (q0 := 0) hK hP rfl rfl) rfl rfl hl.1 rfl (lv_room (Nat.le_of_ble_eq_true rfl)) dX1_tangent_96 ⟨Nat.zero_le _, Nat.zero_le _⟩)) (fun r_96 hr_96 => ?_)
                      have hr_96 : r_96.toInt = oh_sd n (oh_pt xs ys) (x.toInt, y.toInt) (oh_pv n i) := by rw [hr_96]; unfold oh_pv; first | rw [if_pos (by omega)] | rw [if_neg (by omega)]
                      refine lv_lconst (v := 0) hx hb dX1_tangent_99 (by decide) ?_
                      refine W.lcmp hx hb dX1_tangent_100 ?_
                      refine lv_if_ge (tgt := 108) hx hb dX1_tangent_101 (by decide) (fun c_101 => ?_) (fun c_101 => ?_)
                      · have g_101 : r_96.toInt ≥ 0 := oh_lc_ge0 c_101
                        refine lv_iconst (v := nI 0) hx hb dX1_tangent_108 (by decide) ?_
                        refine lv_istore (lv' := [(8, .int (nI 0)), (7, .int (nI 0)), (6, .int (nI (n - 1))), (0, .ref h), (1, .int x), (2, .int y), (3, .int wh), (4, .int fo), (5, .int (nI i))]) hx hb dX1_tangent_109 hl (by decide) rfl (fun ls hl => ?_)
                        refine lv_iload_n hx hb dX1_tangent_111 rfl (lv_at hl 6 rfl) ?_
                        refine lv_if_ne (tgt := 133) hx hb dX1_tangent_112 (by decide) (fun c_112 => ?_) (fun c_112 => ?_)
                        · have g_112 : wh.toInt ≠ 0 := oh_neI0 c_112
                          have hw1 : wh = 1 := hwh.resolve_left c_112
                          refine lv_iload hx hb dX1_tangent_133 (lv_at hl 0 rfl) ?_
                          refine lv_if_eq (tgt := 147) hx hb dX1_tangent_135 (by decide) (fun _ => ?_) (fun q => absurd q (by decide))
                          refine lv_iconst (v := nI 0) hx hb dX1_tangent_147 (by decide) ?_
                          refine lv_istore (lv' := [(9, .int (nI 0)), (8, .int (nI 0)), (7, .int (nI 0)), (6, .int (nI (n - 1))), (0, .ref h), (1, .int x), (2, .int y), (3, .int wh), (4, .int fo), (5, .int (nI i))]) hx hb dX1_tangent_148 hl (by decide) rfl (fun ls hl => ?_)
                          refine lv_iload hx hb dX1_tangent_150 (lv_at hl 0 rfl) ?_
                          refine lv_if_eq (tgt := 160) hx hb dX1_tangent_152 (by decide) (fun _ => ?_) (fun q => absurd q (by decide))
                          refine lv_iload hx hb dX1_tangent_160 (lv_at hl 8 rfl) ?_
                          refine lv_istore (lv' := [(4, .int fo), (9, .int (nI 0)), (8, .int (nI 0)), (7, .int (nI 0)), (6, .int (nI (n - 1))), (0, .ref h), (1, .int x), (2, .int y), (3, .int wh), (5, .int (nI i))]) hx hb dX1_tangent_162 hl (by decide) rfl (fun ls hl => ?_)
                          refine lv_iinc (v := nI (i + 1)) (lv' := [(5, .int (nI (i + 1))), (4, .int fo), (9, .int (nI 0)), (8, .int (nI 0)), (7, .int (nI 0)), (6, .int (nI (n - 1))), (0, .ref h), (1, .int x), (2, .int y), (3, .int wh)]) hx hb dX1_tangent_164 hl (k := 9) rfl (nI_1 i) (by decide) rfl (fun ls hl => ?_)
                          refine lv_goto (tgt := 42) hx hb dX1_tangent_167 (by decide) ?_
                          exact ih_loop (i + 1) fo (by omega) (by omega) (oh_tanK hI (fun w => by rcases w with ⟨w1, w2, w3⟩ | ⟨w1, w2, w3⟩ <;> first | omega | exact absurd w1 c_112 | exact absurd (c_112.symm.trans w1) (by decide))) ls (lv_sub hl [6, 7, 8, 9, 1, 0] rfl)
                        · have g_112 : wh.toInt = 0 := oh_eqI0 c_112
                          refine lv_iload hx hb dX1_tangent_115 (lv_at hl 1 rfl) ?_
                          refine lv_if_eq (tgt := 129) hx hb dX1_tangent_117 (by decide) (fun _ => ?_) (fun q => absurd q (by decide))
                          refine lv_iconst (v := nI 0) hx hb dX1_tangent_129 (by decide) ?_
                          refine lv_goto (tgt := 148) hx hb dX1_tangent_130 (by decide) ?_
                          refine lv_istore (lv' := [(9, .int (nI 0)), (8, .int (nI 0)), (7, .int (nI 0)), (6, .int (nI (n - 1))), (0, .ref h), (1, .int x), (2, .int y), (3, .int wh), (4, .int fo), (5, .int (nI i))]) hx hb dX1_tangent_148 hl (by decide) rfl (fun ls hl => ?_)
                          refine lv_iload hx hb dX1_tangent_150 (lv_at hl 0 rfl) ?_
                          refine lv_if_eq (tgt := 160) hx hb dX1_tangent_152 (by decide) (fun _ => ?_) (fun q => absurd q (by decide))
                          refine lv_iload hx hb dX1_tangent_160 (lv_at hl 8 rfl) ?_
                          refine lv_istore (lv' := [(4, .int fo), (9, .int (nI 0)), (8, .int (nI 0)), (7, .int (nI 0)), (6, .int (nI (n - 1))), (0, .ref h), (1, .int x), (2, .int y), (3, .int wh), (5, .int (nI i))]) hx hb dX1_tangent_162 hl (by decide) rfl (fun ls hl => ?_)
                          refine lv_iinc (v := nI (i + 1)) (lv' := [(5, .int (nI (i + 1))), (4, .int fo), (9, .int (nI 0)), (8, .int (nI 0)), (7, .int (nI 0)), (6, .int (nI (n - 1))), (0, .ref h), (1, .int x), (2, .int y), (3, .int wh)]) hx hb dX1_tangent_164 hl (k := 9) rfl (nI_1 i) (by decide) rfl (fun ls hl => ?_)
                          refine lv_goto (tgt := 42) hx hb dX1_tangent_167 (by decide) ?_
                          exact ih_loop (i + 1) fo (by omega) (by omega) (oh_tanK hI (fun w => by rcases w with ⟨w1, w2, w3⟩ | ⟨w1, w2, w3⟩ <;> first | omega | exact absurd w1 c_112 | exact absurd (c_112.symm.trans w1) (by decide))) ls (lv_sub hl [6, 7, 8, 9, 1, 0] rfl)
                      · have g_101 : r_96.toInt < 0 := oh_lc_nge0 c_101
                        refine lv_iconst (v := nI 1) hx hb dX1_tangent_104 (by decide) ?_
                        refine lv_goto (tgt := 109) hx hb dX1_tangent_105 (by decide) ?_
                        refine lv_istore (lv' := [(8, .int (nI 1)), (7, .int (nI 0)), (6, .int (nI (n - 1))), (0, .ref h), (1, .int x), (2, .int y), (3, .int wh), (4, .int fo), (5, .int (nI i))]) hx hb dX1_tangent_109 hl (by decide) rfl (fun ls hl => ?_)
                        refine lv_iload_n hx hb dX1_tangent_111 rfl (lv_at hl 6 rfl) ?_
                        refine lv_if_ne (tgt := 133) hx hb dX1_tangent_112 (by decide) (fun c_112 => ?_) (fun c_112 => ?_)
                        · have g_112 : wh.toInt ≠ 0 := oh_neI0 c_112
                          have hw1 : wh = 1 := hwh.resolve_left c_112
                          refine lv_iload hx hb dX1_tangent_133 (lv_at hl 0 rfl) ?_
                          refine lv_if_eq (tgt := 147) hx hb dX1_tangent_135 (by decide) (fun q => absurd q (by decide)) (fun _ => ?_)
                          refine lv_iload hx hb dX1_tangent_138 (lv_at hl 1 rfl) ?_
                          refine lv_if_ne (tgt := 147) hx hb dX1_tangent_140 (by decide) (fun q => absurd q (by decide)) (fun _ => ?_)
                          refine lv_iconst (v := nI 1) hx hb dX1_tangent_143 (by decide) ?_
                          refine lv_goto (tgt := 148) hx hb dX1_tangent_144 (by decide) ?_
                          refine lv_istore (lv' := [(9, .int (nI 1)), (8, .int (nI 1)), (7, .int (nI 0)), (6, .int (nI (n - 1))), (0, .ref h), (1, .int x), (2, .int y), (3, .int wh), (4, .int fo), (5, .int (nI i))]) hx hb dX1_tangent_148 hl (by decide) rfl (fun ls hl => ?_)
                          refine lv_iload hx hb dX1_tangent_150 (lv_at hl 0 rfl) ?_
                          refine lv_if_eq (tgt := 160) hx hb dX1_tangent_152 (by decide) (fun q => absurd q (by decide)) (fun _ => ?_)
                          refine lv_iload hx hb dX1_tangent_155 (lv_at hl 9 rfl) ?_
                          refine lv_goto (tgt := 162) hx hb dX1_tangent_157 (by decide) ?_
                          refine lv_istore (lv' := [(4, .int (nI i)), (9, .int (nI 1)), (8, .int (nI 1)), (7, .int (nI 0)), (6, .int (nI (n - 1))), (0, .ref h), (1, .int x), (2, .int y), (3, .int wh), (5, .int (nI i))]) hx hb dX1_tangent_162 hl (by decide) rfl (fun ls hl => ?_)
                          refine lv_iinc (v := nI (i + 1)) (lv' := [(5, .int (nI (i + 1))), (4, .int (nI i)), (9, .int (nI 1)), (8, .int (nI 1)), (7, .int (nI 0)), (6, .int (nI (n - 1))), (0, .ref h), (1, .int x), (2, .int y), (3, .int wh)]) hx hb dX1_tangent_164 hl (k := 9) rfl (nI_1 i) (by decide) rfl (fun ls hl => ?_)
                          refine lv_goto (tgt := 42) hx hb dX1_tangent_167 (by decide) ?_
                          exact ih_loop (i + 1) (nI i) (by omega) (by omega) (Or.inr ⟨i, by omega, rfl, by first | exact Or.inr ⟨hw1, by omega, by omega⟩ | exact Or.inl ⟨c_112, by omega, by omega⟩⟩) ls (lv_sub hl [6, 7, 8, 9, 1, 0] rfl)
                        · have g_112 : wh.toInt = 0 := oh_eqI0 c_112
                          refine lv_iload hx hb dX1_tangent_115 (lv_at hl 1 rfl) ?_
                          refine lv_if_eq (tgt := 129) hx hb dX1_tangent_117 (by decide) (fun _ => ?_) (fun q => absurd q (by decide))
                          refine lv_iconst (v := nI 0) hx hb dX1_tangent_129 (by decide) ?_
                          refine lv_goto (tgt := 148) hx hb dX1_tangent_130 (by decide) ?_
                          refine lv_istore (lv' := [(9, .int (nI 0)), (8, .int (nI 1)), (7, .int (nI 0)), (6, .int (nI (n - 1))), (0, .ref h), (1, .int x), (2, .int y), (3, .int wh), (4, .int fo), (5, .int (nI i))]) hx hb dX1_tangent_148 hl (by decide) rfl (fun ls hl => ?_)
                          refine lv_iload hx hb dX1_tangent_150 (lv_at hl 0 rfl) ?_
                          refine lv_if_eq (tgt := 160) hx hb dX1_tangent_152 (by decide) (fun _ => ?_) (fun q => absurd q (by decide))
                          refine lv_iload hx hb dX1_tangent_160 (lv_at hl 8 rfl) ?_
                          refine lv_istore (lv' := [(4, .int fo), (9, .int (nI 0)), (8, .int (nI 1)), (7, .int (nI 0)), (6, .int (nI (n - 1))), (0, .ref h), (1, .int x), (2, .int y), (3, .int wh), (5, .int (nI i))]) hx hb dX1_tangent_162 hl (by decide) rfl (fun ls hl => ?_)
                          refine lv_iinc (v := nI (i + 1)) (lv' := [(5, .int (nI (i + 1))), (4, .int fo), (9, .int (nI 0)), (8, .int (nI 1)), (7, .int (nI 0)), (6, .int (nI (n - 1))), (0, .ref h), (1, .int x), (2, .int y), (3, .int wh)]) hx hb dX1_tangent_164 hl (k := 9) rfl (nI_1 i) (by decide) rfl (fun ls hl => ?_)
                          refine lv_goto (tgt := 42) hx hb dX1_tangent_167 (by decide) ?_
                          exact ih_loop (i + 1) fo (by omega) (by omega) (oh_tanK hI (fun w => by rcases w with ⟨w1, w2, w3⟩ | ⟨w1, w2, w3⟩ <;> first | omega | exact absurd w1 c_112 | exact absurd (c_112.symm.trans w1) (by decide))) ls (lv_sub hl [6, 7, 8, 9, 1, 0] rfl)
                    · have g_81 : r_76.toInt < 0 := oh_lc_nge0 c_81
                      refine lv_iconst (v := nI 1) hx hb dX1_tangent_84 (by decide) ?_
                      refine lv_goto (tgt := 89) hx hb dX1_tangent_85 (by decide) ?_
                      refine lv_istore (lv' := [(7, .int (nI 1)), (6, .int (nI (n - 1))), (0, .ref h), (1, .int x), (2, .int y), (3, .int wh), (4, .int fo), (5, .int (nI i))]) hx hb dX1_tangent_89 hl (by decide) rfl (fun ls hl => ?_)
                      refine lv_aload_n hx hb dX1_tangent_91 rfl (lv_at hl 2 rfl) ?_
                      refine lv_iload hx hb dX1_tangent_92 (lv_at hl 1 rfl) ?_
                      refine lv_iload_n hx hb dX1_tangent_94 rfl (lv_at hl 3 rfl) ?_
                      refine lv_iload_n hx hb dX1_tangent_95 rfl (lv_at hl 4 rfl) ?_
                      refine vp_callSl (va_Run.run (va_runV (As := [.int (nI (n - 1)), .int x, .int y]) (rest := []) ⟨hx, hb, hml, hown, hts⟩ (k_X1_side l dC dI cI h b1 b2 b3 b4 b5 N n pts xs ys px py rd ((n - 1)) x y hN hn (by omega) hR b_19) (cwV 3 hts gX1_tangent_X1_side rfl rfl rfl (by decide +kernel) ⟨Nat.le_of_ble_eq_true rfl, Nat.le_of_ble_eq_true rfl⟩) (oh_pre (ci := 1) (q0 := 0) hK hP rfl rfl) rfl rfl hl.1 rfl (lv_room (Nat.le_of_ble_eq_true rfl)) dX1_tangent_96 ⟨Nat.zero_le _, Nat.zero_le _⟩)) (fun r_96 hr_96 => ?_)
                      have hr_96 : r_96.toInt = oh_sd n (oh_pt xs ys) (x.toInt, y.toInt) (oh_pv n i) := by rw [hr_96]; unfold oh_pv; first | rw [if_pos (by omega)] | rw [if_neg (by omega)]
                      refine lv_lconst (v := 0) hx hb dX1_tangent_99 (by decide) ?_
                      refine W.lcmp hx hb dX1_tangent_100 ?_
                      refine lv_if_ge (tgt := 108) hx hb dX1_tangent_101 (by decide) (fun c_101 => ?_) (fun c_101 => ?_)
                      · have g_101 : r_96.toInt ≥ 0 := oh_lc_ge0 c_101
                        refine lv_iconst (v := nI 0) hx hb dX1_tangent_108 (by decide) ?_
                        refine lv_istore (lv' := [(8, .int (nI 0)), (7, .int (nI 1)), (6, .int (nI (n - 1))), (0, .ref h), (1, .int x), (2, .int y), (3, .int wh), (4, .int fo), (5, .int (nI i))]) hx hb dX1_tangent_109 hl (by decide) rfl (fun ls hl => ?_)
                        refine lv_iload_n hx hb dX1_tangent_111 rfl (lv_at hl 6 rfl) ?_
                        refine lv_if_ne (tgt := 133) hx hb dX1_tangent_112 (by decide) (fun c_112 => ?_) (fun c_112 => ?_)
                        · have g_112 : wh.toInt ≠ 0 := oh_neI0 c_112
                          have hw1 : wh = 1 := hwh.resolve_left c_112
                          refine lv_iload hx hb dX1_tangent_133 (lv_at hl 0 rfl) ?_
                          refine lv_if_eq (tgt := 147) hx hb dX1_tangent_135 (by decide) (fun _ => ?_) (fun q => absurd q (by decide))
                          refine lv_iconst (v := nI 0) hx hb dX1_tangent_147 (by decide) ?_
                          refine lv_istore (lv' := [(9, .int (nI 0)), (8, .int (nI 0)), (7, .int (nI 1)), (6, .int (nI (n - 1))), (0, .ref h), (1, .int x), (2, .int y), (3, .int wh), (4, .int fo), (5, .int (nI i))]) hx hb dX1_tangent_148 hl (by decide) rfl (fun ls hl => ?_)
                          refine lv_iload hx hb dX1_tangent_150 (lv_at hl 0 rfl) ?_
                          refine lv_if_eq (tgt := 160) hx hb dX1_tangent_152 (by decide) (fun _ => ?_) (fun q => absurd q (by decide))
                          refine lv_iload hx hb dX1_tangent_160 (lv_at hl 8 rfl) ?_
                          refine lv_istore (lv' := [(4, .int fo), (9, .int (nI 0)), (8, .int (nI 0)), (7, .int (nI 1)), (6, .int (nI (n - 1))), (0, .ref h), (1, .int x), (2, .int y), (3, .int wh), (5, .int (nI i))]) hx hb dX1_tangent_162 hl (by decide) rfl (fun ls hl => ?_)
                          refine lv_iinc (v := nI (i + 1)) (lv' := [(5, .int (nI (i + 1))), (4, .int fo), (9, .int (nI 0)), (8, .int (nI 0)), (7, .int (nI 1)), (6, .int (nI (n - 1))), (0, .ref h), (1, .int x), (2, .int y), (3, .int wh)]) hx hb dX1_tangent_164 hl (k := 9) rfl (nI_1 i) (by decide) rfl (fun ls hl => ?_)
                          refine lv_goto (tgt := 42) hx hb dX1_tangent_167 (by decide) ?_
                          exact ih_loop (i + 1) fo (by omega) (by omega) (oh_tanK hI (fun w => by rcases w with ⟨w1, w2, w3⟩ | ⟨w1, w2, w3⟩ <;> first | omega | exact absurd w1 c_112 | exact absurd (c_112.symm.trans w1) (by decide))) ls (lv_sub hl [6, 7, 8, 9, 1, 0] rfl)
                        · have g_112 : wh.toInt = 0 := oh_eqI0 c_112
                          refine lv_iload hx hb dX1_tangent_115 (lv_at hl 1 rfl) ?_
                          refine lv_if_eq (tgt := 129) hx hb dX1_tangent_117 (by decide) (fun q => absurd q (by decide)) (fun _ => ?_)
                          refine lv_iload hx hb dX1_tangent_120 (lv_at hl 0 rfl) ?_
                          refine lv_if_ne (tgt := 129) hx hb dX1_tangent_122 (by decide) (fun q => absurd q (by decide)) (fun _ => ?_)
                          refine lv_iconst (v := nI 1) hx hb dX1_tangent_125 (by decide) ?_
                          refine lv_goto (tgt := 148) hx hb dX1_tangent_126 (by decide) ?_
                          refine lv_istore (lv' := [(9, .int (nI 1)), (8, .int (nI 0)), (7, .int (nI 1)), (6, .int (nI (n - 1))), (0, .ref h), (1, .int x), (2, .int y), (3, .int wh), (4, .int fo), (5, .int (nI i))]) hx hb dX1_tangent_148 hl (by decide) rfl (fun ls hl => ?_)
                          refine lv_iload hx hb dX1_tangent_150 (lv_at hl 0 rfl) ?_
                          refine lv_if_eq (tgt := 160) hx hb dX1_tangent_152 (by decide) (fun q => absurd q (by decide)) (fun _ => ?_)
                          refine lv_iload hx hb dX1_tangent_155 (lv_at hl 9 rfl) ?_
                          refine lv_goto (tgt := 162) hx hb dX1_tangent_157 (by decide) ?_
                          refine lv_istore (lv' := [(4, .int (nI i)), (9, .int (nI 1)), (8, .int (nI 0)), (7, .int (nI 1)), (6, .int (nI (n - 1))), (0, .ref h), (1, .int x), (2, .int y), (3, .int wh), (5, .int (nI i))]) hx hb dX1_tangent_162 hl (by decide) rfl (fun ls hl => ?_)
                          refine lv_iinc (v := nI (i + 1)) (lv' := [(5, .int (nI (i + 1))), (4, .int (nI i)), (9, .int (nI 1)), (8, .int (nI 0)), (7, .int (nI 1)), (6, .int (nI (n - 1))), (0, .ref h), (1, .int x), (2, .int y), (3, .int wh)]) hx hb dX1_tangent_164 hl (k := 9) rfl (nI_1 i) (by decide) rfl (fun ls hl => ?_)
                          refine lv_goto (tgt := 42) hx hb dX1_tangent_167 (by decide) ?_
                          exact ih_loop (i + 1) (nI i) (by omega) (by omega) (Or.inr ⟨i, by omega, rfl, by first | exact Or.inr ⟨hw1, by omega, by omega⟩ | exact Or.inl ⟨c_112, by omega, by omega⟩⟩) ls (lv_sub hl [6, 7, 8, 9, 1, 0] rfl)
                      · have g_101 : r_96.toInt < 0 := oh_lc_nge0 c_101
                        refine lv_iconst (v := nI 1) hx hb dX1_tangent_104 (by decide) ?_
                        refine lv_goto (tgt := 109) hx hb dX1_tangent_105 (by decide) ?_
                        refine lv_istore (lv' := [(8, .int (nI 1)), (7, .int (nI 1)), (6, .int (nI (n - 1))), (0, .ref h), (1, .int x), (2, .int y), (3, .int wh), (4, .int fo), (5, .int (nI i))]) hx hb dX1_tangent_109 hl (by decide) rfl (fun ls hl => ?_)
                        refine lv_iload_n hx hb dX1_tangent_111 rfl (lv_at hl 6 rfl) ?_
                        refine lv_if_ne (tgt := 133) hx hb dX1_tangent_112 (by decide) (fun c_112 => ?_) (fun c_112 => ?_)
                        · have g_112 : wh.toInt ≠ 0 := oh_neI0 c_112
                          have hw1 : wh = 1 := hwh.resolve_left c_112
                          refine lv_iload hx hb dX1_tangent_133 (lv_at hl 0 rfl) ?_
                          refine lv_if_eq (tgt := 147) hx hb dX1_tangent_135 (by decide) (fun q => absurd q (by decide)) (fun _ => ?_)
                          refine lv_iload hx hb dX1_tangent_138 (lv_at hl 1 rfl) ?_
                          refine lv_if_ne (tgt := 147) hx hb dX1_tangent_140 (by decide) (fun _ => ?_) (fun q => absurd q (by decide))
                          refine lv_iconst (v := nI 0) hx hb dX1_tangent_147 (by decide) ?_
                          refine lv_istore (lv' := [(9, .int (nI 0)), (8, .int (nI 1)), (7, .int (nI 1)), (6, .int (nI (n - 1))), (0, .ref h), (1, .int x), (2, .int y), (3, .int wh), (4, .int fo), (5, .int (nI i))]) hx hb dX1_tangent_148 hl (by decide) rfl (fun ls hl => ?_)
                          refine lv_iload hx hb dX1_tangent_150 (lv_at hl 0 rfl) ?_
                          refine lv_if_eq (tgt := 160) hx hb dX1_tangent_152 (by decide) (fun _ => ?_) (fun q => absurd q (by decide))
                          refine lv_iload hx hb dX1_tangent_160 (lv_at hl 8 rfl) ?_
                          refine lv_istore (lv' := [(4, .int fo), (9, .int (nI 0)), (8, .int (nI 1)), (7, .int (nI 1)), (6, .int (nI (n - 1))), (0, .ref h), (1, .int x), (2, .int y), (3, .int wh), (5, .int (nI i))]) hx hb dX1_tangent_162 hl (by decide) rfl (fun ls hl => ?_)
                          refine lv_iinc (v := nI (i + 1)) (lv' := [(5, .int (nI (i + 1))), (4, .int fo), (9, .int (nI 0)), (8, .int (nI 1)), (7, .int (nI 1)), (6, .int (nI (n - 1))), (0, .ref h), (1, .int x), (2, .int y), (3, .int wh)]) hx hb dX1_tangent_164 hl (k := 9) rfl (nI_1 i) (by decide) rfl (fun ls hl => ?_)
                          refine lv_goto (tgt := 42) hx hb dX1_tangent_167 (by decide) ?_
                          exact ih_loop (i + 1) fo (by omega) (by omega) (oh_tanK hI (fun w => by rcases w with ⟨w1, w2, w3⟩ | ⟨w1, w2, w3⟩ <;> first | omega | exact absurd w1 c_112 | exact absurd (c_112.symm.trans w1) (by decide))) ls (lv_sub hl [6, 7, 8, 9, 1, 0] rfl)
                        · have g_112 : wh.toInt = 0 := oh_eqI0 c_112
                          refine lv_iload hx hb dX1_tangent_115 (lv_at hl 1 rfl) ?_
                          refine lv_if_eq (tgt := 129) hx hb dX1_tangent_117 (by decide) (fun q => absurd q (by decide)) (fun _ => ?_)
                          refine lv_iload hx hb dX1_tangent_120 (lv_at hl 0 rfl) ?_
                          refine lv_if_ne (tgt := 129) hx hb dX1_tangent_122 (by decide) (fun _ => ?_) (fun q => absurd q (by decide))
                          refine lv_iconst (v := nI 0) hx hb dX1_tangent_129 (by decide) ?_
                          refine lv_goto (tgt := 148) hx hb dX1_tangent_130 (by decide) ?_
                          refine lv_istore (lv' := [(9, .int (nI 0)), (8, .int (nI 1)), (7, .int (nI 1)), (6, .int (nI (n - 1))), (0, .ref h), (1, .int x), (2, .int y), (3, .int wh), (4, .int fo), (5, .int (nI i))]) hx hb dX1_tangent_148 hl (by decide) rfl (fun ls hl => ?_)
                          refine lv_iload hx hb dX1_tangent_150 (lv_at hl 0 rfl) ?_
                          refine lv_if_eq (tgt := 160) hx hb dX1_tangent_152 (by decide) (fun _ => ?_) (fun q => absurd q (by decide))
                          refine lv_iload hx hb dX1_tangent_160 (lv_at hl 8 rfl) ?_
                          refine lv_istore (lv' := [(4, .int fo), (9, .int (nI 0)), (8, .int (nI 1)), (7, .int (nI 1)), (6, .int (nI (n - 1))), (0, .ref h), (1, .int x), (2, .int y), (3, .int wh), (5, .int (nI i))]) hx hb dX1_tangent_162 hl (by decide) rfl (fun ls hl => ?_)
                          refine lv_iinc (v := nI (i + 1)) (lv' := [(5, .int (nI (i + 1))), (4, .int fo), (9, .int (nI 0)), (8, .int (nI 1)), (7, .int (nI 1)), (6, .int (nI (n - 1))), (0, .ref h), (1, .int x), (2, .int y), (3, .int wh)]) hx hb dX1_tangent_164 hl (k := 9) rfl (nI_1 i) (by decide) rfl (fun ls hl => ?_)
                          refine lv_goto (tgt := 42) hx hb dX1_tangent_167 (by decide) ?_
                          exact ih_loop (i + 1) fo (by omega) (by omega) (oh_tanK hI (fun w => by rcases w with ⟨w1, w2, w3⟩ | ⟨w1, w2, w3⟩ <;> first | omega | exact absurd w1 c_112 | exact absurd (c_112.symm.trans w1) (by decide))) ls (lv_sub hl [6, 7, 8, 9, 1, 0] rfl)
            exact loop (n + 1) 0 (-1) (by omega) (by omega) (Or.inl ⟨rfl, fun j hj => by omega⟩) ls (lv_sub hl [2, 3, 4, 5, 1, 0] rfl)
          · have g_31 : 0 < r_28.toInt := oh_nleI0 c_31
            refine lv_iconst (v := -1) hx hb dX1_tangent_34 (by decide) ?_
            exact W.iret (v := -1) hx hb hr (fun t ht hW => ⟨_, rfl, Or.inr ⟨rfl, fun w => by first | exact b_19 w.2.1 | (have := w.1; omega) | (rcases w.2.2.2 with w | w <;> subst w <;> revert c_9 <;> decide) | (rcases w.2.2.2 with w | w <;> subst w <;> revert c_14 <;> decide) | (have w5 := (oh_plR0 (oh_pl3R w.1 hpl)).1.mpr w.2.2.1; omega)⟩, ht⟩) (fun _ h => by cases h) dX1_tangent_35
        · refine lv_if_eq (tgt := 34) hx hb dX1_tangent_22 (by decide) (fun _ => ?_) (fun q => absurd q (by decide))
          refine lv_iconst (v := -1) hx hb dX1_tangent_34 (by decide) ?_
          exact W.iret (v := -1) hx hb hr (fun t ht hW => ⟨_, rfl, Or.inr ⟨rfl, fun w => by first | exact b_19 w.2.1 | (have := w.1; omega) | (rcases w.2.2.2 with w | w <;> subst w <;> revert c_9 <;> decide) | (rcases w.2.2.2 with w | w <;> subst w <;> revert c_14 <;> decide) | (have w5 := (oh_plR0 (oh_pl3R w.1 hpl)).1.mpr w.2.2.1; omega)⟩, ht⟩) (fun _ h => by cases h) dX1_tangent_35

set_option maxHeartbeats 4000000 in
set_option maxRecDepth 100000 in
theorem k_X1_diameter (l : Launch) (dC : Nat → ClassId) (dI : Nat → Nat → Nat) (cI : ClassId) (h b1 b2 b3 b4 b5 N n : Nat) (pts : Int32) (xs ys px py rd : Nat → Int32) (hN : N ≤ 64) (hn : n ≤ N) (hR : ∀ j, j < n → oh_inR (xs j) (ys j)) : Met l yX1_diameter wsX1_diameter ({ frames := 0, cells := 0, slots := 0, locals := 0 }) (va_Pc [.ref h] (fun U => va_P (dC, dI) vwCl [(h, .inr (1, [.int (nI N), .int (nI n), .int pts, .ref b1, .ref b2, .ref b3, .ref b4, .ref b5])), (b1, .inl (cI, 66, .inl xs)), (b2, .inl (cI, 66, .inl ys)), (b3, .inl (cI, 66, .inl px)), (b4, .inl (cI, 66, .inl py)), (b5, .inl (cI, 67, .inl rd))] U.heap ∧ va_K (dC, dI) vwCl [(cI, .int)] U)) (vp_Si (fun r => oh_dia n (oh_pt xs ys) r)) 0 0 (fun _ => False) := by
  refine Met.ofW (cc := cX1_diameter) (maxL := 9) (ret := (some .int)) (by decide) rfl ?_
  intro p e s m args below meth c s₁ B hml hv
  obtain ⟨rfl, hP, hK⟩ := hv
  have hx := B.exec
  have hb := B.bytes
  have hr := B.returns
  have hts := atoms_spec (ws := wsX1_diameter) B.pre
  have hown : s.vm.findClass RX1 = some m.cls := findClass_of_methodNamed B.named
  have hlocks := B.notSynchronized
  have hin0 : ∀ w ∈ wsX10, w ∈ wsX1_diameter := fun w h => List.mem_cons_of_mem _ (List.mem_append_right _ h)
  have hl := lv_entry ([.ref h]) (n := 9) (Nat.le_of_ble_eq_true rfl)
  rw [lg_entry_eq]
  generalize (lg_sl ([.ref h]) ++ List.replicate (9 - (lg_sl ([.ref h])).length) Slot.unset).toArray = ls at hl ⊢
  have hl : lv_has ls 9 [(0, .ref h)] := hl
  refine lv_lconst (v := 0) hx hb dX1_diameter_0 (by decide) ?_
  refine lv_lstore_n (lv' := [(1, .long 0), (0, .ref h)]) hx hb dX1_diameter_1 rfl hl (by decide) rfl (fun ls hl => ?_)
  refine lv_iconst (v := nI 0) hx hb dX1_diameter_2 (by decide) ?_
  refine lv_istore_n (lv' := [(3, .int (nI 0)), (1, .long 0), (0, .ref h)]) hx hb dX1_diameter_3 rfl hl (by decide) rfl (fun ls hl => ?_)
  have loop : ∀ (k_loop : Nat) (i : Nat) (gr : Int64), (i ≤ n) → (n + 1 ≤ i + k_loop) → (0 ≤ gr.toInt) → (∀ a b, a < b → b < i → oh_d2 (oh_pt xs ys a) (oh_pt xs ys b) ≤ gr.toInt) → (gr.toInt = 0 ∨ ∃ a b, a < b ∧ b < n ∧ gr.toInt = oh_d2 (oh_pt xs ys a) (oh_pt xs ys b)) → ∀ (ls : Array Slot), lv_has ls 9 [(0, .ref h), (1, .long gr), (3, .int (nI i))] → W p l e (headSpec wsX1_diameter ({ frames := 0, cells := 0, slots := 0, locals := 0 })).room s m ([.ref h] : List Value).toArray below meth c s.heap [] 0 0 (MQ below (vp_Si (fun r => oh_dia n (oh_pt xs ys) r)) ([.ref h] : List Value).toArray s 0 0 (fun _ => False)) (F0 m 4 ls []) := by
    clear hl
    intro k_loop
    induction k_loop with
    | zero =>
      intro i gr hi hk hG0 hG1 hG2
      exfalso; omega
    | succ k_loop ih_loop =>
      intro i gr hi hk hG0 hG1 hG2 ls hl
      refine lv_iload_n hx hb dX1_diameter_4 rfl (lv_at hl 2 rfl) ?_
      refine lv_aload_n hx hb dX1_diameter_5 rfl (lv_at hl 0 rfl) ?_
      refine va_get (D := (dC, dI)) (ci := 1) (v := .int (nI n)) (C := RX1) (T := TX1) (N := 8) hx hb hts hin0 hown hK hP 0 rfl rfl 1 (by decide) (hts (.fieldLink RX1 29 "OnlineHullModel" "corners" "I") (by decide +kernel)) (fun _ h9 => h9) rfl dX1_diameter_6 ?_
      refine lv_icmp_ge (tgt := 99) hx hb dX1_diameter_9 (by decide) (fun c_9 => ?_) (fun c_9 => ?_)
      · have g_9 : n ≤ i := (nI_leI (a := n) (b := i) (by omega) (by omega)).mp c_9
        refine lv_lload_n hx hb dX1_diameter_99 rfl (lv_at hl 1 rfl) ?_
        refine lv_l2i (v := gr.toInt32) hx hb dX1_diameter_100 rfl ?_
        exact W.iret (v := gr.toInt32) hx hb hr (fun t ht hW => ⟨_, rfl, oh_diaL hR hG0 (fun a b h1 h2 => hG1 a b h1 (by omega)) hG2, ht⟩) (fun _ h => by cases h) dX1_diameter_101
      · have g_9 : ¬ n ≤ i := fun q => c_9 ((nI_leI (a := n) (b := i) (by omega) (by omega)).mpr q)
        refine lv_iconst (v := nI 0) hx hb dX1_diameter_12 (by decide) ?_
        refine lv_istore (lv' := [(4, .int (nI 0)), (0, .ref h), (1, .long gr), (3, .int (nI i))]) hx hb dX1_diameter_13 hl (by decide) rfl (fun ls hl => ?_)
        have loopj : ∀ (k_loopj : Nat) (j : Nat) (gr : Int64), (j ≤ i) → (i + 1 ≤ j + k_loopj) → (0 ≤ gr.toInt) → (∀ a b, a < b → b < i → oh_d2 (oh_pt xs ys a) (oh_pt xs ys b) ≤ gr.toInt) → (∀ a, a < j → oh_d2 (oh_pt xs ys a) (oh_pt xs ys i) ≤ gr.toInt) → (gr.toInt = 0 ∨ ∃ a b, a < b ∧ b < n ∧ gr.toInt = oh_d2 (oh_pt xs ys a) (oh_pt xs ys b)) → ∀ (ls : Array Slot), lv_has ls 9 [(0, .ref h), (1, .long gr), (3, .int (nI i)), (4, .int (nI j))] → W p l e (headSpec wsX1_diameter ({ frames := 0, cells := 0, slots := 0, locals := 0 })).room s m ([.ref h] : List Value).toArray below meth c s.heap [] 0 0 (MQ below (vp_Si (fun r => oh_dia n (oh_pt xs ys) r)) ([.ref h] : List Value).toArray s 0 0 (fun _ => False)) (F0 m 15 ls []) := by
          clear hl
          intro k_loopj
          induction k_loopj with
          | zero =>
            intro j gr hj hk2 hG0 hG1 hG3 hG2
            exfalso; omega
          | succ k_loopj ih_loopj =>
            intro j gr hj hk2 hG0 hG1 hG3 hG2 ls hl
            refine lv_iload hx hb dX1_diameter_15 (lv_at hl 3 rfl) ?_
            refine lv_iload_n hx hb dX1_diameter_17 rfl (lv_at hl 2 rfl) ?_
            refine lv_icmp_ge (tgt := 93) hx hb dX1_diameter_18 (by decide) (fun c_18 => ?_) (fun c_18 => ?_)
            · have g_18 : i ≤ j := (nI_leI (a := i) (b := j) (by omega) (by omega)).mp c_18
              refine lv_iinc (v := nI (i + 1)) (lv' := [(3, .int (nI (i + 1))), (0, .ref h), (1, .long gr), (4, .int (nI j))]) hx hb dX1_diameter_93 hl (k := 2) rfl (nI_1 i) (by decide) rfl (fun ls hl => ?_)
              refine lv_goto (tgt := 4) hx hb dX1_diameter_96 (by decide) ?_
              exact ih_loop (i + 1) gr (by omega) (by omega) (hG0) (fun a b h1 h2 => by by_cases hb : b = i; exact (by subst hb; exact hG3 a (by omega)); exact (hG1 a b h1 (by omega))) (hG2) ls (lv_sub hl [1, 2, 0] rfl)
            · have g_18 : ¬ i ≤ j := fun q => c_18 ((nI_leI (a := i) (b := j) (by omega) (by omega)).mpr q)
              refine lv_aload_n hx hb dX1_diameter_21 rfl (lv_at hl 0 rfl) ?_
              refine va_get (D := (dC, dI)) (ci := 1) (v := .ref b1) (C := RX1) (T := TX1) (N := 8) hx hb hts hin0 hown hK hP 0 rfl rfl 3 (by decide) (hts (.fieldLink RX1 7 "OnlineHullModel" "xs" "[I") (by decide +kernel)) (fun _ h9 => h9) rfl dX1_diameter_22 ?_
              refine lv_iload_n hx hb dX1_diameter_25 rfl (lv_at hl 2 rfl) ?_
              refine oh_ald hx hb hK hP 1 0 rfl rfl (k := i) (by omega) (by omega) dX1_diameter_26 ?_
              refine lv_aload_n hx hb dX1_diameter_27 rfl (lv_at hl 0 rfl) ?_
              refine va_get (D := (dC, dI)) (ci := 1) (v := .ref b1) (C := RX1) (T := TX1) (N := 8) hx hb hts hin0 hown hK hP 0 rfl rfl 3 (by decide) (hts (.fieldLink RX1 7 "OnlineHullModel" "xs" "[I") (by decide +kernel)) (fun _ h9 => h9) rfl dX1_diameter_28 ?_
              refine lv_iload hx hb dX1_diameter_31 (lv_at hl 3 rfl) ?_
              refine oh_ald hx hb hK hP 1 0 rfl rfl (k := j) (by omega) (by omega) dX1_diameter_33 ?_
              refine lv_isub hx hb dX1_diameter_34 ?_
              refine lv_i2l (v := ((xs i) - (xs j)).toInt64) hx hb dX1_diameter_35 rfl ?_
              refine lv_lstore (lv' := [(5, .long (((xs i) - (xs j)).toInt64)), (0, .ref h), (1, .long gr), (3, .int (nI i)), (4, .int (nI j))]) hx hb dX1_diameter_36 hl (by decide) rfl (fun ls hl => ?_)
              refine lv_aload_n hx hb dX1_diameter_38 rfl (lv_at hl 1 rfl) ?_
              refine va_get (D := (dC, dI)) (ci := 1) (v := .ref b2) (C := RX1) (T := TX1) (N := 8) hx hb hts hin0 hown hK hP 0 rfl rfl 4 (by decide) (hts (.fieldLink RX1 13 "OnlineHullModel" "ys" "[I") (by decide +kernel)) (fun _ h9 => h9) rfl dX1_diameter_39 ?_
              refine lv_iload_n hx hb dX1_diameter_42 rfl (lv_at hl 3 rfl) ?_
              refine oh_ald hx hb hK hP 2 0 rfl rfl (k := i) (by omega) (by omega) dX1_diameter_43 ?_
              refine lv_aload_n hx hb dX1_diameter_44 rfl (lv_at hl 1 rfl) ?_
              refine va_get (D := (dC, dI)) (ci := 1) (v := .ref b2) (C := RX1) (T := TX1) (N := 8) hx hb hts hin0 hown hK hP 0 rfl rfl 4 (by decide) (hts (.fieldLink RX1 13 "OnlineHullModel" "ys" "[I") (by decide +kernel)) (fun _ h9 => h9) rfl dX1_diameter_45 ?_
              refine lv_iload hx hb dX1_diameter_48 (lv_at hl 4 rfl) ?_
              refine oh_ald hx hb hK hP 2 0 rfl rfl (k := j) (by omega) (by omega) dX1_diameter_50 ?_
              refine lv_isub hx hb dX1_diameter_51 ?_
              refine lv_i2l (v := ((ys i) - (ys j)).toInt64) hx hb dX1_diameter_52 rfl ?_
              refine lv_lstore (lv' := [(7, .long (((ys i) - (ys j)).toInt64)), (5, .long (((xs i) - (xs j)).toInt64)), (0, .ref h), (1, .long gr), (3, .int (nI i)), (4, .int (nI j))]) hx hb dX1_diameter_53 hl (by decide) rfl (fun ls hl => ?_)
              refine lv_lload hx hb dX1_diameter_55 (lv_at hl 1 rfl) ?_
              refine lv_lload hx hb dX1_diameter_57 (lv_at hl 1 rfl) ?_
              refine lv_lmul hx hb dX1_diameter_59 ?_
              refine lv_lload hx hb dX1_diameter_60 (lv_at hl 0 rfl) ?_
              refine lv_lload hx hb dX1_diameter_62 (lv_at hl 0 rfl) ?_
              refine lv_lmul hx hb dX1_diameter_64 ?_
              refine lv_ladd hx hb dX1_diameter_65 ?_
              refine lv_topl (fun t_65 e_65 => ?_)
              have w_65 : t_65.toInt = oh_d2 (oh_pt xs ys j) (oh_pt xs ys i) := by rw [e_65]; exact oh_q64 (hR i (by omega)) (hR j (by omega))
              refine lv_lload_n hx hb dX1_diameter_66 rfl (lv_at hl 3 rfl) ?_
              refine W.lcmp hx hb dX1_diameter_67 ?_
              refine lv_if_le (tgt := 85) hx hb dX1_diameter_68 (by decide) (fun c_68 => ?_) (fun c_68 => ?_)
              · have g_68 : t_65.toInt ≤ gr.toInt := oh_lc_le c_68
                refine lv_lload_n hx hb dX1_diameter_85 rfl (lv_at hl 3 rfl) ?_
                refine lv_lstore_n (lv' := [(1, .long gr), (7, .long (((ys i) - (ys j)).toInt64)), (5, .long (((xs i) - (xs j)).toInt64)), (0, .ref h), (3, .int (nI i)), (4, .int (nI j))]) hx hb dX1_diameter_86 rfl hl (by decide) rfl (fun ls hl => ?_)
                refine lv_iinc (v := nI (j + 1)) (lv' := [(4, .int (nI (j + 1))), (1, .long gr), (7, .long (((ys i) - (ys j)).toInt64)), (5, .long (((xs i) - (xs j)).toInt64)), (0, .ref h), (3, .int (nI i))]) hx hb dX1_diameter_87 hl (k := 5) rfl (nI_1 j) (by decide) rfl (fun ls hl => ?_)
                refine lv_goto (tgt := 15) hx hb dX1_diameter_90 (by decide) ?_
                exact ih_loopj (j + 1) gr (by omega) (by omega) (hG0) (hG1) (lt_s hG3 (by omega)) (hG2) ls (lv_sub hl [4, 1, 5, 0] rfl)
              · have g_68 : t_65.toInt > gr.toInt := oh_lc_nle c_68
                refine lv_lload hx hb dX1_diameter_71 (lv_at hl 1 rfl) ?_
                refine lv_lload hx hb dX1_diameter_73 (lv_at hl 1 rfl) ?_
                refine lv_lmul hx hb dX1_diameter_75 ?_
                refine lv_lload hx hb dX1_diameter_76 (lv_at hl 0 rfl) ?_
                refine lv_lload hx hb dX1_diameter_78 (lv_at hl 0 rfl) ?_
                refine lv_lmul hx hb dX1_diameter_80 ?_
                refine lv_ladd hx hb dX1_diameter_81 ?_
                refine lv_topl (fun t_81 e_81 => ?_)
                have w_81 : t_81.toInt = oh_d2 (oh_pt xs ys j) (oh_pt xs ys i) := by rw [e_81]; exact oh_q64 (hR i (by omega)) (hR j (by omega))
                refine lv_goto (tgt := 86) hx hb dX1_diameter_82 (by decide) ?_
                refine lv_lstore_n (lv' := [(1, .long t_81), (7, .long (((ys i) - (ys j)).toInt64)), (5, .long (((xs i) - (xs j)).toInt64)), (0, .ref h), (3, .int (nI i)), (4, .int (nI j))]) hx hb dX1_diameter_86 rfl hl (by decide) rfl (fun ls hl => ?_)
                refine lv_iinc (v := nI (j + 1)) (lv' := [(4, .int (nI (j + 1))), (1, .long t_81), (7, .long (((ys i) - (ys j)).toInt64)), (5, .long (((xs i) - (xs j)).toInt64)), (0, .ref h), (3, .int (nI i))]) hx hb dX1_diameter_87 hl (k := 5) rfl (nI_1 j) (by decide) rfl (fun ls hl => ?_)
                refine lv_goto (tgt := 15) hx hb dX1_diameter_90 (by decide) ?_
                exact ih_loopj (j + 1) t_81 (by omega) (by omega) (by omega) (fun a b h1 h2 => by have := hG1 a b h1 h2; omega) (lt_s (fun a ha => by have := hG3 a ha; omega) (by omega)) (Or.inr ⟨j, i, by omega, by omega, w_81⟩) ls (lv_sub hl [4, 1, 5, 0] rfl)
        exact loopj (i + 1) 0 gr (by omega) (by omega) (hG0) (hG1) (fun a ha => by omega) (hG2) ls (lv_sub hl [1, 2, 3, 0] rfl)
  exact loop (n + 1) 0 0 (by omega) (by omega) (by decide) (fun a b h1 h2 => by omega) (Or.inl (by decide)) ls (lv_sub hl [2, 1, 0] rfl)
