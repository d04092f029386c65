set_option maxHeartbeats 4000000 in
set_option maxRecDepth 100000 in
theorem k_X0_placeInRing (l : Launch) (dC : Nat → ClassId) (dI : Nat → Nat → Nat) (cI : ClassId) (h a1 a2 a3 a4 N n : Nat) (came : Int32) (fx fy rx ry : Nat → Int32) (x y : Int32) (hN : N ≤ 64) (hn : n ≤ N) (hR : ∀ j, j < n → oh_inR (fx j) (fy j)) (hq : oh_inR x y) : Met l yX0_placeInRing wsX0_placeInRing ({ frames := 2, cells := 0, slots := 0, locals := 47 }) (va_Pc [.ref h, .int x, .int y] (fun U => va_P (dC, dI) vwCl [(h, .inr (0, [.int (nI N), .ref a1, .ref a2, .ref a3, .ref a4, .int (nI n), .int came])), (a1, .inl (cI, N, .inl fx)), (a2, .inl (cI, N, .inl fy)), (a3, .inl (cI, N, .inl rx)), (a4, .inl (cI, N, .inl ry))] U.heap ∧ va_K (dC, dI) vwCl [(cI, .int)] U)) (vp_Si (fun r => oh_plR n (oh_pt fx fy) (x.toInt, y.toInt) r)) 0 0 (fun _ => False) := by
  refine Met.ofW (cc := cX0_placeInRing) (maxL := 6) (ret := (some .int)) (by decide) rfl ?_
  intro p e s m args below meth c s₁ B hml hv
  obtain ⟨rfl, hP, hK⟩ := hv
  have hx := B.exec
  have hb := B.bytes
  have hr := B.returns
  have hts := atoms_spec (ws := wsX0_placeInRing) B.pre
  have hown : s.vm.findClass RX0 = some m.cls := findClass_of_methodNamed B.named
  have hlocks := B.notSynchronized
  have hin0 : ∀ w ∈ wsX00, w ∈ wsX0_placeInRing := fun w h => List.mem_cons_of_mem _ (List.mem_append_right _ h)
  have hl := lv_entry ([.ref h, .int x, .int y]) (n := 6) (Nat.le_of_ble_eq_true rfl)
  rw [lg_entry_eq]
  generalize (lg_sl ([.ref h, .int x, .int y]) ++ List.replicate (6 - (lg_sl ([.ref h, .int x, .int y])).length) Slot.unset).toArray = ls at hl ⊢
  have hl : lv_has ls 6 [(0, .ref h), (1, .int x), (2, .int y)] := hl
  refine lv_iconst (v := nI 2) hx hb dX0_placeInRing_0 (by decide) ?_
  refine lv_istore_n (lv' := [(3, .int (nI 2)), (0, .ref h), (1, .int x), (2, .int y)]) hx hb dX0_placeInRing_1 rfl hl (by decide) rfl (fun ls hl => ?_)
  refine lv_iconst (v := nI 0) hx hb dX0_placeInRing_2 (by decide) ?_
  refine lv_istore (lv' := [(4, .int (nI 0)), (3, .int (nI 2)), (0, .ref h), (1, .int x), (2, .int y)]) hx hb dX0_placeInRing_3 hl (by decide) rfl (fun ls hl => ?_)
  have loop : ∀ (k_loop : Nat) (i : Nat) (place : Int32), (i ≤ n) → (n + 1 ≤ i + k_loop) → ((place = nI 2 ∧ ∀ j, j < i → 0 < oh_sd n (oh_pt fx fy) (x.toInt, y.toInt) j) ∨ (place = nI 1 ∧ (∀ j, j < i → 0 ≤ oh_sd n (oh_pt fx fy) (x.toInt, y.toInt) j) ∧ ∃ j, j < i ∧ oh_sd n (oh_pt fx fy) (x.toInt, y.toInt) j = 0)) → ∀ (ls : Array Slot), lv_has ls 6 [(0, .ref h), (1, .int x), (2, .int y), (3, .int place), (4, .int (nI i))] → W p l e (headSpec wsX0_placeInRing ({ frames := 2, cells := 0, slots := 0, locals := 47 })).room s m ([.ref h, .int x, .int y] : List Value).toArray below meth c s.heap [] 0 0 (MQ below (vp_Si (fun r => oh_plR n (oh_pt fx fy) (x.toInt, y.toInt) r)) ([.ref h, .int x, .int y] : List Value).toArray s 0 0 (fun _ => False)) (F0 m 5 ls []) := by
    clear hl
    intro k_loop
    induction k_loop with
    | zero =>
      intro i place hi hk hI
      exfalso; omega
    | succ k_loop ih_loop =>
      intro i place hi hk hI ls hl
      refine lv_iload hx hb dX0_placeInRing_5 (lv_at hl 4 rfl) ?_
      refine lv_aload_n hx hb dX0_placeInRing_7 rfl (lv_at hl 0 rfl) ?_
      refine va_get (D := (dC, dI)) (ci := 0) (v := .int (nI n)) (C := RX0) (T := TX0) (N := 7) hx hb hts hin0 hown hK hP 0 rfl rfl 5 (by decide) (hts (.fieldLink RX0 32 "OnlineHull" "corners" "I") (by decide +kernel)) (fun _ h9 => h9) rfl dX0_placeInRing_8 ?_
      refine lv_icmp_ge (tgt := 44) hx hb dX0_placeInRing_11 (by decide) (fun c_11 => ?_) (fun c_11 => ?_)
      · have g_11 : n ≤ i := (nI_leI (a := n) (b := i) (by omega) (by omega)).mp c_11
        refine lv_iload_n hx hb dX0_placeInRing_44 rfl (lv_at hl 3 rfl) ?_
        exact W.iret (v := place) hx hb hr (fun t ht hW => ⟨_, rfl, by rcases hI with ⟨e, a⟩ | ⟨e, a, b⟩ <;> subst e; exact (Or.inr (Or.inr ⟨rfl, fun j hj => a j (by omega)⟩)); exact (Or.inr (Or.inl ⟨rfl, fun j hj => a j (by omega), by obtain ⟨j, h1, h2⟩ := b; exact ⟨j, by omega, h2⟩⟩)), ht⟩) (fun _ h => by cases h) dX0_placeInRing_45
      · have g_11 : ¬ n ≤ i := fun q => c_11 ((nI_leI (a := n) (b := i) (by omega) (by omega)).mpr q)
        refine lv_aload_n hx hb dX0_placeInRing_14 rfl (lv_at hl 0 rfl) ?_
        refine lv_iload hx hb dX0_placeInRing_15 (lv_at hl 4 rfl) ?_
        refine lv_iload_n hx hb dX0_placeInRing_17 rfl (lv_at hl 1 rfl) ?_
        refine lv_iload_n hx hb dX0_placeInRing_18 rfl (lv_at hl 2 rfl) ?_
        refine vp_callSi (va_Run.run (va_runV (As := [.int (nI i), .int x, .int y]) (rest := []) ⟨hx, hb, hml, hown, hts⟩ (k_X0_turn l dC dI cI h a1 a2 a3 a4 N n came fx fy rx ry i x y hN hn (by omega) hR hq) (cwV 3 hts gX0_placeInRing_X0_turn rfl rfl rfl (by decide +kernel) ⟨Nat.le_of_ble_eq_true rfl, Nat.le_of_ble_eq_true rfl⟩) (oh_pre (ci := 0) (q0 := 0) hK hP rfl rfl) rfl rfl hl.1 rfl (lv_room (Nat.le_of_ble_eq_true rfl)) dX0_placeInRing_19 ⟨Nat.zero_le _, Nat.zero_le _⟩)) (fun r_19 hr_19 => ?_)
        refine lv_istore (lv' := [(5, .int r_19), (0, .ref h), (1, .int x), (2, .int y), (3, .int place), (4, .int (nI i))]) hx hb dX0_placeInRing_22 hl (by decide) rfl (fun ls hl => ?_)
        refine lv_iload hx hb dX0_placeInRing_24 (lv_at hl 0 rfl) ?_
        refine lv_if_ge (tgt := 31) hx hb dX0_placeInRing_26 (by decide) (fun c_26 => ?_) (fun c_26 => ?_)
        · have g_26 : 0 ≤ r_19.toInt := oh_leI0r c_26
          refine lv_iload hx hb dX0_placeInRing_31 (lv_at hl 0 rfl) ?_
          refine lv_if_ne (tgt := 38) hx hb dX0_placeInRing_33 (by decide) (fun c_33 => ?_) (fun c_33 => ?_)
          · have g_33 : r_19.toInt ≠ 0 := oh_neI0 c_33
            refine lv_iinc (v := nI (i + 1)) (lv' := [(4, .int (nI (i + 1))), (5, .int r_19), (0, .ref h), (1, .int x), (2, .int y), (3, .int place)]) hx hb dX0_placeInRing_38 hl (k := 5) rfl (nI_1 i) (by decide) rfl (fun ls hl => ?_)
            refine lv_goto (tgt := 5) hx hb dX0_placeInRing_41 (by decide) ?_
            exact ih_loop (i + 1) place (by omega) (by omega) (by rcases hI with ⟨e, a⟩ | ⟨e, a, b⟩; exact (Or.inl ⟨e, lt_s a (by omega)⟩); exact (Or.inr ⟨e, lt_s a (by omega), by obtain ⟨j, h1, h2⟩ := b; exact ⟨j, by omega, h2⟩⟩)) ls (lv_sub hl [2, 3, 4, 5, 0] rfl)
          · have g_33 : r_19.toInt = 0 := oh_eqI0 c_33
            refine lv_iconst (v := nI 1) hx hb dX0_placeInRing_36 (by decide) ?_
            refine lv_istore_n (lv' := [(3, .int (nI 1)), (5, .int r_19), (0, .ref h), (1, .int x), (2, .int y), (4, .int (nI i))]) hx hb dX0_placeInRing_37 rfl hl (by decide) rfl (fun ls hl => ?_)
            refine lv_iinc (v := nI (i + 1)) (lv' := [(4, .int (nI (i + 1))), (3, .int (nI 1)), (5, .int r_19), (0, .ref h), (1, .int x), (2, .int y)]) hx hb dX0_placeInRing_38 hl (k := 5) rfl (nI_1 i) (by decide) rfl (fun ls hl => ?_)
            refine lv_goto (tgt := 5) hx hb dX0_placeInRing_41 (by decide) ?_
            exact ih_loop (i + 1) (nI 1) (by omega) (by omega) (Or.inr ⟨rfl, lt_s (by rcases hI with ⟨-, a⟩ | ⟨-, a, -⟩; exact (fun j hj => Int.le_of_lt (a j hj)); exact (a)) (by omega), i, by omega, by omega⟩) ls (lv_sub hl [3, 4, 5, 1, 0] rfl)
        · have g_26 : r_19.toInt < 0 := oh_nleI0r c_26
          refine lv_iconst (v := nI 0) hx hb dX0_placeInRing_29 (by decide) ?_
          exact W.iret (v := nI 0) hx hb hr (fun t ht hW => ⟨_, rfl, Or.inl ⟨rfl, i, by omega, by omega⟩, ht⟩) (fun _ h => by cases h) dX0_placeInRing_30
  exact loop (n + 1) 0 (nI 2) (by omega) (by omega) (Or.inl ⟨rfl, fun j hj => by omega⟩) ls (lv_sub hl [2, 3, 4, 1, 0] rfl)

set_option maxHeartbeats 4000000 in
set_option maxRecDepth 100000 in
theorem k_X0_firstSeen (l : Launch) (dC : Nat → ClassId) (dI : Nat → Nat → Nat) (cI : ClassId) (h a1 a2 a3 a4 N n : Nat) (came : Int32) (fx fy rx ry : Nat → Int32) (x y bd : Int32) (hN : N ≤ 64) (hn : n ≤ N) (hR : ∀ j, j < n → oh_inR (fx j) (fy j)) (hq : oh_inR x y) : Met l yX0_firstSeen wsX0_firstSeen ({ frames := 2, cells := 0, slots := 0, locals := 47 }) (va_Pc [.ref h, .int x, .int y, .int bd] (fun U => va_P (dC, dI) vwCl [(h, .inr (0, [.int (nI N), .ref a1, .ref a2, .ref a3, .ref a4, .int (nI n), .int came])), (a1, .inl (cI, N, .inl fx)), (a2, .inl (cI, N, .inl fy)), (a3, .inl (cI, N, .inl rx)), (a4, .inl (cI, N, .inl ry))] U.heap ∧ va_K (dC, dI) vwCl [(cI, .int)] U)) (vp_Si (fun r => oh_fs n (oh_pt fx fy) (x.toInt, y.toInt) bd.toInt r)) 0 0 (fun _ => False) := by
  refine Met.ofW (cc := cX0_firstSeen) (maxL := 5) (ret := (some .int)) (by decide) rfl ?_
  intro p e s m args below meth c s₁ B hml hv
  obtain ⟨rfl, hP, hK⟩ := hv
  have hx := B.exec
  have hb := B.bytes
  have hr := B.returns
  have hts := atoms_spec (ws := wsX0_firstSeen) B.pre
  have hown : s.vm.findClass RX0 = some m.cls := findClass_of_methodNamed B.named
  have hlocks := B.notSynchronized
  have hin0 : ∀ w ∈ wsX00, w ∈ wsX0_firstSeen := fun w h => List.mem_cons_of_mem _ (List.mem_append_right _ h)
  have hl := lv_entry ([.ref h, .int x, .int y, .int bd]) (n := 5) (Nat.le_of_ble_eq_true rfl)
  rw [lg_entry_eq]
  generalize (lg_sl ([.ref h, .int x, .int y, .int bd]) ++ List.replicate (5 - (lg_sl ([.ref h, .int x, .int y, .int bd])).length) Slot.unset).toArray = ls at hl ⊢
  have hl : lv_has ls 5 [(0, .ref h), (1, .int x), (2, .int y), (3, .int bd)] := hl
  refine lv_iconst (v := nI 0) hx hb dX0_firstSeen_0 (by decide) ?_
  refine lv_istore (lv' := [(4, .int (nI 0)), (0, .ref h), (1, .int x), (2, .int y), (3, .int bd)]) hx hb dX0_firstSeen_1 hl (by decide) rfl (fun ls hl => ?_)
  have loop : ∀ (k_loop : Nat) (i : Nat), (i ≤ n) → (n + 1 ≤ i + k_loop) → (∀ j, j < i → ¬ (oh_sd n (oh_pt fx fy) (x.toInt, y.toInt) j < bd.toInt ∧ bd.toInt ≤ oh_sd n (oh_pt fx fy) (x.toInt, y.toInt) (oh_pv n j))) → ∀ (ls : Array Slot), lv_has ls 5 [(0, .ref h), (1, .int x), (2, .int y), (3, .int bd), (4, .int (nI i))] → W p l e (headSpec wsX0_firstSeen ({ frames := 2, cells := 0, slots := 0, locals := 47 })).room s m ([.ref h, .int x, .int y, .int bd] : List Value).toArray below meth c s.heap [] 0 0 (MQ below (vp_Si (fun r => oh_fs n (oh_pt fx fy) (x.toInt, y.toInt) bd.toInt r)) ([.ref h, .int x, .int y, .int bd] : List Value).toArray s 0 0 (fun _ => False)) (F0 m 3 ls []) := by
    clear hl
    intro k_loop
    induction k_loop with
    | zero =>
      intro i hi hk hI
      exfalso; omega
    | succ k_loop ih_loop =>
      intro i hi hk hI ls hl
      refine lv_iload hx hb dX0_firstSeen_3 (lv_at hl 4 rfl) ?_
      refine lv_aload_n hx hb dX0_firstSeen_5 rfl (lv_at hl 0 rfl) ?_
      refine va_get (D := (dC, dI)) (ci := 0) (v := .int (nI n)) (C := RX0) (T := TX0) (N := 7) hx hb hts hin0 hown hK hP 0 rfl rfl 5 (by decide) (hts (.fieldLink RX0 32 "OnlineHull" "corners" "I") (by decide +kernel)) (fun _ h9 => h9) rfl dX0_firstSeen_6 ?_
      refine lv_icmp_ge (tgt := 49) hx hb dX0_firstSeen_9 (by decide) (fun c_9 => ?_) (fun c_9 => ?_)
      · have g_9 : n ≤ i := (nI_leI (a := n) (b := i) (by omega) (by omega)).mp c_9
        refine lv_iconst (v := -1) hx hb dX0_firstSeen_49 (by decide) ?_
        exact W.iret (v := -1) hx hb hr (fun t ht hW => ⟨_, rfl, Or.inr ⟨rfl, fun j hj => hI j (by omega)⟩, ht⟩) (fun _ h => by cases h) dX0_firstSeen_50
      · have g_9 : ¬ n ≤ i := fun q => c_9 ((nI_leI (a := n) (b := i) (by omega) (by omega)).mpr q)
        refine lv_aload_n hx hb dX0_firstSeen_12 rfl (lv_at hl 0 rfl) ?_
        refine lv_iload hx hb dX0_firstSeen_13 (lv_at hl 4 rfl) ?_
        refine lv_iload_n hx hb dX0_firstSeen_15 rfl (lv_at hl 1 rfl) ?_
        refine lv_iload_n hx hb dX0_firstSeen_16 rfl (lv_at hl 2 rfl) ?_
        refine vp_callSi (va_Run.run (va_runV (As := [.int (nI i), .int x, .int y]) (rest := []) ⟨hx, hb, hml, hown, hts⟩ (k_X0_turn l dC dI cI h a1 a2 a3 a4 N n came fx fy rx ry i x y hN hn (by omega) hR hq) (cwV 3 hts gX0_firstSeen_X0_turn rfl rfl rfl (by decide +kernel) ⟨Nat.le_of_ble_eq_true rfl, Nat.le_of_ble_eq_true rfl⟩) (oh_pre (ci := 0) (q0 := 0) hK hP rfl rfl) rfl rfl hl.1 rfl (lv_room (Nat.le_of_ble_eq_true rfl)) dX0_firstSeen_17 ⟨Nat.zero_le _, Nat.zero_le _⟩)) (fun r_17 hr_17 => ?_)
        refine lv_iload_n hx hb dX0_firstSeen_20 rfl (lv_at hl 3 rfl) ?_
        refine lv_icmp_ge (tgt := 43) hx hb dX0_firstSeen_21 (by decide) (fun c_21 => ?_) (fun c_21 => ?_)
        · have g_21 : bd.toInt ≤ r_17.toInt := oh_leI c_21
          refine lv_iinc (v := nI (i + 1)) (lv' := [(4, .int (nI (i + 1))), (0, .ref h), (1, .int x), (2, .int y), (3, .int bd)]) hx hb dX0_firstSeen_43 hl (k := 4) rfl (nI_1 i) (by decide) rfl (fun ls hl => ?_)
          refine lv_goto (tgt := 3) hx hb dX0_firstSeen_46 (by decide) ?_
          exact ih_loop (i + 1) (by omega) (by omega) (lt_s hI (by omega)) ls (lv_sub hl [1, 2, 3, 4, 0] rfl)
        · have g_21 : r_17.toInt < bd.toInt := oh_nleI c_21
          refine lv_aload_n hx hb dX0_firstSeen_24 rfl (lv_at hl 0 rfl) ?_
          refine lv_aload_n hx hb dX0_firstSeen_25 rfl (lv_at hl 0 rfl) ?_
          refine lv_iload hx hb dX0_firstSeen_26 (lv_at hl 4 rfl) ?_
          refine vp_callSi (va_Run.run (va_runV (As := [.int (nI i)]) (rest := [.ref h]) ⟨hx, hb, hml, hown, hts⟩ (k_X0_previous l dC dI cI h a1 a2 a3 a4 N n came fx fy rx ry i hN hn (by omega)) (cwV 1 hts gX0_firstSeen_X0_previous rfl rfl rfl (by decide +kernel) ⟨Nat.le_of_ble_eq_true rfl, Nat.le_of_ble_eq_true rfl⟩) (oh_pre (ci := 0) (q0 := 0) hK hP rfl rfl) rfl rfl hl.1 rfl (lv_room (Nat.le_of_ble_eq_true rfl)) dX0_firstSeen_28 ⟨Nat.zero_le _, Nat.zero_le _⟩)) (fun r_28 hr_28 => ?_)
          subst hr_28
          refine lv_iload_n hx hb dX0_firstSeen_31 rfl (lv_at hl 1 rfl) ?_
          refine lv_iload_n hx hb dX0_firstSeen_32 rfl (lv_at hl 2 rfl) ?_
          refine vp_callSi (va_Run.run (va_runV (As := [.int (nI (oh_pv n i)), .int x, .int y]) (rest := []) ⟨hx, hb, hml, hown, hts⟩ (k_X0_turn l dC dI cI h a1 a2 a3 a4 N n came fx fy rx ry ((oh_pv n i)) x y hN hn (oh_pv_lt (by omega)) hR hq) (cwV 3 hts gX0_firstSeen_X0_turn rfl rfl rfl (by decide +kernel) ⟨Nat.le_of_ble_eq_true rfl, Nat.le_of_ble_eq_true rfl⟩) (oh_pre (ci := 0) (q0 := 0) hK hP rfl rfl) rfl rfl hl.1 rfl (lv_room (Nat.le_of_ble_eq_true rfl)) dX0_firstSeen_33 ⟨Nat.zero_le _, Nat.zero_le _⟩)) (fun r_33 hr_33 => ?_)
          refine lv_iload_n hx hb dX0_firstSeen_36 rfl (lv_at hl 3 rfl) ?_
          refine lv_icmp_lt (tgt := 43) hx hb dX0_firstSeen_37 (by decide) (fun c_37 => ?_) (fun c_37 => ?_)
          · have g_37 : r_33.toInt < bd.toInt := oh_ltI c_37
            refine lv_iinc (v := nI (i + 1)) (lv' := [(4, .int (nI (i + 1))), (0, .ref h), (1, .int x), (2, .int y), (3, .int bd)]) hx hb dX0_firstSeen_43 hl (k := 4) rfl (nI_1 i) (by decide) rfl (fun ls hl => ?_)
            refine lv_goto (tgt := 3) hx hb dX0_firstSeen_46 (by decide) ?_
            exact ih_loop (i + 1) (by omega) (by omega) (lt_s hI (by omega)) ls (lv_sub hl [1, 2, 3, 4, 0] rfl)
          · have g_37 : bd.toInt ≤ r_33.toInt := oh_nltI c_37
            refine lv_iload hx hb dX0_firstSeen_40 (lv_at hl 4 rfl) ?_
            exact W.iret (v := nI i) hx hb hr (fun t ht hW => ⟨_, rfl, Or.inl ⟨i, by omega, rfl, by omega, by omega⟩, ht⟩) (fun _ h => by cases h) dX0_firstSeen_42
  exact loop (n + 1) 0 (by omega) (by omega) (fun j hj => by omega) ls (lv_sub hl [1, 2, 3, 4, 0] rfl)

set_option maxHeartbeats 4000000 in
set_option maxRecDepth 100000 in
theorem k_X0_lastSeen (l : Launch) (dC : Nat → ClassId) (dI : Nat → Nat → Nat) (cI : ClassId) (h a1 a2 a3 a4 N n : Nat) (came : Int32) (fx fy rx ry : Nat → Int32) (x y bd : Int32) (hN : N ≤ 64) (hn : n ≤ N) (hR : ∀ j, j < n → oh_inR (fx j) (fy j)) (hq : oh_inR x y) : Met l yX0_lastSeen wsX0_lastSeen ({ frames := 2, cells := 0, slots := 0, locals := 47 }) (va_Pc [.ref h, .int x, .int y, .int bd] (fun U => va_P (dC, dI) vwCl [(h, .inr (0, [.int (nI N), .ref a1, .ref a2, .ref a3, .ref a4, .int (nI n), .int came])), (a1, .inl (cI, N, .inl fx)), (a2, .inl (cI, N, .inl fy)), (a3, .inl (cI, N, .inl rx)), (a4, .inl (cI, N, .inl ry))] U.heap ∧ va_K (dC, dI) vwCl [(cI, .int)] U)) (vp_Si (fun r => oh_la n (oh_pt fx fy) (x.toInt, y.toInt) bd.toInt r)) 0 0 (fun _ => False) := by
  refine Met.ofW (cc := cX0_lastSeen) (maxL := 5) (ret := (some .int)) (by decide) rfl ?_
  intro p e s m args below meth c s₁ B hml hv
  obtain ⟨rfl, hP, hK⟩ := hv
  have hx := B.exec
  have hb := B.bytes
  have hr := B.returns
  have hts := atoms_spec (ws := wsX0_lastSeen) B.pre
  have hown : s.vm.findClass RX0 = some m.cls := findClass_of_methodNamed B.named
  have hlocks := B.notSynchronized
  have hin0 : ∀ w ∈ wsX00, w ∈ wsX0_lastSeen := fun w h => List.mem_cons_of_mem _ (List.mem_append_right _ h)
  have hl := lv_entry ([.ref h, .int x, .int y, .int bd]) (n := 5) (Nat.le_of_ble_eq_true rfl)
  rw [lg_entry_eq]
  generalize (lg_sl ([.ref h, .int x, .int y, .int bd]) ++ List.replicate (5 - (lg_sl ([.ref h, .int x, .int y, .int bd])).length) Slot.unset).toArray = ls at hl ⊢
  have hl : lv_has ls 5 [(0, .ref h), (1, .int x), (2, .int y), (3, .int bd)] := hl
  refine lv_iconst (v := nI 0) hx hb dX0_lastSeen_0 (by decide) ?_
  refine lv_istore (lv' := [(4, .int (nI 0)), (0, .ref h), (1, .int x), (2, .int y), (3, .int bd)]) hx hb dX0_lastSeen_1 hl (by decide) rfl (fun ls hl => ?_)
  have loop : ∀ (k_loop : Nat) (i : Nat), (i ≤ n) → (n + 1 ≤ i + k_loop) → (∀ j, j < i → ¬ (bd.toInt ≤ oh_sd n (oh_pt fx fy) (x.toInt, y.toInt) j ∧ oh_sd n (oh_pt fx fy) (x.toInt, y.toInt) (oh_pv n j) < bd.toInt)) → ∀ (ls : Array Slot), lv_has ls 5 [(0, .ref h), (1, .int x), (2, .int y), (3, .int bd), (4, .int (nI i))] → W p l e (headSpec wsX0_lastSeen ({ frames := 2, cells := 0, slots := 0, locals := 47 })).room s m ([.ref h, .int x, .int y, .int bd] : List Value).toArray below meth c s.heap [] 0 0 (MQ below (vp_Si (fun r => oh_la n (oh_pt fx fy) (x.toInt, y.toInt) bd.toInt r)) ([.ref h, .int x, .int y, .int bd] : List Value).toArray s 0 0 (fun _ => False)) (F0 m 3 ls []) := by
    clear hl
    intro k_loop
    induction k_loop with
    | zero =>
      intro i hi hk hI
      exfalso; omega
    | succ k_loop ih_loop =>
      intro i hi hk hI ls hl
      refine lv_iload hx hb dX0_lastSeen_3 (lv_at hl 4 rfl) ?_
      refine lv_aload_n hx hb dX0_lastSeen_5 rfl (lv_at hl 0 rfl) ?_
      refine va_get (D := (dC, dI)) (ci := 0) (v := .int (nI n)) (C := RX0) (T := TX0) (N := 7) hx hb hts hin0 hown hK hP 0 rfl rfl 5 (by decide) (hts (.fieldLink RX0 32 "OnlineHull" "corners" "I") (by decide +kernel)) (fun _ h9 => h9) rfl dX0_lastSeen_6 ?_
      refine lv_icmp_ge (tgt := 49) hx hb dX0_lastSeen_9 (by decide) (fun c_9 => ?_) (fun c_9 => ?_)
      · have g_9 : n ≤ i := (nI_leI (a := n) (b := i) (by omega) (by omega)).mp c_9
        refine lv_iconst (v := -1) hx hb dX0_lastSeen_49 (by decide) ?_
        exact W.iret (v := -1) hx hb hr (fun t ht hW => ⟨_, rfl, Or.inr ⟨rfl, fun j hj => hI j (by omega)⟩, ht⟩) (fun _ h => by cases h) dX0_lastSeen_50
      · have g_9 : ¬ n ≤ i := fun q => c_9 ((nI_leI (a := n) (b := i) (by omega) (by omega)).mpr q)
        refine lv_aload_n hx hb dX0_lastSeen_12 rfl (lv_at hl 0 rfl) ?_
        refine lv_iload hx hb dX0_lastSeen_13 (lv_at hl 4 rfl) ?_
        refine lv_iload_n hx hb dX0_lastSeen_15 rfl (lv_at hl 1 rfl) ?_
        refine lv_iload_n hx hb dX0_lastSeen_16 rfl (lv_at hl 2 rfl) ?_
        refine vp_callSi (va_Run.run (va_runV (As := [.int (nI i), .int x, .int y]) (rest := []) ⟨hx, hb, hml, hown, hts⟩ (k_X0_turn l dC dI cI h a1 a2 a3 a4 N n came fx fy rx ry i x y hN hn (by omega) hR hq) (cwV 3 hts gX0_lastSeen_X0_turn rfl rfl rfl (by decide +kernel) ⟨Nat.le_of_ble_eq_true rfl, Nat.le_of_ble_eq_true rfl⟩) (oh_pre (ci := 0) (q0 := 0) hK hP rfl rfl) rfl rfl hl.1 rfl (lv_room (Nat.le_of_ble_eq_true rfl)) dX0_lastSeen_17 ⟨Nat.zero_le _, Nat.zero_le _⟩)) (fun r_17 hr_17 => ?_)
        refine lv_iload_n hx hb dX0_lastSeen_20 rfl (lv_at hl 3 rfl) ?_
        refine lv_icmp_lt (tgt := 43) hx hb dX0_lastSeen_21 (by decide) (fun c_21 => ?_) (fun c_21 => ?_)
        · have g_21 : r_17.toInt < bd.toInt := oh_ltI c_21
          refine lv_iinc (v := nI (i + 1)) (lv' := [(4, .int (nI (i + 1))), (0, .ref h), (1, .int x), (2, .int y), (3, .int bd)]) hx hb dX0_lastSeen_43 hl (k := 4) rfl (nI_1 i) (by decide) rfl (fun ls hl => ?_)
          refine lv_goto (tgt := 3) hx hb dX0_lastSeen_46 (by decide) ?_
          exact ih_loop (i + 1) (by omega) (by omega) (lt_s hI (by omega)) ls (lv_sub hl [1, 2, 3, 4, 0] rfl)
        · have g_21 : bd.toInt ≤ r_17.toInt := oh_nltI c_21
          refine lv_aload_n hx hb dX0_lastSeen_24 rfl (lv_at hl 0 rfl) ?_
          refine lv_aload_n hx hb dX0_lastSeen_25 rfl (lv_at hl 0 rfl) ?_
          refine lv_iload hx hb dX0_lastSeen_26 (lv_at hl 4 rfl) ?_
          refine vp_callSi (va_Run.run (va_runV (As := [.int (nI i)]) (rest := [.ref h]) ⟨hx, hb, hml, hown, hts⟩ (k_X0_previous l dC dI cI h a1 a2 a3 a4 N n came fx fy rx ry i hN hn (by omega)) (cwV 1 hts gX0_lastSeen_X0_previous rfl rfl rfl (by decide +kernel) ⟨Nat.le_of_ble_eq_true rfl, Nat.le_of_ble_eq_true rfl⟩) (oh_pre (ci := 0) (q0 := 0) hK hP rfl rfl) rfl rfl hl.1 rfl (lv_room (Nat.le_of_ble_eq_true rfl)) dX0_lastSeen_28 ⟨Nat.zero_le _, Nat.zero_le _⟩)) (fun r_28 hr_28 => ?_)
          subst hr_28
          refine lv_iload_n hx hb dX0_lastSeen_31 rfl (lv_at hl 1 rfl) ?_
          refine lv_iload_n hx hb dX0_lastSeen_32 rfl (lv_at hl 2 rfl) ?_
          refine vp_callSi (va_Run.run (va_runV (As := [.int (nI (oh_pv n i)), .int x, .int y]) (rest := []) ⟨hx, hb, hml, hown, hts⟩ (k_X0_turn l dC dI cI h a1 a2 a3 a4 N n came fx fy rx ry ((oh_pv n i)) x y hN hn (oh_pv_lt (by omega)) hR hq) (cwV 3 hts gX0_lastSeen_X0_turn rfl rfl rfl (by decide +kernel) ⟨Nat.le_of_ble_eq_true rfl, Nat.le_of_ble_eq_true rfl⟩) (oh_pre (ci := 0) (q0 := 0) hK hP rfl rfl) rfl rfl hl.1 rfl (lv_room (Nat.le_of_ble_eq_true rfl)) dX0_lastSeen_33 ⟨Nat.zero_le _, Nat.zero_le _⟩)) (fun r_33 hr_33 => ?_)
          refine lv_iload_n hx hb dX0_lastSeen_36 rfl (lv_at hl 3 rfl) ?_
          refine lv_icmp_ge (tgt := 43) hx hb dX0_lastSeen_37 (by decide) (fun c_37 => ?_) (fun c_37 => ?_)
          · have g_37 : bd.toInt ≤ r_33.toInt := oh_leI c_37
            refine lv_iinc (v := nI (i + 1)) (lv' := [(4, .int (nI (i + 1))), (0, .ref h), (1, .int x), (2, .int y), (3, .int bd)]) hx hb dX0_lastSeen_43 hl (k := 4) rfl (nI_1 i) (by decide) rfl (fun ls hl => ?_)
            refine lv_goto (tgt := 3) hx hb dX0_lastSeen_46 (by decide) ?_
            exact ih_loop (i + 1) (by omega) (by omega) (lt_s hI (by omega)) ls (lv_sub hl [1, 2, 3, 4, 0] rfl)
          · have g_37 : r_33.toInt < bd.toInt := oh_nleI c_37
            refine lv_iload hx hb dX0_lastSeen_40 (lv_at hl 4 rfl) ?_
            exact W.iret (v := nI i) hx hb hr (fun t ht hW => ⟨_, rfl, Or.inl ⟨i, by omega, rfl, by omega, by omega⟩, ht⟩) (fun _ h => by cases h) dX0_lastSeen_42
  exact loop (n + 1) 0 (by omega) (by omega) (fun j hj => by omega) ls (lv_sub hl [1, 2, 3, 4, 0] rfl)

set_option maxHeartbeats 4000000 in
set_option maxRecDepth 100000 in
theorem k_X0_twiceArea (l : Launch) (dC : Nat → ClassId) (dI : Nat → Nat → Nat) (cI : ClassId) (h a1 a2 a3 a4 N n : Nat) (came : Int32) (fx fy rx ry : Nat → Int32) (hN : N ≤ 64) (hn : n ≤ N) (hR : ∀ j, j < n → oh_inR (fx j) (fy j)) : Met l yX0_twiceArea wsX0_twiceArea ({ frames := 2, cells := 0, slots := 0, locals := 47 }) (va_Pc [.ref h] (fun U => va_P (dC, dI) vwCl [(h, .inr (0, [.int (nI N), .ref a1, .ref a2, .ref a3, .ref a4, .int (nI n), .int came])), (a1, .inl (cI, N, .inl fx)), (a2, .inl (cI, N, .inl fy)), (a3, .inl (cI, N, .inl rx)), (a4, .inl (cI, N, .inl ry))] U.heap ∧ va_K (dC, dI) vwCl [(cI, .int)] U)) (vp_Si (fun r => r = Int32.ofInt (oh_ar (oh_pt fx fy) (n - 2)))) 0 0 (fun _ => False) := by
  refine Met.ofW (cc := cX0_twiceArea) (maxL := 3) (ret := (some .int)) (by decide) rfl ?_
  intro p e s m args below meth c s₁ B hml hv
  obtain ⟨rfl, hP, hK⟩ := hv
  have hx := B.exec
  have hb := B.bytes
  have hr := B.returns
  have hts := atoms_spec (ws := wsX0_twiceArea) B.pre
  have hown : s.vm.findClass RX0 = some m.cls := findClass_of_methodNamed B.named
  have hlocks := B.notSynchronized
  have hin0 : ∀ w ∈ wsX00, w ∈ wsX0_twiceArea := fun w h => List.mem_cons_of_mem _ (List.mem_append_right _ h)
  have hl := lv_entry ([.ref h]) (n := 3) (Nat.le_of_ble_eq_true rfl)
  rw [lg_entry_eq]
  generalize (lg_sl ([.ref h]) ++ List.replicate (3 - (lg_sl ([.ref h])).length) Slot.unset).toArray = ls at hl ⊢
  have hl : lv_has ls 3 [(0, .ref h)] := hl
  refine lv_iconst (v := nI 0) hx hb dX0_twiceArea_0 (by decide) ?_
  refine lv_istore_n (lv' := [(1, .int (nI 0)), (0, .ref h)]) hx hb dX0_twiceArea_1 rfl hl (by decide) rfl (fun ls hl => ?_)
  refine lv_iconst (v := nI 1) hx hb dX0_twiceArea_2 (by decide) ?_
  refine lv_istore_n (lv' := [(2, .int (nI 1)), (1, .int (nI 0)), (0, .ref h)]) hx hb dX0_twiceArea_3 rfl hl (by decide) rfl (fun ls hl => ?_)
  have loop : ∀ (k_loop : Nat) (i : Nat) (sum : Int32), (1 ≤ i) → (i ≤ n ∨ i = 1) → (n + 2 ≤ i + k_loop) → (sum = Int32.ofInt (oh_ar (oh_pt fx fy) (min (i - 1) (n - 2)))) → ∀ (ls : Array Slot), lv_has ls 3 [(0, .ref h), (1, .int sum), (2, .int (nI i))] → W p l e (headSpec wsX0_twiceArea ({ frames := 2, cells := 0, slots := 0, locals := 47 })).room s m ([.ref h] : List Value).toArray below meth c s.heap [] 0 0 (MQ below (vp_Si (fun r => r = Int32.ofInt (oh_ar (oh_pt fx fy) (n - 2)))) ([.ref h] : List Value).toArray s 0 0 (fun _ => False)) (F0 m 4 ls []) := by
    clear hl
    intro k_loop
    induction k_loop with
    | zero =>
      intro i sum hi1 hi hk hI
      exfalso; omega
    | succ k_loop ih_loop =>
      intro i sum hi1 hi hk hI ls hl
      refine lv_iload_n hx hb dX0_twiceArea_4 rfl (lv_at hl 2 rfl) ?_
      refine lv_aload_n hx hb dX0_twiceArea_5 rfl (lv_at hl 0 rfl) ?_
      refine va_get (D := (dC, dI)) (ci := 0) (v := .int (nI n)) (C := RX0) (T := TX0) (N := 7) hx hb hts hin0 hown hK hP 0 rfl rfl 5 (by decide) (hts (.fieldLink RX0 32 "OnlineHull" "corners" "I") (by decide +kernel)) (fun _ h9 => h9) rfl dX0_twiceArea_6 ?_
      refine lv_icmp_ge (tgt := 38) hx hb dX0_twiceArea_9 (by decide) (fun c_9 => ?_) (fun c_9 => ?_)
      · have g_9 : n ≤ i := (nI_leI (a := n) (b := i) (by omega) (by omega)).mp c_9
        refine lv_iload_n hx hb dX0_twiceArea_38 rfl (lv_at hl 1 rfl) ?_
        exact W.iret (v := sum) hx hb hr (fun t ht hW => ⟨_, rfl, by rw [hI, show min (i - 1) (n - 2) = n - 2 by omega], ht⟩) (fun _ h => by cases h) dX0_twiceArea_39
      · have g_9 : ¬ n ≤ i := fun q => c_9 ((nI_leI (a := n) (b := i) (by omega) (by omega)).mpr q)
        refine lv_iload_n hx hb dX0_twiceArea_12 rfl (lv_at hl 1 rfl) ?_
        refine lv_aload_n hx hb dX0_twiceArea_13 rfl (lv_at hl 0 rfl) ?_
        refine lv_iload_n hx hb dX0_twiceArea_14 rfl (lv_at hl 2 rfl) ?_
        refine lv_aload_n hx hb dX0_twiceArea_15 rfl (lv_at hl 0 rfl) ?_
        refine va_get (D := (dC, dI)) (ci := 0) (v := .ref a1) (C := RX0) (T := TX0) (N := 7) hx hb hts hin0 hown hK hP 0 rfl rfl 1 (by decide) (hts (.fieldLink RX0 19 "OnlineHull" "cornerX" "[I") (by decide +kernel)) (fun _ h9 => h9) rfl dX0_twiceArea_16 ?_
        refine lv_iconst (v := nI 0) hx hb dX0_twiceArea_19 (by decide) ?_
        refine oh_ald hx hb hK hP 1 0 rfl rfl (k := 0) (by omega) (by omega) dX0_twiceArea_20 ?_
        refine lv_aload_n hx hb dX0_twiceArea_21 rfl (lv_at hl 0 rfl) ?_
        refine va_get (D := (dC, dI)) (ci := 0) (v := .ref a2) (C := RX0) (T := TX0) (N := 7) hx hb hts hin0 hown hK hP 0 rfl rfl 2 (by decide) (hts (.fieldLink RX0 23 "OnlineHull" "cornerY" "[I") (by decide +kernel)) (fun _ h9 => h9) rfl dX0_twiceArea_22 ?_
        refine lv_iconst (v := nI 0) hx hb dX0_twiceArea_25 (by decide) ?_
        refine oh_ald hx hb hK hP 2 0 rfl rfl (k := 0) (by omega) (by omega) dX0_twiceArea_26 ?_
        refine vp_callSi (va_Run.run (va_runV (As := [.int (nI i), .int (fx 0), .int (fy 0)]) (rest := [.int sum]) ⟨hx, hb, hml, hown, hts⟩ (k_X0_turn l dC dI cI h a1 a2 a3 a4 N n came fx fy rx ry i (fx 0) (fy 0) hN hn (by omega) hR (hR 0 (by omega))) (cwV 3 hts gX0_twiceArea_X0_turn rfl rfl rfl (by decide +kernel) ⟨Nat.le_of_ble_eq_true rfl, Nat.le_of_ble_eq_true rfl⟩) (oh_pre (ci := 0) (q0 := 0) hK hP rfl rfl) rfl rfl hl.1 rfl (lv_room (Nat.le_of_ble_eq_true rfl)) dX0_twiceArea_27 ⟨Nat.zero_le _, Nat.zero_le _⟩)) (fun r_27 hr_27 => ?_)
        refine lv_iadd hx hb dX0_twiceArea_30 ?_
        refine lv_istore_n (lv' := [(1, .int (sum + r_27)), (0, .ref h), (2, .int (nI i))]) hx hb dX0_twiceArea_31 rfl hl (by decide) rfl (fun ls hl => ?_)
        refine lv_iinc (v := nI (i + 1)) (lv' := [(2, .int (nI (i + 1))), (1, .int (sum + r_27)), (0, .ref h)]) hx hb dX0_twiceArea_32 hl (k := 2) rfl (nI_1 i) (by decide) rfl (fun ls hl => ?_)
        refine lv_goto (tgt := 4) hx hb dX0_twiceArea_35 (by decide) ?_
        exact ih_loop (i + 1) (sum + r_27) (by omega) (by omega) (by omega) (oh_arS hI hr_27 (by omega) hi1) ls (lv_sub hl [2, 1, 0] rfl)
  exact loop (n + 2) 1 (nI 0) (by omega) (by omega) (by omega) (by rw [show min (1 - 1) (n - 2) = 0 by omega]; rfl) ls (lv_sub hl [2, 1, 0] rfl)

set_option maxHeartbeats 4000000 in
set_option maxRecDepth 100000 in
theorem k_X0_farthest (l : Launch) (dC : Nat → ClassId) (dI : Nat → Nat → Nat) (cI : ClassId) (h a1 a2 a3 a4 N n : Nat) (came : Int32) (fx fy rx ry : Nat → Int32) (x y : Int32) (hN : N ≤ 64) (hn : n ≤ N) (hR : ∀ j, j < n → oh_inR (fx j) (fy j)) : Met l yX0_farthest wsX0_farthest ({ frames := 1, cells := 0, slots := 0, locals := 23 }) (va_Pc [.ref h, .int x, .int y] (fun U => va_P (dC, dI) vwCl [(h, .inr (0, [.int (nI N), .ref a1, .ref a2, .ref a3, .ref a4, .int (nI n), .int came])), (a1, .inl (cI, N, .inl fx)), (a2, .inl (cI, N, .inl fy)), (a3, .inl (cI, N, .inl rx)), (a4, .inl (cI, N, .inl ry))] U.heap ∧ va_K (dC, dI) vwCl [(cI, .int)] U)) (vp_Si (fun r => oh_far n (oh_pt fx fy) x y r)) 0 0 (fun _ => False) := by
  refine Met.ofW (cc := cX0_farthest) (maxL := 5) (ret := (some .int)) (by decide) rfl ?_
  intro p e s m args below meth c s₁ B hml hv
  obtain ⟨rfl, hP, hK⟩ := hv
  have hx := B.exec
  have hb := B.bytes
  have hr := B.returns
  have hts := atoms_spec (ws := wsX0_farthest) B.pre
  have hown : s.vm.findClass RX0 = some m.cls := findClass_of_methodNamed B.named
  have hlocks := B.notSynchronized
  have hin0 : ∀ w ∈ wsX00, w ∈ wsX0_farthest := fun w h => List.mem_cons_of_mem _ (List.mem_append_right _ h)
  have hl := lv_entry ([.ref h, .int x, .int y]) (n := 5) (Nat.le_of_ble_eq_true rfl)
  rw [lg_entry_eq]
  generalize (lg_sl ([.ref h, .int x, .int y]) ++ List.replicate (5 - (lg_sl ([.ref h, .int x, .int y])).length) Slot.unset).toArray = ls at hl ⊢
  have hl : lv_has ls 5 [(0, .ref h), (1, .int x), (2, .int y)] := hl
  refine lv_aload_n hx hb dX0_farthest_0 rfl (lv_at hl 0 rfl) ?_
  refine va_get (D := (dC, dI)) (ci := 0) (v := .int (nI n)) (C := RX0) (T := TX0) (N := 7) hx hb hts hin0 hown hK hP 0 rfl rfl 5 (by decide) (hts (.fieldLink RX0 32 "OnlineHull" "corners" "I") (by decide +kernel)) (fun _ h9 => h9) rfl dX0_farthest_1 ?_
  refine lv_if_eq (tgt := 15) hx hb dX0_farthest_4 (by decide) (fun c_4 => ?_) (fun c_4 => ?_)
  · have g_4 : n = 0 := (nI_eq (a := n) (b := 0) (by omega) (by omega)).mp (c_4.trans nI_0.symm)
    refine lv_iconst (v := -1) hx hb dX0_farthest_15 (by decide) ?_
    exact W.iret (v := -1) hx hb hr (fun t ht hW => ⟨_, rfl, Or.inl ⟨by first | exact Or.inl (by omega) | exact Or.inr b_9, rfl⟩, ht⟩) (fun _ h => by cases h) dX0_farthest_16
  · have g_4 : n ≠ 0 := fun q => (fun q => c_4 (q.trans nI_0)) ((nI_eq (a := n) (b := 0) (by omega) (by omega)).mpr q)
    refine lv_iload_n hx hb dX0_farthest_7 rfl (lv_at hl 1 rfl) ?_
    refine lv_iload_n hx hb dX0_farthest_8 rfl (lv_at hl 2 rfl) ?_
    refine vp_callSi (va_Run.run (va_runS (As := [.int x, .int y]) (rest := []) ⟨hx, hb, hml, hown, hts⟩ (k_X0_inRange l x y) (va_cwS 2 hts gX0_farthest_X0_inRange rfl rfl rfl (by decide +kernel) ⟨Nat.le_of_ble_eq_true rfl, Nat.le_of_ble_eq_true rfl⟩) oh_pre0 rfl rfl hl.1 rfl (lv_room (Nat.le_of_ble_eq_true rfl)) dX0_farthest_9 ⟨Nat.zero_le _, Nat.zero_le _⟩)) (fun r_9 hr_9 => ?_)
    rcases hr_9 with ⟨b_9, hr_9⟩ | ⟨b_9, hr_9⟩ <;> subst hr_9
    · refine lv_if_ne (tgt := 17) hx hb dX0_farthest_12 (by decide) (fun _ => ?_) (fun q => absurd q (by decide))
      refine lv_iconst (v := nI 0) hx hb dX0_farthest_17 (by decide) ?_
      refine lv_istore_n (lv' := [(3, .int (nI 0)), (0, .ref h), (1, .int x), (2, .int y)]) hx hb dX0_farthest_18 rfl hl (by decide) rfl (fun ls hl => ?_)
      refine lv_iconst (v := nI 1) hx hb dX0_farthest_19 (by decide) ?_
      refine lv_istore (lv' := [(4, .int (nI 1)), (3, .int (nI 0)), (0, .ref h), (1, .int x), (2, .int y)]) hx hb dX0_farthest_20 hl (by decide) rfl (fun ls hl => ?_)
      have loop : ∀ (k_loop : Nat) (i : Nat) (b : Nat), (1 ≤ i) → (i ≤ n) → (n + 1 ≤ i + k_loop) → (b < i) → (∀ j, j < i → oh_rc (oh_pt fx fy) x.toInt y.toInt j ≤ oh_rc (oh_pt fx fy) x.toInt y.toInt b) → (∀ j, j < b → oh_rc (oh_pt fx fy) x.toInt y.toInt j < oh_rc (oh_pt fx fy) x.toInt y.toInt b) → ∀ (ls : Array Slot), lv_has ls 5 [(0, .ref h), (1, .int x), (2, .int y), (3, .int (nI b)), (4, .int (nI i))] → W p l e (headSpec wsX0_farthest ({ frames := 1, cells := 0, slots := 0, locals := 23 })).room s m ([.ref h, .int x, .int y] : List Value).toArray below meth c s.heap [] 0 0 (MQ below (vp_Si (fun r => oh_far n (oh_pt fx fy) x y r)) ([.ref h, .int x, .int y] : List Value).toArray s 0 0 (fun _ => False)) (F0 m 22 ls []) := by
        clear hl
        intro k_loop
        induction k_loop with
        | zero =>
          intro i b hi1 hi hk hb9 hI1 hI2
          exfalso; omega
        | succ k_loop ih_loop =>
          intro i b hi1 hi hk hb9 hI1 hI2 ls hl
          refine lv_iload hx hb dX0_farthest_22 (lv_at hl 4 rfl) ?_
          refine lv_aload_n hx hb dX0_farthest_24 rfl (lv_at hl 0 rfl) ?_
          refine va_get (D := (dC, dI)) (ci := 0) (v := .int (nI n)) (C := RX0) (T := TX0) (N := 7) hx hb hts hin0 hown hK hP 0 rfl rfl 5 (by decide) (hts (.fieldLink RX0 32 "OnlineHull" "corners" "I") (by decide +kernel)) (fun _ h9 => h9) rfl dX0_farthest_25 ?_
          refine lv_icmp_ge (tgt := 58) hx hb dX0_farthest_28 (by decide) (fun c_28 => ?_) (fun c_28 => ?_)
          · have g_28 : n ≤ i := (nI_leI (a := n) (b := i) (by omega) (by omega)).mp c_28
            refine lv_iload_n hx hb dX0_farthest_58 rfl (lv_at hl 3 rfl) ?_
            exact W.iret (v := nI b) hx hb hr (fun t ht hW => ⟨_, rfl, Or.inr ⟨b_9, b, by omega, rfl, fun j hj => hI1 j (by omega), hI2⟩, ht⟩) (fun _ h => by cases h) dX0_farthest_59
          · have g_28 : ¬ n ≤ i := fun q => c_28 ((nI_leI (a := n) (b := i) (by omega) (by omega)).mpr q)
            refine lv_aload_n hx hb dX0_farthest_31 rfl (lv_at hl 0 rfl) ?_
            refine lv_iload hx hb dX0_farthest_32 (lv_at hl 4 rfl) ?_
            refine lv_iload_n hx hb dX0_farthest_34 rfl (lv_at hl 1 rfl) ?_
            refine lv_iload_n hx hb dX0_farthest_35 rfl (lv_at hl 2 rfl) ?_
            refine vp_callSi (va_Run.run (va_runV (As := [.int (nI i), .int x, .int y]) (rest := []) ⟨hx, hb, hml, hown, hts⟩ (k_X0_reach l dC dI cI h a1 a2 a3 a4 N n came fx fy rx ry i x y hN hn (by omega) hR b_9) (cwV 3 hts gX0_farthest_X0_reach rfl rfl rfl (by decide +kernel) ⟨Nat.le_of_ble_eq_true rfl, Nat.le_of_ble_eq_true rfl⟩) (oh_pre (ci := 0) (q0 := 0) hK hP rfl rfl) rfl rfl hl.1 rfl (lv_room (Nat.le_of_ble_eq_true rfl)) dX0_farthest_36 ⟨Nat.zero_le _, Nat.zero_le _⟩)) (fun r_36 hr_36 => ?_)
            have hr_36 : r_36.toInt = oh_rc (oh_pt fx fy) x.toInt y.toInt i := hr_36
            refine lv_aload_n hx hb dX0_farthest_39 rfl (lv_at hl 0 rfl) ?_
            refine lv_iload_n hx hb dX0_farthest_40 rfl (lv_at hl 3 rfl) ?_
            refine lv_iload_n hx hb dX0_farthest_41 rfl (lv_at hl 1 rfl) ?_
            refine lv_iload_n hx hb dX0_farthest_42 rfl (lv_at hl 2 rfl) ?_
            refine vp_callSi (va_Run.run (va_runV (As := [.int (nI b), .int x, .int y]) (rest := [.int r_36]) ⟨hx, hb, hml, hown, hts⟩ (k_X0_reach l dC dI cI h a1 a2 a3 a4 N n came fx fy rx ry b x y hN hn (by omega) hR b_9) (cwV 3 hts gX0_farthest_X0_reach rfl rfl rfl (by decide +kernel) ⟨Nat.le_of_ble_eq_true rfl, Nat.le_of_ble_eq_true rfl⟩) (oh_pre (ci := 0) (q0 := 0) hK hP rfl rfl) rfl rfl hl.1 rfl (lv_room (Nat.le_of_ble_eq_true rfl)) dX0_farthest_43 ⟨Nat.zero_le _, Nat.zero_le _⟩)) (fun r_43 hr_43 => ?_)
            have hr_43 : r_43.toInt = oh_rc (oh_pt fx fy) x.toInt y.toInt b := hr_43
            refine lv_icmp_le (tgt := 52) hx hb dX0_farthest_46 (by decide) (fun c_46 => ?_) (fun c_46 => ?_)
            · have g_46 : r_36.toInt ≤ r_43.toInt := oh_leI c_46
              refine lv_iinc (v := nI (i + 1)) (lv' := [(4, .int (nI (i + 1))), (0, .ref h), (1, .int x), (2, .int y), (3, .int (nI b))]) hx hb dX0_farthest_52 hl (k := 4) rfl (nI_1 i) (by decide) rfl (fun ls hl => ?_)
              refine lv_goto (tgt := 22) hx hb dX0_farthest_55 (by decide) ?_
              exact ih_loop (i + 1) b (by omega) (by omega) (by omega) (by omega) (lt_s hI1 (by omega)) (hI2) ls (lv_sub hl [1, 2, 3, 4, 0] rfl)
            · have g_46 : r_43.toInt < r_36.toInt := oh_nleI c_46
              refine lv_iload hx hb dX0_farthest_49 (lv_at hl 4 rfl) ?_
              refine lv_istore_n (lv' := [(3, .int (nI i)), (0, .ref h), (1, .int x), (2, .int y), (4, .int (nI i))]) hx hb dX0_farthest_51 rfl hl (by decide) rfl (fun ls hl => ?_)
              refine lv_iinc (v := nI (i + 1)) (lv' := [(4, .int (nI (i + 1))), (3, .int (nI i)), (0, .ref h), (1, .int x), (2, .int y)]) hx hb dX0_farthest_52 hl (k := 4) rfl (nI_1 i) (by decide) rfl (fun ls hl => ?_)
              refine lv_goto (tgt := 22) hx hb dX0_farthest_55 (by decide) ?_
              exact ih_loop (i + 1) i (by omega) (by omega) (by omega) (by omega) (lt_s (fun j hj => by have := hI1 j hj; omega) (Int.le_refl _)) (fun j hj => by have := hI1 j hj; omega) ls (lv_sub hl [2, 3, 4, 1, 0] rfl)
      exact loop (n + 1) 1 0 (by omega) (by omega) (by omega) (by omega) (fun j hj => by rw [show j = 0 by omega]; exact Int.le_refl _) (fun j hj => by omega) ls (lv_sub hl [2, 3, 4, 1, 0] rfl)
    · refine lv_if_ne (tgt := 17) hx hb dX0_farthest_12 (by decide) (fun q => absurd q (by decide)) (fun _ => ?_)
      refine lv_iconst (v := -1) hx hb dX0_farthest_15 (by decide) ?_
      exact W.iret (v := -1) hx hb hr (fun t ht hW => ⟨_, rfl, Or.inl ⟨by first | exact Or.inl (by omega) | exact Or.inr b_9, rfl⟩, ht⟩) (fun _ h => by cases h) dX0_farthest_16

set_option maxHeartbeats 4000000 in
set_option maxRecDepth 100000 in
theorem k_X0_diameter (l : Launch) (dC : Nat → ClassId) (dI : Nat → Nat → Nat) (cI : ClassId) (h a1 a2 a3 a4 N n : Nat) (came : Int32) (fx fy rx ry : Nat → Int32) (hN : N ≤ 64) (hn : n ≤ N) (hR : ∀ j, j < n → oh_inR (fx j) (fy j)) : Met l yX0_diameter wsX0_diameter ({ frames := 1, cells := 0, slots := 0, locals := 24 }) (va_Pc [.ref h] (fun U => va_P (dC, dI) vwCl [(h, .inr (0, [.int (nI N), .ref a1, .ref a2, .ref a3, .ref a4, .int (nI n), .int came])), (a1, .inl (cI, N, .inl fx)), (a2, .inl (cI, N, .inl fy)), (a3, .inl (cI, N, .inl rx)), (a4, .inl (cI, N, .inl ry))] U.heap ∧ va_K (dC, dI) vwCl [(cI, .int)] U)) (vp_Si (fun r => oh_dia n (oh_pt fx fy) r)) 0 0 (fun _ => False) := by
  refine Met.ofW (cc := cX0_diameter) (maxL := 4) (ret := (some .int)) (by decide) rfl ?_
  intro p e s m args below meth c s₁ B hml hv
  obtain ⟨rfl, hP, hK⟩ := hv
  have hx := B.exec
  have hb := B.bytes
  have hr := B.returns
  have hts := atoms_spec (ws := wsX0_diameter) B.pre
  have hown : s.vm.findClass RX0 = some m.cls := findClass_of_methodNamed B.named
  have hlocks := B.notSynchronized
  have hin0 : ∀ w ∈ wsX00, w ∈ wsX0_diameter := fun w h => List.mem_cons_of_mem _ (List.mem_append_right _ h)
  have hl := lv_entry ([.ref h]) (n := 4) (Nat.le_of_ble_eq_true rfl)
  rw [lg_entry_eq]
  generalize (lg_sl ([.ref h]) ++ List.replicate (4 - (lg_sl ([.ref h])).length) Slot.unset).toArray = ls at hl ⊢
  have hl : lv_has ls 4 [(0, .ref h)] := hl
  refine lv_iconst (v := nI 0) hx hb dX0_diameter_0 (by decide) ?_
  refine lv_istore_n (lv' := [(1, .int (nI 0)), (0, .ref h)]) hx hb dX0_diameter_1 rfl hl (by decide) rfl (fun ls hl => ?_)
  refine lv_iconst (v := nI 0) hx hb dX0_diameter_2 (by decide) ?_
  refine lv_istore_n (lv' := [(2, .int (nI 0)), (1, .int (nI 0)), (0, .ref h)]) hx hb dX0_diameter_3 rfl hl (by decide) rfl (fun ls hl => ?_)
  have loop : ∀ (k_loop : Nat) (i : Nat) (gr : Int32), (i ≤ n) → (n + 1 ≤ i + k_loop) → (0 ≤ gr.toInt) → (∀ a b, a < b → b < i → oh_d2 (oh_pt fx fy a) (oh_pt fx fy b) ≤ gr.toInt) → (gr.toInt = 0 ∨ ∃ a b, a < b ∧ b < n ∧ gr.toInt = oh_d2 (oh_pt fx fy a) (oh_pt fx fy b)) → ∀ (ls : Array Slot), lv_has ls 4 [(0, .ref h), (1, .int gr), (2, .int (nI i))] → W p l e (headSpec wsX0_diameter ({ frames := 1, cells := 0, slots := 0, locals := 24 })).room s m ([.ref h] : List Value).toArray below meth c s.heap [] 0 0 (MQ below (vp_Si (fun r => oh_dia n (oh_pt fx fy) r)) ([.ref h] : List Value).toArray s 0 0 (fun _ => False)) (F0 m 4 ls []) := by
    clear hl
    intro k_loop
    induction k_loop with
    | zero =>
      intro i gr hi hk hG0 hG1 hG2
      exfalso; omega
    | succ k_loop ih_loop =>
      intro i gr hi hk hG0 hG1 hG2 ls hl
      refine lv_iload_n hx hb dX0_diameter_4 rfl (lv_at hl 2 rfl) ?_
      refine lv_aload_n hx hb dX0_diameter_5 rfl (lv_at hl 0 rfl) ?_
      refine va_get (D := (dC, dI)) (ci := 0) (v := .int (nI n)) (C := RX0) (T := TX0) (N := 7) hx hb hts hin0 hown hK hP 0 rfl rfl 5 (by decide) (hts (.fieldLink RX0 32 "OnlineHull" "corners" "I") (by decide +kernel)) (fun _ h9 => h9) rfl dX0_diameter_6 ?_
      refine lv_icmp_ge (tgt := 42) hx hb dX0_diameter_9 (by decide) (fun c_9 => ?_) (fun c_9 => ?_)
      · have g_9 : n ≤ i := (nI_leI (a := n) (b := i) (by omega) (by omega)).mp c_9
        refine lv_iload_n hx hb dX0_diameter_42 rfl (lv_at hl 1 rfl) ?_
        exact W.iret (v := gr) hx hb hr (fun t ht hW => ⟨_, rfl, ⟨hG0, fun a b h1 h2 => hG1 a b h1 (by omega), hG2⟩, ht⟩) (fun _ h => by cases h) dX0_diameter_43
      · have g_9 : ¬ n ≤ i := fun q => c_9 ((nI_leI (a := n) (b := i) (by omega) (by omega)).mpr q)
        refine lv_iconst (v := nI 0) hx hb dX0_diameter_12 (by decide) ?_
        refine lv_istore_n (lv' := [(3, .int (nI 0)), (0, .ref h), (1, .int gr), (2, .int (nI i))]) hx hb dX0_diameter_13 rfl hl (by decide) rfl (fun ls hl => ?_)
        have loopj : ∀ (k_loopj : Nat) (j : Nat) (gr : Int32), (j ≤ i) → (i + 1 ≤ j + k_loopj) → (0 ≤ gr.toInt) → (∀ a b, a < b → b < i → oh_d2 (oh_pt fx fy a) (oh_pt fx fy b) ≤ gr.toInt) → (∀ a, a < j → oh_d2 (oh_pt fx fy a) (oh_pt fx fy i) ≤ gr.toInt) → (gr.toInt = 0 ∨ ∃ a b, a < b ∧ b < n ∧ gr.toInt = oh_d2 (oh_pt fx fy a) (oh_pt fx fy b)) → ∀ (ls : Array Slot), lv_has ls 4 [(0, .ref h), (1, .int gr), (2, .int (nI i)), (3, .int (nI j))] → W p l e (headSpec wsX0_diameter ({ frames := 1, cells := 0, slots := 0, locals := 24 })).room s m ([.ref h] : List Value).toArray below meth c s.heap [] 0 0 (MQ below (vp_Si (fun r => oh_dia n (oh_pt fx fy) r)) ([.ref h] : List Value).toArray s 0 0 (fun _ => False)) (F0 m 14 ls []) := by
          clear hl
          intro k_loopj
          induction k_loopj with
          | zero =>
            intro j gr hj hk2 hG0 hG1 hG3 hG2
            exfalso; omega
          | succ k_loopj ih_loopj =>
            intro j gr hj hk2 hG0 hG1 hG3 hG2 ls hl
            refine lv_iload_n hx hb dX0_diameter_14 rfl (lv_at hl 3 rfl) ?_
            refine lv_iload_n hx hb dX0_diameter_15 rfl (lv_at hl 2 rfl) ?_
            refine lv_icmp_ge (tgt := 36) hx hb dX0_diameter_16 (by decide) (fun c_16 => ?_) (fun c_16 => ?_)
            · have g_16 : i ≤ j := (nI_leI (a := i) (b := j) (by omega) (by omega)).mp c_16
              refine lv_iinc (v := nI (i + 1)) (lv' := [(2, .int (nI (i + 1))), (0, .ref h), (1, .int gr), (3, .int (nI j))]) hx hb dX0_diameter_36 hl (k := 2) rfl (nI_1 i) (by decide) rfl (fun ls hl => ?_)
              refine lv_goto (tgt := 4) hx hb dX0_diameter_39 (by decide) ?_
              exact ih_loop (i + 1) gr (by omega) (by omega) (hG0) (fun a b h1 h2 => by by_cases hb : b = i; exact (by subst hb; exact hG3 a (by omega)); exact (hG1 a b h1 (by omega))) (hG2) ls (lv_sub hl [1, 2, 0] rfl)
            · have g_16 : ¬ i ≤ j := fun q => c_16 ((nI_leI (a := i) (b := j) (by omega) (by omega)).mpr q)
              refine lv_iload_n hx hb dX0_diameter_19 rfl (lv_at hl 1 rfl) ?_
              refine lv_aload_n hx hb dX0_diameter_20 rfl (lv_at hl 0 rfl) ?_
              refine lv_iload_n hx hb dX0_diameter_21 rfl (lv_at hl 2 rfl) ?_
              refine lv_iload_n hx hb dX0_diameter_22 rfl (lv_at hl 3 rfl) ?_
              refine vp_callSi (va_Run.run (va_runV (As := [.int (nI i), .int (nI j)]) (rest := [.int gr]) ⟨hx, hb, hml, hown, hts⟩ (k_X0_squaredDistance l dC dI cI h a1 a2 a3 a4 N n came fx fy rx ry i j hN hn (by omega) (by omega) hR) (cwV 2 hts gX0_diameter_X0_squaredDistance rfl rfl rfl (by decide +kernel) ⟨Nat.le_of_ble_eq_true rfl, Nat.le_of_ble_eq_true rfl⟩) (oh_pre (ci := 0) (q0 := 0) hK hP rfl rfl) rfl rfl hl.1 rfl (lv_room (Nat.le_of_ble_eq_true rfl)) dX0_diameter_23 ⟨Nat.zero_le _, Nat.zero_le _⟩)) (fun r_23 hr_23 => ?_)
              refine va_mmax hx hb (by rw [hml]; exact hl.1.symm) hown (hts (.methodLink RX0 74 Lib.Math.max.name) (by decide +kernel)) (hts (.static Lib.Math.max.name) (by decide +kernel)) (hts (.initialized "java/lang/Math") (by decide +kernel)) (hts (.code Lib.Math.max.name Lib.Math.max.code 2 (some .int)) (by decide +kernel)) (Nat.le_of_ble_eq_true rfl) (Nat.le_of_ble_eq_true rfl) (Nat.zero_le _) (Nat.zero_le _) dX0_diameter_26 ?_
              refine lv_topi (fun mx_26 e_26 => ?_)
              have f_26 := oh_mx e_26
              refine lv_istore_n (lv' := [(1, .int mx_26), (0, .ref h), (2, .int (nI i)), (3, .int (nI j))]) hx hb dX0_diameter_29 rfl hl (by decide) rfl (fun ls hl => ?_)
              refine lv_iinc (v := nI (j + 1)) (lv' := [(3, .int (nI (j + 1))), (1, .int mx_26), (0, .ref h), (2, .int (nI i))]) hx hb dX0_diameter_30 hl (k := 3) rfl (nI_1 j) (by decide) rfl (fun ls hl => ?_)
              refine lv_goto (tgt := 14) hx hb dX0_diameter_33 (by decide) ?_
              exact ih_loopj (j + 1) mx_26 (by omega) (by omega) (by rcases f_26 with ⟨f, e⟩ | ⟨f, e⟩ <;> subst e <;> omega) (fun a b h1 h2 => by have := hG1 a b h1 h2; rcases f_26 with ⟨f, e⟩ | ⟨f, e⟩ <;> subst e <;> omega) (lt_s (fun a ha => by have := hG3 a ha; rcases f_26 with ⟨f, e⟩ | ⟨f, e⟩ <;> subst e <;> omega) (by rcases f_26 with ⟨f, e⟩ | ⟨f, e⟩ <;> subst e <;> omega)) (by rcases f_26 with ⟨f, e⟩ | ⟨f, e⟩ <;> subst e; exact (Or.inr ⟨j, i, by omega, by omega, by omega⟩); exact (hG2)) ls (lv_sub hl [2, 1, 3, 0] rfl)
        exact loopj (i + 1) 0 gr (by omega) (by omega) (hG0) (hG1) (fun a ha => by omega) (hG2) ls (lv_sub hl [1, 2, 3, 0] rfl)
  exact loop (n + 1) 0 (nI 0) (by omega) (by omega) (by decide) (fun a b h1 h2 => by omega) (Or.inl (by decide)) ls (lv_sub hl [2, 1, 0] rfl)

set_option maxHeartbeats 4000000 in
set_option maxRecDepth 100000 in
theorem k_X0_leastOfRing (l : Launch) (dC : Nat → ClassId) (dI : Nat → Nat → Nat) (cI : ClassId) (h a1 a2 a3 a4 N n : Nat) (came : Int32) (fx fy rx ry : Nat → Int32) (hN : N ≤ 64) (hn : n ≤ N) (h0 : 0 < n) : Met l yX0_leastOfRing wsX0_leastOfRing ({ frames := 1, cells := 0, slots := 0, locals := 23 }) (va_Pc [.ref h] (fun U => va_P (dC, dI) vwCl [(h, .inr (0, [.int (nI N), .ref a1, .ref a2, .ref a3, .ref a4, .int (nI n), .int came])), (a1, .inl (cI, N, .inl fx)), (a2, .inl (cI, N, .inl fy)), (a3, .inl (cI, N, .inl rx)), (a4, .inl (cI, N, .inl ry))] U.heap ∧ va_K (dC, dI) vwCl [(cI, .int)] U)) (vp_Si (fun r => ∃ b, b < n ∧ r = nI b ∧ ∀ j, j < n → ¬ oh_lx ((oh_pt rx ry) j) ((oh_pt rx ry) b))) 0 0 (fun _ => False) := by
  refine Met.ofW (cc := cX0_leastOfRing) (maxL := 3) (ret := (some .int)) (by decide) rfl ?_
  intro p e s m args below meth c s₁ B hml hv
  obtain ⟨rfl, hP, hK⟩ := hv
  have hx := B.exec
  have hb := B.bytes
  have hr := B.returns
  have hts := atoms_spec (ws := wsX0_leastOfRing) B.pre
  have hown : s.vm.findClass RX0 = some m.cls := findClass_of_methodNamed B.named
  have hlocks := B.notSynchronized
  have hin0 : ∀ w ∈ wsX00, w ∈ wsX0_leastOfRing := fun w h => List.mem_cons_of_mem _ (List.mem_append_right _ h)
  have hl := lv_entry ([.ref h]) (n := 3) (Nat.le_of_ble_eq_true rfl)
  rw [lg_entry_eq]
  generalize (lg_sl ([.ref h]) ++ List.replicate (3 - (lg_sl ([.ref h])).length) Slot.unset).toArray = ls at hl ⊢
  have hl : lv_has ls 3 [(0, .ref h)] := hl
  refine lv_iconst (v := nI 0) hx hb dX0_leastOfRing_0 (by decide) ?_
  refine lv_istore_n (lv' := [(1, .int (nI 0)), (0, .ref h)]) hx hb dX0_leastOfRing_1 rfl hl (by decide) rfl (fun ls hl => ?_)
  refine lv_iconst (v := nI 1) hx hb dX0_leastOfRing_2 (by decide) ?_
  refine lv_istore_n (lv' := [(2, .int (nI 1)), (1, .int (nI 0)), (0, .ref h)]) hx hb dX0_leastOfRing_3 rfl hl (by decide) rfl (fun ls hl => ?_)
  have loop : ∀ (k_loop : Nat) (i : Nat) (b : Nat), (1 ≤ i) → (i ≤ n) → (n + 1 ≤ i + k_loop) → (b < i) → (∀ j, j < i → ¬ oh_lx ((oh_pt rx ry) j) ((oh_pt rx ry) b)) → ∀ (ls : Array Slot), lv_has ls 3 [(0, .ref h), (1, .int (nI b)), (2, .int (nI i))] → W p l e (headSpec wsX0_leastOfRing ({ frames := 1, cells := 0, slots := 0, locals := 23 })).room s m ([.ref h] : List Value).toArray below meth c s.heap [] 0 0 (MQ below (vp_Si (fun r => ∃ b, b < n ∧ r = nI b ∧ ∀ j, j < n → ¬ oh_lx ((oh_pt rx ry) j) ((oh_pt rx ry) b))) ([.ref h] : List Value).toArray s 0 0 (fun _ => False)) (F0 m 4 ls []) := by
    clear hl
    intro k_loop
    induction k_loop with
    | zero =>
      intro i b hi1 hi hk hb9 hI
      exfalso; omega
    | succ k_loop ih_loop =>
      intro i b hi1 hi hk hb9 hI ls hl
      refine lv_iload_n hx hb dX0_leastOfRing_4 rfl (lv_at hl 2 rfl) ?_
      refine lv_aload_n hx hb dX0_leastOfRing_5 rfl (lv_at hl 0 rfl) ?_
      refine va_get (D := (dC, dI)) (ci := 0) (v := .int (nI n)) (C := RX0) (T := TX0) (N := 7) hx hb hts hin0 hown hK hP 0 rfl rfl 5 (by decide) (hts (.fieldLink RX0 32 "OnlineHull" "corners" "I") (by decide +kernel)) (fun _ h9 => h9) rfl dX0_leastOfRing_6 ?_
      refine lv_icmp_ge (tgt := 50) hx hb dX0_leastOfRing_9 (by decide) (fun c_9 => ?_) (fun c_9 => ?_)
      · have g_9 : n ≤ i := (nI_leI (a := n) (b := i) (by omega) (by omega)).mp c_9
        refine lv_iload_n hx hb dX0_leastOfRing_50 rfl (lv_at hl 1 rfl) ?_
        exact W.iret (v := nI b) hx hb hr (fun t ht hW => ⟨_, rfl, ⟨b, by omega, rfl, fun j hj => hI j (by omega)⟩, ht⟩) (fun _ h => by cases h) dX0_leastOfRing_51
      · have g_9 : ¬ n ≤ i := fun q => c_9 ((nI_leI (a := n) (b := i) (by omega) (by omega)).mpr q)
        refine lv_aload_n hx hb dX0_leastOfRing_12 rfl (lv_at hl 0 rfl) ?_
        refine va_get (D := (dC, dI)) (ci := 0) (v := .ref a3) (C := RX0) (T := TX0) (N := 7) hx hb hts hin0 hown hK hP 0 rfl rfl 3 (by decide) (hts (.fieldLink RX0 26 "OnlineHull" "ringX" "[I") (by decide +kernel)) (fun _ h9 => h9) rfl dX0_leastOfRing_13 ?_
        refine lv_iload_n hx hb dX0_leastOfRing_16 rfl (lv_at hl 2 rfl) ?_
        refine oh_ald hx hb hK hP 3 0 rfl rfl (k := i) (by omega) (by omega) dX0_leastOfRing_17 ?_
        refine lv_aload_n hx hb dX0_leastOfRing_18 rfl (lv_at hl 0 rfl) ?_
        refine va_get (D := (dC, dI)) (ci := 0) (v := .ref a4) (C := RX0) (T := TX0) (N := 7) hx hb hts hin0 hown hK hP 0 rfl rfl 4 (by decide) (hts (.fieldLink RX0 29 "OnlineHull" "ringY" "[I") (by decide +kernel)) (fun _ h9 => h9) rfl dX0_leastOfRing_19 ?_
        refine lv_iload_n hx hb dX0_leastOfRing_22 rfl (lv_at hl 2 rfl) ?_
        refine oh_ald hx hb hK hP 4 0 rfl rfl (k := i) (by omega) (by omega) dX0_leastOfRing_23 ?_
        refine lv_aload_n hx hb dX0_leastOfRing_24 rfl (lv_at hl 0 rfl) ?_
        refine va_get (D := (dC, dI)) (ci := 0) (v := .ref a3) (C := RX0) (T := TX0) (N := 7) hx hb hts hin0 hown hK hP 0 rfl rfl 3 (by decide) (hts (.fieldLink RX0 26 "OnlineHull" "ringX" "[I") (by decide +kernel)) (fun _ h9 => h9) rfl dX0_leastOfRing_25 ?_
        refine lv_iload_n hx hb dX0_leastOfRing_28 rfl (lv_at hl 1 rfl) ?_
        refine oh_ald hx hb hK hP 3 0 rfl rfl (k := b) (by omega) (by omega) dX0_leastOfRing_29 ?_
        refine lv_aload_n hx hb dX0_leastOfRing_30 rfl (lv_at hl 0 rfl) ?_
        refine va_get (D := (dC, dI)) (ci := 0) (v := .ref a4) (C := RX0) (T := TX0) (N := 7) hx hb hts hin0 hown hK hP 0 rfl rfl 4 (by decide) (hts (.fieldLink RX0 29 "OnlineHull" "ringY" "[I") (by decide +kernel)) (fun _ h9 => h9) rfl dX0_leastOfRing_31 ?_
        refine lv_iload_n hx hb dX0_leastOfRing_34 rfl (lv_at hl 1 rfl) ?_
        refine oh_ald hx hb hK hP 4 0 rfl rfl (k := b) (by omega) (by omega) dX0_leastOfRing_35 ?_
        refine vp_callSi (va_Run.run (va_runS (As := [.int (rx i), .int (ry i), .int (rx b), .int (ry b)]) (rest := []) ⟨hx, hb, hml, hown, hts⟩ (k_X0_comesBefore l (rx i) (ry i) (rx b) (ry b)) (va_cwS 4 hts gX0_leastOfRing_X0_comesBefore rfl rfl rfl (by decide +kernel) ⟨Nat.le_of_ble_eq_true rfl, Nat.le_of_ble_eq_true rfl⟩) oh_pre0 rfl rfl hl.1 rfl (lv_room (Nat.le_of_ble_eq_true rfl)) dX0_leastOfRing_36 ⟨Nat.zero_le _, Nat.zero_le _⟩)) (fun r_36 hr_36 => ?_)
        rcases hr_36 with ⟨b_36, hr_36⟩ | ⟨b_36, hr_36⟩ <;> subst hr_36
        · refine lv_if_eq (tgt := 44) hx hb dX0_leastOfRing_39 (by decide) (fun q => absurd q (by decide)) (fun _ => ?_)
          refine lv_iload_n hx hb dX0_leastOfRing_42 rfl (lv_at hl 2 rfl) ?_
          refine lv_istore_n (lv' := [(1, .int (nI i)), (0, .ref h), (2, .int (nI i))]) hx hb dX0_leastOfRing_43 rfl hl (by decide) rfl (fun ls hl => ?_)
          refine lv_iinc (v := nI (i + 1)) (lv' := [(2, .int (nI (i + 1))), (1, .int (nI i)), (0, .ref h)]) hx hb dX0_leastOfRing_44 hl (k := 2) rfl (nI_1 i) (by decide) rfl (fun ls hl => ?_)
          refine lv_goto (tgt := 4) hx hb dX0_leastOfRing_47 (by decide) ?_
          exact ih_loop (i + 1) i (by omega) (by omega) (by omega) (by omega) (lt_s (fun j hj w => hI j hj (oh_lx_tr w b_36)) (fun w => oh_lx_as w w)) ls (lv_sub hl [2, 1, 0] rfl)
        · refine lv_if_eq (tgt := 44) hx hb dX0_leastOfRing_39 (by decide) (fun _ => ?_) (fun q => absurd q (by decide))
          refine lv_iinc (v := nI (i + 1)) (lv' := [(2, .int (nI (i + 1))), (0, .ref h), (1, .int (nI b))]) hx hb dX0_leastOfRing_44 hl (k := 2) rfl (nI_1 i) (by decide) rfl (fun ls hl => ?_)
          refine lv_goto (tgt := 4) hx hb dX0_leastOfRing_47 (by decide) ?_
          exact ih_loop (i + 1) b (by omega) (by omega) (by omega) (by omega) (lt_s hI b_36) ls (lv_sub hl [1, 2, 0] rfl)
  exact loop (n + 1) 1 0 (by omega) (by omega) (by omega) (by omega) (fun j hj w => by rw [show j = 0 by omega] at w; exact oh_lx_as w w) ls (lv_sub hl [2, 1, 0] rfl)

set_option maxHeartbeats 4000000 in
set_option maxRecDepth 100000 in
theorem k_X0_placeInLine (l : Launch) (dC : Nat → ClassId) (dI : Nat → Nat → Nat) (cI : ClassId) (h a1 a2 a3 a4 N n : Nat) (came : Int32) (fx fy rx ry : Nat → Int32) (x y : Int32) (hN : N ≤ 64) (hn : n ≤ N) (hR : ∀ j, j < n → oh_inR (fx j) (fy j)) (hq : oh_inR x y) (h1 : 1 ≤ n) : Met l yX0_placeInLine wsX0_placeInLine ({ frames := 2, cells := 0, slots := 0, locals := 47 }) (va_Pc [.ref h, .int x, .int y] (fun U => va_P (dC, dI) vwCl [(h, .inr (0, [.int (nI N), .ref a1, .ref a2, .ref a3, .ref a4, .int (nI n), .int came])), (a1, .inl (cI, N, .inl fx)), (a2, .inl (cI, N, .inl fy)), (a3, .inl (cI, N, .inl rx)), (a4, .inl (cI, N, .inl ry))] U.heap ∧ va_K (dC, dI) vwCl [(cI, .int)] U)) (vp_Si (fun r => oh_plL n (oh_pt fx fy) (x.toInt, y.toInt) r)) 0 0 (fun _ => False) := by
  refine Met.ofW (cc := cX0_placeInLine) (maxL := 5) (ret := (some .int)) (by decide) rfl ?_
  intro p e s m args below meth c s₁ B hml hv
  obtain ⟨rfl, hP, hK⟩ := hv
  have hx := B.exec
  have hb := B.bytes
  have hr := B.returns
  have hts := atoms_spec (ws := wsX0_placeInLine) B.pre
  have hown : s.vm.findClass RX0 = some m.cls := findClass_of_methodNamed B.named
  have hlocks := B.notSynchronized
  have hin0 : ∀ w ∈ wsX00, w ∈ wsX0_placeInLine := fun w h => List.mem_cons_of_mem _ (List.mem_append_right _ h)
  have hl := lv_entry ([.ref h, .int x, .int y]) (n := 5) (Nat.le_of_ble_eq_true rfl)
  rw [lg_entry_eq]
  generalize (lg_sl ([.ref h, .int x, .int y]) ++ List.replicate (5 - (lg_sl ([.ref h, .int x, .int y])).length) Slot.unset).toArray = ls at hl ⊢
  have hl : lv_has ls 5 [(0, .ref h), (1, .int x), (2, .int y)] := hl
  refine lv_aload_n hx hb dX0_placeInLine_0 rfl (lv_at hl 0 rfl) ?_
  refine va_get (D := (dC, dI)) (ci := 0) (v := .int (nI n)) (C := RX0) (T := TX0) (N := 7) hx hb hts hin0 hown hK hP 0 rfl rfl 5 (by decide) (hts (.fieldLink RX0 32 "OnlineHull" "corners" "I") (by decide +kernel)) (fun _ h9 => h9) rfl dX0_placeInLine_1 ?_
  refine lv_iconst (v := nI 1) hx hb dX0_placeInLine_4 (by decide) ?_
  refine lv_isub hx hb dX0_placeInLine_5 ?_
  rw [pk_sub (a := n) (b := 1) (by omega)]
  refine lv_istore_n (lv' := [(3, .int (nI (n - 1))), (0, .ref h), (1, .int x), (2, .int y)]) hx hb dX0_placeInLine_6 rfl hl (by decide) rfl (fun ls hl => ?_)
  refine lv_aload_n hx hb dX0_placeInLine_7 rfl (lv_at hl 1 rfl) ?_
  refine lv_iconst (v := nI 0) hx hb dX0_placeInLine_8 (by decide) ?_
  refine lv_iload_n hx hb dX0_placeInLine_9 rfl (lv_at hl 2 rfl) ?_
  refine lv_iload_n hx hb dX0_placeInLine_10 rfl (lv_at hl 3 rfl) ?_
  refine vp_callSi (va_Run.run (va_runV (As := [.int (nI 0), .int x, .int y]) (rest := []) ⟨hx, hb, hml, hown, hts⟩ (k_X0_turn l dC dI cI h a1 a2 a3 a4 N n came fx fy rx ry 0 x y hN hn (by omega) hR hq) (cwV 3 hts gX0_placeInLine_X0_turn rfl rfl rfl (by decide +kernel) ⟨Nat.le_of_ble_eq_true rfl, Nat.le_of_ble_eq_true rfl⟩) (oh_pre (ci := 0) (q0 := 0) hK hP rfl rfl) rfl rfl hl.1 rfl (lv_room (Nat.le_of_ble_eq_true rfl)) dX0_placeInLine_11 ⟨Nat.zero_le _, Nat.zero_le _⟩)) (fun r_11 hr_11 => ?_)
  refine lv_if_ne (tgt := 61) hx hb dX0_placeInLine_14 (by decide) (fun c_14 => ?_) (fun c_14 => ?_)
  · have g_14 : r_11.toInt ≠ 0 := oh_neI0 c_14
    refine lv_iconst (v := nI 0) hx hb dX0_placeInLine_61 (by decide) ?_
    refine lv_istore (lv' := [(4, .int (nI 0)), (3, .int (nI (n - 1))), (0, .ref h), (1, .int x), (2, .int y)]) hx hb dX0_placeInLine_62 hl (by decide) rfl (fun ls hl => ?_)
    refine lv_iload hx hb dX0_placeInLine_64 (lv_at hl 0 rfl) ?_
    refine lv_if_eq (tgt := 73) hx hb dX0_placeInLine_66 (by decide) (fun _ => ?_) (fun q => absurd q (by decide))
    refine lv_iconst (v := nI 0) hx hb dX0_placeInLine_73 (by decide) ?_
    exact W.iret (v := nI 0) hx hb hr (fun t ht hW => ⟨_, rfl, Or.inr ⟨rfl, fun w => by first | exact w.2.1 b_31 | exact w.2.2 b_51 | exact absurd w.1 (by omega)⟩, ht⟩) (fun _ h => by cases h) dX0_placeInLine_74
  · have g_14 : r_11.toInt = 0 := oh_eqI0 c_14
    refine lv_iload_n hx hb dX0_placeInLine_17 rfl (lv_at hl 2 rfl) ?_
    refine lv_iload_n hx hb dX0_placeInLine_18 rfl (lv_at hl 3 rfl) ?_
    refine lv_aload_n hx hb dX0_placeInLine_19 rfl (lv_at hl 1 rfl) ?_
    refine va_get (D := (dC, dI)) (ci := 0) (v := .ref a1) (C := RX0) (T := TX0) (N := 7) hx hb hts hin0 hown hK hP 0 rfl rfl 1 (by decide) (hts (.fieldLink RX0 19 "OnlineHull" "cornerX" "[I") (by decide +kernel)) (fun _ h9 => h9) rfl dX0_placeInLine_20 ?_
    refine lv_iconst (v := nI 0) hx hb dX0_placeInLine_23 (by decide) ?_
    refine oh_ald hx hb hK hP 1 0 rfl rfl (k := 0) (by omega) (by omega) dX0_placeInLine_24 ?_
    refine lv_aload_n hx hb dX0_placeInLine_25 rfl (lv_at hl 1 rfl) ?_
    refine va_get (D := (dC, dI)) (ci := 0) (v := .ref a2) (C := RX0) (T := TX0) (N := 7) hx hb hts hin0 hown hK hP 0 rfl rfl 2 (by decide) (hts (.fieldLink RX0 23 "OnlineHull" "cornerY" "[I") (by decide +kernel)) (fun _ h9 => h9) rfl dX0_placeInLine_26 ?_
    refine lv_iconst (v := nI 0) hx hb dX0_placeInLine_29 (by decide) ?_
    refine oh_ald hx hb hK hP 2 0 rfl rfl (k := 0) (by omega) (by omega) dX0_placeInLine_30 ?_
    refine vp_callSi (va_Run.run (va_runS (As := [.int x, .int y, .int (fx 0), .int (fy 0)]) (rest := []) ⟨hx, hb, hml, hown, hts⟩ (k_X0_comesBefore l x y (fx 0) (fy 0)) (va_cwS 4 hts gX0_placeInLine_X0_comesBefore rfl rfl rfl (by decide +kernel) ⟨Nat.le_of_ble_eq_true rfl, Nat.le_of_ble_eq_true rfl⟩) oh_pre0 rfl rfl hl.1 rfl (lv_room (Nat.le_of_ble_eq_true rfl)) dX0_placeInLine_31 ⟨Nat.zero_le _, Nat.zero_le _⟩)) (fun r_31 hr_31 => ?_)
    rcases hr_31 with ⟨b_31, hr_31⟩ | ⟨b_31, hr_31⟩ <;> subst hr_31
    · refine lv_if_ne (tgt := 61) hx hb dX0_placeInLine_34 (by decide) (fun _ => ?_) (fun q => absurd q (by decide))
      refine lv_iconst (v := nI 0) hx hb dX0_placeInLine_61 (by decide) ?_
      refine lv_istore (lv' := [(4, .int (nI 0)), (3, .int (nI (n - 1))), (0, .ref h), (1, .int x), (2, .int y)]) hx hb dX0_placeInLine_62 hl (by decide) rfl (fun ls hl => ?_)
      refine lv_iload hx hb dX0_placeInLine_64 (lv_at hl 0 rfl) ?_
      refine lv_if_eq (tgt := 73) hx hb dX0_placeInLine_66 (by decide) (fun _ => ?_) (fun q => absurd q (by decide))
      refine lv_iconst (v := nI 0) hx hb dX0_placeInLine_73 (by decide) ?_
      exact W.iret (v := nI 0) hx hb hr (fun t ht hW => ⟨_, rfl, Or.inr ⟨rfl, fun w => by first | exact w.2.1 b_31 | exact w.2.2 b_51 | exact absurd w.1 (by omega)⟩, ht⟩) (fun _ h => by cases h) dX0_placeInLine_74
    · refine lv_if_ne (tgt := 61) hx hb dX0_placeInLine_34 (by decide) (fun q => absurd q (by decide)) (fun _ => ?_)
      refine lv_aload_n hx hb dX0_placeInLine_37 rfl (lv_at hl 1 rfl) ?_
      refine va_get (D := (dC, dI)) (ci := 0) (v := .ref a1) (C := RX0) (T := TX0) (N := 7) hx hb hts hin0 hown hK hP 0 rfl rfl 1 (by decide) (hts (.fieldLink RX0 19 "OnlineHull" "cornerX" "[I") (by decide +kernel)) (fun _ h9 => h9) rfl dX0_placeInLine_38 ?_
      refine lv_iload_n hx hb dX0_placeInLine_41 rfl (lv_at hl 0 rfl) ?_
      refine oh_ald hx hb hK hP 1 0 rfl rfl (k := (n - 1)) (by omega) (by omega) dX0_placeInLine_42 ?_
      refine lv_aload_n hx hb dX0_placeInLine_43 rfl (lv_at hl 1 rfl) ?_
      refine va_get (D := (dC, dI)) (ci := 0) (v := .ref a2) (C := RX0) (T := TX0) (N := 7) hx hb hts hin0 hown hK hP 0 rfl rfl 2 (by decide) (hts (.fieldLink RX0 23 "OnlineHull" "cornerY" "[I") (by decide +kernel)) (fun _ h9 => h9) rfl dX0_placeInLine_44 ?_
      refine lv_iload_n hx hb dX0_placeInLine_47 rfl (lv_at hl 0 rfl) ?_
      refine oh_ald hx hb hK hP 2 0 rfl rfl (k := (n - 1)) (by omega) (by omega) dX0_placeInLine_48 ?_
      refine lv_iload_n hx hb dX0_placeInLine_49 rfl (lv_at hl 2 rfl) ?_
      refine lv_iload_n hx hb dX0_placeInLine_50 rfl (lv_at hl 3 rfl) ?_
      refine vp_callSi (va_Run.run (va_runS (As := [.int (fx ((n - 1))), .int (fy ((n - 1))), .int x, .int y]) (rest := []) ⟨hx, hb, hml, hown, hts⟩ (k_X0_comesBefore l (fx ((n - 1))) (fy ((n - 1))) x y) (va_cwS 4 hts gX0_placeInLine_X0_comesBefore rfl rfl rfl (by decide +kernel) ⟨Nat.le_of_ble_eq_true rfl, Nat.le_of_ble_eq_true rfl⟩) oh_pre0 rfl rfl hl.1 rfl (lv_room (Nat.le_of_ble_eq_true rfl)) dX0_placeInLine_51 ⟨Nat.zero_le _, Nat.zero_le _⟩)) (fun r_51 hr_51 => ?_)
      rcases hr_51 with ⟨b_51, hr_51⟩ | ⟨b_51, hr_51⟩ <;> subst hr_51
      · refine lv_if_ne (tgt := 61) hx hb dX0_placeInLine_54 (by decide) (fun _ => ?_) (fun q => absurd q (by decide))
        refine lv_iconst (v := nI 0) hx hb dX0_placeInLine_61 (by decide) ?_
        refine lv_istore (lv' := [(4, .int (nI 0)), (3, .int (nI (n - 1))), (0, .ref h), (1, .int x), (2, .int y)]) hx hb dX0_placeInLine_62 hl (by decide) rfl (fun ls hl => ?_)
        refine lv_iload hx hb dX0_placeInLine_64 (lv_at hl 0 rfl) ?_
        refine lv_if_eq (tgt := 73) hx hb dX0_placeInLine_66 (by decide) (fun _ => ?_) (fun q => absurd q (by decide))
        refine lv_iconst (v := nI 0) hx hb dX0_placeInLine_73 (by decide) ?_
        exact W.iret (v := nI 0) hx hb hr (fun t ht hW => ⟨_, rfl, Or.inr ⟨rfl, fun w => by first | exact w.2.1 b_31 | exact w.2.2 b_51 | exact absurd w.1 (by omega)⟩, ht⟩) (fun _ h => by cases h) dX0_placeInLine_74
      · refine lv_if_ne (tgt := 61) hx hb dX0_placeInLine_54 (by decide) (fun q => absurd q (by decide)) (fun _ => ?_)
        refine lv_iconst (v := nI 1) hx hb dX0_placeInLine_57 (by decide) ?_
        refine lv_goto (tgt := 62) hx hb dX0_placeInLine_58 (by decide) ?_
        refine lv_istore (lv' := [(4, .int (nI 1)), (3, .int (nI (n - 1))), (0, .ref h), (1, .int x), (2, .int y)]) hx hb dX0_placeInLine_62 hl (by decide) rfl (fun ls hl => ?_)
        refine lv_iload hx hb dX0_placeInLine_64 (lv_at hl 0 rfl) ?_
        refine lv_if_eq (tgt := 73) hx hb dX0_placeInLine_66 (by decide) (fun q => absurd q (by decide)) (fun _ => ?_)
        refine lv_iconst (v := nI 1) hx hb dX0_placeInLine_69 (by decide) ?_
        refine lv_goto (tgt := 74) hx hb dX0_placeInLine_70 (by decide) ?_
        exact W.iret (v := nI 1) hx hb hr (fun t ht hW => ⟨_, rfl, Or.inl ⟨rfl, by omega, b_31, b_51⟩, ht⟩) (fun _ h => by cases h) dX0_placeInLine_74

set_option maxHeartbeats 4000000 in
set_option maxRecDepth 100000 in
theorem k_X0_placeOf (l : Launch) (dC : Nat → ClassId) (dI : Nat → Nat → Nat) (cI : ClassId) (h a1 a2 a3 a4 N n : Nat) (came : Int32) (fx fy rx ry : Nat → Int32) (x y : Int32) (hN : N ≤ 64) (hn : n ≤ N) (hR : ∀ j, j < n → oh_inR (fx j) (fy j)) (hq : oh_inR x y) : Met l yX0_placeOf wsX0_placeOf ({ frames := 3, cells := 0, slots := 0, locals := 72 }) (va_Pc [.ref h, .int x, .int y] (fun U => va_P (dC, dI) vwCl [(h, .inr (0, [.int (nI N), .ref a1, .ref a2, .ref a3, .ref a4, .int (nI n), .int came])), (a1, .inl (cI, N, .inl fx)), (a2, .inl (cI, N, .inl fy)), (a3, .inl (cI, N, .inl rx)), (a4, .inl (cI, N, .inl ry))] U.heap ∧ va_K (dC, dI) vwCl [(cI, .int)] U)) (vp_Si (fun r => oh_pl3 n (oh_pt fx fy) (x.toInt, y.toInt) r)) 0 0 (fun _ => False) := by
  refine Met.ofW (cc := cX0_placeOf) (maxL := 3) (ret := (some .int)) (by decide) rfl ?_
  intro p e s m args below meth c s₁ B hml hv
  obtain ⟨rfl, hP, hK⟩ := hv
  have hx := B.exec
  have hb := B.bytes
  have hr := B.returns
  have hts := atoms_spec (ws := wsX0_placeOf) B.pre
  have hown : s.vm.findClass RX0 = some m.cls := findClass_of_methodNamed B.named
  have hlocks := B.notSynchronized
  have hin0 : ∀ w ∈ wsX00, w ∈ wsX0_placeOf := fun w h => List.mem_cons_of_mem _ (List.mem_append_right _ h)
  have hl := lv_entry ([.ref h, .int x, .int y]) (n := 3) (Nat.le_of_ble_eq_true rfl)
  rw [lg_entry_eq]
  generalize (lg_sl ([.ref h, .int x, .int y]) ++ List.replicate (3 - (lg_sl ([.ref h, .int x, .int y])).length) Slot.unset).toArray = ls at hl ⊢
  have hl : lv_has ls 3 [(0, .ref h), (1, .int x), (2, .int y)] := hl
  refine lv_aload_n hx hb dX0_placeOf_0 rfl (lv_at hl 0 rfl) ?_
  refine va_get (D := (dC, dI)) (ci := 0) (v := .int (nI n)) (C := RX0) (T := TX0) (N := 7) hx hb hts hin0 hown hK hP 0 rfl rfl 5 (by decide) (hts (.fieldLink RX0 32 "OnlineHull" "corners" "I") (by decide +kernel)) (fun _ h9 => h9) rfl dX0_placeOf_1 ?_
  refine lv_if_ne (tgt := 9) hx hb dX0_placeOf_4 (by decide) (fun c_4 => ?_) (fun c_4 => ?_)
  · have g_4 : n ≠ 0 := fun q => (fun q => c_4 (q.trans nI_0)) ((nI_eq (a := n) (b := 0) (by omega) (by omega)).mpr q)
    refine lv_aload_n hx hb dX0_placeOf_9 rfl (lv_at hl 0 rfl) ?_
    refine va_get (D := (dC, dI)) (ci := 0) (v := .int (nI n)) (C := RX0) (T := TX0) (N := 7) hx hb hts hin0 hown hK hP 0 rfl rfl 5 (by decide) (hts (.fieldLink RX0 32 "OnlineHull" "corners" "I") (by decide +kernel)) (fun _ h9 => h9) rfl dX0_placeOf_10 ?_
    refine lv_iconst (v := nI 3) hx hb dX0_placeOf_13 (by decide) ?_
    refine lv_icmp_ge (tgt := 26) hx hb dX0_placeOf_14 (by decide) (fun c_14 => ?_) (fun c_14 => ?_)
    · have g_14 : 3 ≤ n := (nI_leI (a := 3) (b := n) (by omega) (by omega)).mp c_14
      refine lv_aload_n hx hb dX0_placeOf_26 rfl (lv_at hl 0 rfl) ?_
      refine lv_iload_n hx hb dX0_placeOf_27 rfl (lv_at hl 1 rfl) ?_
      refine lv_iload_n hx hb dX0_placeOf_28 rfl (lv_at hl 2 rfl) ?_
      refine vp_callSi (va_Run.run (va_runV (As := [.int x, .int y]) (rest := []) ⟨hx, hb, hml, hown, hts⟩ (k_X0_placeInRing l dC dI cI h a1 a2 a3 a4 N n came fx fy rx ry x y hN hn hR hq) (cwV 2 hts gX0_placeOf_X0_placeInRing rfl rfl rfl (by decide +kernel) ⟨Nat.le_of_ble_eq_true rfl, Nat.le_of_ble_eq_true rfl⟩) (oh_pre (ci := 0) (q0 := 0) hK hP rfl rfl) rfl rfl hl.1 rfl (lv_room (Nat.le_of_ble_eq_true rfl)) dX0_placeOf_29 ⟨Nat.zero_le _, Nat.zero_le _⟩)) (fun r_29 hr_29 => ?_)
      exact W.iret (v := r_29) hx hb hr (fun t ht hW => ⟨_, rfl, Or.inr (Or.inr ⟨by omega, hr_29⟩), ht⟩) (fun _ h => by cases h) dX0_placeOf_32
    · have g_14 : ¬ 3 ≤ n := fun q => c_14 ((nI_leI (a := 3) (b := n) (by omega) (by omega)).mpr q)
      refine lv_aload_n hx hb dX0_placeOf_17 rfl (lv_at hl 0 rfl) ?_
      refine lv_iload_n hx hb dX0_placeOf_18 rfl (lv_at hl 1 rfl) ?_
      refine lv_iload_n hx hb dX0_placeOf_19 rfl (lv_at hl 2 rfl) ?_
      refine vp_callSi (va_Run.run (va_runV (As := [.int x, .int y]) (rest := []) ⟨hx, hb, hml, hown, hts⟩ (k_X0_placeInLine l dC dI cI h a1 a2 a3 a4 N n came fx fy rx ry x y hN hn hR hq (by omega)) (cwV 2 hts gX0_placeOf_X0_placeInLine rfl rfl rfl (by decide +kernel) ⟨Nat.le_of_ble_eq_true rfl, Nat.le_of_ble_eq_true rfl⟩) (oh_pre (ci := 0) (q0 := 0) hK hP rfl rfl) rfl rfl hl.1 rfl (lv_room (Nat.le_of_ble_eq_true rfl)) dX0_placeOf_20 ⟨Nat.zero_le _, Nat.zero_le _⟩)) (fun r_20 hr_20 => ?_)
      refine lv_goto (tgt := 32) hx hb dX0_placeOf_23 (by decide) ?_
      exact W.iret (v := r_20) hx hb hr (fun t ht hW => ⟨_, rfl, Or.inr (Or.inl ⟨by omega, by omega, hr_20⟩), ht⟩) (fun _ h => by cases h) dX0_placeOf_32
  · have g_4 : n = 0 := (nI_eq (a := n) (b := 0) (by omega) (by omega)).mp (c_4.trans nI_0.symm)
    refine lv_iconst (v := nI 0) hx hb dX0_placeOf_7 (by decide) ?_
    exact W.iret (v := nI 0) hx hb hr (fun t ht hW => ⟨_, rfl, Or.inl ⟨by omega, rfl⟩, ht⟩) (fun _ h => by cases h) dX0_placeOf_8

set_option maxHeartbeats 4000000 in
set_option maxRecDepth 100000 in
theorem k_X0_inside (l : Launch) (dC : Nat → ClassId) (dI : Nat → Nat → Nat) (cI : ClassId) (h a1 a2 a3 a4 N n : Nat) (came : Int32) (fx fy rx ry : Nat → Int32) (x y : Int32) (hN : N ≤ 64) (hn : n ≤ N) (hR : ∀ j, j < n → oh_inR (fx j) (fy j)) : Met l yX0_inside wsX0_inside ({ frames := 4, cells := 0, slots := 0, locals := 94 }) (va_Pc [.ref h, .int x, .int y] (fun U => va_P (dC, dI) vwCl [(h, .inr (0, [.int (nI N), .ref a1, .ref a2, .ref a3, .ref a4, .int (nI n), .int came])), (a1, .inl (cI, N, .inl fx)), (a2, .inl (cI, N, .inl fy)), (a3, .inl (cI, N, .inl rx)), (a4, .inl (cI, N, .inl ry))] U.heap ∧ va_K (dC, dI) vwCl [(cI, .int)] U)) (vp_Si (fun r => (oh_inR x y ∧ oh_pl3 n (oh_pt fx fy) (x.toInt, y.toInt) r) ∨ (¬ oh_inR x y ∧ r = 0))) 0 0 (fun _ => False) := by
  refine Met.ofW (cc := cX0_inside) (maxL := 3) (ret := (some .int)) (by decide) rfl ?_
  intro p e s m args below meth c s₁ B hml hv
  obtain ⟨rfl, hP, hK⟩ := hv
  have hx := B.exec
  have hb := B.bytes
  have hr := B.returns
  have hts := atoms_spec (ws := wsX0_inside) B.pre
  have hown : s.vm.findClass RX0 = some m.cls := findClass_of_methodNamed B.named
  have hlocks := B.notSynchronized
  have hin0 : ∀ w ∈ wsX00, w ∈ wsX0_inside := fun w h => List.mem_cons_of_mem _ (List.mem_append_right _ h)
  have hl := lv_entry ([.ref h, .int x, .int y]) (n := 3) (Nat.le_of_ble_eq_true rfl)
  rw [lg_entry_eq]
  generalize (lg_sl ([.ref h, .int x, .int y]) ++ List.replicate (3 - (lg_sl ([.ref h, .int x, .int y])).length) Slot.unset).toArray = ls at hl ⊢
  have hl : lv_has ls 3 [(0, .ref h), (1, .int x), (2, .int y)] := hl
  refine lv_iload_n hx hb dX0_inside_0 rfl (lv_at hl 1 rfl) ?_
  refine lv_iload_n hx hb dX0_inside_1 rfl (lv_at hl 2 rfl) ?_
  refine vp_callSi (va_Run.run (va_runS (As := [.int x, .int y]) (rest := []) ⟨hx, hb, hml, hown, hts⟩ (k_X0_inRange l x y) (va_cwS 2 hts gX0_inside_X0_inRange rfl rfl rfl (by decide +kernel) ⟨Nat.le_of_ble_eq_true rfl, Nat.le_of_ble_eq_true rfl⟩) oh_pre0 rfl rfl hl.1 rfl (lv_room (Nat.le_of_ble_eq_true rfl)) dX0_inside_2 ⟨Nat.zero_le _, Nat.zero_le _⟩)) (fun r_2 hr_2 => ?_)
  rcases hr_2 with ⟨b_2, hr_2⟩ | ⟨b_2, hr_2⟩ <;> subst hr_2
  · refine lv_if_eq (tgt := 17) hx hb dX0_inside_5 (by decide) (fun q => absurd q (by decide)) (fun _ => ?_)
    refine lv_aload_n hx hb dX0_inside_8 rfl (lv_at hl 0 rfl) ?_
    refine lv_iload_n hx hb dX0_inside_9 rfl (lv_at hl 1 rfl) ?_
    refine lv_iload_n hx hb dX0_inside_10 rfl (lv_at hl 2 rfl) ?_
    refine vp_callSi (va_Run.run (va_runV (As := [.int x, .int y]) (rest := []) ⟨hx, hb, hml, hown, hts⟩ (k_X0_placeOf l dC dI cI h a1 a2 a3 a4 N n came fx fy rx ry x y hN hn hR b_2) (cwV 2 hts gX0_inside_X0_placeOf rfl rfl rfl (by decide +kernel) ⟨Nat.le_of_ble_eq_true rfl, Nat.le_of_ble_eq_true rfl⟩) (oh_pre (ci := 0) (q0 := 0) hK hP rfl rfl) rfl rfl hl.1 rfl (lv_room (Nat.le_of_ble_eq_true rfl)) dX0_inside_11 ⟨Nat.zero_le _, Nat.zero_le _⟩)) (fun r_11 hr_11 => ?_)
    refine lv_goto (tgt := 18) hx hb dX0_inside_14 (by decide) ?_
    exact W.iret (v := r_11) hx hb hr (fun t ht hW => ⟨_, rfl, Or.inl ⟨b_2, hr_11⟩, ht⟩) (fun _ h => by cases h) dX0_inside_18
  · refine lv_if_eq (tgt := 17) hx hb dX0_inside_5 (by decide) (fun _ => ?_) (fun q => absurd q (by decide))
    refine lv_iconst (v := nI 0) hx hb dX0_inside_17 (by decide) ?_
    exact W.iret (v := nI 0) hx hb hr (fun t ht hW => ⟨_, rfl, Or.inr ⟨b_2, rfl⟩, ht⟩) (fun _ h => by cases h) dX0_inside_18

set_option maxHeartbeats 4000000 in
set_option maxRecDepth 100000 in
theorem k_X0_staysInLine (l : Launch) (dC : Nat → ClassId) (dI : Nat → Nat → Nat) (cI : ClassId) (h a1 a2 a3 a4 N n : Nat) (came : Int32) (fx fy rx ry : Nat → Int32) (x y : Int32) (hN : N ≤ 64) (hn : n ≤ N) (hR : ∀ j, j < n → oh_inR (fx j) (fy j)) (hq : oh_inR x y) : Met l yX0_staysInLine wsX0_staysInLine ({ frames := 2, cells := 0, slots := 0, locals := 47 }) (va_Pc [.ref h, .int x, .int y] (fun U => va_P (dC, dI) vwCl [(h, .inr (0, [.int (nI N), .ref a1, .ref a2, .ref a3, .ref a4, .int (nI n), .int came])), (a1, .inl (cI, N, .inl fx)), (a2, .inl (cI, N, .inl fy)), (a3, .inl (cI, N, .inl rx)), (a4, .inl (cI, N, .inl ry))] U.heap ∧ va_K (dC, dI) vwCl [(cI, .int)] U)) (vp_Si (fun r => ((n < 2 ∨ (n = 2 ∧ oh_sd n (oh_pt fx fy) (x.toInt, y.toInt) 0 = 0)) ∧ r = 1) ∨ (¬ (n < 2 ∨ (n = 2 ∧ oh_sd n (oh_pt fx fy) (x.toInt, y.toInt) 0 = 0)) ∧ r = 0))) 0 0 (fun _ => False) := by
  refine Met.ofW (cc := cX0_staysInLine) (maxL := 3) (ret := (some .boolean)) (by decide) rfl ?_
  intro p e s m args below meth c s₁ B hml hv
  obtain ⟨rfl, hP, hK⟩ := hv
  have hx := B.exec
  have hb := B.bytes
  have hr := B.returns
  have hts := atoms_spec (ws := wsX0_staysInLine) B.pre
  have hown : s.vm.findClass RX0 = some m.cls := findClass_of_methodNamed B.named
  have hlocks := B.notSynchronized
  have hin0 : ∀ w ∈ wsX00, w ∈ wsX0_staysInLine := fun w h => List.mem_cons_of_mem _ (List.mem_append_right _ h)
  have hl := lv_entry ([.ref h, .int x, .int y]) (n := 3) (Nat.le_of_ble_eq_true rfl)
  rw [lg_entry_eq]
  generalize (lg_sl ([.ref h, .int x, .int y]) ++ List.replicate (3 - (lg_sl ([.ref h, .int x, .int y])).length) Slot.unset).toArray = ls at hl ⊢
  have hl : lv_has ls 3 [(0, .ref h), (1, .int x), (2, .int y)] := hl
  refine lv_aload_n hx hb dX0_staysInLine_0 rfl (lv_at hl 0 rfl) ?_
  refine va_get (D := (dC, dI)) (ci := 0) (v := .int (nI n)) (C := RX0) (T := TX0) (N := 7) hx hb hts hin0 hown hK hP 0 rfl rfl 5 (by decide) (hts (.fieldLink RX0 32 "OnlineHull" "corners" "I") (by decide +kernel)) (fun _ h9 => h9) rfl dX0_staysInLine_1 ?_
  refine lv_iconst (v := nI 2) hx hb dX0_staysInLine_4 (by decide) ?_
  refine lv_icmp_lt (tgt := 26) hx hb dX0_staysInLine_5 (by decide) (fun c_5 => ?_) (fun c_5 => ?_)
  · have g_5 : n < 2 := (nI_ltI (a := n) (b := 2) (by omega) (by omega)).mp c_5
    refine lv_iconst (v := nI 1) hx hb dX0_staysInLine_26 (by decide) ?_
    refine lv_goto (tgt := 31) hx hb dX0_staysInLine_27 (by decide) ?_
    exact W.zret (v := nI 1) hx hb hr (by decide) (fun t ht hW => ⟨_, rfl, Or.inl ⟨by first | exact Or.inl (by omega) | exact Or.inr ⟨by omega, by omega⟩, rfl⟩, ht⟩) (fun _ h => by cases h) dX0_staysInLine_31
  · have g_5 : ¬ n < 2 := fun q => c_5 ((nI_ltI (a := n) (b := 2) (by omega) (by omega)).mpr q)
    refine lv_aload_n hx hb dX0_staysInLine_8 rfl (lv_at hl 0 rfl) ?_
    refine va_get (D := (dC, dI)) (ci := 0) (v := .int (nI n)) (C := RX0) (T := TX0) (N := 7) hx hb hts hin0 hown hK hP 0 rfl rfl 5 (by decide) (hts (.fieldLink RX0 32 "OnlineHull" "corners" "I") (by decide +kernel)) (fun _ h9 => h9) rfl dX0_staysInLine_9 ?_
    refine lv_iconst (v := nI 2) hx hb dX0_staysInLine_12 (by decide) ?_
    refine lv_icmp_ne (tgt := 30) hx hb dX0_staysInLine_13 (by decide) (fun c_13 => ?_) (fun c_13 => ?_)
    · have g_13 : n ≠ 2 := fun q => c_13 ((nI_eq (a := n) (b := 2) (by omega) (by omega)).mpr q)
      refine lv_iconst (v := nI 0) hx hb dX0_staysInLine_30 (by decide) ?_
      exact W.zret (v := nI 0) hx hb hr (by decide) (fun t ht hW => ⟨_, rfl, Or.inr ⟨by omega, rfl⟩, ht⟩) (fun _ h => by cases h) dX0_staysInLine_31
    · have g_13 : n = 2 := (nI_eq (a := n) (b := 2) (by omega) (by omega)).mp c_13
      refine lv_aload_n hx hb dX0_staysInLine_16 rfl (lv_at hl 0 rfl) ?_
      refine lv_iconst (v := nI 0) hx hb dX0_staysInLine_17 (by decide) ?_
      refine lv_iload_n hx hb dX0_staysInLine_18 rfl (lv_at hl 1 rfl) ?_
      refine lv_iload_n hx hb dX0_staysInLine_19 rfl (lv_at hl 2 rfl) ?_
      refine vp_callSi (va_Run.run (va_runV (As := [.int (nI 0), .int x, .int y]) (rest := []) ⟨hx, hb, hml, hown, hts⟩ (k_X0_turn l dC dI cI h a1 a2 a3 a4 N n came fx fy rx ry 0 x y hN hn (by omega) hR hq) (cwV 3 hts gX0_staysInLine_X0_turn rfl rfl rfl (by decide +kernel) ⟨Nat.le_of_ble_eq_true rfl, Nat.le_of_ble_eq_true rfl⟩) (oh_pre (ci := 0) (q0 := 0) hK hP rfl rfl) rfl rfl hl.1 rfl (lv_room (Nat.le_of_ble_eq_true rfl)) dX0_staysInLine_20 ⟨Nat.zero_le _, Nat.zero_le _⟩)) (fun r_20 hr_20 => ?_)
      refine lv_if_ne (tgt := 30) hx hb dX0_staysInLine_23 (by decide) (fun c_23 => ?_) (fun c_23 => ?_)
      · have g_23 : r_20.toInt ≠ 0 := oh_neI0 c_23
        refine lv_iconst (v := nI 0) hx hb dX0_staysInLine_30 (by decide) ?_
        exact W.zret (v := nI 0) hx hb hr (by decide) (fun t ht hW => ⟨_, rfl, Or.inr ⟨by omega, rfl⟩, ht⟩) (fun _ h => by cases h) dX0_staysInLine_31
      · have g_23 : r_20.toInt = 0 := oh_eqI0 c_23
        refine lv_iconst (v := nI 1) hx hb dX0_staysInLine_26 (by decide) ?_
        refine lv_goto (tgt := 31) hx hb dX0_staysInLine_27 (by decide) ?_
        exact W.zret (v := nI 1) hx hb hr (by decide) (fun t ht hW => ⟨_, rfl, Or.inl ⟨by first | exact Or.inl (by omega) | exact Or.inr ⟨by omega, by omega⟩, rfl⟩, ht⟩) (fun _ h => by cases h) dX0_staysInLine_31

set_option maxHeartbeats 4000000 in
set_option maxRecDepth 100000 in
theorem k_X0_tangent (l : Launch) (dC : Nat → ClassId) (dI : Nat → Nat → Nat) (cI : ClassId) (h a1 a2 a3 a4 N n : Nat) (came : Int32) (fx fy rx ry : Nat → Int32) (x y wh : Int32) (hN : N ≤ 64) (hn : n ≤ N) (hR : ∀ j, j < n → oh_inR (fx j) (fy j)) : Met l yX0_tangent wsX0_tangent ({ frames := 4, cells := 0, slots := 0, locals := 94 }) (va_Pc [.ref h, .int x, .int y, .int wh] (fun U => va_P (dC, dI) vwCl [(h, .inr (0, [.int (nI N), .ref a1, .ref a2, .ref a3, .ref a4, .int (nI n), .int came])), (a1, .inl (cI, N, .inl fx)), (a2, .inl (cI, N, .inl fy)), (a3, .inl (cI, N, .inl rx)), (a4, .inl (cI, N, .inl ry))] U.heap ∧ va_K (dC, dI) vwCl [(cI, .int)] U)) (vp_Si (fun r => oh_tan n (oh_pt fx fy) x y wh r)) 0 0 (fun _ => False) := by
  refine Met.ofW (cc := cX0_tangent) (maxL := 4) (ret := (some .int)) (by decide) rfl ?_
  intro p e s m args below meth c s₁ B hml hv
  obtain ⟨rfl, hP, hK⟩ := hv
  have hx := B.exec
  have hb := B.bytes
  have hr := B.returns
  have hts := atoms_spec (ws := wsX0_tangent) B.pre
  have hown : s.vm.findClass RX0 = some m.cls := findClass_of_methodNamed B.named
  have hlocks := B.notSynchronized
  have hin0 : ∀ w ∈ wsX00, w ∈ wsX0_tangent := fun w h => List.mem_cons_of_mem _ (List.mem_append_right _ h)
  have hl := lv_entry ([.ref h, .int x, .int y, .int wh]) (n := 4) (Nat.le_of_ble_eq_true rfl)
  rw [lg_entry_eq]
  generalize (lg_sl ([.ref h, .int x, .int y, .int wh]) ++ List.replicate (4 - (lg_sl ([.ref h, .int x, .int y, .int wh])).length) Slot.unset).toArray = ls at hl ⊢
  have hl : lv_has ls 4 [(0, .ref h), (1, .int x), (2, .int y), (3, .int wh)] := hl
  refine lv_aload_n hx hb dX0_tangent_0 rfl (lv_at hl 0 rfl) ?_
  refine va_get (D := (dC, dI)) (ci := 0) (v := .int (nI n)) (C := RX0) (T := TX0) (N := 7) hx hb hts hin0 hown hK hP 0 rfl rfl 5 (by decide) (hts (.fieldLink RX0 32 "OnlineHull" "corners" "I") (by decide +kernel)) (fun _ h9 => h9) rfl dX0_tangent_1 ?_
  refine lv_iconst (v := nI 3) hx hb dX0_tangent_4 (by decide) ?_
  refine lv_icmp_lt (tgt := 25) hx hb dX0_tangent_5 (by decide) (fun c_5 => ?_) (fun c_5 => ?_)
  · have g_5 : n < 3 := (nI_ltI (a := n) (b := 3) (by omega) (by omega)).mp c_5
    refine lv_iconst (v := -1) hx hb dX0_tangent_25 (by decide) ?_
    exact W.iret (v := -1) hx hb hr (fun t ht hW => ⟨_, rfl, Or.inr ⟨rfl, fun w => by first | exact b_10 w.2.1 | omega | exact g_22 ((oh_plR0 (oh_pl3R (by omega) hr_19)).1.mpr w.2.2.1)⟩, ht⟩) (fun _ h => by cases h) dX0_tangent_26
  · have g_5 : ¬ n < 3 := fun q => c_5 ((nI_ltI (a := n) (b := 3) (by omega) (by omega)).mpr q)
    refine lv_iload_n hx hb dX0_tangent_8 rfl (lv_at hl 1 rfl) ?_
    refine lv_iload_n hx hb dX0_tangent_9 rfl (lv_at hl 2 rfl) ?_
    refine vp_callSi (va_Run.run (va_runS (As := [.int x, .int y]) (rest := []) ⟨hx, hb, hml, hown, hts⟩ (k_X0_inRange l x y) (va_cwS 2 hts gX0_tangent_X0_inRange rfl rfl rfl (by decide +kernel) ⟨Nat.le_of_ble_eq_true rfl, Nat.le_of_ble_eq_true rfl⟩) oh_pre0 rfl rfl hl.1 rfl (lv_room (Nat.le_of_ble_eq_true rfl)) dX0_tangent_10 ⟨Nat.zero_le _, Nat.zero_le _⟩)) (fun r_10 hr_10 => ?_)
    rcases hr_10 with ⟨b_10, hr_10⟩ | ⟨b_10, hr_10⟩ <;> subst hr_10
    · refine lv_if_eq (tgt := 25) hx hb dX0_tangent_13 (by decide) (fun q => absurd q (by decide)) (fun _ => ?_)
      refine lv_aload_n hx hb dX0_tangent_16 rfl (lv_at hl 0 rfl) ?_
      refine lv_iload_n hx hb dX0_tangent_17 rfl (lv_at hl 1 rfl) ?_
      refine lv_iload_n hx hb dX0_tangent_18 rfl (lv_at hl 2 rfl) ?_
      refine vp_callSi (va_Run.run (va_runV (As := [.int x, .int y]) (rest := []) ⟨hx, hb, hml, hown, hts⟩ (k_X0_placeOf l dC dI cI h a1 a2 a3 a4 N n came fx fy rx ry x y hN hn hR b_10) (cwV 2 hts gX0_tangent_X0_placeOf rfl rfl rfl (by decide +kernel) ⟨Nat.le_of_ble_eq_true rfl, Nat.le_of_ble_eq_true rfl⟩) (oh_pre (ci := 0) (q0 := 0) hK hP rfl rfl) rfl rfl hl.1 rfl (lv_room (Nat.le_of_ble_eq_true rfl)) dX0_tangent_19 ⟨Nat.zero_le _, Nat.zero_le _⟩)) (fun r_19 hr_19 => ?_)
      refine lv_if_eq (tgt := 27) hx hb dX0_tangent_22 (by decide) (fun c_22 => ?_) (fun c_22 => ?_)
      · have g_22 : r_19.toInt = 0 := oh_eqI0 c_22
        refine lv_iload_n hx hb dX0_tangent_27 rfl (lv_at hl 3 rfl) ?_
        refine lv_if_ne (tgt := 39) hx hb dX0_tangent_28 (by decide) (fun c_28 => ?_) (fun c_28 => ?_)
        · have g_28 : wh.toInt ≠ 0 := oh_neI0 c_28
          refine lv_iload_n hx hb dX0_tangent_39 rfl (lv_at hl 3 rfl) ?_
          refine lv_iconst (v := nI 1) hx hb dX0_tangent_40 (by decide) ?_
          refine lv_icmp_ne (tgt := 54) hx hb dX0_tangent_41 (by decide) (fun c_41 => ?_) (fun c_41 => ?_)
          · have g_41 : wh.toInt ≠ (1 : Int) := by have q := oh_neI c_41; rw [nI_toInt (n := 1) (by omega)] at q; exact q
            refine lv_iconst (v := -1) hx hb dX0_tangent_54 (by decide) ?_
            exact W.iret (v := -1) hx hb hr (fun t ht hW => ⟨_, rfl, Or.inr ⟨rfl, fun w => w.2.2.2.elim c_28 c_41⟩, ht⟩) (fun _ h => by cases h) dX0_tangent_55
          · have g_41 : wh.toInt = (1 : Int) := by have q := oh_eqI c_41; rw [nI_toInt (n := 1) (by omega)] at q; exact q
            refine lv_aload_n hx hb dX0_tangent_44 rfl (lv_at hl 0 rfl) ?_
            refine lv_iload_n hx hb dX0_tangent_45 rfl (lv_at hl 1 rfl) ?_
            refine lv_iload_n hx hb dX0_tangent_46 rfl (lv_at hl 2 rfl) ?_
            refine lv_iconst (v := nI 0) hx hb dX0_tangent_47 (by decide) ?_
            refine vp_callSi (va_Run.run (va_runV (As := [.int x, .int y, .int (nI 0)]) (rest := []) ⟨hx, hb, hml, hown, hts⟩ (k_X0_lastSeen l dC dI cI h a1 a2 a3 a4 N n came fx fy rx ry x y (nI 0) hN hn hR b_10) (cwV 3 hts gX0_tangent_X0_lastSeen rfl rfl rfl (by decide +kernel) ⟨Nat.le_of_ble_eq_true rfl, Nat.le_of_ble_eq_true rfl⟩) (oh_pre (ci := 0) (q0 := 0) hK hP rfl rfl) rfl rfl hl.1 rfl (lv_room (Nat.le_of_ble_eq_true rfl)) dX0_tangent_48 ⟨Nat.zero_le _, Nat.zero_le _⟩)) (fun r_48 hr_48 => ?_)
            refine lv_goto (tgt := 55) hx hb dX0_tangent_51 (by decide) ?_
            exact W.iret (v := r_48) hx hb hr (fun t ht hW => ⟨_, rfl, Or.inl ⟨by omega, b_10, (oh_plR0 (oh_pl3R (by omega) hr_19)).1.mp g_22, Or.inr ⟨c_41, hr_48⟩⟩, ht⟩) (fun _ h => by cases h) dX0_tangent_55
        · have g_28 : wh.toInt = 0 := oh_eqI0 c_28
          refine lv_aload_n hx hb dX0_tangent_31 rfl (lv_at hl 0 rfl) ?_
          refine lv_iload_n hx hb dX0_tangent_32 rfl (lv_at hl 1 rfl) ?_
          refine lv_iload_n hx hb dX0_tangent_33 rfl (lv_at hl 2 rfl) ?_
          refine lv_iconst (v := nI 0) hx hb dX0_tangent_34 (by decide) ?_
          refine vp_callSi (va_Run.run (va_runV (As := [.int x, .int y, .int (nI 0)]) (rest := []) ⟨hx, hb, hml, hown, hts⟩ (k_X0_firstSeen l dC dI cI h a1 a2 a3 a4 N n came fx fy rx ry x y (nI 0) hN hn hR b_10) (cwV 3 hts gX0_tangent_X0_firstSeen rfl rfl rfl (by decide +kernel) ⟨Nat.le_of_ble_eq_true rfl, Nat.le_of_ble_eq_true rfl⟩) (oh_pre (ci := 0) (q0 := 0) hK hP rfl rfl) rfl rfl hl.1 rfl (lv_room (Nat.le_of_ble_eq_true rfl)) dX0_tangent_35 ⟨Nat.zero_le _, Nat.zero_le _⟩)) (fun r_35 hr_35 => ?_)
          exact W.iret (v := r_35) hx hb hr (fun t ht hW => ⟨_, rfl, Or.inl ⟨by omega, b_10, (oh_plR0 (oh_pl3R (by omega) hr_19)).1.mp g_22, Or.inl ⟨c_28, hr_35⟩⟩, ht⟩) (fun _ h => by cases h) dX0_tangent_38
      · have g_22 : r_19.toInt ≠ 0 := oh_neI0 c_22
        refine lv_iconst (v := -1) hx hb dX0_tangent_25 (by decide) ?_
        exact W.iret (v := -1) hx hb hr (fun t ht hW => ⟨_, rfl, Or.inr ⟨rfl, fun w => by first | exact b_10 w.2.1 | omega | exact g_22 ((oh_plR0 (oh_pl3R (by omega) hr_19)).1.mpr w.2.2.1)⟩, ht⟩) (fun _ h => by cases h) dX0_tangent_26
    · refine lv_if_eq (tgt := 25) hx hb dX0_tangent_13 (by decide) (fun _ => ?_) (fun q => absurd q (by decide))
      refine lv_iconst (v := -1) hx hb dX0_tangent_25 (by decide) ?_
      exact W.iret (v := -1) hx hb hr (fun t ht hW => ⟨_, rfl, Or.inr ⟨rfl, fun w => by first | exact b_10 w.2.1 | omega | exact g_22 ((oh_plR0 (oh_pl3R (by omega) hr_19)).1.mpr w.2.2.1)⟩, ht⟩) (fun _ h => by cases h) dX0_tangent_26
