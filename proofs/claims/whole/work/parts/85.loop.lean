set_option maxHeartbeats 4000000 in
set_option maxRecDepth 100000 in
/-- THE LAW'S LOOP: at its head both sides hold the same corners -/
theorem law_loop {p : Program} {l : Launch} {e : Env} {s : State} {m : MethodId} {below : List Frame} {meth : Method} {c : Code} {dC : Nat → ClassId} {dI : Nat → Nat → Nat} {cI : ClassId} {b L : Nat} {xs : Nat → Int32} (hL : L ≤ 2049) (C0 : lw_At p s m meth c b L xs) (hK : va_K (dC, dI) vwCl [(cI, .int)] s) (N q0 a1 a2 a3 a4 q1 b1 b2 b3 b4 b5 : Nat) :
    ∀ (k i n : Nat) (came : Int32) (fx fy rx ry xs9 ys9 px py rd : Nat → Int32), 1 ≤ i → i ≤ L + 4 → L + 5 ≤ i + k → oh_inv N n fx fy xs9 ys9 → ∀ (H : Heap) (locs : List Loc), va_P (dC, dI) vwCl [(q0, .inr (0, [.int (nI N), .ref a1, .ref a2, .ref a3, .ref a4, .int (nI n), .int came])), (a1, .inl (cI, N, .inl fx)), (a2, .inl (cI, N, .inl fy)), (a3, .inl (cI, N, .inl rx)), (a4, .inl (cI, N, .inl ry)), (q1, .inr (1, [.int (nI N), .int (nI n), .int came, .ref b1, .ref b2, .ref b3, .ref b4, .ref b5])), (b1, .inl (cI, 66, .inl xs9)), (b2, .inl (cI, 66, .inl ys9)), (b3, .inl (cI, 66, .inl px)), (b4, .inl (cI, 66, .inl py)), (b5, .inl (cI, 67, .inl rd))] H → va_D (fun q : Nat => s.heap.size ≤ q) [(q0, .inr (0, [.int (nI N), .ref a1, .ref a2, .ref a3, .ref a4, .int (nI n), .int came])), (a1, .inl (cI, N, .inl fx)), (a2, .inl (cI, N, .inl fy)), (a3, .inl (cI, N, .inl rx)), (a4, .inl (cI, N, .inl ry)), (q1, .inr (1, [.int (nI N), .int (nI n), .int came, .ref b1, .ref b2, .ref b3, .ref b4, .ref b5])), (b1, .inl (cI, 66, .inl xs9)), (b2, .inl (cI, 66, .inl ys9)), (b3, .inl (cI, 66, .inl px)), (b4, .inl (cI, 66, .inl py)), (b5, .inl (cI, 67, .inl rd))] → va_S (fun q : Nat => s.heap.size ≤ q) s.heap H locs → ∀ (ls : Array Slot), lv_has ls 4 [(0, .ref b), (1, .ref q0), (2, .ref q1), (3, .int (nI i))] → W p l e room_1 s m #[Value.ref b] below meth c H locs 11 602 (lw_Z below #[Value.ref b] s) (F0 m 28 ls []) := by
  obtain ⟨hx, hb, hr, hml, hown0, hts0, hX, hbl, hlocks, hgv⟩ := C0
  have hown : s.vm.findClass RL = some m.cls := hown0
  have hts : ∀ w ∈ wsL_law, w.before #[Value.ref b] s = true := fun w h => hts0 w (wsL_law_in w h)
  have hA : ∀ q : Nat, s.heap.size ≤ q → (fun q : Nat => s.heap.size ≤ q) q := fun _ h => h
  have hbA : ¬ (fun q : Nat => s.heap.size ≤ q) b := Nat.not_le.mpr hbl
  intro k
  induction k with
  | zero =>
    intro i n came fx fy rx ry xs9 ys9 px py rd h1 h2 h3
    exfalso; omega
  | succ k ih =>
    intro i n came fx fy rx ry xs9 ys9 px py rd hi1 hi2 hk hi9 H locs hP hD hS ls hl
    have hN := hi9.1
    have h3 := hi9.2.1
    have hn := hi9.2.2.1
    have hR := hi9.2.2.2.1
    have hh := hi9.2.2.2.2.1
    have hR1 := oh_invR hi9
    have hh1 := oh_invH hi9
    have hPP := oh_invP hi9
    refine lv_iload_n hx hb dL_law_28 rfl (lv_at hl 3 rfl) ?_
    refine lv_aload_n hx hb dL_law_29 rfl (lv_at hl 0 rfl) ?_
    refine va_slen hx hb hX hbl hbA hS dL_law_30 ?_
    refine lv_iconst (v := nI 4) hx hb dL_law_31 (by decide) ?_
    refine lv_isub hx hb dL_law_32 ?_
    refine lv_topi (fun d_32 e_32 => ?_)
    have w_32 : d_32.toInt = (L : Int) - 4 := by rw [e_32]; exact pk_sub_toInt (by omega) (by omega)
    refine lv_icmp_gt (tgt := 342) hx hb dL_law_33 (by decide) (fun c_33 => ?_) (fun c_33 => ?_)
    · have g_33 : d_32.toInt < (i : Int) := by have q := oh_ltI c_33; rw [nI_toInt (n := i) (by omega)] at q; exact q
      refine lv_iconst (v := 1) hx hb dL_law_342 (by decide) ?_
      refine va_forget (fun q hq => hS.2.2 q hq) ?_
      refine W.widen (k := 600000) (n := 7302250) (by omega) (by omega) ?_
      exact lw_ret hx hb hr hlocks dL_law_343
    · have g_33 : (i : Int) ≤ d_32.toInt := by have q := oh_nltI c_33; rw [nI_toInt (n := i) (by omega)] at q; exact q
      refine lv_aload_n hx hb dL_law_36 rfl (lv_at hl 0 rfl) ?_
      refine lv_iload_n hx hb dL_law_37 rfl (lv_at hl 3 rfl) ?_
      refine oh_sld hx hb hX hbl hbA hS (k := i) (by omega) (by omega) dL_law_38 ?_
      refine lv_bipush (v := nI 15) hx hb dL_law_39 (by decide) ?_
      refine lv_iand hx hb dL_law_41 ?_
      refine lv_topi (fun d_41 e_41 => ?_)
      obtain ⟨j, hj, ej⟩ := pk_andE (xs i) (m := nI 15) 4 (by decide)
      rw [← e_41] at ej
      subst ej
      rcases (show j = 0 ∨ j = 1 ∨ j = 2 ∨ j = 3 ∨ j = 4 ∨ j = 5 ∨ j = 6 ∨ j = 7 ∨ j = 8 ∨ j = 9 ∨ 10 ≤ j by omega) with ek | ek | ek | ek | ek | ek | ek | ek | ek | ek | ek
      · subst ek
        refine lv_tableIn (off := 54) (tgt := 96) hx hb dL_law_42 (by decide) (by decide) (by decide) (by decide) ?_
        refine lv_aload_n hx hb dL_law_96 rfl (lv_at hl 1 rfl) ?_
        refine lv_aload_n hx hb dL_law_97 rfl (lv_at hl 0 rfl) ?_
        refine lv_iload_n hx hb dL_law_98 rfl (lv_at hl 3 rfl) ?_
        refine lv_iconst (v := nI 1) hx hb dL_law_99 (by decide) ?_
        refine lv_iadd hx hb dL_law_100 ?_
        rw [nI_add i 1]
        refine oh_sld hx hb hX hbl hbA hS (k := (i + 1)) (by omega) (by omega) dL_law_101 ?_
        refine lv_aload_n hx hb dL_law_102 rfl (lv_at hl 0 rfl) ?_
        refine lv_iload_n hx hb dL_law_103 rfl (lv_at hl 3 rfl) ?_
        refine lv_iconst (v := nI 2) hx hb dL_law_104 (by decide) ?_
        refine lv_iadd hx hb dL_law_105 ?_
        rw [nI_add i 2]
        refine oh_sld hx hb hX hbl hbA hS (k := (i + 2)) (by omega) (by omega) dL_law_106 ?_
        have hPc := hP.sub (ws' := [(q0, .inr (0, [.int (nI N), .ref a1, .ref a2, .ref a3, .ref a4, .int (nI n), .int came])), (a1, .inl (cI, N, .inl fx)), (a2, .inl (cI, N, .inl fy)), (a3, .inl (cI, N, .inl rx)), (a4, .inl (cI, N, .inl ry))]) [0, 1, 2, 3, 4] rfl
        have hDc := hD.sub (ws' := [(q0, .inr (0, [.int (nI N), .ref a1, .ref a2, .ref a3, .ref a4, .int (nI n), .int came])), (a1, .inl (cI, N, .inl fx)), (a2, .inl (cI, N, .inl fy)), (a3, .inl (cI, N, .inl rx)), (a4, .inl (cI, N, .inl ry))]) [0, 1, 2, 3, 4] (by decide) rfl
        have hFc := va_free (wc := [(q0, .inr (0, [.int (nI N), .ref a1, .ref a2, .ref a3, .ref a4, .int (nI n), .int came])), (a1, .inl (cI, N, .inl fx)), (a2, .inl (cI, N, .inl fy)), (a3, .inl (cI, N, .inl rx)), (a4, .inl (cI, N, .inl ry))]) hD hS hA [0, 1, 2, 3, 4] rfl
        refine va_calli (va_runV (As := [.int (xs ((i + 1))), .int (xs ((i + 2)))]) (rest := []) ⟨hx, hb, hml, hown, hts⟩ (k_X0_add l dC dI cI q0 a1 a2 a3 a4 N n came fx fy rx ry H.size (xs ((i + 1))) (xs ((i + 2))) hN hn h3 hR hh) (cwV 2 hts gL_law_X0_add rfl rfl rfl (by decide +kernel) ⟨Nat.le_of_ble_eq_true rfl, Nat.le_of_ble_eq_true rfl⟩) (oh_preM (ci := 0) (q0 := 0) hK hPc hDc rfl rfl) rfl rfl hl.1 rfl (lv_room (Nat.le_of_ble_eq_true rfl)) dL_law_107 ⟨Nat.le_of_ble_eq_true rfl, Nat.le_of_ble_eq_true rfl⟩) hS (fun q _ h => hFc q h) hFc (fun r_107 u_107 t H1 locs ht hvm hw_107 hB hz1 hk1 hS => ?_)
        obtain ⟨gx9, gy9, rx9, ry9, n9, came9⟩ := u_107
        obtain ⟨hP1, hK1, hD1⟩ := hB
        rw [ht] at hP1
        have hC := hw_107
        obtain ⟨hP, hD⟩ := va_join (wr := [(q1, .inr (1, [.int (nI N), .int (nI n), .int came, .ref b1, .ref b2, .ref b3, .ref b4, .ref b5])), (b1, .inl (cI, 66, .inl xs9)), (b2, .inl (cI, 66, .inl ys9)), (b3, .inl (cI, 66, .inl px)), (b4, .inl (cI, 66, .inl py)), (b5, .inl (cI, 67, .inl rd))]) (w1 := [(q0, .inr (0, [.int (nI N), .ref a1, .ref a2, .ref a3, .ref a4, .int (nI n9), .int came9])), (a1, .inl (cI, N, .inl gx9)), (a2, .inl (cI, N, .inl gy9)), (a3, .inl (cI, N, .inl rx9)), (a4, .inl (cI, N, .inl ry9))]) hP hD [0, 1, 2, 3, 4] [5, 6, 7, 8, 9, 10] rfl rfl (by decide) (by decide) hk1 hFc hP1 hD1
        generalize H1 = H at hP hS ⊢
        have hP : va_P (dC, dI) vwCl [(q1, .inr (1, [.int (nI N), .int (nI n), .int came, .ref b1, .ref b2, .ref b3, .ref b4, .ref b5])), (b1, .inl (cI, 66, .inl xs9)), (b2, .inl (cI, 66, .inl ys9)), (b3, .inl (cI, 66, .inl px)), (b4, .inl (cI, 66, .inl py)), (b5, .inl (cI, 67, .inl rd)), (q0, .inr (0, [.int (nI N), .ref a1, .ref a2, .ref a3, .ref a4, .int (nI n9), .int came9])), (a1, .inl (cI, N, .inl gx9)), (a2, .inl (cI, N, .inl gy9)), (a3, .inl (cI, N, .inl rx9)), (a4, .inl (cI, N, .inl ry9))] H := hP
        have hD : va_D (fun q : Nat => s.heap.size ≤ q) [(q1, .inr (1, [.int (nI N), .int (nI n), .int came, .ref b1, .ref b2, .ref b3, .ref b4, .ref b5])), (b1, .inl (cI, 66, .inl xs9)), (b2, .inl (cI, 66, .inl ys9)), (b3, .inl (cI, 66, .inl px)), (b4, .inl (cI, 66, .inl py)), (b5, .inl (cI, 67, .inl rd)), (q0, .inr (0, [.int (nI N), .ref a1, .ref a2, .ref a3, .ref a4, .int (nI n9), .int came9])), (a1, .inl (cI, N, .inl gx9)), (a2, .inl (cI, N, .inl gy9)), (a3, .inl (cI, N, .inl rx9)), (a4, .inl (cI, N, .inl ry9))] := hD
        clear hPc hDc hFc hP1 hK1 hD1 hk1 hz1 ht
        obtain ⟨M9, ρ9, hC, hst9⟩ := oh_addpick hi9 hC
        refine lv_aload_n hx hb dL_law_110 rfl (lv_at hl 2 rfl) ?_
        refine lv_aload_n hx hb dL_law_111 rfl (lv_at hl 0 rfl) ?_
        refine lv_iload_n hx hb dL_law_112 rfl (lv_at hl 3 rfl) ?_
        refine lv_iconst (v := nI 1) hx hb dL_law_113 (by decide) ?_
        refine lv_iadd hx hb dL_law_114 ?_
        rw [nI_add i 1]
        refine oh_sld hx hb hX hbl hbA hS (k := (i + 1)) (by omega) (by omega) dL_law_115 ?_
        refine lv_aload_n hx hb dL_law_116 rfl (lv_at hl 0 rfl) ?_
        refine lv_iload_n hx hb dL_law_117 rfl (lv_at hl 3 rfl) ?_
        refine lv_iconst (v := nI 2) hx hb dL_law_118 (by decide) ?_
        refine lv_iadd hx hb dL_law_119 ?_
        rw [nI_add i 2]
        refine oh_sld hx hb hX hbl hbA hS (k := (i + 2)) (by omega) (by omega) dL_law_120 ?_
        have hPc := hP.sub (ws' := [(q1, .inr (1, [.int (nI N), .int (nI n), .int came, .ref b1, .ref b2, .ref b3, .ref b4, .ref b5])), (b1, .inl (cI, 66, .inl xs9)), (b2, .inl (cI, 66, .inl ys9)), (b3, .inl (cI, 66, .inl px)), (b4, .inl (cI, 66, .inl py)), (b5, .inl (cI, 67, .inl rd))]) [0, 1, 2, 3, 4, 5] rfl
        have hDc := hD.sub (ws' := [(q1, .inr (1, [.int (nI N), .int (nI n), .int came, .ref b1, .ref b2, .ref b3, .ref b4, .ref b5])), (b1, .inl (cI, 66, .inl xs9)), (b2, .inl (cI, 66, .inl ys9)), (b3, .inl (cI, 66, .inl px)), (b4, .inl (cI, 66, .inl py)), (b5, .inl (cI, 67, .inl rd))]) [0, 1, 2, 3, 4, 5] (by decide) rfl
        have hFc := va_free (wc := [(q1, .inr (1, [.int (nI N), .int (nI n), .int came, .ref b1, .ref b2, .ref b3, .ref b4, .ref b5])), (b1, .inl (cI, 66, .inl xs9)), (b2, .inl (cI, 66, .inl ys9)), (b3, .inl (cI, 66, .inl px)), (b4, .inl (cI, 66, .inl py)), (b5, .inl (cI, 67, .inl rd))]) hD hS hA [0, 1, 2, 3, 4, 5] rfl
        refine va_calli (va_runV (As := [.int (xs ((i + 1))), .int (xs ((i + 2)))]) (rest := [.int r_107]) ⟨hx, hb, hml, hown, hts⟩ (k_X1_add l dC dI cI q1 b1 b2 b3 b4 b5 N n came xs9 ys9 px py rd H.size (xs ((i + 1))) (xs ((i + 2))) M9 ρ9 hN hn hR1 hh1 hst9) (cwV 2 hts gL_law_X1_add rfl rfl rfl (by decide +kernel) ⟨Nat.le_of_ble_eq_true rfl, Nat.le_of_ble_eq_true rfl⟩) (oh_preM (ci := 1) (q0 := 0) hK hPc hDc rfl rfl) rfl rfl hl.1 rfl (lv_room (Nat.le_of_ble_eq_true rfl)) dL_law_121 ⟨Nat.le_of_ble_eq_true rfl, Nat.le_of_ble_eq_true rfl⟩) hS (fun q _ h => hFc q h) hFc (fun r_121 u_121 t H1 locs ht hvm hw_121 hB hz1 hk1 hS => ?_)
        obtain ⟨xs8, ys8, px8, py8, rd8, n8, pts8⟩ := u_121
        obtain ⟨hP1, hK1, hD1⟩ := hB
        rw [ht] at hP1
        have hM := hw_121
        obtain ⟨hP, hD⟩ := va_join (wr := [(q0, .inr (0, [.int (nI N), .ref a1, .ref a2, .ref a3, .ref a4, .int (nI n9), .int came9])), (a1, .inl (cI, N, .inl gx9)), (a2, .inl (cI, N, .inl gy9)), (a3, .inl (cI, N, .inl rx9)), (a4, .inl (cI, N, .inl ry9))]) (w1 := [(q1, .inr (1, [.int (nI N), .int (nI n8), .int pts8, .ref b1, .ref b2, .ref b3, .ref b4, .ref b5])), (b1, .inl (cI, 66, .inl xs8)), (b2, .inl (cI, 66, .inl ys8)), (b3, .inl (cI, 66, .inl px8)), (b4, .inl (cI, 66, .inl py8)), (b5, .inl (cI, 67, .inl rd8))]) hP hD [0, 1, 2, 3, 4, 5] [6, 7, 8, 9, 10] rfl rfl (by decide) (by decide) hk1 hFc hP1 hD1
        generalize H1 = H at hP hS ⊢
        have hP : va_P (dC, dI) vwCl [(q0, .inr (0, [.int (nI N), .ref a1, .ref a2, .ref a3, .ref a4, .int (nI n9), .int came9])), (a1, .inl (cI, N, .inl gx9)), (a2, .inl (cI, N, .inl gy9)), (a3, .inl (cI, N, .inl rx9)), (a4, .inl (cI, N, .inl ry9)), (q1, .inr (1, [.int (nI N), .int (nI n8), .int pts8, .ref b1, .ref b2, .ref b3, .ref b4, .ref b5])), (b1, .inl (cI, 66, .inl xs8)), (b2, .inl (cI, 66, .inl ys8)), (b3, .inl (cI, 66, .inl px8)), (b4, .inl (cI, 66, .inl py8)), (b5, .inl (cI, 67, .inl rd8))] H := hP
        have hD : va_D (fun q : Nat => s.heap.size ≤ q) [(q0, .inr (0, [.int (nI N), .ref a1, .ref a2, .ref a3, .ref a4, .int (nI n9), .int came9])), (a1, .inl (cI, N, .inl gx9)), (a2, .inl (cI, N, .inl gy9)), (a3, .inl (cI, N, .inl rx9)), (a4, .inl (cI, N, .inl ry9)), (q1, .inr (1, [.int (nI N), .int (nI n8), .int pts8, .ref b1, .ref b2, .ref b3, .ref b4, .ref b5])), (b1, .inl (cI, 66, .inl xs8)), (b2, .inl (cI, 66, .inl ys8)), (b3, .inl (cI, 66, .inl px8)), (b4, .inl (cI, 66, .inl py8)), (b5, .inl (cI, 67, .inl rd8))] := hD
        clear hPc hDc hFc hP1 hK1 hD1 hk1 hz1 ht
        obtain ⟨hre, hne, hce, hi8⟩ := oh_addEq hi9 hC hM
        rw [hne, hce] at hP hD
        refine lv_icmp_eq (tgt := 336) hx hb dL_law_124 (by decide) (fun c_124 => ?_) (fun c_124 => ?_)
        · refine lv_iinc (v := nI (i + 4)) (lv' := [(3, .int (nI (i + 4))), (0, .ref b), (1, .ref q0), (2, .ref q1)]) hx hb dL_law_336 hl (k := 3) rfl (nI_add i 4) (by decide) rfl (fun ls hl => ?_)
          refine lv_goto (tgt := 28) hx hb dL_law_339 (by decide) ?_
          exact ih (i + 4) n9 came9 gx9 gy9 rx9 ry9 xs8 ys8 px8 py8 rd8 (by omega) (by omega) (by omega) hi8 _ _ hP hD hS ls (lv_sub hl [1, 2, 3, 0] rfl)
        · exact absurd (hre) c_124
      · subst ek
        refine lv_tableIn (off := 87) (tgt := 129) hx hb dL_law_42 (by decide) (by decide) (by decide) (by decide) ?_
        refine lv_aload_n hx hb dL_law_129 rfl (lv_at hl 1 rfl) ?_
        have hPc := hP.sub (ws' := [(q0, .inr (0, [.int (nI N), .ref a1, .ref a2, .ref a3, .ref a4, .int (nI n), .int came])), (a1, .inl (cI, N, .inl fx)), (a2, .inl (cI, N, .inl fy)), (a3, .inl (cI, N, .inl rx)), (a4, .inl (cI, N, .inl ry))]) [0, 1, 2, 3, 4] rfl
        refine vp_callSi (va_Run.run (va_runV (As := []) (rest := []) ⟨hx, hb, hml, hown, hts⟩ (k_X0_size l dC dI cI q0 a1 a2 a3 a4 N n came fx fy rx ry hN hn) (cwV 0 hts gL_law_X0_size rfl rfl rfl (by decide +kernel) ⟨Nat.le_of_ble_eq_true rfl, Nat.le_of_ble_eq_true rfl⟩) (oh_pre (ci := 0) (q0 := 0) hK hPc rfl rfl) rfl rfl hl.1 rfl (lv_room (Nat.le_of_ble_eq_true rfl)) dL_law_130 ⟨Nat.le_of_ble_eq_true rfl, Nat.le_of_ble_eq_true rfl⟩)) (fun r_130 hr_130 => ?_)
        refine lv_aload_n hx hb dL_law_133 rfl (lv_at hl 2 rfl) ?_
        have hPc := hP.sub (ws' := [(q1, .inr (1, [.int (nI N), .int (nI n), .int came, .ref b1, .ref b2, .ref b3, .ref b4, .ref b5])), (b1, .inl (cI, 66, .inl xs9)), (b2, .inl (cI, 66, .inl ys9)), (b3, .inl (cI, 66, .inl px)), (b4, .inl (cI, 66, .inl py)), (b5, .inl (cI, 67, .inl rd))]) [5, 6, 7, 8, 9, 10] rfl
        refine vp_callSi (va_Run.run (va_runV (As := []) (rest := [.int r_130]) ⟨hx, hb, hml, hown, hts⟩ (k_X1_size l dC dI cI q1 b1 b2 b3 b4 b5 N n came xs9 ys9 px py rd hN hn) (cwV 0 hts gL_law_X1_size rfl rfl rfl (by decide +kernel) ⟨Nat.le_of_ble_eq_true rfl, Nat.le_of_ble_eq_true rfl⟩) (oh_pre (ci := 1) (q0 := 0) hK hPc rfl rfl) rfl rfl hl.1 rfl (lv_room (Nat.le_of_ble_eq_true rfl)) dL_law_134 ⟨Nat.le_of_ble_eq_true rfl, Nat.le_of_ble_eq_true rfl⟩)) (fun r_134 hr_134 => ?_)
        refine lv_icmp_eq (tgt := 336) hx hb dL_law_137 (by decide) (fun c_137 => ?_) (fun c_137 => ?_)
        · refine lv_iinc (v := nI (i + 4)) (lv' := [(3, .int (nI (i + 4))), (0, .ref b), (1, .ref q0), (2, .ref q1)]) hx hb dL_law_336 hl (k := 3) rfl (nI_add i 4) (by decide) rfl (fun ls hl => ?_)
          refine lv_goto (tgt := 28) hx hb dL_law_339 (by decide) ?_
          exact ih (i + 4) n came fx fy rx ry xs9 ys9 px py rd (by omega) (by omega) (by omega) hi9 _ _ hP hD hS ls (lv_sub hl [1, 2, 3, 0] rfl)
        · exact absurd (hr_130.trans hr_134.symm) c_137
      · subst ek
        refine lv_tableIn (off := 100) (tgt := 142) hx hb dL_law_42 (by decide) (by decide) (by decide) (by decide) ?_
        refine lv_aload_n hx hb dL_law_142 rfl (lv_at hl 1 rfl) ?_
        refine lv_aload_n hx hb dL_law_143 rfl (lv_at hl 0 rfl) ?_
        refine lv_iload_n hx hb dL_law_144 rfl (lv_at hl 3 rfl) ?_
        refine lv_iconst (v := nI 1) hx hb dL_law_145 (by decide) ?_
        refine lv_iadd hx hb dL_law_146 ?_
        rw [nI_add i 1]
        refine oh_sld hx hb hX hbl hbA hS (k := (i + 1)) (by omega) (by omega) dL_law_147 ?_
        have hPc := hP.sub (ws' := [(q0, .inr (0, [.int (nI N), .ref a1, .ref a2, .ref a3, .ref a4, .int (nI n), .int came])), (a1, .inl (cI, N, .inl fx)), (a2, .inl (cI, N, .inl fy)), (a3, .inl (cI, N, .inl rx)), (a4, .inl (cI, N, .inl ry))]) [0, 1, 2, 3, 4] rfl
        refine vp_callSi (va_Run.run (va_runV (As := [.int (xs ((i + 1)))]) (rest := []) ⟨hx, hb, hml, hown, hts⟩ (k_X0_xOf l dC dI cI q0 a1 a2 a3 a4 N n came fx fy rx ry (xs ((i + 1))) hN hn) (cwV 1 hts gL_law_X0_xOf rfl rfl rfl (by decide +kernel) ⟨Nat.le_of_ble_eq_true rfl, Nat.le_of_ble_eq_true rfl⟩) (oh_pre (ci := 0) (q0 := 0) hK hPc rfl rfl) rfl rfl hl.1 rfl (lv_room (Nat.le_of_ble_eq_true rfl)) dL_law_148 ⟨Nat.le_of_ble_eq_true rfl, Nat.le_of_ble_eq_true rfl⟩)) (fun r_148 hr_148 => ?_)
        refine lv_aload_n hx hb dL_law_151 rfl (lv_at hl 2 rfl) ?_
        refine lv_aload_n hx hb dL_law_152 rfl (lv_at hl 0 rfl) ?_
        refine lv_iload_n hx hb dL_law_153 rfl (lv_at hl 3 rfl) ?_
        refine lv_iconst (v := nI 1) hx hb dL_law_154 (by decide) ?_
        refine lv_iadd hx hb dL_law_155 ?_
        rw [nI_add i 1]
        refine oh_sld hx hb hX hbl hbA hS (k := (i + 1)) (by omega) (by omega) dL_law_156 ?_
        have hPc := hP.sub (ws' := [(q1, .inr (1, [.int (nI N), .int (nI n), .int came, .ref b1, .ref b2, .ref b3, .ref b4, .ref b5])), (b1, .inl (cI, 66, .inl xs9)), (b2, .inl (cI, 66, .inl ys9)), (b3, .inl (cI, 66, .inl px)), (b4, .inl (cI, 66, .inl py)), (b5, .inl (cI, 67, .inl rd))]) [5, 6, 7, 8, 9, 10] rfl
        refine vp_callSi (va_Run.run (va_runV (As := [.int (xs ((i + 1)))]) (rest := [.int r_148]) ⟨hx, hb, hml, hown, hts⟩ (k_X1_xOf l dC dI cI q1 b1 b2 b3 b4 b5 N n came xs9 ys9 px py rd (xs ((i + 1))) hN hn) (cwV 1 hts gL_law_X1_xOf rfl rfl rfl (by decide +kernel) ⟨Nat.le_of_ble_eq_true rfl, Nat.le_of_ble_eq_true rfl⟩) (oh_pre (ci := 1) (q0 := 0) hK hPc rfl rfl) rfl rfl hl.1 rfl (lv_room (Nat.le_of_ble_eq_true rfl)) dL_law_157 ⟨Nat.le_of_ble_eq_true rfl, Nat.le_of_ble_eq_true rfl⟩)) (fun r_157 hr_157 => ?_)
        refine lv_icmp_eq (tgt := 336) hx hb dL_law_160 (by decide) (fun c_160 => ?_) (fun c_160 => ?_)
        · refine lv_iinc (v := nI (i + 4)) (lv' := [(3, .int (nI (i + 4))), (0, .ref b), (1, .ref q0), (2, .ref q1)]) hx hb dL_law_336 hl (k := 3) rfl (nI_add i 4) (by decide) rfl (fun ls hl => ?_)
          refine lv_goto (tgt := 28) hx hb dL_law_339 (by decide) ?_
          exact ih (i + 4) n came fx fy rx ry xs9 ys9 px py rd (by omega) (by omega) (by omega) hi9 _ _ hP hD hS ls (lv_sub hl [1, 2, 3, 0] rfl)
        · exact absurd (oh_xEq (fun k hk => (hi9.2.2.2.2.2 k hk).1) (by omega) hr_148 hr_157) c_160
      · subst ek
        refine lv_tableIn (off := 123) (tgt := 165) hx hb dL_law_42 (by decide) (by decide) (by decide) (by decide) ?_
        refine lv_aload_n hx hb dL_law_165 rfl (lv_at hl 1 rfl) ?_
        refine lv_aload_n hx hb dL_law_166 rfl (lv_at hl 0 rfl) ?_
        refine lv_iload_n hx hb dL_law_167 rfl (lv_at hl 3 rfl) ?_
        refine lv_iconst (v := nI 1) hx hb dL_law_168 (by decide) ?_
        refine lv_iadd hx hb dL_law_169 ?_
        rw [nI_add i 1]
        refine oh_sld hx hb hX hbl hbA hS (k := (i + 1)) (by omega) (by omega) dL_law_170 ?_
        have hPc := hP.sub (ws' := [(q0, .inr (0, [.int (nI N), .ref a1, .ref a2, .ref a3, .ref a4, .int (nI n), .int came])), (a1, .inl (cI, N, .inl fx)), (a2, .inl (cI, N, .inl fy)), (a3, .inl (cI, N, .inl rx)), (a4, .inl (cI, N, .inl ry))]) [0, 1, 2, 3, 4] rfl
        refine vp_callSi (va_Run.run (va_runV (As := [.int (xs ((i + 1)))]) (rest := []) ⟨hx, hb, hml, hown, hts⟩ (k_X0_yOf l dC dI cI q0 a1 a2 a3 a4 N n came fx fy rx ry (xs ((i + 1))) hN hn) (cwV 1 hts gL_law_X0_yOf rfl rfl rfl (by decide +kernel) ⟨Nat.le_of_ble_eq_true rfl, Nat.le_of_ble_eq_true rfl⟩) (oh_pre (ci := 0) (q0 := 0) hK hPc rfl rfl) rfl rfl hl.1 rfl (lv_room (Nat.le_of_ble_eq_true rfl)) dL_law_171 ⟨Nat.le_of_ble_eq_true rfl, Nat.le_of_ble_eq_true rfl⟩)) (fun r_171 hr_171 => ?_)
        refine lv_aload_n hx hb dL_law_174 rfl (lv_at hl 2 rfl) ?_
        refine lv_aload_n hx hb dL_law_175 rfl (lv_at hl 0 rfl) ?_
        refine lv_iload_n hx hb dL_law_176 rfl (lv_at hl 3 rfl) ?_
        refine lv_iconst (v := nI 1) hx hb dL_law_177 (by decide) ?_
        refine lv_iadd hx hb dL_law_178 ?_
        rw [nI_add i 1]
        refine oh_sld hx hb hX hbl hbA hS (k := (i + 1)) (by omega) (by omega) dL_law_179 ?_
        have hPc := hP.sub (ws' := [(q1, .inr (1, [.int (nI N), .int (nI n), .int came, .ref b1, .ref b2, .ref b3, .ref b4, .ref b5])), (b1, .inl (cI, 66, .inl xs9)), (b2, .inl (cI, 66, .inl ys9)), (b3, .inl (cI, 66, .inl px)), (b4, .inl (cI, 66, .inl py)), (b5, .inl (cI, 67, .inl rd))]) [5, 6, 7, 8, 9, 10] rfl
        refine vp_callSi (va_Run.run (va_runV (As := [.int (xs ((i + 1)))]) (rest := [.int r_171]) ⟨hx, hb, hml, hown, hts⟩ (k_X1_yOf l dC dI cI q1 b1 b2 b3 b4 b5 N n came xs9 ys9 px py rd (xs ((i + 1))) hN hn) (cwV 1 hts gL_law_X1_yOf rfl rfl rfl (by decide +kernel) ⟨Nat.le_of_ble_eq_true rfl, Nat.le_of_ble_eq_true rfl⟩) (oh_pre (ci := 1) (q0 := 0) hK hPc rfl rfl) rfl rfl hl.1 rfl (lv_room (Nat.le_of_ble_eq_true rfl)) dL_law_180 ⟨Nat.le_of_ble_eq_true rfl, Nat.le_of_ble_eq_true rfl⟩)) (fun r_180 hr_180 => ?_)
        refine lv_icmp_eq (tgt := 336) hx hb dL_law_183 (by decide) (fun c_183 => ?_) (fun c_183 => ?_)
        · refine lv_iinc (v := nI (i + 4)) (lv' := [(3, .int (nI (i + 4))), (0, .ref b), (1, .ref q0), (2, .ref q1)]) hx hb dL_law_336 hl (k := 3) rfl (nI_add i 4) (by decide) rfl (fun ls hl => ?_)
          refine lv_goto (tgt := 28) hx hb dL_law_339 (by decide) ?_
          exact ih (i + 4) n came fx fy rx ry xs9 ys9 px py rd (by omega) (by omega) (by omega) hi9 _ _ hP hD hS ls (lv_sub hl [1, 2, 3, 0] rfl)
        · exact absurd (oh_xEq (fun k hk => (hi9.2.2.2.2.2 k hk).2) (by omega) hr_171 hr_180) c_183
      · subst ek
        refine lv_tableIn (off := 146) (tgt := 188) hx hb dL_law_42 (by decide) (by decide) (by decide) (by decide) ?_
        refine lv_aload_n hx hb dL_law_188 rfl (lv_at hl 1 rfl) ?_
        refine lv_aload_n hx hb dL_law_189 rfl (lv_at hl 0 rfl) ?_
        refine lv_iload_n hx hb dL_law_190 rfl (lv_at hl 3 rfl) ?_
        refine lv_iconst (v := nI 1) hx hb dL_law_191 (by decide) ?_
        refine lv_iadd hx hb dL_law_192 ?_
        rw [nI_add i 1]
        refine oh_sld hx hb hX hbl hbA hS (k := (i + 1)) (by omega) (by omega) dL_law_193 ?_
        refine lv_aload_n hx hb dL_law_194 rfl (lv_at hl 0 rfl) ?_
        refine lv_iload_n hx hb dL_law_195 rfl (lv_at hl 3 rfl) ?_
        refine lv_iconst (v := nI 2) hx hb dL_law_196 (by decide) ?_
        refine lv_iadd hx hb dL_law_197 ?_
        rw [nI_add i 2]
        refine oh_sld hx hb hX hbl hbA hS (k := (i + 2)) (by omega) (by omega) dL_law_198 ?_
        have hPc := hP.sub (ws' := [(q0, .inr (0, [.int (nI N), .ref a1, .ref a2, .ref a3, .ref a4, .int (nI n), .int came])), (a1, .inl (cI, N, .inl fx)), (a2, .inl (cI, N, .inl fy)), (a3, .inl (cI, N, .inl rx)), (a4, .inl (cI, N, .inl ry))]) [0, 1, 2, 3, 4] rfl
        refine vp_callSi (va_Run.run (va_runV (As := [.int (xs ((i + 1))), .int (xs ((i + 2)))]) (rest := []) ⟨hx, hb, hml, hown, hts⟩ (k_X0_inside l dC dI cI q0 a1 a2 a3 a4 N n came fx fy rx ry (xs ((i + 1))) (xs ((i + 2))) hN hn hR) (cwV 2 hts gL_law_X0_inside rfl rfl rfl (by decide +kernel) ⟨Nat.le_of_ble_eq_true rfl, Nat.le_of_ble_eq_true rfl⟩) (oh_pre (ci := 0) (q0 := 0) hK hPc rfl rfl) rfl rfl hl.1 rfl (lv_room (Nat.le_of_ble_eq_true rfl)) dL_law_199 ⟨Nat.le_of_ble_eq_true rfl, Nat.le_of_ble_eq_true rfl⟩)) (fun r_199 hr_199 => ?_)
        refine lv_aload_n hx hb dL_law_202 rfl (lv_at hl 2 rfl) ?_
        refine lv_aload_n hx hb dL_law_203 rfl (lv_at hl 0 rfl) ?_
        refine lv_iload_n hx hb dL_law_204 rfl (lv_at hl 3 rfl) ?_
        refine lv_iconst (v := nI 1) hx hb dL_law_205 (by decide) ?_
        refine lv_iadd hx hb dL_law_206 ?_
        rw [nI_add i 1]
        refine oh_sld hx hb hX hbl hbA hS (k := (i + 1)) (by omega) (by omega) dL_law_207 ?_
        refine lv_aload_n hx hb dL_law_208 rfl (lv_at hl 0 rfl) ?_
        refine lv_iload_n hx hb dL_law_209 rfl (lv_at hl 3 rfl) ?_
        refine lv_iconst (v := nI 2) hx hb dL_law_210 (by decide) ?_
        refine lv_iadd hx hb dL_law_211 ?_
        rw [nI_add i 2]
        refine oh_sld hx hb hX hbl hbA hS (k := (i + 2)) (by omega) (by omega) dL_law_212 ?_
        have hPc := hP.sub (ws' := [(q1, .inr (1, [.int (nI N), .int (nI n), .int came, .ref b1, .ref b2, .ref b3, .ref b4, .ref b5])), (b1, .inl (cI, 66, .inl xs9)), (b2, .inl (cI, 66, .inl ys9)), (b3, .inl (cI, 66, .inl px)), (b4, .inl (cI, 66, .inl py)), (b5, .inl (cI, 67, .inl rd))]) [5, 6, 7, 8, 9, 10] rfl
        refine vp_callSi (va_Run.run (va_runV (As := [.int (xs ((i + 1))), .int (xs ((i + 2)))]) (rest := [.int r_199]) ⟨hx, hb, hml, hown, hts⟩ (k_X1_inside l dC dI cI q1 b1 b2 b3 b4 b5 N n came xs9 ys9 px py rd (xs ((i + 1))) (xs ((i + 2))) hN hn hR1 hh1) (cwV 2 hts gL_law_X1_inside rfl rfl rfl (by decide +kernel) ⟨Nat.le_of_ble_eq_true rfl, Nat.le_of_ble_eq_true rfl⟩) (oh_pre (ci := 1) (q0 := 0) hK hPc rfl rfl) rfl rfl hl.1 rfl (lv_room (Nat.le_of_ble_eq_true rfl)) dL_law_213 ⟨Nat.le_of_ble_eq_true rfl, Nat.le_of_ble_eq_true rfl⟩)) (fun r_213 hr_213 => ?_)
        refine lv_icmp_eq (tgt := 336) hx hb dL_law_216 (by decide) (fun c_216 => ?_) (fun c_216 => ?_)
        · refine lv_iinc (v := nI (i + 4)) (lv' := [(3, .int (nI (i + 4))), (0, .ref b), (1, .ref q0), (2, .ref q1)]) hx hb dL_law_336 hl (k := 3) rfl (nI_add i 4) (by decide) rfl (fun ls hl => ?_)
          refine lv_goto (tgt := 28) hx hb dL_law_339 (by decide) ?_
          exact ih (i + 4) n came fx fy rx ry xs9 ys9 px py rd (by omega) (by omega) (by omega) hi9 _ _ hP hD hS ls (lv_sub hl [1, 2, 3, 0] rfl)
        · exact absurd (oh_inEq hPP hr_199 hr_213) c_216
      · subst ek
        refine lv_tableIn (off := 179) (tgt := 221) hx hb dL_law_42 (by decide) (by decide) (by decide) (by decide) ?_
        refine lv_aload_n hx hb dL_law_221 rfl (lv_at hl 1 rfl) ?_
        have hPc := hP.sub (ws' := [(q0, .inr (0, [.int (nI N), .ref a1, .ref a2, .ref a3, .ref a4, .int (nI n), .int came])), (a1, .inl (cI, N, .inl fx)), (a2, .inl (cI, N, .inl fy)), (a3, .inl (cI, N, .inl rx)), (a4, .inl (cI, N, .inl ry))]) [0, 1, 2, 3, 4] rfl
        refine vp_callSi (va_Run.run (va_runV (As := []) (rest := []) ⟨hx, hb, hml, hown, hts⟩ (k_X0_twiceArea l dC dI cI q0 a1 a2 a3 a4 N n came fx fy rx ry hN hn hR) (cwV 0 hts gL_law_X0_twiceArea rfl rfl rfl (by decide +kernel) ⟨Nat.le_of_ble_eq_true rfl, Nat.le_of_ble_eq_true rfl⟩) (oh_pre (ci := 0) (q0 := 0) hK hPc rfl rfl) rfl rfl hl.1 rfl (lv_room (Nat.le_of_ble_eq_true rfl)) dL_law_222 ⟨Nat.le_of_ble_eq_true rfl, Nat.le_of_ble_eq_true rfl⟩)) (fun r_222 hr_222 => ?_)
        refine lv_aload_n hx hb dL_law_225 rfl (lv_at hl 2 rfl) ?_
        have hPc := hP.sub (ws' := [(q1, .inr (1, [.int (nI N), .int (nI n), .int came, .ref b1, .ref b2, .ref b3, .ref b4, .ref b5])), (b1, .inl (cI, 66, .inl xs9)), (b2, .inl (cI, 66, .inl ys9)), (b3, .inl (cI, 66, .inl px)), (b4, .inl (cI, 66, .inl py)), (b5, .inl (cI, 67, .inl rd))]) [5, 6, 7, 8, 9, 10] rfl
        refine vp_callSi (va_Run.run (va_runV (As := []) (rest := [.int r_222]) ⟨hx, hb, hml, hown, hts⟩ (k_X1_twiceArea l dC dI cI q1 b1 b2 b3 b4 b5 N n came xs9 ys9 px py rd hN hn hR1) (cwV 0 hts gL_law_X1_twiceArea rfl rfl rfl (by decide +kernel) ⟨Nat.le_of_ble_eq_true rfl, Nat.le_of_ble_eq_true rfl⟩) (oh_pre (ci := 1) (q0 := 0) hK hPc rfl rfl) rfl rfl hl.1 rfl (lv_room (Nat.le_of_ble_eq_true rfl)) dL_law_226 ⟨Nat.le_of_ble_eq_true rfl, Nat.le_of_ble_eq_true rfl⟩)) (fun r_226 hr_226 => ?_)
        refine lv_icmp_eq (tgt := 336) hx hb dL_law_229 (by decide) (fun c_229 => ?_) (fun c_229 => ?_)
        · refine lv_iinc (v := nI (i + 4)) (lv' := [(3, .int (nI (i + 4))), (0, .ref b), (1, .ref q0), (2, .ref q1)]) hx hb dL_law_336 hl (k := 3) rfl (nI_add i 4) (by decide) rfl (fun ls hl => ?_)
          refine lv_goto (tgt := 28) hx hb dL_law_339 (by decide) ?_
          exact ih (i + 4) n came fx fy rx ry xs9 ys9 px py rd (by omega) (by omega) (by omega) hi9 _ _ hP hD hS ls (lv_sub hl [1, 2, 3, 0] rfl)
        · exact absurd (by rw [hr_222, hr_226, oh_c_ar2 hPP]) c_229
      · subst ek
        refine lv_tableIn (off := 192) (tgt := 234) hx hb dL_law_42 (by decide) (by decide) (by decide) (by decide) ?_
        refine lv_aload_n hx hb dL_law_234 rfl (lv_at hl 1 rfl) ?_
        refine lv_aload_n hx hb dL_law_235 rfl (lv_at hl 0 rfl) ?_
        refine lv_iload_n hx hb dL_law_236 rfl (lv_at hl 3 rfl) ?_
        refine lv_iconst (v := nI 1) hx hb dL_law_237 (by decide) ?_
        refine lv_iadd hx hb dL_law_238 ?_
        rw [nI_add i 1]
        refine oh_sld hx hb hX hbl hbA hS (k := (i + 1)) (by omega) (by omega) dL_law_239 ?_
        refine lv_aload_n hx hb dL_law_240 rfl (lv_at hl 0 rfl) ?_
        refine lv_iload_n hx hb dL_law_241 rfl (lv_at hl 3 rfl) ?_
        refine lv_iconst (v := nI 2) hx hb dL_law_242 (by decide) ?_
        refine lv_iadd hx hb dL_law_243 ?_
        rw [nI_add i 2]
        refine oh_sld hx hb hX hbl hbA hS (k := (i + 2)) (by omega) (by omega) dL_law_244 ?_
        have hPc := hP.sub (ws' := [(q0, .inr (0, [.int (nI N), .ref a1, .ref a2, .ref a3, .ref a4, .int (nI n), .int came])), (a1, .inl (cI, N, .inl fx)), (a2, .inl (cI, N, .inl fy)), (a3, .inl (cI, N, .inl rx)), (a4, .inl (cI, N, .inl ry))]) [0, 1, 2, 3, 4] rfl
        refine vp_callSi (va_Run.run (va_runV (As := [.int (xs ((i + 1))), .int (xs ((i + 2)))]) (rest := []) ⟨hx, hb, hml, hown, hts⟩ (k_X0_farthest l dC dI cI q0 a1 a2 a3 a4 N n came fx fy rx ry (xs ((i + 1))) (xs ((i + 2))) hN hn hR) (cwV 2 hts gL_law_X0_farthest rfl rfl rfl (by decide +kernel) ⟨Nat.le_of_ble_eq_true rfl, Nat.le_of_ble_eq_true rfl⟩) (oh_pre (ci := 0) (q0 := 0) hK hPc rfl rfl) rfl rfl hl.1 rfl (lv_room (Nat.le_of_ble_eq_true rfl)) dL_law_245 ⟨Nat.le_of_ble_eq_true rfl, Nat.le_of_ble_eq_true rfl⟩)) (fun r_245 hr_245 => ?_)
        refine lv_aload_n hx hb dL_law_248 rfl (lv_at hl 2 rfl) ?_
        refine lv_aload_n hx hb dL_law_249 rfl (lv_at hl 0 rfl) ?_
        refine lv_iload_n hx hb dL_law_250 rfl (lv_at hl 3 rfl) ?_
        refine lv_iconst (v := nI 1) hx hb dL_law_251 (by decide) ?_
        refine lv_iadd hx hb dL_law_252 ?_
        rw [nI_add i 1]
        refine oh_sld hx hb hX hbl hbA hS (k := (i + 1)) (by omega) (by omega) dL_law_253 ?_
        refine lv_aload_n hx hb dL_law_254 rfl (lv_at hl 0 rfl) ?_
        refine lv_iload_n hx hb dL_law_255 rfl (lv_at hl 3 rfl) ?_
        refine lv_iconst (v := nI 2) hx hb dL_law_256 (by decide) ?_
        refine lv_iadd hx hb dL_law_257 ?_
        rw [nI_add i 2]
        refine oh_sld hx hb hX hbl hbA hS (k := (i + 2)) (by omega) (by omega) dL_law_258 ?_
        have hPc := hP.sub (ws' := [(q1, .inr (1, [.int (nI N), .int (nI n), .int came, .ref b1, .ref b2, .ref b3, .ref b4, .ref b5])), (b1, .inl (cI, 66, .inl xs9)), (b2, .inl (cI, 66, .inl ys9)), (b3, .inl (cI, 66, .inl px)), (b4, .inl (cI, 66, .inl py)), (b5, .inl (cI, 67, .inl rd))]) [5, 6, 7, 8, 9, 10] rfl
        refine vp_callSi (va_Run.run (va_runV (As := [.int (xs ((i + 1))), .int (xs ((i + 2)))]) (rest := [.int r_245]) ⟨hx, hb, hml, hown, hts⟩ (k_X1_farthest l dC dI cI q1 b1 b2 b3 b4 b5 N n came xs9 ys9 px py rd (xs ((i + 1))) (xs ((i + 2))) hN hn hR1) (cwV 2 hts gL_law_X1_farthest rfl rfl rfl (by decide +kernel) ⟨Nat.le_of_ble_eq_true rfl, Nat.le_of_ble_eq_true rfl⟩) (oh_pre (ci := 1) (q0 := 0) hK hPc rfl rfl) rfl rfl hl.1 rfl (lv_room (Nat.le_of_ble_eq_true rfl)) dL_law_259 ⟨Nat.le_of_ble_eq_true rfl, Nat.le_of_ble_eq_true rfl⟩)) (fun r_259 hr_259 => ?_)
        refine lv_icmp_eq (tgt := 336) hx hb dL_law_262 (by decide) (fun c_262 => ?_) (fun c_262 => ?_)
        · refine lv_iinc (v := nI (i + 4)) (lv' := [(3, .int (nI (i + 4))), (0, .ref b), (1, .ref q0), (2, .ref q1)]) hx hb dL_law_336 hl (k := 3) rfl (nI_add i 4) (by decide) rfl (fun ls hl => ?_)
          refine lv_goto (tgt := 28) hx hb dL_law_339 (by decide) ?_
          exact ih (i + 4) n came fx fy rx ry xs9 ys9 px py rd (by omega) (by omega) (by omega) hi9 _ _ hP hD hS ls (lv_sub hl [1, 2, 3, 0] rfl)
        · exact absurd (oh_u_far hr_245 (oh_c_far hPP hr_259)) c_262
      · subst ek
        refine lv_tableIn (off := 225) (tgt := 267) hx hb dL_law_42 (by decide) (by decide) (by decide) (by decide) ?_
        refine lv_aload_n hx hb dL_law_267 rfl (lv_at hl 1 rfl) ?_
        refine lv_aload_n hx hb dL_law_268 rfl (lv_at hl 0 rfl) ?_
        refine lv_iload_n hx hb dL_law_269 rfl (lv_at hl 3 rfl) ?_
        refine lv_iconst (v := nI 1) hx hb dL_law_270 (by decide) ?_
        refine lv_iadd hx hb dL_law_271 ?_
        rw [nI_add i 1]
        refine oh_sld hx hb hX hbl hbA hS (k := (i + 1)) (by omega) (by omega) dL_law_272 ?_
        refine lv_aload_n hx hb dL_law_273 rfl (lv_at hl 0 rfl) ?_
        refine lv_iload_n hx hb dL_law_274 rfl (lv_at hl 3 rfl) ?_
        refine lv_iconst (v := nI 2) hx hb dL_law_275 (by decide) ?_
        refine lv_iadd hx hb dL_law_276 ?_
        rw [nI_add i 2]
        refine oh_sld hx hb hX hbl hbA hS (k := (i + 2)) (by omega) (by omega) dL_law_277 ?_
        refine lv_aload_n hx hb dL_law_278 rfl (lv_at hl 0 rfl) ?_
        refine lv_iload_n hx hb dL_law_279 rfl (lv_at hl 3 rfl) ?_
        refine lv_iconst (v := nI 3) hx hb dL_law_280 (by decide) ?_
        refine lv_iadd hx hb dL_law_281 ?_
        rw [nI_add i 3]
        refine oh_sld hx hb hX hbl hbA hS (k := (i + 3)) (by omega) (by omega) dL_law_282 ?_
        have hPc := hP.sub (ws' := [(q0, .inr (0, [.int (nI N), .ref a1, .ref a2, .ref a3, .ref a4, .int (nI n), .int came])), (a1, .inl (cI, N, .inl fx)), (a2, .inl (cI, N, .inl fy)), (a3, .inl (cI, N, .inl rx)), (a4, .inl (cI, N, .inl ry))]) [0, 1, 2, 3, 4] rfl
        refine vp_callSi (va_Run.run (va_runV (As := [.int (xs ((i + 1))), .int (xs ((i + 2))), .int (xs ((i + 3)))]) (rest := []) ⟨hx, hb, hml, hown, hts⟩ (k_X0_tangent l dC dI cI q0 a1 a2 a3 a4 N n came fx fy rx ry (xs ((i + 1))) (xs ((i + 2))) (xs ((i + 3))) hN hn hR) (cwV 3 hts gL_law_X0_tangent rfl rfl rfl (by decide +kernel) ⟨Nat.le_of_ble_eq_true rfl, Nat.le_of_ble_eq_true rfl⟩) (oh_pre (ci := 0) (q0 := 0) hK hPc rfl rfl) rfl rfl hl.1 rfl (lv_room (Nat.le_of_ble_eq_true rfl)) dL_law_283 ⟨Nat.le_of_ble_eq_true rfl, Nat.le_of_ble_eq_true rfl⟩)) (fun r_283 hr_283 => ?_)
        refine lv_aload_n hx hb dL_law_286 rfl (lv_at hl 2 rfl) ?_
        refine lv_aload_n hx hb dL_law_287 rfl (lv_at hl 0 rfl) ?_
        refine lv_iload_n hx hb dL_law_288 rfl (lv_at hl 3 rfl) ?_
        refine lv_iconst (v := nI 1) hx hb dL_law_289 (by decide) ?_
        refine lv_iadd hx hb dL_law_290 ?_
        rw [nI_add i 1]
        refine oh_sld hx hb hX hbl hbA hS (k := (i + 1)) (by omega) (by omega) dL_law_291 ?_
        refine lv_aload_n hx hb dL_law_292 rfl (lv_at hl 0 rfl) ?_
        refine lv_iload_n hx hb dL_law_293 rfl (lv_at hl 3 rfl) ?_
        refine lv_iconst (v := nI 2) hx hb dL_law_294 (by decide) ?_
        refine lv_iadd hx hb dL_law_295 ?_
        rw [nI_add i 2]
        refine oh_sld hx hb hX hbl hbA hS (k := (i + 2)) (by omega) (by omega) dL_law_296 ?_
        refine lv_aload_n hx hb dL_law_297 rfl (lv_at hl 0 rfl) ?_
        refine lv_iload_n hx hb dL_law_298 rfl (lv_at hl 3 rfl) ?_
        refine lv_iconst (v := nI 3) hx hb dL_law_299 (by decide) ?_
        refine lv_iadd hx hb dL_law_300 ?_
        rw [nI_add i 3]
        refine oh_sld hx hb hX hbl hbA hS (k := (i + 3)) (by omega) (by omega) dL_law_301 ?_
        have hPc := hP.sub (ws' := [(q1, .inr (1, [.int (nI N), .int (nI n), .int came, .ref b1, .ref b2, .ref b3, .ref b4, .ref b5])), (b1, .inl (cI, 66, .inl xs9)), (b2, .inl (cI, 66, .inl ys9)), (b3, .inl (cI, 66, .inl px)), (b4, .inl (cI, 66, .inl py)), (b5, .inl (cI, 67, .inl rd))]) [5, 6, 7, 8, 9, 10] rfl
        refine vp_callSi (va_Run.run (va_runV (As := [.int (xs ((i + 1))), .int (xs ((i + 2))), .int (xs ((i + 3)))]) (rest := [.int r_283]) ⟨hx, hb, hml, hown, hts⟩ (k_X1_tangent l dC dI cI q1 b1 b2 b3 b4 b5 N n came xs9 ys9 px py rd (xs ((i + 1))) (xs ((i + 2))) (xs ((i + 3))) hN hn hR1 hh1) (cwV 3 hts gL_law_X1_tangent rfl rfl rfl (by decide +kernel) ⟨Nat.le_of_ble_eq_true rfl, Nat.le_of_ble_eq_true rfl⟩) (oh_pre (ci := 1) (q0 := 0) hK hPc rfl rfl) rfl rfl hl.1 rfl (lv_room (Nat.le_of_ble_eq_true rfl)) dL_law_302 ⟨Nat.le_of_ble_eq_true rfl, Nat.le_of_ble_eq_true rfl⟩)) (fun r_302 hr_302 => ?_)
        refine lv_icmp_eq (tgt := 336) hx hb dL_law_305 (by decide) (fun c_305 => ?_) (fun c_305 => ?_)
        · refine lv_iinc (v := nI (i + 4)) (lv' := [(3, .int (nI (i + 4))), (0, .ref b), (1, .ref q0), (2, .ref q1)]) hx hb dL_law_336 hl (k := 3) rfl (nI_add i 4) (by decide) rfl (fun ls hl => ?_)
          refine lv_goto (tgt := 28) hx hb dL_law_339 (by decide) ?_
          exact ih (i + 4) n came fx fy rx ry xs9 ys9 px py rd (by omega) (by omega) (by omega) hi9 _ _ hP hD hS ls (lv_sub hl [1, 2, 3, 0] rfl)
        · exact absurd (oh_u_tan hh hr_283 (oh_c_tan hPP hr_302)) c_305
      · subst ek
        refine lv_tableIn (off := 268) (tgt := 310) hx hb dL_law_42 (by decide) (by decide) (by decide) (by decide) ?_
        refine lv_aload_n hx hb dL_law_310 rfl (lv_at hl 1 rfl) ?_
        have hPc := hP.sub (ws' := [(q0, .inr (0, [.int (nI N), .ref a1, .ref a2, .ref a3, .ref a4, .int (nI n), .int came])), (a1, .inl (cI, N, .inl fx)), (a2, .inl (cI, N, .inl fy)), (a3, .inl (cI, N, .inl rx)), (a4, .inl (cI, N, .inl ry))]) [0, 1, 2, 3, 4] rfl
        refine vp_callSi (va_Run.run (va_runV (As := []) (rest := []) ⟨hx, hb, hml, hown, hts⟩ (k_X0_diameter l dC dI cI q0 a1 a2 a3 a4 N n came fx fy rx ry hN hn hR) (cwV 0 hts gL_law_X0_diameter rfl rfl rfl (by decide +kernel) ⟨Nat.le_of_ble_eq_true rfl, Nat.le_of_ble_eq_true rfl⟩) (oh_pre (ci := 0) (q0 := 0) hK hPc rfl rfl) rfl rfl hl.1 rfl (lv_room (Nat.le_of_ble_eq_true rfl)) dL_law_311 ⟨Nat.le_of_ble_eq_true rfl, Nat.le_of_ble_eq_true rfl⟩)) (fun r_311 hr_311 => ?_)
        refine lv_aload_n hx hb dL_law_314 rfl (lv_at hl 2 rfl) ?_
        have hPc := hP.sub (ws' := [(q1, .inr (1, [.int (nI N), .int (nI n), .int came, .ref b1, .ref b2, .ref b3, .ref b4, .ref b5])), (b1, .inl (cI, 66, .inl xs9)), (b2, .inl (cI, 66, .inl ys9)), (b3, .inl (cI, 66, .inl px)), (b4, .inl (cI, 66, .inl py)), (b5, .inl (cI, 67, .inl rd))]) [5, 6, 7, 8, 9, 10] rfl
        refine vp_callSi (va_Run.run (va_runV (As := []) (rest := [.int r_311]) ⟨hx, hb, hml, hown, hts⟩ (k_X1_diameter l dC dI cI q1 b1 b2 b3 b4 b5 N n came xs9 ys9 px py rd hN hn hR1) (cwV 0 hts gL_law_X1_diameter rfl rfl rfl (by decide +kernel) ⟨Nat.le_of_ble_eq_true rfl, Nat.le_of_ble_eq_true rfl⟩) (oh_pre (ci := 1) (q0 := 0) hK hPc rfl rfl) rfl rfl hl.1 rfl (lv_room (Nat.le_of_ble_eq_true rfl)) dL_law_315 ⟨Nat.le_of_ble_eq_true rfl, Nat.le_of_ble_eq_true rfl⟩)) (fun r_315 hr_315 => ?_)
        refine lv_icmp_eq (tgt := 336) hx hb dL_law_318 (by decide) (fun c_318 => ?_) (fun c_318 => ?_)
        · refine lv_iinc (v := nI (i + 4)) (lv' := [(3, .int (nI (i + 4))), (0, .ref b), (1, .ref q0), (2, .ref q1)]) hx hb dL_law_336 hl (k := 3) rfl (nI_add i 4) (by decide) rfl (fun ls hl => ?_)
          refine lv_goto (tgt := 28) hx hb dL_law_339 (by decide) ?_
          exact ih (i + 4) n came fx fy rx ry xs9 ys9 px py rd (by omega) (by omega) (by omega) hi9 _ _ hP hD hS ls (lv_sub hl [1, 2, 3, 0] rfl)
        · exact absurd (oh_u_dia hr_311 (oh_c_dia hPP hr_315)) c_318
      · subst ek
        refine lv_tableIn (off := 281) (tgt := 323) hx hb dL_law_42 (by decide) (by decide) (by decide) (by decide) ?_
        refine lv_aload_n hx hb dL_law_323 rfl (lv_at hl 1 rfl) ?_
        have hPc := hP.sub (ws' := [(q0, .inr (0, [.int (nI N), .ref a1, .ref a2, .ref a3, .ref a4, .int (nI n), .int came])), (a1, .inl (cI, N, .inl fx)), (a2, .inl (cI, N, .inl fy)), (a3, .inl (cI, N, .inl rx)), (a4, .inl (cI, N, .inl ry))]) [0, 1, 2, 3, 4] rfl
        refine vp_callSi (va_Run.run (va_runV (As := []) (rest := []) ⟨hx, hb, hml, hown, hts⟩ (k_X0_points l dC dI cI q0 a1 a2 a3 a4 N n came fx fy rx ry hN hn) (cwV 0 hts gL_law_X0_points rfl rfl rfl (by decide +kernel) ⟨Nat.le_of_ble_eq_true rfl, Nat.le_of_ble_eq_true rfl⟩) (oh_pre (ci := 0) (q0 := 0) hK hPc rfl rfl) rfl rfl hl.1 rfl (lv_room (Nat.le_of_ble_eq_true rfl)) dL_law_324 ⟨Nat.le_of_ble_eq_true rfl, Nat.le_of_ble_eq_true rfl⟩)) (fun r_324 hr_324 => ?_)
        refine lv_aload_n hx hb dL_law_327 rfl (lv_at hl 2 rfl) ?_
        have hPc := hP.sub (ws' := [(q1, .inr (1, [.int (nI N), .int (nI n), .int came, .ref b1, .ref b2, .ref b3, .ref b4, .ref b5])), (b1, .inl (cI, 66, .inl xs9)), (b2, .inl (cI, 66, .inl ys9)), (b3, .inl (cI, 66, .inl px)), (b4, .inl (cI, 66, .inl py)), (b5, .inl (cI, 67, .inl rd))]) [5, 6, 7, 8, 9, 10] rfl
        refine vp_callSi (va_Run.run (va_runV (As := []) (rest := [.int r_324]) ⟨hx, hb, hml, hown, hts⟩ (k_X1_points l dC dI cI q1 b1 b2 b3 b4 b5 N n came xs9 ys9 px py rd hN hn) (cwV 0 hts gL_law_X1_points rfl rfl rfl (by decide +kernel) ⟨Nat.le_of_ble_eq_true rfl, Nat.le_of_ble_eq_true rfl⟩) (oh_pre (ci := 1) (q0 := 0) hK hPc rfl rfl) rfl rfl hl.1 rfl (lv_room (Nat.le_of_ble_eq_true rfl)) dL_law_328 ⟨Nat.le_of_ble_eq_true rfl, Nat.le_of_ble_eq_true rfl⟩)) (fun r_328 hr_328 => ?_)
        refine lv_icmp_eq (tgt := 336) hx hb dL_law_331 (by decide) (fun c_331 => ?_) (fun c_331 => ?_)
        · refine lv_iinc (v := nI (i + 4)) (lv' := [(3, .int (nI (i + 4))), (0, .ref b), (1, .ref q0), (2, .ref q1)]) hx hb dL_law_336 hl (k := 3) rfl (nI_add i 4) (by decide) rfl (fun ls hl => ?_)
          refine lv_goto (tgt := 28) hx hb dL_law_339 (by decide) ?_
          exact ih (i + 4) n came fx fy rx ry xs9 ys9 px py rd (by omega) (by omega) (by omega) hi9 _ _ hP hD hS ls (lv_sub hl [1, 2, 3, 0] rfl)
        · exact absurd (hr_324.trans hr_328.symm) c_331
      · refine lv_tableOut (tgt := 336) hx hb dL_law_42 (Or.inr (by rw [nI_toInt (by omega)]; omega)) (by decide) ?_
        refine lv_iinc (v := nI (i + 4)) (lv' := [(3, .int (nI (i + 4))), (0, .ref b), (1, .ref q0), (2, .ref q1)]) hx hb dL_law_336 hl (k := 3) rfl (nI_add i 4) (by decide) rfl (fun ls hl => ?_)
        refine lv_goto (tgt := 28) hx hb dL_law_339 (by decide) ?_
        exact ih (i + 4) n came fx fy rx ry xs9 ys9 px py rd (by omega) (by omega) (by omega) hi9 _ _ hP hD hS ls (lv_sub hl [1, 2, 3, 0] rfl)
