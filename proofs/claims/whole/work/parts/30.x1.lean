set_option maxHeartbeats 4000000 in
set_option maxRecDepth 100000 in
theorem k_X1_goRound (l : Launch) (dC : Nat → ClassId) (dI : Nat → Nat → Nat) (cI : ClassId) (h b1 b2 b3 b4 b5 N n : Nat) (pts : Int32) (xs ys px py rd : Nat → Int32) (sz : Nat) (c9 M9 : Nat) (ρ : Nat → Nat) (hc9 : c9 ≤ 65) (hRp : ∀ j, j < c9 → oh_inR (px j) (py j)) (hw : oh_ringW c9 (oh_pt px py) M9 ρ) : Met l yX1_goRound wsX1_goRound ({ frames := 2, cells := 0, slots := 0, locals := 64 }) (va_Pc [.ref h, .int (nI c9)] (fun U => U.heap.size = sz ∧ va_P (dC, dI) vwCl [(h, .inr (1, [.int (nI N), .int (nI n), .int pts, .ref b1, .ref b2, .ref b3, .ref b4, .ref b5])), (b1, .inl (cI, 66, .inl xs)), (b2, .inl (cI, 66, .inl ys)), (b3, .inl (cI, 66, .inl px)), (b4, .inl (cI, 66, .inl py)), (b5, .inl (cI, 67, .inl rd))] U.heap ∧ va_K (dC, dI) vwCl [(cI, .int)] U ∧ va_D (fun _ => True) [(h, .inr (1, [.int (nI N), .int (nI n), .int pts, .ref b1, .ref b2, .ref b3, .ref b4, .ref b5])), (b1, .inl (cI, 66, .inl xs)), (b2, .inl (cI, 66, .inl ys)), (b3, .inl (cI, 66, .inl px)), (b4, .inl (cI, 66, .inl py)), (b5, .inl (cI, 67, .inl rd))])) (va_Qi (S := (Nat → Int32) × (Nat → Int32) × (Nat → Int32) × (Nat → Int32) × (Nat → Int32) × Nat × Int32) (fun r u => r = nI M9 ∧ ∃ rd9, u = (xs, ys, px, py, rd9, n, pts) ∧ ∀ t, t < M9 → rd9 t = nI (ρ t)) (fun u t => va_P (dC, dI) vwCl [(h, .inr (1, [.int (nI N), .int (nI u.2.2.2.2.2.1), .int u.2.2.2.2.2.2, .ref b1, .ref b2, .ref b3, .ref b4, .ref b5])), (b1, .inl (cI, 66, .inl u.1)), (b2, .inl (cI, 66, .inl u.2.1)), (b3, .inl (cI, 66, .inl u.2.2.1)), (b4, .inl (cI, 66, .inl u.2.2.2.1)), (b5, .inl (cI, 67, .inl u.2.2.2.2.1))] t.heap ∧ va_K (dC, dI) vwCl [(cI, .int)] t ∧ va_D (va_A [(h, .inr (1, [.int (nI N), .int (nI n), .int pts, .ref b1, .ref b2, .ref b3, .ref b4, .ref b5])), (b1, .inl (cI, 66, .inl xs)), (b2, .inl (cI, 66, .inl ys)), (b3, .inl (cI, 66, .inl px)), (b4, .inl (cI, 66, .inl py)), (b5, .inl (cI, 67, .inl rd))] sz) [(h, .inr (1, [.int (nI N), .int (nI u.2.2.2.2.2.1), .int u.2.2.2.2.2.2, .ref b1, .ref b2, .ref b3, .ref b4, .ref b5])), (b1, .inl (cI, 66, .inl u.1)), (b2, .inl (cI, 66, .inl u.2.1)), (b3, .inl (cI, 66, .inl u.2.2.1)), (b4, .inl (cI, 66, .inl u.2.2.2.1)), (b5, .inl (cI, 67, .inl u.2.2.2.2.1))]) (va_A [(h, .inr (1, [.int (nI N), .int (nI n), .int pts, .ref b1, .ref b2, .ref b3, .ref b4, .ref b5])), (b1, .inl (cI, 66, .inl xs)), (b2, .inl (cI, 66, .inl ys)), (b3, .inl (cI, 66, .inl px)), (b4, .inl (cI, 66, .inl py)), (b5, .inl (cI, 67, .inl rd))] sz)) 0 0 (va_A [(h, .inr (1, [.int (nI N), .int (nI n), .int pts, .ref b1, .ref b2, .ref b3, .ref b4, .ref b5])), (b1, .inl (cI, 66, .inl xs)), (b2, .inl (cI, 66, .inl ys)), (b3, .inl (cI, 66, .inl px)), (b4, .inl (cI, 66, .inl py)), (b5, .inl (cI, 67, .inl rd))] sz) := by
  refine Met.ofW (cc := cX1_goRound) (maxL := 8) (ret := (some .int)) (by decide) rfl ?_
  intro p e s m args below meth c s₁ B hml hv
  obtain ⟨rfl, hsz, hP, hK, hD0⟩ := hv
  have hx := B.exec
  have hb := B.bytes
  have hr := B.returns
  have hts := atoms_spec (ws := wsX1_goRound) B.pre
  have hown : s.vm.findClass RX1 = some m.cls := findClass_of_methodNamed B.named
  have hlocks := B.notSynchronized
  have hin0 : ∀ w ∈ wsX10, w ∈ wsX1_goRound := fun w h => List.mem_cons_of_mem _ (List.mem_append_right _ h)
  subst hsz
  have hD := hD0.self (sz := s.heap.size)
  generalize hAe : va_A [(h, .inr (1, [.int (nI N), .int (nI n), .int pts, .ref b1, .ref b2, .ref b3, .ref b4, .ref b5])), (b1, .inl (cI, 66, .inl xs)), (b2, .inl (cI, 66, .inl ys)), (b3, .inl (cI, 66, .inl px)), (b4, .inl (cI, 66, .inl py)), (b5, .inl (cI, 67, .inl rd))] s.heap.size = A at hD ⊢
  have hA : ∀ q : Nat, s.heap.size ≤ q → A q := fun q h => by rw [← hAe]; exact Or.inr h
  have hS : va_S A s.heap s.heap [] := va_S.rf
  have hl := lv_entry ([.ref h, .int (nI c9)]) (n := 8) (Nat.le_of_ble_eq_true rfl)
  rw [lg_entry_eq]
  generalize (lg_sl ([.ref h, .int (nI c9)]) ++ List.replicate (8 - (lg_sl ([.ref h, .int (nI c9)])).length) Slot.unset).toArray = ls at hl ⊢
  have hl : lv_has ls 8 [(0, .ref h), (1, .int (nI c9))] := hl
  suffices hgo : ∀ (H : Heap) (locs : List Loc), va_P (dC, dI) vwCl [(h, .inr (1, [.int (nI N), .int (nI n), .int pts, .ref b1, .ref b2, .ref b3, .ref b4, .ref b5])), (b1, .inl (cI, 66, .inl xs)), (b2, .inl (cI, 66, .inl ys)), (b3, .inl (cI, 66, .inl px)), (b4, .inl (cI, 66, .inl py)), (b5, .inl (cI, 67, .inl rd))] H → va_D A [(h, .inr (1, [.int (nI N), .int (nI n), .int pts, .ref b1, .ref b2, .ref b3, .ref b4, .ref b5])), (b1, .inl (cI, 66, .inl xs)), (b2, .inl (cI, 66, .inl ys)), (b3, .inl (cI, 66, .inl px)), (b4, .inl (cI, 66, .inl py)), (b5, .inl (cI, 67, .inl rd))] → va_S A s.heap H locs → W p l e (headSpec wsX1_goRound ({ frames := 2, cells := 0, slots := 0, locals := 64 })).room s m ([.ref h, .int (nI c9)] : List Value).toArray below meth c H locs 0 0 (MQ below (va_Qi (S := (Nat → Int32) × (Nat → Int32) × (Nat → Int32) × (Nat → Int32) × (Nat → Int32) × Nat × Int32) (fun r u => r = nI M9 ∧ ∃ rd9, u = (xs, ys, px, py, rd9, n, pts) ∧ ∀ t, t < M9 → rd9 t = nI (ρ t)) (fun u t => va_P (dC, dI) vwCl [(h, .inr (1, [.int (nI N), .int (nI u.2.2.2.2.2.1), .int u.2.2.2.2.2.2, .ref b1, .ref b2, .ref b3, .ref b4, .ref b5])), (b1, .inl (cI, 66, .inl u.1)), (b2, .inl (cI, 66, .inl u.2.1)), (b3, .inl (cI, 66, .inl u.2.2.1)), (b4, .inl (cI, 66, .inl u.2.2.2.1)), (b5, .inl (cI, 67, .inl u.2.2.2.2.1))] t.heap ∧ va_K (dC, dI) vwCl [(cI, .int)] t ∧ va_D A [(h, .inr (1, [.int (nI N), .int (nI u.2.2.2.2.2.1), .int u.2.2.2.2.2.2, .ref b1, .ref b2, .ref b3, .ref b4, .ref b5])), (b1, .inl (cI, 66, .inl u.1)), (b2, .inl (cI, 66, .inl u.2.1)), (b3, .inl (cI, 66, .inl u.2.2.1)), (b4, .inl (cI, 66, .inl u.2.2.2.1)), (b5, .inl (cI, 67, .inl u.2.2.2.2.1))]) A) ([.ref h, .int (nI c9)] : List Value).toArray s 0 0 A) (F0 m 0 ls []) from hgo s.heap [] hP hD hS
  clear hP hD hS hD0
  intro H locs hP hD hS
  have hm1c := hw.1
  have hmc := hw.2.1
  refine lv_iconst (v := nI 0) hx hb dX1_goRound_0 (by decide) ?_
  refine lv_istore_n (lv' := [(2, .int (nI 0)), (0, .ref h), (1, .int (nI c9))]) hx hb dX1_goRound_1 rfl hl (by decide) rfl (fun ls hl => ?_)
  refine lv_iconst (v := nI 1) hx hb dX1_goRound_2 (by decide) ?_
  refine lv_istore_n (lv' := [(3, .int (nI 1)), (2, .int (nI 0)), (0, .ref h), (1, .int (nI c9))]) hx hb dX1_goRound_3 rfl hl (by decide) rfl (fun ls hl => ?_)
  have lf : ∀ (k_lf : Nat) (i : Nat) (b : Nat), (1 ≤ i) → (i ≤ c9) → (c9 + 1 ≤ i + k_lf) → (b < i) → (∀ j, j < i → ¬ oh_lx (oh_pt px py j) (oh_pt px py b)) → ∀ (H : Heap) (locs : List Loc), va_P (dC, dI) vwCl [(h, .inr (1, [.int (nI N), .int (nI n), .int pts, .ref b1, .ref b2, .ref b3, .ref b4, .ref b5])), (b1, .inl (cI, 66, .inl xs)), (b2, .inl (cI, 66, .inl ys)), (b3, .inl (cI, 66, .inl px)), (b4, .inl (cI, 66, .inl py)), (b5, .inl (cI, 67, .inl rd))] H → va_D A [(h, .inr (1, [.int (nI N), .int (nI n), .int pts, .ref b1, .ref b2, .ref b3, .ref b4, .ref b5])), (b1, .inl (cI, 66, .inl xs)), (b2, .inl (cI, 66, .inl ys)), (b3, .inl (cI, 66, .inl px)), (b4, .inl (cI, 66, .inl py)), (b5, .inl (cI, 67, .inl rd))] → va_S A s.heap H locs → ∀ (ls : Array Slot), lv_has ls 8 [(0, .ref h), (1, .int (nI c9)), (2, .int (nI b)), (3, .int (nI i))] → W p l e (headSpec wsX1_goRound ({ frames := 2, cells := 0, slots := 0, locals := 64 })).room s m ([.ref h, .int (nI c9)] : List Value).toArray below meth c H locs 0 0 (MQ below (va_Qi (S := (Nat → Int32) × (Nat → Int32) × (Nat → Int32) × (Nat → Int32) × (Nat → Int32) × Nat × Int32) (fun r u => r = nI M9 ∧ ∃ rd9, u = (xs, ys, px, py, rd9, n, pts) ∧ ∀ t, t < M9 → rd9 t = nI (ρ t)) (fun u t => va_P (dC, dI) vwCl [(h, .inr (1, [.int (nI N), .int (nI u.2.2.2.2.2.1), .int u.2.2.2.2.2.2, .ref b1, .ref b2, .ref b3, .ref b4, .ref b5])), (b1, .inl (cI, 66, .inl u.1)), (b2, .inl (cI, 66, .inl u.2.1)), (b3, .inl (cI, 66, .inl u.2.2.1)), (b4, .inl (cI, 66, .inl u.2.2.2.1)), (b5, .inl (cI, 67, .inl u.2.2.2.2.1))] t.heap ∧ va_K (dC, dI) vwCl [(cI, .int)] t ∧ va_D A [(h, .inr (1, [.int (nI N), .int (nI u.2.2.2.2.2.1), .int u.2.2.2.2.2.2, .ref b1, .ref b2, .ref b3, .ref b4, .ref b5])), (b1, .inl (cI, 66, .inl u.1)), (b2, .inl (cI, 66, .inl u.2.1)), (b3, .inl (cI, 66, .inl u.2.2.1)), (b4, .inl (cI, 66, .inl u.2.2.2.1)), (b5, .inl (cI, 67, .inl u.2.2.2.2.1))]) A) ([.ref h, .int (nI c9)] : List Value).toArray s 0 0 A) (F0 m 4 ls []) := by
    clear hP hD hS
    clear hl
    intro k_lf
    induction k_lf with
    | zero =>
      intro i b hi1 hi hk hb9 hI
      exfalso; omega
    | succ k_lf ih_lf =>
      intro i b hi1 hi hk hb9 hI H locs hP hD hS ls hl
      refine lv_iload_n hx hb dX1_goRound_4 rfl (lv_at hl 3 rfl) ?_
      refine lv_iload_n hx hb dX1_goRound_5 rfl (lv_at hl 1 rfl) ?_
      refine lv_icmp_ge (tgt := 66) hx hb dX1_goRound_6 (by decide) (fun c_6 => ?_) (fun c_6 => ?_)
      · have g_6 : c9 ≤ i := (nI_leI (a := c9) (b := i) (by omega) (by omega)).mp c_6
        have hb0 : b = ρ 0 := oh_first hw (by omega) (fun j hj => hI j (by omega))
        subst hb0
        refine lv_iconst (v := nI 0) hx hb dX1_goRound_66 (by decide) ?_
        refine lv_istore_n (lv' := [(3, .int (nI 0)), (0, .ref h), (1, .int (nI c9)), (2, .int (nI (ρ 0)))]) hx hb dX1_goRound_67 rfl hl (by decide) rfl (fun ls hl => ?_)
        refine lv_iload_n hx hb dX1_goRound_68 rfl (lv_at hl 3 rfl) ?_
        refine lv_istore (lv' := [(4, .int (nI (ρ 0))), (3, .int (nI 0)), (0, .ref h), (1, .int (nI c9)), (2, .int (nI (ρ 0)))]) hx hb dX1_goRound_69 hl (by decide) rfl (fun ls hl => ?_)
        refine lv_iconst (v := nI 1) hx hb dX1_goRound_71 (by decide) ?_
        refine lv_istore (lv' := [(5, .int (nI 1)), (4, .int (nI (ρ 0))), (3, .int (nI 0)), (0, .ref h), (1, .int (nI c9)), (2, .int (nI (ρ 0)))]) hx hb dX1_goRound_72 hl (by decide) rfl (fun ls hl => ?_)
        have lw : ∀ (k_lw : Nat) (i : Nat) (a9 : Nat) (mo : Nat) (rd9 : Nat → Int32), (i ≤ M9) → (M9 + 1 ≤ i + k_lw) → ((mo = 1 ∧ i < M9 ∧ a9 = ρ i) ∨ (mo = 0 ∧ i = M9)) → (∀ t, t < i → rd9 t = nI (ρ t)) → ∀ (H : Heap) (locs : List Loc), va_P (dC, dI) vwCl [(h, .inr (1, [.int (nI N), .int (nI n), .int pts, .ref b1, .ref b2, .ref b3, .ref b4, .ref b5])), (b1, .inl (cI, 66, .inl xs)), (b2, .inl (cI, 66, .inl ys)), (b3, .inl (cI, 66, .inl px)), (b4, .inl (cI, 66, .inl py)), (b5, .inl (cI, 67, .inl rd9))] H → va_D A [(h, .inr (1, [.int (nI N), .int (nI n), .int pts, .ref b1, .ref b2, .ref b3, .ref b4, .ref b5])), (b1, .inl (cI, 66, .inl xs)), (b2, .inl (cI, 66, .inl ys)), (b3, .inl (cI, 66, .inl px)), (b4, .inl (cI, 66, .inl py)), (b5, .inl (cI, 67, .inl rd9))] → va_S A s.heap H locs → ∀ (ls : Array Slot), lv_has ls 8 [(0, .ref h), (1, .int (nI c9)), (2, .int (nI (ρ 0))), (3, .int (nI i)), (4, .int (nI a9)), (5, .int (nI mo))] → W p l e (headSpec wsX1_goRound ({ frames := 2, cells := 0, slots := 0, locals := 64 })).room s m ([.ref h, .int (nI c9)] : List Value).toArray below meth c H locs 0 0 (MQ below (va_Qi (S := (Nat → Int32) × (Nat → Int32) × (Nat → Int32) × (Nat → Int32) × (Nat → Int32) × Nat × Int32) (fun r u => r = nI M9 ∧ ∃ rd9, u = (xs, ys, px, py, rd9, n, pts) ∧ ∀ t, t < M9 → rd9 t = nI (ρ t)) (fun u t => va_P (dC, dI) vwCl [(h, .inr (1, [.int (nI N), .int (nI u.2.2.2.2.2.1), .int u.2.2.2.2.2.2, .ref b1, .ref b2, .ref b3, .ref b4, .ref b5])), (b1, .inl (cI, 66, .inl u.1)), (b2, .inl (cI, 66, .inl u.2.1)), (b3, .inl (cI, 66, .inl u.2.2.1)), (b4, .inl (cI, 66, .inl u.2.2.2.1)), (b5, .inl (cI, 67, .inl u.2.2.2.2.1))] t.heap ∧ va_K (dC, dI) vwCl [(cI, .int)] t ∧ va_D A [(h, .inr (1, [.int (nI N), .int (nI u.2.2.2.2.2.1), .int u.2.2.2.2.2.2, .ref b1, .ref b2, .ref b3, .ref b4, .ref b5])), (b1, .inl (cI, 66, .inl u.1)), (b2, .inl (cI, 66, .inl u.2.1)), (b3, .inl (cI, 66, .inl u.2.2.1)), (b4, .inl (cI, 66, .inl u.2.2.2.1)), (b5, .inl (cI, 67, .inl u.2.2.2.2.1))]) A) ([.ref h, .int (nI c9)] : List Value).toArray s 0 0 A) (F0 m 74 ls []) := by
          clear hP hD hS
          clear hl
          intro k_lw
          induction k_lw with
          | zero =>
            intro i a9 mo rd9 hi hk hJ hT
            exfalso; omega
          | succ k_lw ih_lw =>
            intro i a9 mo rd9 hi hk hJ hT H locs hP hD hS ls hl
            refine lv_iload hx hb dX1_goRound_74 (lv_at hl 5 rfl) ?_
            refine lv_if_eq (tgt := 173) hx hb dX1_goRound_76 (by decide) (fun c_76 => ?_) (fun c_76 => ?_)
            · have g_76 : mo = 0 := (nI_eq (a := mo) (b := 0) (by omega) (by omega)).mp (c_76.trans nI_0.symm)
              refine lv_iload_n hx hb dX1_goRound_173 rfl (lv_at hl 3 rfl) ?_
              exact W.iret (v := nI i) hx hb hr (fun t ht hW => ⟨⟨_, (xs, ys, px, py, rd9, n, pts), rfl, ⟨congrArg nI (by omega), rd9, rfl, fun t ht => hT t (by omega)⟩, by rw [ht]; exact hP, va_K.moved hW.alike hK, hD⟩, hS.F ht⟩) hS.2.2 dX1_goRound_174
            · have g_76 : mo ≠ 0 := fun q => (fun q => c_76 (q.trans nI_0)) ((nI_eq (a := mo) (b := 0) (by omega) (by omega)).mpr q)
              have hm1 : i < M9 := by omega
              have ha : a9 = ρ i := by omega
              have hac := hw.2.2.1 i hm1
              have htc := hw.2.2.1 _ (oh_nx_lt hm1)
              have hnc := oh_nxc hw hm1
              have hnn := oh_nxne hw hm1
              refine lv_aload_n hx hb dX1_goRound_79 rfl (lv_at hl 0 rfl) ?_
              refine va_get (D := (dC, dI)) (ci := 1) (v := .ref b5) (C := RX1) (T := TX1) (N := 8) hx hb hts hin0 hown hK hP 0 rfl rfl 7 (by decide) (hts (.fieldLink RX1 22 "OnlineHullModel" "round" "[I") (by decide +kernel)) (fun _ h9 => h9) rfl dX1_goRound_80 ?_
              refine lv_iload_n hx hb dX1_goRound_83 rfl (lv_at hl 3 rfl) ?_
              refine lv_iload hx hb dX1_goRound_84 (lv_at hl 4 rfl) ?_
              refine oh_ast hx hb hK hP hD hS 5 0 rfl rfl (k := i) (by omega) (by omega) dX1_goRound_86 (fun H locs hP hD hS => ?_)
              have hP : va_P (dC, dI) vwCl [(h, .inr (1, [.int (nI N), .int (nI n), .int pts, .ref b1, .ref b2, .ref b3, .ref b4, .ref b5])), (b1, .inl (cI, 66, .inl xs)), (b2, .inl (cI, 66, .inl ys)), (b3, .inl (cI, 66, .inl px)), (b4, .inl (cI, 66, .inl py)), (b5, .inl (cI, 67, .inl (upd rd9 i (nI a9))))] H := hP
              have hD : va_D A [(h, .inr (1, [.int (nI N), .int (nI n), .int pts, .ref b1, .ref b2, .ref b3, .ref b4, .ref b5])), (b1, .inl (cI, 66, .inl xs)), (b2, .inl (cI, 66, .inl ys)), (b3, .inl (cI, 66, .inl px)), (b4, .inl (cI, 66, .inl py)), (b5, .inl (cI, 67, .inl (upd rd9 i (nI a9))))] := hD
              refine lv_iinc (v := nI (i + 1)) (lv' := [(3, .int (nI (i + 1))), (0, .ref h), (1, .int (nI c9)), (2, .int (nI (ρ 0))), (4, .int (nI a9)), (5, .int (nI mo))]) hx hb dX1_goRound_87 hl (k := 3) rfl (nI_1 i) (by decide) rfl (fun ls hl => ?_)
              refine lv_iload hx hb dX1_goRound_90 (lv_at hl 4 rfl) ?_
              refine lv_if_ne (tgt := 101) hx hb dX1_goRound_92 (by decide) (fun c_92 => ?_) (fun c_92 => ?_)
              · have g_92 : a9 ≠ 0 := fun q => (fun q => c_92 (q.trans nI_0)) ((nI_eq (a := a9) (b := 0) (by omega) (by omega)).mpr q)
                refine lv_iconst (v := nI 0) hx hb dX1_goRound_101 (by decide) ?_
                refine lv_istore (lv' := [(6, .int (nI 0)), (3, .int (nI (i + 1))), (0, .ref h), (1, .int (nI c9)), (2, .int (nI (ρ 0))), (4, .int (nI a9)), (5, .int (nI mo))]) hx hb dX1_goRound_102 hl (by decide) rfl (fun ls hl => ?_)
                refine lv_iconst (v := nI 0) hx hb dX1_goRound_104 (by decide) ?_
                refine lv_istore (lv' := [(7, .int (nI 0)), (6, .int (nI 0)), (3, .int (nI (i + 1))), (0, .ref h), (1, .int (nI c9)), (2, .int (nI (ρ 0))), (4, .int (nI a9)), (5, .int (nI mo))]) hx hb dX1_goRound_105 hl (by decide) rfl (fun ls hl => ?_)
                have lk : ∀ (k_lk : Nat) (k : Nat) (v : Nat), (k ≤ c9) → (c9 + 1 ≤ k + k_lk) → (v < c9) → (v = ρ (oh_nx M9 i) ∨ (k ≤ ρ (oh_nx M9 i) ∧ v ≠ a9 ∧ ρ (oh_nx M9 i) ≠ a9)) → ∀ (H : Heap) (locs : List Loc), va_P (dC, dI) vwCl [(h, .inr (1, [.int (nI N), .int (nI n), .int pts, .ref b1, .ref b2, .ref b3, .ref b4, .ref b5])), (b1, .inl (cI, 66, .inl xs)), (b2, .inl (cI, 66, .inl ys)), (b3, .inl (cI, 66, .inl px)), (b4, .inl (cI, 66, .inl py)), (b5, .inl (cI, 67, .inl (upd rd9 i (nI a9))))] H → va_D A [(h, .inr (1, [.int (nI N), .int (nI n), .int pts, .ref b1, .ref b2, .ref b3, .ref b4, .ref b5])), (b1, .inl (cI, 66, .inl xs)), (b2, .inl (cI, 66, .inl ys)), (b3, .inl (cI, 66, .inl px)), (b4, .inl (cI, 66, .inl py)), (b5, .inl (cI, 67, .inl (upd rd9 i (nI a9))))] → va_S A s.heap H locs → ∀ (ls : Array Slot), lv_has ls 8 [(0, .ref h), (1, .int (nI c9)), (2, .int (nI (ρ 0))), (3, .int (nI (i + 1))), (4, .int (nI a9)), (5, .int (nI mo)), (6, .int (nI v)), (7, .int (nI k))] → W p l e (headSpec wsX1_goRound ({ frames := 2, cells := 0, slots := 0, locals := 64 })).room s m ([.ref h, .int (nI c9)] : List Value).toArray below meth c H locs 0 0 (MQ below (va_Qi (S := (Nat → Int32) × (Nat → Int32) × (Nat → Int32) × (Nat → Int32) × (Nat → Int32) × Nat × Int32) (fun r u => r = nI M9 ∧ ∃ rd9, u = (xs, ys, px, py, rd9, n, pts) ∧ ∀ t, t < M9 → rd9 t = nI (ρ t)) (fun u t => va_P (dC, dI) vwCl [(h, .inr (1, [.int (nI N), .int (nI u.2.2.2.2.2.1), .int u.2.2.2.2.2.2, .ref b1, .ref b2, .ref b3, .ref b4, .ref b5])), (b1, .inl (cI, 66, .inl u.1)), (b2, .inl (cI, 66, .inl u.2.1)), (b3, .inl (cI, 66, .inl u.2.2.1)), (b4, .inl (cI, 66, .inl u.2.2.2.1)), (b5, .inl (cI, 67, .inl u.2.2.2.2.1))] t.heap ∧ va_K (dC, dI) vwCl [(cI, .int)] t ∧ va_D A [(h, .inr (1, [.int (nI N), .int (nI u.2.2.2.2.2.1), .int u.2.2.2.2.2.2, .ref b1, .ref b2, .ref b3, .ref b4, .ref b5])), (b1, .inl (cI, 66, .inl u.1)), (b2, .inl (cI, 66, .inl u.2.1)), (b3, .inl (cI, 66, .inl u.2.2.1)), (b4, .inl (cI, 66, .inl u.2.2.2.1)), (b5, .inl (cI, 67, .inl u.2.2.2.2.1))]) A) ([.ref h, .int (nI c9)] : List Value).toArray s 0 0 A) (F0 m 107 ls []) := by
                  clear hP hD hS
                  clear hl
                  intro k_lk
                  induction k_lk with
                  | zero =>
                    intro k v hk9 hk8 hv hV
                    exfalso; omega
                  | succ k_lk ih_lk =>
                    intro k v hk9 hk8 hv hV H locs hP hD hS ls hl
                    refine lv_iload hx hb dX1_goRound_107 (lv_at hl 7 rfl) ?_
                    refine lv_iload_n hx hb dX1_goRound_109 rfl (lv_at hl 1 rfl) ?_
                    refine lv_icmp_ge (tgt := 148) hx hb dX1_goRound_110 (by decide) (fun c_110 => ?_) (fun c_110 => ?_)
                    · have g_110 : c9 ≤ k := (nI_leI (a := c9) (b := k) (by omega) (by omega)).mp c_110
                      have ht9 : v = ρ (oh_nx M9 i) := by omega
                      refine lv_iload hx hb dX1_goRound_148 (lv_at hl 6 rfl) ?_
                      refine lv_istore (lv' := [(4, .int (nI v)), (0, .ref h), (1, .int (nI c9)), (2, .int (nI (ρ 0))), (3, .int (nI (i + 1))), (5, .int (nI mo)), (6, .int (nI v)), (7, .int (nI k))]) hx hb dX1_goRound_150 hl (by decide) rfl (fun ls hl => ?_)
                      refine lv_iload hx hb dX1_goRound_152 (lv_at hl 0 rfl) ?_
                      refine lv_iload_n hx hb dX1_goRound_154 rfl (lv_at hl 3 rfl) ?_
                      refine lv_icmp_eq (tgt := 167) hx hb dX1_goRound_155 (by decide) (fun c_155 => ?_) (fun c_155 => ?_)
                      · have g_155 : v = (ρ 0) := (nI_eq (a := v) (b := (ρ 0)) (by omega) (by omega)).mp c_155
                        refine lv_iconst (v := nI 0) hx hb dX1_goRound_167 (by decide) ?_
                        refine lv_istore (lv' := [(5, .int (nI 0)), (4, .int (nI v)), (0, .ref h), (1, .int (nI c9)), (2, .int (nI (ρ 0))), (3, .int (nI (i + 1))), (6, .int (nI v)), (7, .int (nI k))]) hx hb dX1_goRound_168 hl (by decide) rfl (fun ls hl => ?_)
                        refine lv_goto (tgt := 74) hx hb dX1_goRound_170 (by decide) ?_
                        exact ih_lw (i + 1) v 0 (upd rd9 i (nI a9)) (by omega) (by omega) (by rcases hnc with ⟨q1, q2, q3⟩ | ⟨q1, q2⟩ <;> rw [q2] at ht9 <;> omega) (oh_rdU hT ha) _ _ hP hD hS ls (lv_sub hl [2, 3, 4, 5, 1, 0] rfl)
                      · have g_155 : v ≠ (ρ 0) := fun q => c_155 ((nI_eq (a := v) (b := (ρ 0)) (by omega) (by omega)).mpr q)
                        refine lv_iload_n hx hb dX1_goRound_158 rfl (lv_at hl 4 rfl) ?_
                        refine lv_iload_n hx hb dX1_goRound_159 rfl (lv_at hl 2 rfl) ?_
                        refine lv_icmp_gt (tgt := 167) hx hb dX1_goRound_160 (by decide) (fun c_160 => ?_) (fun c_160 => ?_)
                        · have g_160 : c9 < (i + 1) := (nI_ltI (a := c9) (b := (i + 1)) (by omega) (by omega)).mp c_160
                          refine lv_iconst (v := nI 0) hx hb dX1_goRound_167 (by decide) ?_
                          refine lv_istore (lv' := [(5, .int (nI 0)), (4, .int (nI v)), (0, .ref h), (1, .int (nI c9)), (2, .int (nI (ρ 0))), (3, .int (nI (i + 1))), (6, .int (nI v)), (7, .int (nI k))]) hx hb dX1_goRound_168 hl (by decide) rfl (fun ls hl => ?_)
                          refine lv_goto (tgt := 74) hx hb dX1_goRound_170 (by decide) ?_
                          exact ih_lw (i + 1) v 0 (upd rd9 i (nI a9)) (by omega) (by omega) (by rcases hnc with ⟨q1, q2, q3⟩ | ⟨q1, q2⟩ <;> rw [q2] at ht9 <;> omega) (oh_rdU hT ha) _ _ hP hD hS ls (lv_sub hl [2, 3, 4, 5, 1, 0] rfl)
                        · have g_160 : ¬ c9 < (i + 1) := fun q => c_160 ((nI_ltI (a := c9) (b := (i + 1)) (by omega) (by omega)).mpr q)
                          refine lv_iconst (v := nI 1) hx hb dX1_goRound_163 (by decide) ?_
                          refine lv_goto (tgt := 168) hx hb dX1_goRound_164 (by decide) ?_
                          refine lv_istore (lv' := [(5, .int (nI 1)), (4, .int (nI v)), (0, .ref h), (1, .int (nI c9)), (2, .int (nI (ρ 0))), (3, .int (nI (i + 1))), (6, .int (nI v)), (7, .int (nI k))]) hx hb dX1_goRound_168 hl (by decide) rfl (fun ls hl => ?_)
                          refine lv_goto (tgt := 74) hx hb dX1_goRound_170 (by decide) ?_
                          exact ih_lw (i + 1) v 1 (upd rd9 i (nI a9)) (by omega) (by omega) (by rcases hnc with ⟨q1, q2, q3⟩ | ⟨q1, q2⟩ <;> rw [q2] at ht9 <;> omega) (oh_rdU hT ha) _ _ hP hD hS ls (lv_sub hl [2, 3, 4, 5, 1, 0] rfl)
                    · have g_110 : ¬ c9 ≤ k := fun q => c_110 ((nI_leI (a := c9) (b := k) (by omega) (by omega)).mpr q)
                      refine lv_iload hx hb dX1_goRound_113 (lv_at hl 7 rfl) ?_
                      refine lv_iload hx hb dX1_goRound_115 (lv_at hl 4 rfl) ?_
                      refine lv_icmp_eq (tgt := 138) hx hb dX1_goRound_117 (by decide) (fun c_117 => ?_) (fun c_117 => ?_)
                      · have g_117 : k = a9 := (nI_eq (a := k) (b := a9) (by omega) (by omega)).mp c_117
                        refine lv_iload hx hb dX1_goRound_138 (lv_at hl 6 rfl) ?_
                        refine lv_istore (lv' := [(6, .int (nI v)), (0, .ref h), (1, .int (nI c9)), (2, .int (nI (ρ 0))), (3, .int (nI (i + 1))), (4, .int (nI a9)), (5, .int (nI mo)), (7, .int (nI k))]) hx hb dX1_goRound_140 hl (by decide) rfl (fun ls hl => ?_)
                        refine lv_iinc (v := nI (k + 1)) (lv' := [(7, .int (nI (k + 1))), (6, .int (nI v)), (0, .ref h), (1, .int (nI c9)), (2, .int (nI (ρ 0))), (3, .int (nI (i + 1))), (4, .int (nI a9)), (5, .int (nI mo))]) hx hb dX1_goRound_142 hl (k := 7) rfl (nI_1 k) (by decide) rfl (fun ls hl => ?_)
                        refine lv_goto (tgt := 107) hx hb dX1_goRound_145 (by decide) ?_
                        exact ih_lk (k + 1) v (by omega) (by omega) (by omega) (by first | omega | (by_cases e0 : v = ρ (oh_nx M9 i); exact Or.inl e0; rcases hV with e | ⟨e1, e2, e3⟩; exact absurd e e0; by_cases e : k = ρ (oh_nx M9 i); exact absurd (by rw [e, ha]; exact oh_nx2 hw hm1 hv (by omega) e0) b_127; exact Or.inr ⟨by omega, e2, e3⟩)) _ _ hP hD hS ls (lv_sub hl [2, 3, 4, 5, 6, 7, 1, 0] rfl)
                      · have g_117 : k ≠ a9 := fun q => c_117 ((nI_eq (a := k) (b := a9) (by omega) (by omega)).mpr q)
                        refine lv_aload_n hx hb dX1_goRound_120 rfl (lv_at hl 0 rfl) ?_
                        refine lv_iload hx hb dX1_goRound_121 (lv_at hl 4 rfl) ?_
                        refine lv_iload hx hb dX1_goRound_123 (lv_at hl 6 rfl) ?_
                        refine lv_iload hx hb dX1_goRound_125 (lv_at hl 7 rfl) ?_
                        refine vp_callSi (va_Run.run (va_runV (As := [.int (nI a9), .int (nI v), .int (nI k)]) (rest := []) ⟨hx, hb, hml, hown, hts⟩ (k_X1_isNext l dC dI cI h b1 b2 b3 b4 b5 N n pts xs ys px py (upd rd9 i (nI a9)) c9 a9 v k (by omega) (by omega) hv (by omega) hRp) (cwV 3 hts gX1_goRound_X1_isNext rfl rfl rfl (by decide +kernel) ⟨Nat.le_of_ble_eq_true rfl, Nat.le_of_ble_eq_true rfl⟩) (oh_pre (ci := 1) (q0 := 0) hK hP rfl rfl) rfl rfl hl.1 rfl (lv_room (Nat.le_of_ble_eq_true rfl)) dX1_goRound_127 ⟨Nat.zero_le _, Nat.zero_le _⟩)) (fun r_127 hr_127 => ?_)
                        rcases hr_127 with ⟨b_127, hr_127⟩ | ⟨b_127, hr_127⟩ <;> subst hr_127
                        · refine lv_if_eq (tgt := 138) hx hb dX1_goRound_130 (by decide) (fun q => absurd q (by decide)) (fun _ => ?_)
                          refine lv_iload hx hb dX1_goRound_133 (lv_at hl 7 rfl) ?_
                          refine lv_goto (tgt := 140) hx hb dX1_goRound_135 (by decide) ?_
                          refine lv_istore (lv' := [(6, .int (nI k)), (0, .ref h), (1, .int (nI c9)), (2, .int (nI (ρ 0))), (3, .int (nI (i + 1))), (4, .int (nI a9)), (5, .int (nI mo)), (7, .int (nI k))]) hx hb dX1_goRound_140 hl (by decide) rfl (fun ls hl => ?_)
                          refine lv_iinc (v := nI (k + 1)) (lv' := [(7, .int (nI (k + 1))), (6, .int (nI k)), (0, .ref h), (1, .int (nI c9)), (2, .int (nI (ρ 0))), (3, .int (nI (i + 1))), (4, .int (nI a9)), (5, .int (nI mo))]) hx hb dX1_goRound_142 hl (k := 7) rfl (nI_1 k) (by decide) rfl (fun ls hl => ?_)
                          refine lv_goto (tgt := 107) hx hb dX1_goRound_145 (by decide) ?_
                          exact ih_lk (k + 1) k (by omega) (by omega) (by omega) (by rcases hV with e | ⟨e1, e2, e3⟩; exact absurd (by rw [ha, e] at b_127; exact b_127) (oh_nx1 hw hm1 (by omega) (by omega)); omega) _ _ hP hD hS ls (lv_sub hl [2, 3, 4, 5, 6, 7, 1, 0] rfl)
                        · refine lv_if_eq (tgt := 138) hx hb dX1_goRound_130 (by decide) (fun _ => ?_) (fun q => absurd q (by decide))
                          refine lv_iload hx hb dX1_goRound_138 (lv_at hl 6 rfl) ?_
                          refine lv_istore (lv' := [(6, .int (nI v)), (0, .ref h), (1, .int (nI c9)), (2, .int (nI (ρ 0))), (3, .int (nI (i + 1))), (4, .int (nI a9)), (5, .int (nI mo)), (7, .int (nI k))]) hx hb dX1_goRound_140 hl (by decide) rfl (fun ls hl => ?_)
                          refine lv_iinc (v := nI (k + 1)) (lv' := [(7, .int (nI (k + 1))), (6, .int (nI v)), (0, .ref h), (1, .int (nI c9)), (2, .int (nI (ρ 0))), (3, .int (nI (i + 1))), (4, .int (nI a9)), (5, .int (nI mo))]) hx hb dX1_goRound_142 hl (k := 7) rfl (nI_1 k) (by decide) rfl (fun ls hl => ?_)
                          refine lv_goto (tgt := 107) hx hb dX1_goRound_145 (by decide) ?_
                          exact ih_lk (k + 1) v (by omega) (by omega) (by omega) (by first | omega | (by_cases e0 : v = ρ (oh_nx M9 i); exact Or.inl e0; rcases hV with e | ⟨e1, e2, e3⟩; exact absurd e e0; by_cases e : k = ρ (oh_nx M9 i); exact absurd (by rw [e, ha]; exact oh_nx2 hw hm1 hv (by omega) e0) b_127; exact Or.inr ⟨by omega, e2, e3⟩)) _ _ hP hD hS ls (lv_sub hl [2, 3, 4, 5, 6, 7, 1, 0] rfl)
                exact lk (c9 + 1) 0 0 (by omega) (by omega) (by omega) (by omega) _ _ hP hD hS ls (lv_sub hl [3, 4, 5, 2, 6, 7, 1, 0] rfl)
              · have g_92 : a9 = 0 := (nI_eq (a := a9) (b := 0) (by omega) (by omega)).mp (c_92.trans nI_0.symm)
                refine lv_iload_n hx hb dX1_goRound_95 rfl (lv_at hl 2 rfl) ?_
                refine lv_iconst (v := nI 1) hx hb dX1_goRound_96 (by decide) ?_
                refine lv_isub hx hb dX1_goRound_97 ?_
                rw [pk_sub (a := c9) (b := 1) (by omega)]
                refine lv_goto (tgt := 102) hx hb dX1_goRound_98 (by decide) ?_
                refine lv_istore (lv' := [(6, .int (nI (c9 - 1))), (3, .int (nI (i + 1))), (0, .ref h), (1, .int (nI c9)), (2, .int (nI (ρ 0))), (4, .int (nI a9)), (5, .int (nI mo))]) hx hb dX1_goRound_102 hl (by decide) rfl (fun ls hl => ?_)
                refine lv_iconst (v := nI 0) hx hb dX1_goRound_104 (by decide) ?_
                refine lv_istore (lv' := [(7, .int (nI 0)), (6, .int (nI (c9 - 1))), (3, .int (nI (i + 1))), (0, .ref h), (1, .int (nI c9)), (2, .int (nI (ρ 0))), (4, .int (nI a9)), (5, .int (nI mo))]) hx hb dX1_goRound_105 hl (by decide) rfl (fun ls hl => ?_)
                have lk : ∀ (k_lk : Nat) (k : Nat) (v : Nat), (k ≤ c9) → (c9 + 1 ≤ k + k_lk) → (v < c9) → (v = ρ (oh_nx M9 i) ∨ (k ≤ ρ (oh_nx M9 i) ∧ v ≠ a9 ∧ ρ (oh_nx M9 i) ≠ a9)) → ∀ (H : Heap) (locs : List Loc), va_P (dC, dI) vwCl [(h, .inr (1, [.int (nI N), .int (nI n), .int pts, .ref b1, .ref b2, .ref b3, .ref b4, .ref b5])), (b1, .inl (cI, 66, .inl xs)), (b2, .inl (cI, 66, .inl ys)), (b3, .inl (cI, 66, .inl px)), (b4, .inl (cI, 66, .inl py)), (b5, .inl (cI, 67, .inl (upd rd9 i (nI a9))))] H → va_D A [(h, .inr (1, [.int (nI N), .int (nI n), .int pts, .ref b1, .ref b2, .ref b3, .ref b4, .ref b5])), (b1, .inl (cI, 66, .inl xs)), (b2, .inl (cI, 66, .inl ys)), (b3, .inl (cI, 66, .inl px)), (b4, .inl (cI, 66, .inl py)), (b5, .inl (cI, 67, .inl (upd rd9 i (nI a9))))] → va_S A s.heap H locs → ∀ (ls : Array Slot), lv_has ls 8 [(0, .ref h), (1, .int (nI c9)), (2, .int (nI (ρ 0))), (3, .int (nI (i + 1))), (4, .int (nI a9)), (5, .int (nI mo)), (6, .int (nI v)), (7, .int (nI k))] → W p l e (headSpec wsX1_goRound ({ frames := 2, cells := 0, slots := 0, locals := 64 })).room s m ([.ref h, .int (nI c9)] : List Value).toArray below meth c H locs 0 0 (MQ below (va_Qi (S := (Nat → Int32) × (Nat → Int32) × (Nat → Int32) × (Nat → Int32) × (Nat → Int32) × Nat × Int32) (fun r u => r = nI M9 ∧ ∃ rd9, u = (xs, ys, px, py, rd9, n, pts) ∧ ∀ t, t < M9 → rd9 t = nI (ρ t)) (fun u t => va_P (dC, dI) vwCl [(h, .inr (1, [.int (nI N), .int (nI u.2.2.2.2.2.1), .int u.2.2.2.2.2.2, .ref b1, .ref b2, .ref b3, .ref b4, .ref b5])), (b1, .inl (cI, 66, .inl u.1)), (b2, .inl (cI, 66, .inl u.2.1)), (b3, .inl (cI, 66, .inl u.2.2.1)), (b4, .inl (cI, 66, .inl u.2.2.2.1)), (b5, .inl (cI, 67, .inl u.2.2.2.2.1))] t.heap ∧ va_K (dC, dI) vwCl [(cI, .int)] t ∧ va_D A [(h, .inr (1, [.int (nI N), .int (nI u.2.2.2.2.2.1), .int u.2.2.2.2.2.2, .ref b1, .ref b2, .ref b3, .ref b4, .ref b5])), (b1, .inl (cI, 66, .inl u.1)), (b2, .inl (cI, 66, .inl u.2.1)), (b3, .inl (cI, 66, .inl u.2.2.1)), (b4, .inl (cI, 66, .inl u.2.2.2.1)), (b5, .inl (cI, 67, .inl u.2.2.2.2.1))]) A) ([.ref h, .int (nI c9)] : List Value).toArray s 0 0 A) (F0 m 107 ls []) := by
                  clear hP hD hS
                  clear hl
                  intro k_lk
                  induction k_lk with
                  | zero =>
                    intro k v hk9 hk8 hv hV
                    exfalso; omega
                  | succ k_lk ih_lk =>
                    intro k v hk9 hk8 hv hV H locs hP hD hS ls hl
                    refine lv_iload hx hb dX1_goRound_107 (lv_at hl 7 rfl) ?_
                    refine lv_iload_n hx hb dX1_goRound_109 rfl (lv_at hl 1 rfl) ?_
                    refine lv_icmp_ge (tgt := 148) hx hb dX1_goRound_110 (by decide) (fun c_110 => ?_) (fun c_110 => ?_)
                    · have g_110 : c9 ≤ k := (nI_leI (a := c9) (b := k) (by omega) (by omega)).mp c_110
                      have ht9 : v = ρ (oh_nx M9 i) := by omega
                      refine lv_iload hx hb dX1_goRound_148 (lv_at hl 6 rfl) ?_
                      refine lv_istore (lv' := [(4, .int (nI v)), (0, .ref h), (1, .int (nI c9)), (2, .int (nI (ρ 0))), (3, .int (nI (i + 1))), (5, .int (nI mo)), (6, .int (nI v)), (7, .int (nI k))]) hx hb dX1_goRound_150 hl (by decide) rfl (fun ls hl => ?_)
                      refine lv_iload hx hb dX1_goRound_152 (lv_at hl 0 rfl) ?_
                      refine lv_iload_n hx hb dX1_goRound_154 rfl (lv_at hl 3 rfl) ?_
                      refine lv_icmp_eq (tgt := 167) hx hb dX1_goRound_155 (by decide) (fun c_155 => ?_) (fun c_155 => ?_)
                      · have g_155 : v = (ρ 0) := (nI_eq (a := v) (b := (ρ 0)) (by omega) (by omega)).mp c_155
                        refine lv_iconst (v := nI 0) hx hb dX1_goRound_167 (by decide) ?_
                        refine lv_istore (lv' := [(5, .int (nI 0)), (4, .int (nI v)), (0, .ref h), (1, .int (nI c9)), (2, .int (nI (ρ 0))), (3, .int (nI (i + 1))), (6, .int (nI v)), (7, .int (nI k))]) hx hb dX1_goRound_168 hl (by decide) rfl (fun ls hl => ?_)
                        refine lv_goto (tgt := 74) hx hb dX1_goRound_170 (by decide) ?_
                        exact ih_lw (i + 1) v 0 (upd rd9 i (nI a9)) (by omega) (by omega) (by rcases hnc with ⟨q1, q2, q3⟩ | ⟨q1, q2⟩ <;> rw [q2] at ht9 <;> omega) (oh_rdU hT ha) _ _ hP hD hS ls (lv_sub hl [2, 3, 4, 5, 1, 0] rfl)
                      · have g_155 : v ≠ (ρ 0) := fun q => c_155 ((nI_eq (a := v) (b := (ρ 0)) (by omega) (by omega)).mpr q)
                        refine lv_iload_n hx hb dX1_goRound_158 rfl (lv_at hl 4 rfl) ?_
                        refine lv_iload_n hx hb dX1_goRound_159 rfl (lv_at hl 2 rfl) ?_
                        refine lv_icmp_gt (tgt := 167) hx hb dX1_goRound_160 (by decide) (fun c_160 => ?_) (fun c_160 => ?_)
                        · have g_160 : c9 < (i + 1) := (nI_ltI (a := c9) (b := (i + 1)) (by omega) (by omega)).mp c_160
                          refine lv_iconst (v := nI 0) hx hb dX1_goRound_167 (by decide) ?_
                          refine lv_istore (lv' := [(5, .int (nI 0)), (4, .int (nI v)), (0, .ref h), (1, .int (nI c9)), (2, .int (nI (ρ 0))), (3, .int (nI (i + 1))), (6, .int (nI v)), (7, .int (nI k))]) hx hb dX1_goRound_168 hl (by decide) rfl (fun ls hl => ?_)
                          refine lv_goto (tgt := 74) hx hb dX1_goRound_170 (by decide) ?_
                          exact ih_lw (i + 1) v 0 (upd rd9 i (nI a9)) (by omega) (by omega) (by rcases hnc with ⟨q1, q2, q3⟩ | ⟨q1, q2⟩ <;> rw [q2] at ht9 <;> omega) (oh_rdU hT ha) _ _ hP hD hS ls (lv_sub hl [2, 3, 4, 5, 1, 0] rfl)
                        · have g_160 : ¬ c9 < (i + 1) := fun q => c_160 ((nI_ltI (a := c9) (b := (i + 1)) (by omega) (by omega)).mpr q)
                          refine lv_iconst (v := nI 1) hx hb dX1_goRound_163 (by decide) ?_
                          refine lv_goto (tgt := 168) hx hb dX1_goRound_164 (by decide) ?_
                          refine lv_istore (lv' := [(5, .int (nI 1)), (4, .int (nI v)), (0, .ref h), (1, .int (nI c9)), (2, .int (nI (ρ 0))), (3, .int (nI (i + 1))), (6, .int (nI v)), (7, .int (nI k))]) hx hb dX1_goRound_168 hl (by decide) rfl (fun ls hl => ?_)
                          refine lv_goto (tgt := 74) hx hb dX1_goRound_170 (by decide) ?_
                          exact ih_lw (i + 1) v 1 (upd rd9 i (nI a9)) (by omega) (by omega) (by rcases hnc with ⟨q1, q2, q3⟩ | ⟨q1, q2⟩ <;> rw [q2] at ht9 <;> omega) (oh_rdU hT ha) _ _ hP hD hS ls (lv_sub hl [2, 3, 4, 5, 1, 0] rfl)
                    · have g_110 : ¬ c9 ≤ k := fun q => c_110 ((nI_leI (a := c9) (b := k) (by omega) (by omega)).mpr q)
                      refine lv_iload hx hb dX1_goRound_113 (lv_at hl 7 rfl) ?_
                      refine lv_iload hx hb dX1_goRound_115 (lv_at hl 4 rfl) ?_
                      refine lv_icmp_eq (tgt := 138) hx hb dX1_goRound_117 (by decide) (fun c_117 => ?_) (fun c_117 => ?_)
                      · have g_117 : k = a9 := (nI_eq (a := k) (b := a9) (by omega) (by omega)).mp c_117
                        refine lv_iload hx hb dX1_goRound_138 (lv_at hl 6 rfl) ?_
                        refine lv_istore (lv' := [(6, .int (nI v)), (0, .ref h), (1, .int (nI c9)), (2, .int (nI (ρ 0))), (3, .int (nI (i + 1))), (4, .int (nI a9)), (5, .int (nI mo)), (7, .int (nI k))]) hx hb dX1_goRound_140 hl (by decide) rfl (fun ls hl => ?_)
                        refine lv_iinc (v := nI (k + 1)) (lv' := [(7, .int (nI (k + 1))), (6, .int (nI v)), (0, .ref h), (1, .int (nI c9)), (2, .int (nI (ρ 0))), (3, .int (nI (i + 1))), (4, .int (nI a9)), (5, .int (nI mo))]) hx hb dX1_goRound_142 hl (k := 7) rfl (nI_1 k) (by decide) rfl (fun ls hl => ?_)
                        refine lv_goto (tgt := 107) hx hb dX1_goRound_145 (by decide) ?_
                        exact ih_lk (k + 1) v (by omega) (by omega) (by omega) (by first | omega | (by_cases e0 : v = ρ (oh_nx M9 i); exact Or.inl e0; rcases hV with e | ⟨e1, e2, e3⟩; exact absurd e e0; by_cases e : k = ρ (oh_nx M9 i); exact absurd (by rw [e, ha]; exact oh_nx2 hw hm1 hv (by omega) e0) b_127; exact Or.inr ⟨by omega, e2, e3⟩)) _ _ hP hD hS ls (lv_sub hl [2, 3, 4, 5, 6, 7, 1, 0] rfl)
                      · have g_117 : k ≠ a9 := fun q => c_117 ((nI_eq (a := k) (b := a9) (by omega) (by omega)).mpr q)
                        refine lv_aload_n hx hb dX1_goRound_120 rfl (lv_at hl 0 rfl) ?_
                        refine lv_iload hx hb dX1_goRound_121 (lv_at hl 4 rfl) ?_
                        refine lv_iload hx hb dX1_goRound_123 (lv_at hl 6 rfl) ?_
                        refine lv_iload hx hb dX1_goRound_125 (lv_at hl 7 rfl) ?_
                        refine vp_callSi (va_Run.run (va_runV (As := [.int (nI a9), .int (nI v), .int (nI k)]) (rest := []) ⟨hx, hb, hml, hown, hts⟩ (k_X1_isNext l dC dI cI h b1 b2 b3 b4 b5 N n pts xs ys px py (upd rd9 i (nI a9)) c9 a9 v k (by omega) (by omega) hv (by omega) hRp) (cwV 3 hts gX1_goRound_X1_isNext rfl rfl rfl (by decide +kernel) ⟨Nat.le_of_ble_eq_true rfl, Nat.le_of_ble_eq_true rfl⟩) (oh_pre (ci := 1) (q0 := 0) hK hP rfl rfl) rfl rfl hl.1 rfl (lv_room (Nat.le_of_ble_eq_true rfl)) dX1_goRound_127 ⟨Nat.zero_le _, Nat.zero_le _⟩)) (fun r_127 hr_127 => ?_)
                        rcases hr_127 with ⟨b_127, hr_127⟩ | ⟨b_127, hr_127⟩ <;> subst hr_127
                        · refine lv_if_eq (tgt := 138) hx hb dX1_goRound_130 (by decide) (fun q => absurd q (by decide)) (fun _ => ?_)
                          refine lv_iload hx hb dX1_goRound_133 (lv_at hl 7 rfl) ?_
                          refine lv_goto (tgt := 140) hx hb dX1_goRound_135 (by decide) ?_
                          refine lv_istore (lv' := [(6, .int (nI k)), (0, .ref h), (1, .int (nI c9)), (2, .int (nI (ρ 0))), (3, .int (nI (i + 1))), (4, .int (nI a9)), (5, .int (nI mo)), (7, .int (nI k))]) hx hb dX1_goRound_140 hl (by decide) rfl (fun ls hl => ?_)
                          refine lv_iinc (v := nI (k + 1)) (lv' := [(7, .int (nI (k + 1))), (6, .int (nI k)), (0, .ref h), (1, .int (nI c9)), (2, .int (nI (ρ 0))), (3, .int (nI (i + 1))), (4, .int (nI a9)), (5, .int (nI mo))]) hx hb dX1_goRound_142 hl (k := 7) rfl (nI_1 k) (by decide) rfl (fun ls hl => ?_)
                          refine lv_goto (tgt := 107) hx hb dX1_goRound_145 (by decide) ?_
                          exact ih_lk (k + 1) k (by omega) (by omega) (by omega) (by rcases hV with e | ⟨e1, e2, e3⟩; exact absurd (by rw [ha, e] at b_127; exact b_127) (oh_nx1 hw hm1 (by omega) (by omega)); omega) _ _ hP hD hS ls (lv_sub hl [2, 3, 4, 5, 6, 7, 1, 0] rfl)
                        · refine lv_if_eq (tgt := 138) hx hb dX1_goRound_130 (by decide) (fun _ => ?_) (fun q => absurd q (by decide))
                          refine lv_iload hx hb dX1_goRound_138 (lv_at hl 6 rfl) ?_
                          refine lv_istore (lv' := [(6, .int (nI v)), (0, .ref h), (1, .int (nI c9)), (2, .int (nI (ρ 0))), (3, .int (nI (i + 1))), (4, .int (nI a9)), (5, .int (nI mo)), (7, .int (nI k))]) hx hb dX1_goRound_140 hl (by decide) rfl (fun ls hl => ?_)
                          refine lv_iinc (v := nI (k + 1)) (lv' := [(7, .int (nI (k + 1))), (6, .int (nI v)), (0, .ref h), (1, .int (nI c9)), (2, .int (nI (ρ 0))), (3, .int (nI (i + 1))), (4, .int (nI a9)), (5, .int (nI mo))]) hx hb dX1_goRound_142 hl (k := 7) rfl (nI_1 k) (by decide) rfl (fun ls hl => ?_)
                          refine lv_goto (tgt := 107) hx hb dX1_goRound_145 (by decide) ?_
                          exact ih_lk (k + 1) v (by omega) (by omega) (by omega) (by first | omega | (by_cases e0 : v = ρ (oh_nx M9 i); exact Or.inl e0; rcases hV with e | ⟨e1, e2, e3⟩; exact absurd e e0; by_cases e : k = ρ (oh_nx M9 i); exact absurd (by rw [e, ha]; exact oh_nx2 hw hm1 hv (by omega) e0) b_127; exact Or.inr ⟨by omega, e2, e3⟩)) _ _ hP hD hS ls (lv_sub hl [2, 3, 4, 5, 6, 7, 1, 0] rfl)
                exact lk (c9 + 1) 0 ((c9 - 1)) (by omega) (by omega) (by omega) (by omega) _ _ hP hD hS ls (lv_sub hl [3, 4, 5, 2, 6, 7, 1, 0] rfl)
        exact lw (M9 + 1) 0 (ρ 0) 1 rd (by omega) (by omega) (Or.inl ⟨rfl, by omega, rfl⟩) (fun t ht => by omega) _ _ hP hD hS ls (lv_sub hl [3, 4, 5, 2, 1, 0] rfl)
      · have g_6 : ¬ c9 ≤ i := fun q => c_6 ((nI_leI (a := c9) (b := i) (by omega) (by omega)).mpr q)
        refine lv_aload_n hx hb dX1_goRound_9 rfl (lv_at hl 0 rfl) ?_
        refine va_get (D := (dC, dI)) (ci := 1) (v := .ref b3) (C := RX1) (T := TX1) (N := 8) hx hb hts hin0 hown hK hP 0 rfl rfl 5 (by decide) (hts (.fieldLink RX1 16 "OnlineHullModel" "px" "[I") (by decide +kernel)) (fun _ h9 => h9) rfl dX1_goRound_10 ?_
        refine lv_iload_n hx hb dX1_goRound_13 rfl (lv_at hl 3 rfl) ?_
        refine oh_ald hx hb hK hP 3 0 rfl rfl (k := i) (by omega) (by omega) dX1_goRound_14 ?_
        refine lv_aload_n hx hb dX1_goRound_15 rfl (lv_at hl 0 rfl) ?_
        refine va_get (D := (dC, dI)) (ci := 1) (v := .ref b3) (C := RX1) (T := TX1) (N := 8) hx hb hts hin0 hown hK hP 0 rfl rfl 5 (by decide) (hts (.fieldLink RX1 16 "OnlineHullModel" "px" "[I") (by decide +kernel)) (fun _ h9 => h9) rfl dX1_goRound_16 ?_
        refine lv_iload_n hx hb dX1_goRound_19 rfl (lv_at hl 2 rfl) ?_
        refine oh_ald hx hb hK hP 3 0 rfl rfl (k := b) (by omega) (by omega) dX1_goRound_20 ?_
        refine lv_icmp_lt (tgt := 54) hx hb dX1_goRound_21 (by decide) (fun c_21 => ?_) (fun c_21 => ?_)
        · have g_21 : (px i).toInt < (px b).toInt := oh_ltI c_21
          refine lv_iload_n hx hb dX1_goRound_54 rfl (lv_at hl 3 rfl) ?_
          refine lv_goto (tgt := 59) hx hb dX1_goRound_55 (by decide) ?_
          refine lv_istore_n (lv' := [(2, .int (nI i)), (0, .ref h), (1, .int (nI c9)), (3, .int (nI i))]) hx hb dX1_goRound_59 rfl hl (by decide) rfl (fun ls hl => ?_)
          refine lv_iinc (v := nI (i + 1)) (lv' := [(3, .int (nI (i + 1))), (2, .int (nI i)), (0, .ref h), (1, .int (nI c9))]) hx hb dX1_goRound_60 hl (k := 3) rfl (nI_1 i) (by decide) rfl (fun ls hl => ?_)
          refine lv_goto (tgt := 4) hx hb dX1_goRound_63 (by decide) ?_
          exact ih_lf (i + 1) i (by omega) (by omega) (by omega) (by omega) (lt_s (fun j hj w => hI j hj (oh_lx_tr w (show oh_lx (oh_pt px py i) (oh_pt px py b) by unfold oh_lx oh_pt; dsimp only; omega))) (fun w => oh_lx_as w w)) _ _ hP hD hS ls (lv_sub hl [2, 3, 1, 0] rfl)
        · have g_21 : (px b).toInt ≤ (px i).toInt := oh_nltI c_21
          refine lv_aload_n hx hb dX1_goRound_24 rfl (lv_at hl 0 rfl) ?_
          refine va_get (D := (dC, dI)) (ci := 1) (v := .ref b3) (C := RX1) (T := TX1) (N := 8) hx hb hts hin0 hown hK hP 0 rfl rfl 5 (by decide) (hts (.fieldLink RX1 16 "OnlineHullModel" "px" "[I") (by decide +kernel)) (fun _ h9 => h9) rfl dX1_goRound_25 ?_
          refine lv_iload_n hx hb dX1_goRound_28 rfl (lv_at hl 3 rfl) ?_
          refine oh_ald hx hb hK hP 3 0 rfl rfl (k := i) (by omega) (by omega) dX1_goRound_29 ?_
          refine lv_aload_n hx hb dX1_goRound_30 rfl (lv_at hl 0 rfl) ?_
          refine va_get (D := (dC, dI)) (ci := 1) (v := .ref b3) (C := RX1) (T := TX1) (N := 8) hx hb hts hin0 hown hK hP 0 rfl rfl 5 (by decide) (hts (.fieldLink RX1 16 "OnlineHullModel" "px" "[I") (by decide +kernel)) (fun _ h9 => h9) rfl dX1_goRound_31 ?_
          refine lv_iload_n hx hb dX1_goRound_34 rfl (lv_at hl 2 rfl) ?_
          refine oh_ald hx hb hK hP 3 0 rfl rfl (k := b) (by omega) (by omega) dX1_goRound_35 ?_
          refine lv_icmp_ne (tgt := 58) hx hb dX1_goRound_36 (by decide) (fun c_36 => ?_) (fun c_36 => ?_)
          · have g_36 : (px i).toInt ≠ (px b).toInt := oh_neI c_36
            refine lv_iload_n hx hb dX1_goRound_58 rfl (lv_at hl 2 rfl) ?_
            refine lv_istore_n (lv' := [(2, .int (nI b)), (0, .ref h), (1, .int (nI c9)), (3, .int (nI i))]) hx hb dX1_goRound_59 rfl hl (by decide) rfl (fun ls hl => ?_)
            refine lv_iinc (v := nI (i + 1)) (lv' := [(3, .int (nI (i + 1))), (2, .int (nI b)), (0, .ref h), (1, .int (nI c9))]) hx hb dX1_goRound_60 hl (k := 3) rfl (nI_1 i) (by decide) rfl (fun ls hl => ?_)
            refine lv_goto (tgt := 4) hx hb dX1_goRound_63 (by decide) ?_
            exact ih_lf (i + 1) b (by omega) (by omega) (by omega) (by omega) (lt_s hI (fun w => by unfold oh_lx oh_pt at w; dsimp only at w; omega)) _ _ hP hD hS ls (lv_sub hl [2, 3, 1, 0] rfl)
          · have g_36 : (px i).toInt = (px b).toInt := oh_eqI c_36
            refine lv_aload_n hx hb dX1_goRound_39 rfl (lv_at hl 0 rfl) ?_
            refine va_get (D := (dC, dI)) (ci := 1) (v := .ref b4) (C := RX1) (T := TX1) (N := 8) hx hb hts hin0 hown hK hP 0 rfl rfl 6 (by decide) (hts (.fieldLink RX1 19 "OnlineHullModel" "py" "[I") (by decide +kernel)) (fun _ h9 => h9) rfl dX1_goRound_40 ?_
            refine lv_iload_n hx hb dX1_goRound_43 rfl (lv_at hl 3 rfl) ?_
            refine oh_ald hx hb hK hP 4 0 rfl rfl (k := i) (by omega) (by omega) dX1_goRound_44 ?_
            refine lv_aload_n hx hb dX1_goRound_45 rfl (lv_at hl 0 rfl) ?_
            refine va_get (D := (dC, dI)) (ci := 1) (v := .ref b4) (C := RX1) (T := TX1) (N := 8) hx hb hts hin0 hown hK hP 0 rfl rfl 6 (by decide) (hts (.fieldLink RX1 19 "OnlineHullModel" "py" "[I") (by decide +kernel)) (fun _ h9 => h9) rfl dX1_goRound_46 ?_
            refine lv_iload_n hx hb dX1_goRound_49 rfl (lv_at hl 2 rfl) ?_
            refine oh_ald hx hb hK hP 4 0 rfl rfl (k := b) (by omega) (by omega) dX1_goRound_50 ?_
            refine lv_icmp_ge (tgt := 58) hx hb dX1_goRound_51 (by decide) (fun c_51 => ?_) (fun c_51 => ?_)
            · have g_51 : (py b).toInt ≤ (py i).toInt := oh_leI c_51
              refine lv_iload_n hx hb dX1_goRound_58 rfl (lv_at hl 2 rfl) ?_
              refine lv_istore_n (lv' := [(2, .int (nI b)), (0, .ref h), (1, .int (nI c9)), (3, .int (nI i))]) hx hb dX1_goRound_59 rfl hl (by decide) rfl (fun ls hl => ?_)
              refine lv_iinc (v := nI (i + 1)) (lv' := [(3, .int (nI (i + 1))), (2, .int (nI b)), (0, .ref h), (1, .int (nI c9))]) hx hb dX1_goRound_60 hl (k := 3) rfl (nI_1 i) (by decide) rfl (fun ls hl => ?_)
              refine lv_goto (tgt := 4) hx hb dX1_goRound_63 (by decide) ?_
              exact ih_lf (i + 1) b (by omega) (by omega) (by omega) (by omega) (lt_s hI (fun w => by unfold oh_lx oh_pt at w; dsimp only at w; omega)) _ _ hP hD hS ls (lv_sub hl [2, 3, 1, 0] rfl)
            · have g_51 : (py i).toInt < (py b).toInt := oh_nleI c_51
              refine lv_iload_n hx hb dX1_goRound_54 rfl (lv_at hl 3 rfl) ?_
              refine lv_goto (tgt := 59) hx hb dX1_goRound_55 (by decide) ?_
              refine lv_istore_n (lv' := [(2, .int (nI i)), (0, .ref h), (1, .int (nI c9)), (3, .int (nI i))]) hx hb dX1_goRound_59 rfl hl (by decide) rfl (fun ls hl => ?_)
              refine lv_iinc (v := nI (i + 1)) (lv' := [(3, .int (nI (i + 1))), (2, .int (nI i)), (0, .ref h), (1, .int (nI c9))]) hx hb dX1_goRound_60 hl (k := 3) rfl (nI_1 i) (by decide) rfl (fun ls hl => ?_)
              refine lv_goto (tgt := 4) hx hb dX1_goRound_63 (by decide) ?_
              exact ih_lf (i + 1) i (by omega) (by omega) (by omega) (by omega) (lt_s (fun j hj w => hI j hj (oh_lx_tr w (show oh_lx (oh_pt px py i) (oh_pt px py b) by unfold oh_lx oh_pt; dsimp only; omega))) (fun w => oh_lx_as w w)) _ _ hP hD hS ls (lv_sub hl [2, 3, 1, 0] rfl)
  exact lf (c9 + 1) 1 0 (by omega) (by omega) (by omega) (by omega) (fun j hj w => by rw [show j = 0 by omega] at w; exact oh_lx_as w w) _ _ hP hD hS ls (lv_sub hl [2, 3, 1, 0] rfl)

set_option maxHeartbeats 4000000 in
set_option maxRecDepth 100000 in
theorem k_X1_add (l : Launch) (dC : Nat → ClassId) (dI : Nat → Nat → Nat) (cI : ClassId) (h b1 b2 b3 b4 b5 N n : Nat) (pts : Int32) (xs ys px py rd : Nat → Int32) (sz : Nat) (x y : Int32) (M9 : Nat) (ρ : Nat → Nat) (hN : N ≤ 64) (hn : n ≤ N) (hR : ∀ j, j < n → oh_inR (xs j) (ys j)) (hh : oh_hull n (oh_pt xs ys)) (hst : ∀ pl, oh_pl3 n (oh_pt xs ys) (x.toInt, y.toInt) pl → pl.toInt = 0 → oh_inR x y → oh_step n (oh_pt xs ys) (x.toInt, y.toInt) M9 ρ) : Met l yX1_add wsX1_add ({ frames := 3, cells := 0, slots := 0, locals := 91 }) (va_Pc [.ref h, .int x, .int y] (fun U => U.heap.size = sz ∧ va_P (dC, dI) vwCl [(h, .inr (1, [.int (nI N), .int (nI n), .int pts, .ref b1, .ref b2, .ref b3, .ref b4, .ref b5])), (b1, .inl (cI, 66, .inl xs)), (b2, .inl (cI, 66, .inl ys)), (b3, .inl (cI, 66, .inl px)), (b4, .inl (cI, 66, .inl py)), (b5, .inl (cI, 67, .inl rd))] U.heap ∧ va_K (dC, dI) vwCl [(cI, .int)] U ∧ va_D (fun _ => True) [(h, .inr (1, [.int (nI N), .int (nI n), .int pts, .ref b1, .ref b2, .ref b3, .ref b4, .ref b5])), (b1, .inl (cI, 66, .inl xs)), (b2, .inl (cI, 66, .inl ys)), (b3, .inl (cI, 66, .inl px)), (b4, .inl (cI, 66, .inl py)), (b5, .inl (cI, 67, .inl rd))])) (va_Qi (S := (Nat → Int32) × (Nat → Int32) × (Nat → Int32) × (Nat → Int32) × (Nat → Int32) × Nat × Int32) (fun r u => oh_addM N n M9 ρ xs ys pts x y r u) (fun u t => va_P (dC, dI) vwCl [(h, .inr (1, [.int (nI N), .int (nI u.2.2.2.2.2.1), .int u.2.2.2.2.2.2, .ref b1, .ref b2, .ref b3, .ref b4, .ref b5])), (b1, .inl (cI, 66, .inl u.1)), (b2, .inl (cI, 66, .inl u.2.1)), (b3, .inl (cI, 66, .inl u.2.2.1)), (b4, .inl (cI, 66, .inl u.2.2.2.1)), (b5, .inl (cI, 67, .inl u.2.2.2.2.1))] t.heap ∧ va_K (dC, dI) vwCl [(cI, .int)] t ∧ va_D (va_A [(h, .inr (1, [.int (nI N), .int (nI n), .int pts, .ref b1, .ref b2, .ref b3, .ref b4, .ref b5])), (b1, .inl (cI, 66, .inl xs)), (b2, .inl (cI, 66, .inl ys)), (b3, .inl (cI, 66, .inl px)), (b4, .inl (cI, 66, .inl py)), (b5, .inl (cI, 67, .inl rd))] sz) [(h, .inr (1, [.int (nI N), .int (nI u.2.2.2.2.2.1), .int u.2.2.2.2.2.2, .ref b1, .ref b2, .ref b3, .ref b4, .ref b5])), (b1, .inl (cI, 66, .inl u.1)), (b2, .inl (cI, 66, .inl u.2.1)), (b3, .inl (cI, 66, .inl u.2.2.1)), (b4, .inl (cI, 66, .inl u.2.2.2.1)), (b5, .inl (cI, 67, .inl u.2.2.2.2.1))]) (va_A [(h, .inr (1, [.int (nI N), .int (nI n), .int pts, .ref b1, .ref b2, .ref b3, .ref b4, .ref b5])), (b1, .inl (cI, 66, .inl xs)), (b2, .inl (cI, 66, .inl ys)), (b3, .inl (cI, 66, .inl px)), (b4, .inl (cI, 66, .inl py)), (b5, .inl (cI, 67, .inl rd))] sz)) 0 0 (va_A [(h, .inr (1, [.int (nI N), .int (nI n), .int pts, .ref b1, .ref b2, .ref b3, .ref b4, .ref b5])), (b1, .inl (cI, 66, .inl xs)), (b2, .inl (cI, 66, .inl ys)), (b3, .inl (cI, 66, .inl px)), (b4, .inl (cI, 66, .inl py)), (b5, .inl (cI, 67, .inl rd))] sz) := by
  refine Met.ofW (cc := cX1_add) (maxL := 6) (ret := (some .int)) (by decide) rfl ?_
  intro p e s m args below meth c s₁ B hml hv
  obtain ⟨rfl, hsz, hP, hK, hD0⟩ := hv
  have hx := B.exec
  have hb := B.bytes
  have hr := B.returns
  have hts := atoms_spec (ws := wsX1_add) B.pre
  have hown : s.vm.findClass RX1 = some m.cls := findClass_of_methodNamed B.named
  have hlocks := B.notSynchronized
  have hin0 : ∀ w ∈ wsX10, w ∈ wsX1_add := fun w h => List.mem_cons_of_mem _ (List.mem_append_right _ h)
  subst hsz
  have hD := hD0.self (sz := s.heap.size)
  generalize hAe : va_A [(h, .inr (1, [.int (nI N), .int (nI n), .int pts, .ref b1, .ref b2, .ref b3, .ref b4, .ref b5])), (b1, .inl (cI, 66, .inl xs)), (b2, .inl (cI, 66, .inl ys)), (b3, .inl (cI, 66, .inl px)), (b4, .inl (cI, 66, .inl py)), (b5, .inl (cI, 67, .inl rd))] s.heap.size = A at hD ⊢
  have hA : ∀ q : Nat, s.heap.size ≤ q → A q := fun q h => by rw [← hAe]; exact Or.inr h
  have hS : va_S A s.heap s.heap [] := va_S.rf
  have hl := lv_entry ([.ref h, .int x, .int y]) (n := 6) (Nat.le_of_ble_eq_true rfl)
  rw [lg_entry_eq]
  generalize (lg_sl ([.ref h, .int x, .int y]) ++ List.replicate (6 - (lg_sl ([.ref h, .int x, .int y])).length) Slot.unset).toArray = ls at hl ⊢
  have hl : lv_has ls 6 [(0, .ref h), (1, .int x), (2, .int y)] := hl
  suffices hgo : ∀ (H : Heap) (locs : List Loc), va_P (dC, dI) vwCl [(h, .inr (1, [.int (nI N), .int (nI n), .int pts, .ref b1, .ref b2, .ref b3, .ref b4, .ref b5])), (b1, .inl (cI, 66, .inl xs)), (b2, .inl (cI, 66, .inl ys)), (b3, .inl (cI, 66, .inl px)), (b4, .inl (cI, 66, .inl py)), (b5, .inl (cI, 67, .inl rd))] H → va_D A [(h, .inr (1, [.int (nI N), .int (nI n), .int pts, .ref b1, .ref b2, .ref b3, .ref b4, .ref b5])), (b1, .inl (cI, 66, .inl xs)), (b2, .inl (cI, 66, .inl ys)), (b3, .inl (cI, 66, .inl px)), (b4, .inl (cI, 66, .inl py)), (b5, .inl (cI, 67, .inl rd))] → va_S A s.heap H locs → W p l e (headSpec wsX1_add ({ frames := 3, cells := 0, slots := 0, locals := 91 })).room s m ([.ref h, .int x, .int y] : List Value).toArray below meth c H locs 0 0 (MQ below (va_Qi (S := (Nat → Int32) × (Nat → Int32) × (Nat → Int32) × (Nat → Int32) × (Nat → Int32) × Nat × Int32) (fun r u => oh_addM N n M9 ρ xs ys pts x y r u) (fun u t => va_P (dC, dI) vwCl [(h, .inr (1, [.int (nI N), .int (nI u.2.2.2.2.2.1), .int u.2.2.2.2.2.2, .ref b1, .ref b2, .ref b3, .ref b4, .ref b5])), (b1, .inl (cI, 66, .inl u.1)), (b2, .inl (cI, 66, .inl u.2.1)), (b3, .inl (cI, 66, .inl u.2.2.1)), (b4, .inl (cI, 66, .inl u.2.2.2.1)), (b5, .inl (cI, 67, .inl u.2.2.2.2.1))] t.heap ∧ va_K (dC, dI) vwCl [(cI, .int)] t ∧ va_D A [(h, .inr (1, [.int (nI N), .int (nI u.2.2.2.2.2.1), .int u.2.2.2.2.2.2, .ref b1, .ref b2, .ref b3, .ref b4, .ref b5])), (b1, .inl (cI, 66, .inl u.1)), (b2, .inl (cI, 66, .inl u.2.1)), (b3, .inl (cI, 66, .inl u.2.2.1)), (b4, .inl (cI, 66, .inl u.2.2.2.1)), (b5, .inl (cI, 67, .inl u.2.2.2.2.1))]) A) ([.ref h, .int x, .int y] : List Value).toArray s 0 0 A) (F0 m 0 ls []) from hgo s.heap [] hP hD hS
  clear hP hD hS hD0
  intro H locs hP hD hS
  refine lv_iload_n hx hb dX1_add_0 rfl (lv_at hl 1 rfl) ?_
  refine lv_iload_n hx hb dX1_add_1 rfl (lv_at hl 2 rfl) ?_
  refine vp_callSi (va_Run.run (va_runS (As := [.int x, .int y]) (rest := []) ⟨hx, hb, hml, hown, hts⟩ (k_X1_inRange l x y) (va_cwS 2 hts gX1_add_X1_inRange rfl rfl rfl (by decide +kernel) ⟨Nat.le_of_ble_eq_true rfl, Nat.le_of_ble_eq_true rfl⟩) oh_pre0 rfl rfl hl.1 rfl (lv_room (Nat.le_of_ble_eq_true rfl)) dX1_add_2 ⟨Nat.zero_le _, Nat.zero_le _⟩)) (fun r_2 hr_2 => ?_)
  rcases hr_2 with ⟨b_2, hr_2⟩ | ⟨b_2, hr_2⟩ <;> subst hr_2
  · refine lv_if_ne (tgt := 10) hx hb dX1_add_5 (by decide) (fun _ => ?_) (fun q => absurd q (by decide))
    refine lv_aload_n hx hb dX1_add_10 rfl (lv_at hl 0 rfl) ?_
    refine lv_iload_n hx hb dX1_add_11 rfl (lv_at hl 1 rfl) ?_
    refine lv_iload_n hx hb dX1_add_12 rfl (lv_at hl 2 rfl) ?_
    refine vp_callSi (va_Run.run (va_runV (As := [.int x, .int y]) (rest := []) ⟨hx, hb, hml, hown, hts⟩ (k_X1_inside l dC dI cI h b1 b2 b3 b4 b5 N n pts xs ys px py rd x y hN hn hR hh) (cwV 2 hts gX1_add_X1_inside rfl rfl rfl (by decide +kernel) ⟨Nat.le_of_ble_eq_true rfl, Nat.le_of_ble_eq_true rfl⟩) (oh_pre (ci := 1) (q0 := 0) hK hP rfl rfl) rfl rfl hl.1 rfl (lv_room (Nat.le_of_ble_eq_true rfl)) dX1_add_13 ⟨Nat.zero_le _, Nat.zero_le _⟩)) (fun r_13 hr_13 => ?_)
    have hpl : oh_pl3 n (oh_pt xs ys) (x.toInt, y.toInt) r_13 := hr_13.elim (fun w => w.2) (fun w => absurd b_2 w.1)
    have hplb := oh_pl3b hpl
    refine lv_if_le (tgt := 31) hx hb dX1_add_16 (by decide) (fun c_16 => ?_) (fun c_16 => ?_)
    · have g_16 : r_13.toInt ≤ 0 := oh_leI0 c_16
      have hs9 := hst _ hpl (by omega) b_2
      have hm9 := oh_stepm hs9
      refine lv_iconst (v := nI 0) hx hb dX1_add_31 (by decide) ?_
      refine lv_istore_n (lv' := [(3, .int (nI 0)), (0, .ref h), (1, .int x), (2, .int y)]) hx hb dX1_add_32 rfl hl (by decide) rfl (fun ls hl => ?_)
      have lc : ∀ (k_lc : Nat) (i : Nat) (px9 : Nat → Int32) (py9 : Nat → Int32), (i ≤ n) → (n + 1 ≤ i + k_lc) → (∀ t, t < i → px9 t = xs t) → (∀ t, t < i → py9 t = ys t) → ∀ (H : Heap) (locs : List Loc), va_P (dC, dI) vwCl [(h, .inr (1, [.int (nI N), .int (nI n), .int pts, .ref b1, .ref b2, .ref b3, .ref b4, .ref b5])), (b1, .inl (cI, 66, .inl xs)), (b2, .inl (cI, 66, .inl ys)), (b3, .inl (cI, 66, .inl px9)), (b4, .inl (cI, 66, .inl py9)), (b5, .inl (cI, 67, .inl rd))] H → va_D A [(h, .inr (1, [.int (nI N), .int (nI n), .int pts, .ref b1, .ref b2, .ref b3, .ref b4, .ref b5])), (b1, .inl (cI, 66, .inl xs)), (b2, .inl (cI, 66, .inl ys)), (b3, .inl (cI, 66, .inl px9)), (b4, .inl (cI, 66, .inl py9)), (b5, .inl (cI, 67, .inl rd))] → va_S A s.heap H locs → ∀ (ls : Array Slot), lv_has ls 6 [(0, .ref h), (1, .int x), (2, .int y), (3, .int (nI i))] → W p l e (headSpec wsX1_add ({ frames := 3, cells := 0, slots := 0, locals := 91 })).room s m ([.ref h, .int x, .int y] : List Value).toArray below meth c H locs 0 0 (MQ below (va_Qi (S := (Nat → Int32) × (Nat → Int32) × (Nat → Int32) × (Nat → Int32) × (Nat → Int32) × Nat × Int32) (fun r u => oh_addM N n M9 ρ xs ys pts x y r u) (fun u t => va_P (dC, dI) vwCl [(h, .inr (1, [.int (nI N), .int (nI u.2.2.2.2.2.1), .int u.2.2.2.2.2.2, .ref b1, .ref b2, .ref b3, .ref b4, .ref b5])), (b1, .inl (cI, 66, .inl u.1)), (b2, .inl (cI, 66, .inl u.2.1)), (b3, .inl (cI, 66, .inl u.2.2.1)), (b4, .inl (cI, 66, .inl u.2.2.2.1)), (b5, .inl (cI, 67, .inl u.2.2.2.2.1))] t.heap ∧ va_K (dC, dI) vwCl [(cI, .int)] t ∧ va_D A [(h, .inr (1, [.int (nI N), .int (nI u.2.2.2.2.2.1), .int u.2.2.2.2.2.2, .ref b1, .ref b2, .ref b3, .ref b4, .ref b5])), (b1, .inl (cI, 66, .inl u.1)), (b2, .inl (cI, 66, .inl u.2.1)), (b3, .inl (cI, 66, .inl u.2.2.1)), (b4, .inl (cI, 66, .inl u.2.2.2.1)), (b5, .inl (cI, 67, .inl u.2.2.2.2.1))]) A) ([.ref h, .int x, .int y] : List Value).toArray s 0 0 A) (F0 m 33 ls []) := by
        clear hP hD hS
        clear hl
        intro k_lc
        induction k_lc with
        | zero =>
          intro i px9 py9 hi hk hC1 hC2
          exfalso; omega
        | succ k_lc ih_lc =>
          intro i px9 py9 hi hk hC1 hC2 H locs hP hD hS ls hl
          refine lv_iload_n hx hb dX1_add_33 rfl (lv_at hl 3 rfl) ?_
          refine lv_aload_n hx hb dX1_add_34 rfl (lv_at hl 0 rfl) ?_
          refine va_get (D := (dC, dI)) (ci := 1) (v := .int (nI n)) (C := RX1) (T := TX1) (N := 8) hx hb hts hin0 hown hK hP 0 rfl rfl 1 (by decide) (hts (.fieldLink RX1 29 "OnlineHullModel" "corners" "I") (by decide +kernel)) (fun _ h9 => h9) rfl dX1_add_35 ?_
          refine lv_icmp_ge (tgt := 71) hx hb dX1_add_38 (by decide) (fun c_38 => ?_) (fun c_38 => ?_)
          · have g_38 : n ≤ i := (nI_leI (a := n) (b := i) (by omega) (by omega)).mp c_38
            have hD1 : ∀ t, t < n → px9 t = xs t := fun t ht => hC1 t (by omega)
            have hD2 : ∀ t, t < n → py9 t = ys t := fun t ht => hC2 t (by omega)
            have hrho := (oh_ringW_of hs9 (oh_pxG (x := x) (y := y) hD1 hD2)).2.2.1
            refine lv_aload_n hx hb dX1_add_71 rfl (lv_at hl 0 rfl) ?_
            refine va_get (D := (dC, dI)) (ci := 1) (v := .ref b3) (C := RX1) (T := TX1) (N := 8) hx hb hts hin0 hown hK hP 0 rfl rfl 5 (by decide) (hts (.fieldLink RX1 16 "OnlineHullModel" "px" "[I") (by decide +kernel)) (fun _ h9 => h9) rfl dX1_add_72 ?_
            refine lv_aload_n hx hb dX1_add_75 rfl (lv_at hl 0 rfl) ?_
            refine va_get (D := (dC, dI)) (ci := 1) (v := .int (nI n)) (C := RX1) (T := TX1) (N := 8) hx hb hts hin0 hown hK hP 0 rfl rfl 1 (by decide) (hts (.fieldLink RX1 29 "OnlineHullModel" "corners" "I") (by decide +kernel)) (fun _ h9 => h9) rfl dX1_add_76 ?_
            refine lv_iload_n hx hb dX1_add_79 rfl (lv_at hl 1 rfl) ?_
            refine oh_ast hx hb hK hP hD hS 3 0 rfl rfl (k := n) (by omega) (by omega) dX1_add_80 (fun H locs hP hD hS => ?_)
            have hP : va_P (dC, dI) vwCl [(h, .inr (1, [.int (nI N), .int (nI n), .int pts, .ref b1, .ref b2, .ref b3, .ref b4, .ref b5])), (b1, .inl (cI, 66, .inl xs)), (b2, .inl (cI, 66, .inl ys)), (b3, .inl (cI, 66, .inl (upd px9 n x))), (b4, .inl (cI, 66, .inl py9)), (b5, .inl (cI, 67, .inl rd))] H := hP
            have hD : va_D A [(h, .inr (1, [.int (nI N), .int (nI n), .int pts, .ref b1, .ref b2, .ref b3, .ref b4, .ref b5])), (b1, .inl (cI, 66, .inl xs)), (b2, .inl (cI, 66, .inl ys)), (b3, .inl (cI, 66, .inl (upd px9 n x))), (b4, .inl (cI, 66, .inl py9)), (b5, .inl (cI, 67, .inl rd))] := hD
            refine lv_aload_n hx hb dX1_add_81 rfl (lv_at hl 0 rfl) ?_
            refine va_get (D := (dC, dI)) (ci := 1) (v := .ref b4) (C := RX1) (T := TX1) (N := 8) hx hb hts hin0 hown hK hP 0 rfl rfl 6 (by decide) (hts (.fieldLink RX1 19 "OnlineHullModel" "py" "[I") (by decide +kernel)) (fun _ h9 => h9) rfl dX1_add_82 ?_
            refine lv_aload_n hx hb dX1_add_85 rfl (lv_at hl 0 rfl) ?_
            refine va_get (D := (dC, dI)) (ci := 1) (v := .int (nI n)) (C := RX1) (T := TX1) (N := 8) hx hb hts hin0 hown hK hP 0 rfl rfl 1 (by decide) (hts (.fieldLink RX1 29 "OnlineHullModel" "corners" "I") (by decide +kernel)) (fun _ h9 => h9) rfl dX1_add_86 ?_
            refine lv_iload_n hx hb dX1_add_89 rfl (lv_at hl 2 rfl) ?_
            refine oh_ast hx hb hK hP hD hS 4 0 rfl rfl (k := n) (by omega) (by omega) dX1_add_90 (fun H locs hP hD hS => ?_)
            have hP : va_P (dC, dI) vwCl [(h, .inr (1, [.int (nI N), .int (nI n), .int pts, .ref b1, .ref b2, .ref b3, .ref b4, .ref b5])), (b1, .inl (cI, 66, .inl xs)), (b2, .inl (cI, 66, .inl ys)), (b3, .inl (cI, 66, .inl (upd px9 n x))), (b4, .inl (cI, 66, .inl (upd py9 n y))), (b5, .inl (cI, 67, .inl rd))] H := hP
            have hD : va_D A [(h, .inr (1, [.int (nI N), .int (nI n), .int pts, .ref b1, .ref b2, .ref b3, .ref b4, .ref b5])), (b1, .inl (cI, 66, .inl xs)), (b2, .inl (cI, 66, .inl ys)), (b3, .inl (cI, 66, .inl (upd px9 n x))), (b4, .inl (cI, 66, .inl (upd py9 n y))), (b5, .inl (cI, 67, .inl rd))] := hD
            refine lv_aload_n hx hb dX1_add_91 rfl (lv_at hl 0 rfl) ?_
            refine lv_aload_n hx hb dX1_add_92 rfl (lv_at hl 0 rfl) ?_
            refine va_get (D := (dC, dI)) (ci := 1) (v := .int (nI n)) (C := RX1) (T := TX1) (N := 8) hx hb hts hin0 hown hK hP 0 rfl rfl 1 (by decide) (hts (.fieldLink RX1 29 "OnlineHullModel" "corners" "I") (by decide +kernel)) (fun _ h9 => h9) rfl dX1_add_93 ?_
            refine lv_iconst (v := nI 1) hx hb dX1_add_96 (by decide) ?_
            refine lv_iadd hx hb dX1_add_97 ?_
            rw [nI_add n 1]
            have hPc := hP.sub (ws' := [(h, .inr (1, [.int (nI N), .int (nI n), .int pts, .ref b1, .ref b2, .ref b3, .ref b4, .ref b5])), (b1, .inl (cI, 66, .inl xs)), (b2, .inl (cI, 66, .inl ys)), (b3, .inl (cI, 66, .inl (upd px9 n x))), (b4, .inl (cI, 66, .inl (upd py9 n y))), (b5, .inl (cI, 67, .inl rd))]) [0, 1, 2, 3, 4, 5] rfl
            have hDc := hD.sub (ws' := [(h, .inr (1, [.int (nI N), .int (nI n), .int pts, .ref b1, .ref b2, .ref b3, .ref b4, .ref b5])), (b1, .inl (cI, 66, .inl xs)), (b2, .inl (cI, 66, .inl ys)), (b3, .inl (cI, 66, .inl (upd px9 n x))), (b4, .inl (cI, 66, .inl (upd py9 n y))), (b5, .inl (cI, 67, .inl rd))]) [0, 1, 2, 3, 4, 5] (by decide) rfl
            have hFc := va_free (wc := [(h, .inr (1, [.int (nI N), .int (nI n), .int pts, .ref b1, .ref b2, .ref b3, .ref b4, .ref b5])), (b1, .inl (cI, 66, .inl xs)), (b2, .inl (cI, 66, .inl ys)), (b3, .inl (cI, 66, .inl (upd px9 n x))), (b4, .inl (cI, 66, .inl (upd py9 n y))), (b5, .inl (cI, 67, .inl rd))]) hD hS hA [0, 1, 2, 3, 4, 5] rfl
            refine va_calli (va_runV (As := [.int (nI (n + 1))]) (rest := []) ⟨hx, hb, hml, hown, hts⟩ (k_X1_goRound l dC dI cI h b1 b2 b3 b4 b5 N n pts xs ys (upd px9 n x) (upd py9 n y) rd H.size ((n + 1)) M9 ρ (by omega) (oh_pxR hD1 hD2 hR b_2) (oh_ringW_of hs9 (oh_pxG hD1 hD2))) (cwV 1 hts gX1_add_X1_goRound rfl rfl rfl (by decide +kernel) ⟨Nat.le_of_ble_eq_true rfl, Nat.le_of_ble_eq_true rfl⟩) (oh_preM (ci := 1) (q0 := 0) hK hPc hDc rfl rfl) rfl rfl hl.1 rfl (lv_room (Nat.le_of_ble_eq_true rfl)) dX1_add_98 ⟨Nat.zero_le _, Nat.zero_le _⟩) hS (fun q _ h => hFc q h) hFc (fun r_98 u_98 t H1 locs ht hvm hw_98 hB hz1 hk1 hS => ?_)
            obtain ⟨hP1, hK1, hD1⟩ := hB
            rw [ht] at hP1
            obtain ⟨rfl, rd9, rfl, hrd⟩ := hw_98
            obtain ⟨hP, hD⟩ := va_join (wr := []) (w1 := [(h, .inr (1, [.int (nI N), .int (nI n), .int pts, .ref b1, .ref b2, .ref b3, .ref b4, .ref b5])), (b1, .inl (cI, 66, .inl xs)), (b2, .inl (cI, 66, .inl ys)), (b3, .inl (cI, 66, .inl (upd px9 n x))), (b4, .inl (cI, 66, .inl (upd py9 n y))), (b5, .inl (cI, 67, .inl rd9))]) hP hD [0, 1, 2, 3, 4, 5] [] rfl rfl (by decide) (by decide) hk1 hFc hP1 hD1
            generalize H1 = H at hP hS ⊢
            have hP : va_P (dC, dI) vwCl [(h, .inr (1, [.int (nI N), .int (nI n), .int pts, .ref b1, .ref b2, .ref b3, .ref b4, .ref b5])), (b1, .inl (cI, 66, .inl xs)), (b2, .inl (cI, 66, .inl ys)), (b3, .inl (cI, 66, .inl (upd px9 n x))), (b4, .inl (cI, 66, .inl (upd py9 n y))), (b5, .inl (cI, 67, .inl rd9))] H := hP
            have hD : va_D A [(h, .inr (1, [.int (nI N), .int (nI n), .int pts, .ref b1, .ref b2, .ref b3, .ref b4, .ref b5])), (b1, .inl (cI, 66, .inl xs)), (b2, .inl (cI, 66, .inl ys)), (b3, .inl (cI, 66, .inl (upd px9 n x))), (b4, .inl (cI, 66, .inl (upd py9 n y))), (b5, .inl (cI, 67, .inl rd9))] := hD
            clear hPc hDc hFc hP1 hK1 hD1 hk1 hz1 ht
            refine lv_istore_n (lv' := [(3, .int (nI M9)), (0, .ref h), (1, .int x), (2, .int y)]) hx hb dX1_add_101 rfl hl (by decide) rfl (fun ls hl => ?_)
            refine lv_iload_n hx hb dX1_add_102 rfl (lv_at hl 0 rfl) ?_
            refine lv_aload_n hx hb dX1_add_103 rfl (lv_at hl 1 rfl) ?_
            refine va_get (D := (dC, dI)) (ci := 1) (v := .int (nI N)) (C := RX1) (T := TX1) (N := 8) hx hb hts hin0 hown hK hP 0 rfl rfl 0 (by decide) (hts (.fieldLink RX1 25 "OnlineHullModel" "cap" "I") (by decide +kernel)) (fun _ h9 => h9) rfl dX1_add_104 ?_
            refine lv_icmp_le (tgt := 113) hx hb dX1_add_107 (by decide) (fun c_107 => ?_) (fun c_107 => ?_)
            · have g_107 : M9 ≤ N := (nI_leI (a := M9) (b := N) (by omega) (by omega)).mp c_107
              refine lv_aload_n hx hb dX1_add_113 rfl (lv_at hl 1 rfl) ?_
              refine va_get (D := (dC, dI)) (ci := 1) (v := .int (nI n)) (C := RX1) (T := TX1) (N := 8) hx hb hts hin0 hown hK hP 0 rfl rfl 1 (by decide) (hts (.fieldLink RX1 29 "OnlineHullModel" "corners" "I") (by decide +kernel)) (fun _ h9 => h9) rfl dX1_add_114 ?_
              refine lv_iconst (v := nI 1) hx hb dX1_add_117 (by decide) ?_
              refine lv_iadd hx hb dX1_add_118 ?_
              rw [nI_add n 1]
              refine lv_iload_n hx hb dX1_add_119 rfl (lv_at hl 0 rfl) ?_
              refine lv_isub hx hb dX1_add_120 ?_
              rw [pk_sub (a := (n + 1)) (b := M9) (by omega)]
              refine lv_istore (lv' := [(4, .int (nI ((n + 1) - M9))), (3, .int (nI M9)), (0, .ref h), (1, .int x), (2, .int y)]) hx hb dX1_add_121 hl (by decide) rfl (fun ls hl => ?_)
              refine lv_iconst (v := nI 0) hx hb dX1_add_123 (by decide) ?_
              refine lv_istore (lv' := [(5, .int (nI 0)), (4, .int (nI ((n + 1) - M9))), (3, .int (nI M9)), (0, .ref h), (1, .int x), (2, .int y)]) hx hb dX1_add_124 hl (by decide) rfl (fun ls hl => ?_)
              have ld : ∀ (k_ld : Nat) (k : Nat) (xs9 : Nat → Int32) (ys9 : Nat → Int32), (k ≤ M9) → (M9 + 1 ≤ k + k_ld) → (∀ t, t < k → xs9 t = oh_g n xs x (ρ t)) → (∀ t, t < k → ys9 t = oh_g n ys y (ρ t)) → ∀ (H : Heap) (locs : List Loc), va_P (dC, dI) vwCl [(h, .inr (1, [.int (nI N), .int (nI n), .int pts, .ref b1, .ref b2, .ref b3, .ref b4, .ref b5])), (b1, .inl (cI, 66, .inl xs9)), (b2, .inl (cI, 66, .inl ys9)), (b3, .inl (cI, 66, .inl (upd px9 n x))), (b4, .inl (cI, 66, .inl (upd py9 n y))), (b5, .inl (cI, 67, .inl rd9))] H → va_D A [(h, .inr (1, [.int (nI N), .int (nI n), .int pts, .ref b1, .ref b2, .ref b3, .ref b4, .ref b5])), (b1, .inl (cI, 66, .inl xs9)), (b2, .inl (cI, 66, .inl ys9)), (b3, .inl (cI, 66, .inl (upd px9 n x))), (b4, .inl (cI, 66, .inl (upd py9 n y))), (b5, .inl (cI, 67, .inl rd9))] → va_S A s.heap H locs → ∀ (ls : Array Slot), lv_has ls 6 [(0, .ref h), (1, .int x), (2, .int y), (3, .int (nI M9)), (4, .int (nI (n + 1 - M9))), (5, .int (nI k))] → W p l e (headSpec wsX1_add ({ frames := 3, cells := 0, slots := 0, locals := 91 })).room s m ([.ref h, .int x, .int y] : List Value).toArray below meth c H locs 0 0 (MQ below (va_Qi (S := (Nat → Int32) × (Nat → Int32) × (Nat → Int32) × (Nat → Int32) × (Nat → Int32) × Nat × Int32) (fun r u => oh_addM N n M9 ρ xs ys pts x y r u) (fun u t => va_P (dC, dI) vwCl [(h, .inr (1, [.int (nI N), .int (nI u.2.2.2.2.2.1), .int u.2.2.2.2.2.2, .ref b1, .ref b2, .ref b3, .ref b4, .ref b5])), (b1, .inl (cI, 66, .inl u.1)), (b2, .inl (cI, 66, .inl u.2.1)), (b3, .inl (cI, 66, .inl u.2.2.1)), (b4, .inl (cI, 66, .inl u.2.2.2.1)), (b5, .inl (cI, 67, .inl u.2.2.2.2.1))] t.heap ∧ va_K (dC, dI) vwCl [(cI, .int)] t ∧ va_D A [(h, .inr (1, [.int (nI N), .int (nI u.2.2.2.2.2.1), .int u.2.2.2.2.2.2, .ref b1, .ref b2, .ref b3, .ref b4, .ref b5])), (b1, .inl (cI, 66, .inl u.1)), (b2, .inl (cI, 66, .inl u.2.1)), (b3, .inl (cI, 66, .inl u.2.2.1)), (b4, .inl (cI, 66, .inl u.2.2.2.1)), (b5, .inl (cI, 67, .inl u.2.2.2.2.1))]) A) ([.ref h, .int x, .int y] : List Value).toArray s 0 0 A) (F0 m 126 ls []) := by
                clear hP hD hS
                clear hl
                intro k_ld
                induction k_ld with
                | zero =>
                  intro k xs9 ys9 hk9 hk8 hA1 hA2
                  exfalso; omega
                | succ k_ld ih_ld =>
                  intro k xs9 ys9 hk9 hk8 hA1 hA2 H locs hP hD hS ls hl
                  refine lv_iload hx hb dX1_add_126 (lv_at hl 5 rfl) ?_
                  refine lv_iload_n hx hb dX1_add_128 rfl (lv_at hl 3 rfl) ?_
                  refine lv_icmp_ge (tgt := 176) hx hb dX1_add_129 (by decide) (fun c_129 => ?_) (fun c_129 => ?_)
                  · have g_129 : M9 ≤ k := (nI_leI (a := M9) (b := k) (by omega) (by omega)).mp c_129
                    refine lv_aload_n hx hb dX1_add_176 rfl (lv_at hl 0 rfl) ?_
                    refine lv_iload_n hx hb dX1_add_177 rfl (lv_at hl 3 rfl) ?_
                    refine va_put (D := (dC, dI)) (ci := 1) (v := .int (nI M9)) (ty := .int) (C := RX1) (T := TX1) (N := 8) hx hb hts hin0 tyX1 tyX1_ok nmX1 hown hK hP hD hS 0 rfl rfl 1 (by decide) (hts (.fieldLink RX1 29 "OnlineHullModel" "corners" "I") (by decide +kernel)) (fun _ h9 => h9) rfl (by decide +kernel) rfl rfl (Nat.le_of_ble_eq_true rfl) dX1_add_178 (fun H locs hP hD hS => ?_)
                    have hP : va_P (dC, dI) vwCl [(h, .inr (1, [.int (nI N), .int (nI M9), .int pts, .ref b1, .ref b2, .ref b3, .ref b4, .ref b5])), (b1, .inl (cI, 66, .inl xs9)), (b2, .inl (cI, 66, .inl ys9)), (b3, .inl (cI, 66, .inl (upd px9 n x))), (b4, .inl (cI, 66, .inl (upd py9 n y))), (b5, .inl (cI, 67, .inl rd9))] H := hP
                    have hD : va_D A [(h, .inr (1, [.int (nI N), .int (nI M9), .int pts, .ref b1, .ref b2, .ref b3, .ref b4, .ref b5])), (b1, .inl (cI, 66, .inl xs9)), (b2, .inl (cI, 66, .inl ys9)), (b3, .inl (cI, 66, .inl (upd px9 n x))), (b4, .inl (cI, 66, .inl (upd py9 n y))), (b5, .inl (cI, 67, .inl rd9))] := hD
                    refine lv_aload_n hx hb dX1_add_181 rfl (lv_at hl 0 rfl) ?_
                    refine lv_dup hx hb dX1_add_182 rfl ?_
                    refine va_get (D := (dC, dI)) (ci := 1) (v := .int pts) (C := RX1) (T := TX1) (N := 8) hx hb hts hin0 hown hK hP 0 rfl rfl 2 (by decide) (hts (.fieldLink RX1 55 "OnlineHullModel" "points" "I") (by decide +kernel)) (fun _ h9 => h9) rfl dX1_add_183 ?_
                    refine lv_iconst (v := nI 1) hx hb dX1_add_186 (by decide) ?_
                    refine lv_iadd hx hb dX1_add_187 ?_
                    refine va_put (D := (dC, dI)) (ci := 1) (v := .int (pts + (nI 1))) (ty := .int) (C := RX1) (T := TX1) (N := 8) hx hb hts hin0 tyX1 tyX1_ok nmX1 hown hK hP hD hS 0 rfl rfl 2 (by decide) (hts (.fieldLink RX1 55 "OnlineHullModel" "points" "I") (by decide +kernel)) (fun _ h9 => h9) rfl (by decide +kernel) rfl rfl (Nat.le_of_ble_eq_true rfl) dX1_add_188 (fun H locs hP hD hS => ?_)
                    have hP : va_P (dC, dI) vwCl [(h, .inr (1, [.int (nI N), .int (nI M9), .int (pts + (nI 1)), .ref b1, .ref b2, .ref b3, .ref b4, .ref b5])), (b1, .inl (cI, 66, .inl xs9)), (b2, .inl (cI, 66, .inl ys9)), (b3, .inl (cI, 66, .inl (upd px9 n x))), (b4, .inl (cI, 66, .inl (upd py9 n y))), (b5, .inl (cI, 67, .inl rd9))] H := hP
                    have hD : va_D A [(h, .inr (1, [.int (nI N), .int (nI M9), .int (pts + (nI 1)), .ref b1, .ref b2, .ref b3, .ref b4, .ref b5])), (b1, .inl (cI, 66, .inl xs9)), (b2, .inl (cI, 66, .inl ys9)), (b3, .inl (cI, 66, .inl (upd px9 n x))), (b4, .inl (cI, 66, .inl (upd py9 n y))), (b5, .inl (cI, 67, .inl rd9))] := hD
                    refine lv_iconst (v := nI 1) hx hb dX1_add_191 (by decide) ?_
                    refine lv_iload hx hb dX1_add_192 (lv_at hl 4 rfl) ?_
                    refine lv_iadd hx hb dX1_add_194 ?_
                    rw [nI_add 1 ((n + 1 - M9))]
                    exact W.iret (v := nI (1 + (n + 1 - M9))) hx hb hr (fun t ht hW => ⟨⟨_, (xs9, ys9, upd px9 n x, upd py9 n y, rd9, M9, pts + (nI 1)), rfl, ⟨_, _, _, _, _, _, _, rfl, Or.inr ⟨b_2, r_13, hpl, Or.inr ⟨by omega, Or.inl ⟨by omega, congrArg nI (by omega), rfl, rfl, fun t ht => ⟨hA1 t (by omega), hA2 t (by omega)⟩⟩⟩⟩⟩, by rw [ht]; exact hP, va_K.moved hW.alike hK, hD⟩, hS.F ht⟩) hS.2.2 dX1_add_195
                  · have g_129 : ¬ M9 ≤ k := fun q => c_129 ((nI_leI (a := M9) (b := k) (by omega) (by omega)).mpr q)
                    refine lv_aload_n hx hb dX1_add_132 rfl (lv_at hl 0 rfl) ?_
                    refine va_get (D := (dC, dI)) (ci := 1) (v := .ref b1) (C := RX1) (T := TX1) (N := 8) hx hb hts hin0 hown hK hP 0 rfl rfl 3 (by decide) (hts (.fieldLink RX1 7 "OnlineHullModel" "xs" "[I") (by decide +kernel)) (fun _ h9 => h9) rfl dX1_add_133 ?_
                    refine lv_iload hx hb dX1_add_136 (lv_at hl 5 rfl) ?_
                    refine lv_aload_n hx hb dX1_add_138 rfl (lv_at hl 0 rfl) ?_
                    refine va_get (D := (dC, dI)) (ci := 1) (v := .ref b3) (C := RX1) (T := TX1) (N := 8) hx hb hts hin0 hown hK hP 0 rfl rfl 5 (by decide) (hts (.fieldLink RX1 16 "OnlineHullModel" "px" "[I") (by decide +kernel)) (fun _ h9 => h9) rfl dX1_add_139 ?_
                    refine lv_aload_n hx hb dX1_add_142 rfl (lv_at hl 0 rfl) ?_
                    refine va_get (D := (dC, dI)) (ci := 1) (v := .ref b5) (C := RX1) (T := TX1) (N := 8) hx hb hts hin0 hown hK hP 0 rfl rfl 7 (by decide) (hts (.fieldLink RX1 22 "OnlineHullModel" "round" "[I") (by decide +kernel)) (fun _ h9 => h9) rfl dX1_add_143 ?_
                    refine lv_iload hx hb dX1_add_146 (lv_at hl 5 rfl) ?_
                    refine oh_ald hx hb hK hP 5 0 rfl rfl (k := k) (by omega) (by omega) dX1_add_148 ?_
                    rw [hrd k (by omega)]
                    have hrk := hrho k (by omega)
                    refine oh_ald hx hb hK hP 3 0 rfl rfl (k := (ρ k)) (by omega) (by omega) dX1_add_149 ?_
                    refine oh_ast hx hb hK hP hD hS 1 0 rfl rfl (k := k) (by omega) (by omega) dX1_add_150 (fun H locs hP hD hS => ?_)
                    have hP : va_P (dC, dI) vwCl [(h, .inr (1, [.int (nI N), .int (nI n), .int pts, .ref b1, .ref b2, .ref b3, .ref b4, .ref b5])), (b1, .inl (cI, 66, .inl (upd xs9 k ((upd px9 n x) ((ρ k)))))), (b2, .inl (cI, 66, .inl ys9)), (b3, .inl (cI, 66, .inl (upd px9 n x))), (b4, .inl (cI, 66, .inl (upd py9 n y))), (b5, .inl (cI, 67, .inl rd9))] H := hP
                    have hD : va_D A [(h, .inr (1, [.int (nI N), .int (nI n), .int pts, .ref b1, .ref b2, .ref b3, .ref b4, .ref b5])), (b1, .inl (cI, 66, .inl (upd xs9 k ((upd px9 n x) ((ρ k)))))), (b2, .inl (cI, 66, .inl ys9)), (b3, .inl (cI, 66, .inl (upd px9 n x))), (b4, .inl (cI, 66, .inl (upd py9 n y))), (b5, .inl (cI, 67, .inl rd9))] := hD
                    refine lv_aload_n hx hb dX1_add_151 rfl (lv_at hl 0 rfl) ?_
                    refine va_get (D := (dC, dI)) (ci := 1) (v := .ref b2) (C := RX1) (T := TX1) (N := 8) hx hb hts hin0 hown hK hP 0 rfl rfl 4 (by decide) (hts (.fieldLink RX1 13 "OnlineHullModel" "ys" "[I") (by decide +kernel)) (fun _ h9 => h9) rfl dX1_add_152 ?_
                    refine lv_iload hx hb dX1_add_155 (lv_at hl 5 rfl) ?_
                    refine lv_aload_n hx hb dX1_add_157 rfl (lv_at hl 0 rfl) ?_
                    refine va_get (D := (dC, dI)) (ci := 1) (v := .ref b4) (C := RX1) (T := TX1) (N := 8) hx hb hts hin0 hown hK hP 0 rfl rfl 6 (by decide) (hts (.fieldLink RX1 19 "OnlineHullModel" "py" "[I") (by decide +kernel)) (fun _ h9 => h9) rfl dX1_add_158 ?_
                    refine lv_aload_n hx hb dX1_add_161 rfl (lv_at hl 0 rfl) ?_
                    refine va_get (D := (dC, dI)) (ci := 1) (v := .ref b5) (C := RX1) (T := TX1) (N := 8) hx hb hts hin0 hown hK hP 0 rfl rfl 7 (by decide) (hts (.fieldLink RX1 22 "OnlineHullModel" "round" "[I") (by decide +kernel)) (fun _ h9 => h9) rfl dX1_add_162 ?_
                    refine lv_iload hx hb dX1_add_165 (lv_at hl 5 rfl) ?_
                    refine oh_ald hx hb hK hP 5 0 rfl rfl (k := k) (by omega) (by omega) dX1_add_167 ?_
                    rw [hrd k (by omega)]
                    have hrk := hrho k (by omega)
                    refine oh_ald hx hb hK hP 4 0 rfl rfl (k := (ρ k)) (by omega) (by omega) dX1_add_168 ?_
                    refine oh_ast hx hb hK hP hD hS 2 0 rfl rfl (k := k) (by omega) (by omega) dX1_add_169 (fun H locs hP hD hS => ?_)
                    have hP : va_P (dC, dI) vwCl [(h, .inr (1, [.int (nI N), .int (nI n), .int pts, .ref b1, .ref b2, .ref b3, .ref b4, .ref b5])), (b1, .inl (cI, 66, .inl (upd xs9 k ((upd px9 n x) ((ρ k)))))), (b2, .inl (cI, 66, .inl (upd ys9 k ((upd py9 n y) ((ρ k)))))), (b3, .inl (cI, 66, .inl (upd px9 n x))), (b4, .inl (cI, 66, .inl (upd py9 n y))), (b5, .inl (cI, 67, .inl rd9))] H := hP
                    have hD : va_D A [(h, .inr (1, [.int (nI N), .int (nI n), .int pts, .ref b1, .ref b2, .ref b3, .ref b4, .ref b5])), (b1, .inl (cI, 66, .inl (upd xs9 k ((upd px9 n x) ((ρ k)))))), (b2, .inl (cI, 66, .inl (upd ys9 k ((upd py9 n y) ((ρ k)))))), (b3, .inl (cI, 66, .inl (upd px9 n x))), (b4, .inl (cI, 66, .inl (upd py9 n y))), (b5, .inl (cI, 67, .inl rd9))] := hD
                    refine lv_iinc (v := nI (k + 1)) (lv' := [(5, .int (nI (k + 1))), (0, .ref h), (1, .int x), (2, .int y), (3, .int (nI M9)), (4, .int (nI (n + 1 - M9)))]) hx hb dX1_add_170 hl (k := 5) rfl (nI_1 k) (by decide) rfl (fun ls hl => ?_)
                    refine lv_goto (tgt := 126) hx hb dX1_add_173 (by decide) ?_
                    exact ih_ld (k + 1) (upd xs9 k ((upd px9 n x) ((ρ k)))) (upd ys9 k ((upd py9 n y) ((ρ k)))) (by omega) (by omega) (oh_xsU hA1 (oh_pxg hD1 (hrho k (by omega)))) (oh_xsU hA2 (oh_pxg hD2 (hrho k (by omega)))) _ _ hP hD hS ls (lv_sub hl [1, 2, 3, 4, 5, 0] rfl)
              exact ld (M9 + 1) 0 xs ys (by omega) (by omega) (fun t ht => by omega) (fun t ht => by omega) _ _ hP hD hS ls (lv_sub hl [3, 4, 5, 2, 1, 0] rfl)
            · have g_107 : ¬ M9 ≤ N := fun q => c_107 ((nI_leI (a := M9) (b := N) (by omega) (by omega)).mpr q)
              refine lv_bipush (v := -2) hx hb dX1_add_110 (by decide) ?_
              exact W.iret (v := -2) hx hb hr (fun t ht hW => ⟨⟨_, (xs, ys, upd px9 n x, upd py9 n y, rd9, n, pts), rfl, ⟨_, _, _, _, _, _, _, rfl, Or.inr ⟨b_2, r_13, hpl, Or.inr ⟨by omega, Or.inr ⟨by omega, rfl, rfl, rfl, rfl, rfl⟩⟩⟩⟩, by rw [ht]; exact hP, va_K.moved hW.alike hK, hD⟩, hS.F ht⟩) hS.2.2 dX1_add_112
          · have g_38 : ¬ n ≤ i := fun q => c_38 ((nI_leI (a := n) (b := i) (by omega) (by omega)).mpr q)
            refine lv_aload_n hx hb dX1_add_41 rfl (lv_at hl 0 rfl) ?_
            refine va_get (D := (dC, dI)) (ci := 1) (v := .ref b3) (C := RX1) (T := TX1) (N := 8) hx hb hts hin0 hown hK hP 0 rfl rfl 5 (by decide) (hts (.fieldLink RX1 16 "OnlineHullModel" "px" "[I") (by decide +kernel)) (fun _ h9 => h9) rfl dX1_add_42 ?_
            refine lv_iload_n hx hb dX1_add_45 rfl (lv_at hl 3 rfl) ?_
            refine lv_aload_n hx hb dX1_add_46 rfl (lv_at hl 0 rfl) ?_
            refine va_get (D := (dC, dI)) (ci := 1) (v := .ref b1) (C := RX1) (T := TX1) (N := 8) hx hb hts hin0 hown hK hP 0 rfl rfl 3 (by decide) (hts (.fieldLink RX1 7 "OnlineHullModel" "xs" "[I") (by decide +kernel)) (fun _ h9 => h9) rfl dX1_add_47 ?_
            refine lv_iload_n hx hb dX1_add_50 rfl (lv_at hl 3 rfl) ?_
            refine oh_ald hx hb hK hP 1 0 rfl rfl (k := i) (by omega) (by omega) dX1_add_51 ?_
            refine oh_ast hx hb hK hP hD hS 3 0 rfl rfl (k := i) (by omega) (by omega) dX1_add_52 (fun H locs hP hD hS => ?_)
            have hP : va_P (dC, dI) vwCl [(h, .inr (1, [.int (nI N), .int (nI n), .int pts, .ref b1, .ref b2, .ref b3, .ref b4, .ref b5])), (b1, .inl (cI, 66, .inl xs)), (b2, .inl (cI, 66, .inl ys)), (b3, .inl (cI, 66, .inl (upd px9 i (xs i)))), (b4, .inl (cI, 66, .inl py9)), (b5, .inl (cI, 67, .inl rd))] H := hP
            have hD : va_D A [(h, .inr (1, [.int (nI N), .int (nI n), .int pts, .ref b1, .ref b2, .ref b3, .ref b4, .ref b5])), (b1, .inl (cI, 66, .inl xs)), (b2, .inl (cI, 66, .inl ys)), (b3, .inl (cI, 66, .inl (upd px9 i (xs i)))), (b4, .inl (cI, 66, .inl py9)), (b5, .inl (cI, 67, .inl rd))] := hD
            refine lv_aload_n hx hb dX1_add_53 rfl (lv_at hl 0 rfl) ?_
            refine va_get (D := (dC, dI)) (ci := 1) (v := .ref b4) (C := RX1) (T := TX1) (N := 8) hx hb hts hin0 hown hK hP 0 rfl rfl 6 (by decide) (hts (.fieldLink RX1 19 "OnlineHullModel" "py" "[I") (by decide +kernel)) (fun _ h9 => h9) rfl dX1_add_54 ?_
            refine lv_iload_n hx hb dX1_add_57 rfl (lv_at hl 3 rfl) ?_
            refine lv_aload_n hx hb dX1_add_58 rfl (lv_at hl 0 rfl) ?_
            refine va_get (D := (dC, dI)) (ci := 1) (v := .ref b2) (C := RX1) (T := TX1) (N := 8) hx hb hts hin0 hown hK hP 0 rfl rfl 4 (by decide) (hts (.fieldLink RX1 13 "OnlineHullModel" "ys" "[I") (by decide +kernel)) (fun _ h9 => h9) rfl dX1_add_59 ?_
            refine lv_iload_n hx hb dX1_add_62 rfl (lv_at hl 3 rfl) ?_
            refine oh_ald hx hb hK hP 2 0 rfl rfl (k := i) (by omega) (by omega) dX1_add_63 ?_
            refine oh_ast hx hb hK hP hD hS 4 0 rfl rfl (k := i) (by omega) (by omega) dX1_add_64 (fun H locs hP hD hS => ?_)
            have hP : va_P (dC, dI) vwCl [(h, .inr (1, [.int (nI N), .int (nI n), .int pts, .ref b1, .ref b2, .ref b3, .ref b4, .ref b5])), (b1, .inl (cI, 66, .inl xs)), (b2, .inl (cI, 66, .inl ys)), (b3, .inl (cI, 66, .inl (upd px9 i (xs i)))), (b4, .inl (cI, 66, .inl (upd py9 i (ys i)))), (b5, .inl (cI, 67, .inl rd))] H := hP
            have hD : va_D A [(h, .inr (1, [.int (nI N), .int (nI n), .int pts, .ref b1, .ref b2, .ref b3, .ref b4, .ref b5])), (b1, .inl (cI, 66, .inl xs)), (b2, .inl (cI, 66, .inl ys)), (b3, .inl (cI, 66, .inl (upd px9 i (xs i)))), (b4, .inl (cI, 66, .inl (upd py9 i (ys i)))), (b5, .inl (cI, 67, .inl rd))] := hD
            refine lv_iinc (v := nI (i + 1)) (lv' := [(3, .int (nI (i + 1))), (0, .ref h), (1, .int x), (2, .int y)]) hx hb dX1_add_65 hl (k := 3) rfl (nI_1 i) (by decide) rfl (fun ls hl => ?_)
            refine lv_goto (tgt := 33) hx hb dX1_add_68 (by decide) ?_
            exact ih_lc (i + 1) (upd px9 i (xs i)) (upd py9 i (ys i)) (by omega) (by omega) (oh_cpU hC1) (oh_cpU hC2) _ _ hP hD hS ls (lv_sub hl [1, 2, 3, 0] rfl)
      exact lc (n + 1) 0 px py (by omega) (by omega) (fun t ht => by omega) (fun t ht => by omega) _ _ hP hD hS ls (lv_sub hl [1, 2, 3, 0] rfl)
    · have g_16 : 0 < r_13.toInt := oh_nleI0 c_16
      refine lv_aload_n hx hb dX1_add_19 rfl (lv_at hl 0 rfl) ?_
      refine lv_dup hx hb dX1_add_20 rfl ?_
      refine va_get (D := (dC, dI)) (ci := 1) (v := .int pts) (C := RX1) (T := TX1) (N := 8) hx hb hts hin0 hown hK hP 0 rfl rfl 2 (by decide) (hts (.fieldLink RX1 55 "OnlineHullModel" "points" "I") (by decide +kernel)) (fun _ h9 => h9) rfl dX1_add_21 ?_
      refine lv_iconst (v := nI 1) hx hb dX1_add_24 (by decide) ?_
      refine lv_iadd hx hb dX1_add_25 ?_
      refine va_put (D := (dC, dI)) (ci := 1) (v := .int (pts + (nI 1))) (ty := .int) (C := RX1) (T := TX1) (N := 8) hx hb hts hin0 tyX1 tyX1_ok nmX1 hown hK hP hD hS 0 rfl rfl 2 (by decide) (hts (.fieldLink RX1 55 "OnlineHullModel" "points" "I") (by decide +kernel)) (fun _ h9 => h9) rfl (by decide +kernel) rfl rfl (Nat.le_of_ble_eq_true rfl) dX1_add_26 (fun H locs hP hD hS => ?_)
      have hP : va_P (dC, dI) vwCl [(h, .inr (1, [.int (nI N), .int (nI n), .int (pts + (nI 1)), .ref b1, .ref b2, .ref b3, .ref b4, .ref b5])), (b1, .inl (cI, 66, .inl xs)), (b2, .inl (cI, 66, .inl ys)), (b3, .inl (cI, 66, .inl px)), (b4, .inl (cI, 66, .inl py)), (b5, .inl (cI, 67, .inl rd))] H := hP
      have hD : va_D A [(h, .inr (1, [.int (nI N), .int (nI n), .int (pts + (nI 1)), .ref b1, .ref b2, .ref b3, .ref b4, .ref b5])), (b1, .inl (cI, 66, .inl xs)), (b2, .inl (cI, 66, .inl ys)), (b3, .inl (cI, 66, .inl px)), (b4, .inl (cI, 66, .inl py)), (b5, .inl (cI, 67, .inl rd))] := hD
      refine lv_iconst (v := nI 0) hx hb dX1_add_29 (by decide) ?_
      exact W.iret (v := nI 0) hx hb hr (fun t ht hW => ⟨⟨_, (xs, ys, px, py, rd, n, pts + (nI 1)), rfl, ⟨_, _, _, _, _, _, _, rfl, Or.inr ⟨b_2, r_13, hpl, Or.inl ⟨by omega, rfl, rfl, rfl, rfl, rfl⟩⟩⟩, by rw [ht]; exact hP, va_K.moved hW.alike hK, hD⟩, hS.F ht⟩) hS.2.2 dX1_add_30
  · refine lv_if_ne (tgt := 10) hx hb dX1_add_5 (by decide) (fun q => absurd q (by decide)) (fun _ => ?_)
    refine lv_iconst (v := -1) hx hb dX1_add_8 (by decide) ?_
    exact W.iret (v := -1) hx hb hr (fun t ht hW => ⟨⟨_, (xs, ys, px, py, rd, n, pts), rfl, ⟨_, _, _, _, _, _, _, rfl, Or.inl ⟨b_2, rfl, rfl, rfl, rfl, rfl⟩⟩, by rw [ht]; exact hP, va_K.moved hW.alike hK, hD⟩, hS.F ht⟩) hS.2.2 dX1_add_9
