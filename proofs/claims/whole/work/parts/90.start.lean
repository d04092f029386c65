set_option maxHeartbeats 4000000 in
set_option maxRecDepth 100000 in
/-- THE LAW, from its entry -/
theorem whole_start {p : Program} {e : Env} {s : State} {m : MethodId} {below : List Frame} {meth : Method} {c : Code} (l : Launch) {b L : Nat} {xs : Nat → Int32} (hL : L ≤ 2049) (C0 : lw_At p s m meth c b L xs) : W p l e room_1 s m #[Value.ref b] below meth c s.heap [] 0 0 (lw_Z below #[Value.ref b] s) (entryFrame m ([Value.ref b] : List Value).toArray 4) := by
  obtain ⟨hx, hb, hr, hml, hown0, hts0, hX, hbl, hlocks, hgv⟩ := id C0
  have hown : s.vm.findClass RL = some m.cls := hown0
  have hts : ∀ w ∈ wsL_law, w.before #[Value.ref b] s = true := fun w h => hts0 w (wsL_law_in w h)
  have hA : ∀ q : Nat, s.heap.size ≤ q → (fun q : Nat => s.heap.size ≤ q) q := fun _ h => h
  have hbA : ¬ (fun q : Nat => s.heap.size ≤ q) b := Nat.not_le.mpr hbl
  obtain ⟨c0, iS0, hKn0⟩ := u_known (C := RX0) (T := TX0) (N := 7) (n := 7) hts inlX0 (hts (.instantiable RX0 7) (by decide +kernel))
  obtain ⟨c1, iS1, hKn1⟩ := u_known (C := RX1) (T := TX1) (N := 8) (n := 8) hts inlX1 (hts (.instantiable RX1 8) (by decide +kernel))
  obtain ⟨dC, dI, hKc⟩ : ∃ (dC : Nat → ClassId) (dI : Nat → Nat → Nat), ∀ (k : Nat) (q : vw_C), vwCl[k]? = some q → u_Kn s q.1 q.2.1 q.2.2 (dC k) (dI k) := by
    refine ⟨fun k => if k = 0 then c0 else c1, fun k => if k = 0 then iS0 else iS1, ?_⟩
    intro k q hq
    match k, hq with
    | 0, hq => cases hq; exact hKn0
    | 1, hq => cases hq; exact hKn1
    | k + 2, hq => simp [vwCl] at hq
  obtain ⟨cI, kA, comp, hf1, hf2, hf3⟩ := Cond.arrayClass_spec (hts (.arrayClass .int) (by decide +kernel))
  have hS : va_S (fun q : Nat => s.heap.size ≤ q) s.heap s.heap [] := va_S.rf
  have hK : va_K (dC, dI) vwCl [(cI, .int)] s := ⟨hKc, fun k q h => by
    match k, h with
    | 0, h => cases h; exact ⟨fun n z => ⟨fun k h => (by cases h), kA, hf2, comp, hf3⟩, hf1⟩
    | k + 1, h => simp at h⟩
  have hP : va_P (dC, dI) vwCl [] s.heap := fun k q h => by simp at h
  have hD : va_D (fun q : Nat => s.heap.size ≤ q) [] := ⟨fun i j p q h => by simp at h, fun k q h => by simp at h⟩
  have hl := lv_entry ([.ref b]) (n := 4) (Nat.le_of_ble_eq_true rfl)
  rw [lg_entry_eq]
  generalize (lg_sl ([.ref b]) ++ List.replicate (4 - (lg_sl ([.ref b])).length) Slot.unset).toArray = ls at hl ⊢
  have hl : lv_has ls 4 [(0, .ref b)] := hl
  refine va_new (ci := 0) (fs := [.int 0, .null, .null, .null, .null, .int 0, .int 0]) (C := RX0) (T := TX0) (N := 7) hx hb hts inlX0 tyX0 tyX0_ok hown (hts (.classLink RL 7 RX0) (by decide +kernel)) (hts (.instantiable RX0 7) (by decide +kernel)) (hts (.initialized RX0) (by decide +kernel)) hK hP hD hS hA rfl (fun j hj => by rcases (show j = 0 ∨ j = 1 ∨ j = 2 ∨ j = 3 ∨ j = 4 ∨ j = 5 ∨ j = 6 by omega) with rfl | rfl | rfl | rfl | rfl | rfl | rfl <;> rfl) (Nat.le_of_ble_eq_true rfl) (Nat.le_of_ble_eq_true rfl) dL_law_0 (fun q0 H hP hD hS => ?_)
  have hP : va_P (dC, dI) vwCl [(q0, .inr (0, [.int 0, .null, .null, .null, .null, .int 0, .int 0]))] H := hP
  have hD : va_D (fun q : Nat => s.heap.size ≤ q) [(q0, .inr (0, [.int 0, .null, .null, .null, .null, .int 0, .int 0]))] := hD
  refine W.widen (k := 1) (n := 7) (by omega) (by omega) ?_
  refine lv_dup hx hb dL_law_3 rfl ?_
  refine lv_aload_n hx hb dL_law_4 rfl (lv_at hl 0 rfl) ?_
  refine lv_iconst (v := nI 0) hx hb dL_law_5 (by decide) ?_
  refine vp_callSi (va_Run.run (va_runS (As := [.ref b, .int (nI 0)]) (rest := [.ref q0, .ref q0]) ⟨hx, hb, hml, hown, hts⟩ (k_L_cell l b L xs hL) (va_cwS 2 hts gL_law_L_cell rfl rfl rfl (by decide +kernel) ⟨Nat.le_of_ble_eq_true rfl, Nat.le_of_ble_eq_true rfl⟩) (oh_preX hX hbl hbA hS) rfl rfl hl.1 rfl (lv_room (Nat.le_of_ble_eq_true rfl)) dL_law_6 ⟨Nat.le_of_ble_eq_true rfl, Nat.le_of_ble_eq_true rfl⟩)) (fun r_6 hr_6 => ?_)
  subst hr_6
  have hPc := hP.sub (ws' := [(q0, .inr (0, [.int 0, .null, .null, .null, .null, .int 0, .int 0]))]) [0] rfl
  have hDc := hD.sub (ws' := [(q0, .inr (0, [.int 0, .null, .null, .null, .null, .int 0, .int 0]))]) [0] (by decide) rfl
  have hFc := va_free (wc := [(q0, .inr (0, [.int 0, .null, .null, .null, .null, .int 0, .int 0]))]) hD hS hA [0] rfl
  refine va_callv (va_runI (As := [.int (oh_cell L xs)]) (rest := [.ref q0]) ⟨hx, hb, hml, hown, hts⟩ (k_X0_init l dC dI cI q0 H.size (oh_cell L xs)) (cwI 1 hts gL_law_X0_init rfl rfl rfl (hts (.initialized RX0) (by decide +kernel)) (hts (.methodLink RL 15 yX0_init) (by decide +kernel)) (hts (.instanceMethod yX0_init) (by decide +kernel)) rfl (by decide +kernel) ⟨Nat.le_of_ble_eq_true rfl, Nat.le_of_ble_eq_true rfl⟩) (oh_preI hK hPc hDc) rfl rfl hl.1 rfl (lv_room (Nat.le_of_ble_eq_true rfl)) dL_law_9 ⟨Nat.le_of_ble_eq_true rfl, Nat.le_of_ble_eq_true rfl⟩) hS (fun q _ h => hFc q h) hFc (fun u_9 t H1 locs ht hvm hw_9 hB hz1 hk1 hS => ?_)
  obtain ⟨a1, a2, a3, a4⟩ := u_9
  obtain ⟨hP1, hK1, hD1⟩ := hB
  rw [ht] at hP1
  obtain ⟨hP, hD⟩ := va_join (wr := []) (w1 := [(q0, .inr (0, [.int (nI (3 + oh_md (oh_cell L xs))), .ref a1, .ref a2, .ref a3, .ref a4, .int (nI 0), .int (nI 0)])), (a1, .inl (cI, 3 + oh_md (oh_cell L xs), .inl (fun _ => 0))), (a2, .inl (cI, 3 + oh_md (oh_cell L xs), .inl (fun _ => 0))), (a3, .inl (cI, 3 + oh_md (oh_cell L xs), .inl (fun _ => 0))), (a4, .inl (cI, 3 + oh_md (oh_cell L xs), .inl (fun _ => 0)))]) hP hD [0] [] rfl rfl (by decide) (by decide) hk1 hFc hP1 hD1
  generalize H1 = H at hP hS ⊢
  have hP : va_P (dC, dI) vwCl [(q0, .inr (0, [.int (nI (3 + oh_md (oh_cell L xs))), .ref a1, .ref a2, .ref a3, .ref a4, .int (nI 0), .int (nI 0)])), (a1, .inl (cI, 3 + oh_md (oh_cell L xs), .inl (fun _ => 0))), (a2, .inl (cI, 3 + oh_md (oh_cell L xs), .inl (fun _ => 0))), (a3, .inl (cI, 3 + oh_md (oh_cell L xs), .inl (fun _ => 0))), (a4, .inl (cI, 3 + oh_md (oh_cell L xs), .inl (fun _ => 0)))] H := hP
  have hD : va_D (fun q : Nat => s.heap.size ≤ q) [(q0, .inr (0, [.int (nI (3 + oh_md (oh_cell L xs))), .ref a1, .ref a2, .ref a3, .ref a4, .int (nI 0), .int (nI 0)])), (a1, .inl (cI, 3 + oh_md (oh_cell L xs), .inl (fun _ => 0))), (a2, .inl (cI, 3 + oh_md (oh_cell L xs), .inl (fun _ => 0))), (a3, .inl (cI, 3 + oh_md (oh_cell L xs), .inl (fun _ => 0))), (a4, .inl (cI, 3 + oh_md (oh_cell L xs), .inl (fun _ => 0)))] := hD
  clear hPc hDc hFc hP1 hK1 hD1 hk1 hz1 ht
  refine W.widen (k := 5) (n := 263) (by omega) (by omega) ?_
  refine lv_astore_n (lv' := [(1, .ref q0), (0, .ref b)]) hx hb dL_law_12 rfl hl (by decide) rfl (fun ls hl => ?_)
  refine va_new (ci := 1) (fs := [.int 0, .int 0, .int 0, .null, .null, .null, .null, .null]) (C := RX1) (T := TX1) (N := 8) hx hb hts inlX1 tyX1 tyX1_ok hown (hts (.classLink RL 18 RX1) (by decide +kernel)) (hts (.instantiable RX1 8) (by decide +kernel)) (hts (.initialized RX1) (by decide +kernel)) hK hP hD hS hA rfl (fun j hj => by rcases (show j = 0 ∨ j = 1 ∨ j = 2 ∨ j = 3 ∨ j = 4 ∨ j = 5 ∨ j = 6 ∨ j = 7 by omega) with rfl | rfl | rfl | rfl | rfl | rfl | rfl | rfl <;> rfl) (Nat.le_of_ble_eq_true rfl) (Nat.le_of_ble_eq_true rfl) dL_law_13 (fun q1 H hP hD hS => ?_)
  have hP : va_P (dC, dI) vwCl [(q0, .inr (0, [.int (nI (3 + oh_md (oh_cell L xs))), .ref a1, .ref a2, .ref a3, .ref a4, .int (nI 0), .int (nI 0)])), (a1, .inl (cI, 3 + oh_md (oh_cell L xs), .inl (fun _ => 0))), (a2, .inl (cI, 3 + oh_md (oh_cell L xs), .inl (fun _ => 0))), (a3, .inl (cI, 3 + oh_md (oh_cell L xs), .inl (fun _ => 0))), (a4, .inl (cI, 3 + oh_md (oh_cell L xs), .inl (fun _ => 0))), (q1, .inr (1, [.int 0, .int 0, .int 0, .null, .null, .null, .null, .null]))] H := hP
  have hD : va_D (fun q : Nat => s.heap.size ≤ q) [(q0, .inr (0, [.int (nI (3 + oh_md (oh_cell L xs))), .ref a1, .ref a2, .ref a3, .ref a4, .int (nI 0), .int (nI 0)])), (a1, .inl (cI, 3 + oh_md (oh_cell L xs), .inl (fun _ => 0))), (a2, .inl (cI, 3 + oh_md (oh_cell L xs), .inl (fun _ => 0))), (a3, .inl (cI, 3 + oh_md (oh_cell L xs), .inl (fun _ => 0))), (a4, .inl (cI, 3 + oh_md (oh_cell L xs), .inl (fun _ => 0))), (q1, .inr (1, [.int 0, .int 0, .int 0, .null, .null, .null, .null, .null]))] := hD
  refine W.widen (k := 6) (n := 271) (by omega) (by omega) ?_
  refine lv_dup hx hb dL_law_16 rfl ?_
  refine lv_aload_n hx hb dL_law_17 rfl (lv_at hl 1 rfl) ?_
  refine lv_iconst (v := nI 0) hx hb dL_law_18 (by decide) ?_
  refine vp_callSi (va_Run.run (va_runS (As := [.ref b, .int (nI 0)]) (rest := [.ref q1, .ref q1]) ⟨hx, hb, hml, hown, hts⟩ (k_L_cell l b L xs hL) (va_cwS 2 hts gL_law_L_cell rfl rfl rfl (by decide +kernel) ⟨Nat.le_of_ble_eq_true rfl, Nat.le_of_ble_eq_true rfl⟩) (oh_preX hX hbl hbA hS) rfl rfl hl.1 rfl (lv_room (Nat.le_of_ble_eq_true rfl)) dL_law_19 ⟨Nat.le_of_ble_eq_true rfl, Nat.le_of_ble_eq_true rfl⟩)) (fun r_19 hr_19 => ?_)
  subst hr_19
  have hPc := hP.sub (ws' := [(q1, .inr (1, [.int 0, .int 0, .int 0, .null, .null, .null, .null, .null]))]) [5] rfl
  have hDc := hD.sub (ws' := [(q1, .inr (1, [.int 0, .int 0, .int 0, .null, .null, .null, .null, .null]))]) [5] (by decide) rfl
  have hFc := va_free (wc := [(q1, .inr (1, [.int 0, .int 0, .int 0, .null, .null, .null, .null, .null]))]) hD hS hA [5] rfl
  refine va_callv (va_runI (As := [.int (oh_cell L xs)]) (rest := [.ref q1]) ⟨hx, hb, hml, hown, hts⟩ (k_X1_init l dC dI cI q1 H.size (oh_cell L xs)) (cwI 1 hts gL_law_X1_init rfl rfl rfl (hts (.initialized RX1) (by decide +kernel)) (hts (.methodLink RL 20 yX1_init) (by decide +kernel)) (hts (.instanceMethod yX1_init) (by decide +kernel)) rfl (by decide +kernel) ⟨Nat.le_of_ble_eq_true rfl, Nat.le_of_ble_eq_true rfl⟩) (oh_preI hK hPc hDc) rfl rfl hl.1 rfl (lv_room (Nat.le_of_ble_eq_true rfl)) dL_law_22 ⟨Nat.le_of_ble_eq_true rfl, Nat.le_of_ble_eq_true rfl⟩) hS (fun q _ h => hFc q h) hFc (fun u_22 t H1 locs ht hvm hw_22 hB hz1 hk1 hS => ?_)
  obtain ⟨b1, b2, b3, b4, b5⟩ := u_22
  obtain ⟨hP1, hK1, hD1⟩ := hB
  rw [ht] at hP1
  obtain ⟨hP, hD⟩ := va_join (wr := [(q0, .inr (0, [.int (nI (3 + oh_md (oh_cell L xs))), .ref a1, .ref a2, .ref a3, .ref a4, .int (nI 0), .int (nI 0)])), (a1, .inl (cI, 3 + oh_md (oh_cell L xs), .inl (fun _ => 0))), (a2, .inl (cI, 3 + oh_md (oh_cell L xs), .inl (fun _ => 0))), (a3, .inl (cI, 3 + oh_md (oh_cell L xs), .inl (fun _ => 0))), (a4, .inl (cI, 3 + oh_md (oh_cell L xs), .inl (fun _ => 0)))]) (w1 := [(q1, .inr (1, [.int (nI (3 + oh_md (oh_cell L xs))), .int 0, .int 0, .ref b1, .ref b2, .ref b3, .ref b4, .ref b5])), (b1, .inl (cI, 66, .inl (fun _ => 0))), (b2, .inl (cI, 66, .inl (fun _ => 0))), (b3, .inl (cI, 66, .inl (fun _ => 0))), (b4, .inl (cI, 66, .inl (fun _ => 0))), (b5, .inl (cI, 67, .inl (fun _ => 0)))]) hP hD [5] [0, 1, 2, 3, 4] rfl rfl (by decide) (by decide) hk1 hFc hP1 hD1
  generalize H1 = H at hP hS ⊢
  have hP : va_P (dC, dI) vwCl [(q0, .inr (0, [.int (nI (3 + oh_md (oh_cell L xs))), .ref a1, .ref a2, .ref a3, .ref a4, .int (nI 0), .int (nI 0)])), (a1, .inl (cI, 3 + oh_md (oh_cell L xs), .inl (fun _ => 0))), (a2, .inl (cI, 3 + oh_md (oh_cell L xs), .inl (fun _ => 0))), (a3, .inl (cI, 3 + oh_md (oh_cell L xs), .inl (fun _ => 0))), (a4, .inl (cI, 3 + oh_md (oh_cell L xs), .inl (fun _ => 0))), (q1, .inr (1, [.int (nI (3 + oh_md (oh_cell L xs))), .int 0, .int 0, .ref b1, .ref b2, .ref b3, .ref b4, .ref b5])), (b1, .inl (cI, 66, .inl (fun _ => 0))), (b2, .inl (cI, 66, .inl (fun _ => 0))), (b3, .inl (cI, 66, .inl (fun _ => 0))), (b4, .inl (cI, 66, .inl (fun _ => 0))), (b5, .inl (cI, 67, .inl (fun _ => 0)))] H := hP
  have hD : va_D (fun q : Nat => s.heap.size ≤ q) [(q0, .inr (0, [.int (nI (3 + oh_md (oh_cell L xs))), .ref a1, .ref a2, .ref a3, .ref a4, .int (nI 0), .int (nI 0)])), (a1, .inl (cI, 3 + oh_md (oh_cell L xs), .inl (fun _ => 0))), (a2, .inl (cI, 3 + oh_md (oh_cell L xs), .inl (fun _ => 0))), (a3, .inl (cI, 3 + oh_md (oh_cell L xs), .inl (fun _ => 0))), (a4, .inl (cI, 3 + oh_md (oh_cell L xs), .inl (fun _ => 0))), (q1, .inr (1, [.int (nI (3 + oh_md (oh_cell L xs))), .int 0, .int 0, .ref b1, .ref b2, .ref b3, .ref b4, .ref b5])), (b1, .inl (cI, 66, .inl (fun _ => 0))), (b2, .inl (cI, 66, .inl (fun _ => 0))), (b3, .inl (cI, 66, .inl (fun _ => 0))), (b4, .inl (cI, 66, .inl (fun _ => 0))), (b5, .inl (cI, 67, .inl (fun _ => 0)))] := hD
  clear hPc hDc hFc hP1 hK1 hD1 hk1 hz1 ht
  refine W.widen (k := 11) (n := 602) (by omega) (by omega) ?_
  refine lv_astore_n (lv' := [(2, .ref q1), (1, .ref q0), (0, .ref b)]) hx hb dL_law_25 rfl hl (by decide) rfl (fun ls hl => ?_)
  refine lv_iconst (v := nI 1) hx hb dL_law_26 (by decide) ?_
  refine lv_istore_n (lv' := [(3, .int (nI 1)), (2, .ref q1), (1, .ref q0), (0, .ref b)]) hx hb dL_law_27 rfl hl (by decide) rfl (fun ls hl => ?_)
  exact law_loop hL C0 hK (3 + oh_md (oh_cell L xs)) q0 a1 a2 a3 a4 q1 b1 b2 b3 b4 b5 (L + 4) 1 0 (nI 0) (fun _ => 0) (fun _ => 0) (fun _ => 0) (fun _ => 0) (fun _ => 0) (fun _ => 0) (fun _ => 0) (fun _ => 0) (fun _ => 0) (by omega) (by omega) (by omega) (oh_inv0 _ _ _ _ _) _ _ hP hD hS ls (lv_sub hl [3, 2, 1, 0] rfl)
