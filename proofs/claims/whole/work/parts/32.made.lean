/-! the rest of a division by 62; new rows -/
def oh_md (x : Int32) : Nat := (x.toInt % 62).toNat
theorem oh_md_lt (x : Int32) : oh_md x < 62 := by unfold oh_md; omega
theorem oh_tm (a : Int) : -62 < a.tmod 62 ∧ a.tmod 62 < 62 ∧ (0 ≤ a.tmod 62 → (0 ≤ a ∨ a.tmod 62 = 0)) ∧ (0 ≤ a.tmod 62 → a.tmod 62 = a % 62) ∧ (a.tmod 62 < 0 → a < 0 ∧ a.tmod 62 + 62 = a % 62) ∧ a - a.tdiv 62 * 62 = a.tmod 62 ∧ (a.tdiv 62 * 62 ≤ a ∨ a ≤ 0) ∧ (0 ≤ a → 0 ≤ a.tdiv 62) ∧ (a ≤ 0 → a ≤ a.tdiv 62 * 62 ∧ a.tdiv 62 ≤ 0) := by
  rcases oh_lg a 0 with h | h
  · obtain ⟨b, rfl⟩ : ∃ b, a = -b := ⟨-a, by omega⟩
    rw [Int.neg_tmod, Int.neg_tdiv, Int.tmod_eq_emod_of_nonneg (by omega), Int.tdiv_eq_ediv_of_nonneg (by omega)]
    omega
  · rw [Int.tmod_eq_emod_of_nonneg h, Int.tdiv_eq_ediv_of_nonneg h]
    omega
theorem oh_rem {x t : Int32} (e : t = x - x / nI 62 * nI 62) : t.toInt = x.toInt.tmod 62 := by
  have h62 : (nI 62).toInt = 62 := by decide
  have k := oh_tm x.toInt
  have b1 := x.toInt_lt
  have b2 := x.le_toInt
  have e1 : (x / nI 62).toInt = x.toInt.tdiv 62 := by
    rw [Int32.toInt_div_of_ne_right _ _ (by decide), h62]
  have e2 : (x / nI 62 * nI 62).toInt = x.toInt.tdiv 62 * 62 := by
    rw [oh_mul (by rw [e1, h62]; omega) (by rw [e1, h62]; omega), e1, h62]
  rw [e, oh_sub (by rw [e2]; omega) (by rw [e2]; omega), e2]
  omega
theorem oh_xs (x : Int32) : (x ^^^ nI 62).toInt < 0 ↔ x.toInt < 0 := by
  have a : ∀ y : Int32, y.toInt < 0 ↔ y.toBitVec.msb = true := fun y => by
    rw [BitVec.msb_eq_toInt, decide_eq_true_iff]; rfl
  rw [a, a, Int32.toBitVec_xor, BitVec.msb_xor, show (nI 62).toBitVec.msb = false by decide, Bool.xor_false]
theorem oh_md2 {x t : Int32} (h : t.toInt = x.toInt.tmod 62) (h0 : 0 ≤ t.toInt) : t = nI (oh_md x) := by
  have k := oh_tm x.toInt
  apply Int32.toInt_inj.mp
  rw [nI_toInt (by have := oh_md_lt x; omega)]
  unfold oh_md
  omega
theorem oh_md3 {x t : Int32} (h : t.toInt = x.toInt.tmod 62) (h0 : t.toInt < 0) : t + nI 62 = nI (oh_md x) := by
  have k := oh_tm x.toInt
  have h62 : (nI 62).toInt = 62 := by decide
  apply Int32.toInt_inj.mp
  rw [nI_toInt (by have := oh_md_lt x; omega), oh_add (by omega) (by omega)]
  unfold oh_md
  omega
section
variable {p : Program} {l : Launch} {e : Env} {R : Room} {s : State} {m : MethodId} {args : Array Value} {below : List Frame} {meth : Method} {c : Code} {H : Heap} {locs : List Loc} {cells slots : Nat} {Q : State → Prop}
variable {cc : ByteArray} {pc : Nat} {ls : Array Slot} {rest : List Value} {D : va_G} {cl : List vw_C} {A : Nat → Prop} {ws : va_W} {H0 : Heap}
theorem oh_newa (hexec : p.tables.exec = Jvm.exec) (hb : c.code = cc) {cI : ClassId} (harr : (Cond.arrayClass .int).before args s = true) (hK : va_K D cl [(cI, .int)] s) (hP : va_P D cl ws H) (hD : va_D A ws) (hS : va_S A H0 H locs) (hA : ∀ q, H0.size ≤ q → A q) {k : Nat} (hk : k ≤ 1000) (hcells : cells + 1 ≤ R.cells) (hslots : slots + k ≤ R.slots) (hdg : decode cc pc = .ok (.newarray .int, 2))
    (kk : ∀ (q : Nat) (H1 : Heap), va_P D cl (ws ++ [(q, .inl (cI, k, .inl (fun _ => (0 : Int32))))]) H1 → va_D A (ws ++ [(q, .inl (cI, k, .inl (fun _ => (0 : Int32))))]) → va_S A H0 H1 locs → W p l e R s m args below meth c H1 locs (cells + 1) (slots + k) Q (F0 m (pc + 2) ls (.ref q :: rest))) : W p l e R s m args below meth c H locs cells slots Q (F0 m pc ls (.int (nI k) :: rest)) := by
  refine va_newa (atype := ArrayType.int) (n := nI k) (N' := k) (a0 := (k, .inl (fun _ => (0 : Int32)))) (ty := .int) hexec hb harr rfl hK hP hD hS hA (fun cA => rfl) (nI_pos (by omega)) (nI_clamp (by omega)) (by show k * 4 ≤ _; omega) hcells hslots hdg (fun q cA H1 hK1 hP1 hD1 hS1 => ?_)
  have e1 : s.vm.findClass ("[" ++ (FieldType.int).toString) = some cI := (hK.2 0 (cI, .int) rfl).2
  have e2 : s.vm.findClass ("[" ++ (FieldType.int).toString) = some cA := (hK1.2 1 (cA, .int) rfl).2
  have e3 : cI = cA := Option.some.inj (e1.symm.trans e2)
  subst e3
  exact kk q H1 hP1 hD1 hS1
end
theorem oh_preI {s : State} {H : Heap} {D : va_G} {cl : List vw_C} {wc : va_W} {tys : List (ClassId × FieldType)} {A : Nat → Prop} {av : List Value} (hK : va_K D cl tys s) (hP : va_P D cl wc H) (hD : va_D A wc) : PreS s H (va_Pc av (fun U => U.heap.size = H.size ∧ va_P D cl wc U.heap ∧ va_K D cl tys U ∧ va_D (fun _ => True) wc)) av :=
  ⟨oh_blM, fun U hU hW => ⟨rfl, by rw [hU], by rw [hU]; exact hP, va_K.moved hW.alike hK, hD.weaken (fun _ _ _ _ => trivial)⟩⟩
section
variable {p : Program} {l : Launch} {e : Env} {R : Room} {s : State} {m : MethodId} {args : Array Value} {below : List Frame} {meth : Method} {c : Code} {H : Heap} {locs : List Loc} {cells slots : Nat} {Q : State → Prop}
variable {cc : ByteArray} {pc : Nat} {ls : Array Slot} {rest : List Value} {A : Nat → Prop} {H0 : Heap}
theorem oh_sld (hexec : p.tables.exec = Jvm.exec) (hb : c.code = cc) {b L : Nat} {xs : Nat → Int32} (hX : va_X b L xs s H0) (hbl : b < H0.size) (hbA : ¬ A b) (hS : va_S A H0 H locs) {k : Nat} (hk : k < L) (hL : L < 2 ^ 31) (hdg : decode cc pc = .ok (.iaload, 1))
    (kk : W p l e R s m args below meth c H locs cells slots Q (F0 m (pc + 1) ls (.int (xs k) :: rest))) : W p l e R s m args below meth c H locs cells slots Q (F0 m pc ls (.int (nI k) :: .ref b :: rest)) := by
  refine va_sld hexec hb hX hbl hbA hS (vp_in_nI hk hL) hdg ?_
  rw [nI_clamp (Nat.lt_trans hk hL)]
  exact kk
end
def oh_cell (L : Nat) (xs : Nat → Int32) : Int32 := if 0 < L then xs 0 else 0
theorem oh_blX {av : List Value} {b L : Nat} {xs : Nat → Int32} : FrameBlind (va_Pc av (fun U => va_X b L xs U U.heap)) := by
  intro a U g mk q
  obtain ⟨q0, scr, h1, h2, h3, h4, h5⟩ := q
  exact ⟨q0, scr, h1, State.isArrayOf_alike (s := U) (T := U.calling g mk a) (Vm.Alike.refl U.vm) h2, h3, h4, h5⟩
theorem oh_preX {s : State} {H H0 : Heap} {av : List Value} {A : Nat → Prop} {locs : List Loc} {b L : Nat} {xs : Nat → Int32} (hX : va_X b L xs s H0) (hbl : b < H0.size) (hbA : ¬ A b) (hS : va_S A H0 H locs) : PreS s H (va_Pc av (fun U => va_X b L xs U U.heap)) av := by
  refine ⟨oh_blX, fun U hU hW => ⟨rfl, ?_⟩⟩
  obtain ⟨scr, h1, h2, h3, h4, h5⟩ := hX
  exact ⟨scr, by rw [hU, hS.2.1 b hbl hbA]; exact h1, State.isArrayOf_alike hW.alike h2, h3, h4, h5⟩
/-- a contract by a walk, also of a method beside which the machine runs some members by entries, if it has no entry for this one -/
theorem oh_ofWF {l : Launch} {y : MethodName} {ws ws' : List Cond} {rm : Room} {Pc : Array Value → State → Prop} {Qc : Array Value → State → Outcome → State → Prop} {mc ms : Nat} {free : Addr → Prop} {cc : ByteArray} {maxL : Nat} {ret : Option FieldType}
    (hy : plainFor y = true) (hw : ws = Cond.code y cc maxL ret :: ws')
    (body : ∀ p e s m args below meth c s₁, BodyLoose p l y (headSpec ws rm) cc maxL ret e s m args below meth c s₁ → c.maxLocals = maxL → Pc args s →
      W p l e (headSpec ws rm).room s m args below meth c s.heap [] 0 0 (MQ below Qc args s mc ms free) (entryFrame m args maxL)) : Met l y ws rm Pc Qc mc ms free := by
  refine MetFree.of_bodySF (code := cc) (maxLocals := maxL) (ret := ret) hy ?_ ?_
  · intro args s m h hn
    obtain ⟨meth, c, h1, h2, h3, h4, h5, h6, -, -⟩ := Cond.code_spec hn (atoms_spec (ws := ws) h _ (by rw [hw]; exact List.mem_cons_self))
    exact ⟨meth, c, h1, h2, h3, h4, h5, h6⟩
  · intro p e s m args below meth c s₁ B hml hP _
    have hh0 : s₁.heap = s.heap := by rw [B.state]; rfl
    obtain ⟨t, a1, o, b1, b2, b3⟩ := body p e s m args below meth c s₁ B hml hP s₁ hh0 (Stand.of_body B)
    exact ⟨t, o, a1, b1, b2, ⟨b3.1, b3.2⟩⟩
