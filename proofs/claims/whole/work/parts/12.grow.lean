theorem oh_rot0 {n L : Nat} (h : L < n) : oh_rot n L 0 = L := by unfold oh_rot; rw [if_pos (by omega)]; rfl
theorem oh_rot_inj {n L s t : Nat} (h : L < n) (hs : s < n) (ht : t < n) (e : oh_rot n L s = oh_rot n L t) : s = t := by
  unfold oh_rot at e; split at e <;> split at e <;> omega
theorem oh_rot_nx {n L t : Nat} (h : L < n) (ht : t + 1 < n) : oh_nx n (oh_rot n L t) = oh_rot n L (t + 1) := by
  unfold oh_rot oh_nx; split <;> split <;> split <;> omega
theorem oh_rot_pv {n L t : Nat} (h : L < n) (ht : t + 1 < n) : oh_pv n (oh_rot n L (t + 1)) = oh_rot n L t := by
  unfold oh_rot oh_pv; split <;> split <;> split <;> omega
theorem oh_rot_last {n L : Nat} (h : L < n) : oh_rot n L (n - 1) = oh_pv n L := by
  unfold oh_rot oh_pv; split <;> split <;> omega
theorem oh_rot_sur {n L i : Nat} (h : L < n) (hi : i < n) : ∃ t, t < n ∧ oh_rot n L t = i := by
  by_cases g : L ≤ i
  · exact ⟨i - L, by omega, by unfold oh_rot; rw [if_pos (by omega)]; omega⟩
  · exact ⟨i + n - L, by omega, by unfold oh_rot; rw [if_neg (by omega)]; omega⟩
theorem oh_rot_nxr {m r i : Nat} (hr : r < m) (hi : i < m) : oh_rot m r (oh_nx m i) = oh_nx m (oh_rot m r i) := by
  unfold oh_rot oh_nx; split <;> split <;> split <;> (try split) <;> omega
theorem oh_cvx_rot {n L : Nat} {P : Nat → Int × Int} (h : oh_cvx n P) (hL : L < n) : oh_cvx n (fun i => P (oh_rot n L i)) := by
  intro i j k h1 h2 h3
  apply oh_cvx3 h (oh_rot_lt hL (by omega)) (oh_rot_lt hL (by omega)) (oh_rot_lt hL h3)
  unfold oh_rot
  split <;> split <;> split <;> omega
theorem oh_cvx_ne {n : Nat} {P : Nat → Int × Int} (h : oh_cvx n P) (hn : 3 ≤ n) {i j : Nat} (hij : i < j) (hj : j < n) : P i ≠ P j := by
  intro e
  by_cases h0 : 0 < i
  · have := h 0 i j h0 hij hj
    rw [e, oh_s2] at this; omega
  · by_cases h1 : 1 < j
    · have := h i 1 j (by omega) h1 hj
      rw [e, oh_s1] at this; omega
    · have := h i j 2 hij (by omega) (by omega)
      rw [e, oh_s3] at this; omega

section
variable {n : Nat} {P : Nat → Int × Int} {q : Int × Int} {F L k : Nat}
/-- the sides from L on to F have q on their left -/
theorem oh_run (h : oh_cvx n P) (ho : oh_out n P q) (hF : F < n) (hL : L < n) (f1 : oh_sd n P q F ≤ 0) (f0 : 0 < oh_sd n P q (oh_pv n F)) (l1 : 0 < oh_sd n P q L) (hkn : k ≤ n) (hk : oh_rot n L (k - 1) = F) : ∀ t, t + 1 < k → 0 < oh_sd n P q (oh_rot n L t) := by
  intro t
  induction t with
  | zero => intro _; rw [oh_rot0 hL]; exact l1
  | succ t ih =>
    intro ht
    have g := ih (by omega)
    rcases oh_lg 0 (oh_sd n P q (oh_rot n L (t + 1))) with w | w
    · exact w
    · exfalso
      have hn : 3 ≤ n := by omega
      have e := oh_uF h hn (oh_rot_lt hL (show t + 1 < n by omega)) w (by rw [oh_rot_pv hL (by omega)]; exact g) hF f1 f0
      have := oh_rot_inj hL (show t + 1 < n by omega) (show k - 1 < n by omega) (e.trans hk.symm)
      omega
/-- the sides from F on to L do not -/
theorem oh_run2 (h : oh_cvx n P) (hn : 3 ≤ n) (hL : L < n) (f1 : oh_sd n P q F ≤ 0) (l1 : 0 < oh_sd n P q L) (l0 : oh_sd n P q (oh_pv n L) ≤ 0) (hk : oh_rot n L (k - 1) = F) : ∀ t, (k - 1) + t < n → oh_sd n P q (oh_rot n L ((k - 1) + t)) ≤ 0 := by
  intro t
  induction t with
  | zero => intro _; rw [Nat.add_zero, hk]; exact f1
  | succ t ih =>
    intro ht
    have g := ih (by omega)
    rcases oh_lg 0 (oh_sd n P q (oh_rot n L ((k - 1) + (t + 1)))) with w | w
    · exfalso
      have e := oh_uL h hn (oh_rot_lt hL ht) w (by rw [← Nat.add_assoc, oh_rot_pv hL (by omega)]; exact g) hL l1 l0
      have := oh_rot_inj hL ht (show 0 < n by omega) (e.trans (oh_rot0 hL).symm)
      omega
    · exact w
theorem oh_ray0 (h : oh_cvx n P) (ho : oh_out n P q) (hF : F < n) (hL : L < n) (f1 : oh_sd n P q F ≤ 0) (f0 : 0 < oh_sd n P q (oh_pv n F)) (l1 : 0 < oh_sd n P q L) (l0 : oh_sd n P q (oh_pv n L) ≤ 0) (hkn : k ≤ n) (hk : oh_rot n L (k - 1) = F) {t : Nat} (ht0 : 0 < t) (ht : t < k) : 0 < oh_cp q (P L) (P (oh_rot n L t)) := by
  have hne : oh_rot n L t ≠ L := fun e => by
    have := oh_rot_inj hL (show t < n by omega) (show 0 < n by omega) (e.trans (oh_rot0 hL).symm)
    omega
  have hrun := oh_run h ho hF hL f1 f0 l1 hkn hk
  rcases ho with ⟨hn, j, hj, hneg⟩ | ⟨hn, hz⟩
  · rcases oh_lastE h hn hL l1 l0 (oh_rot_lt hL (show t < n by omega)) hne with g | ⟨g1, g2, g3⟩
    · exact g
    · exfalso
      have e1 := oh_rot_inj hL (show t < n by omega) (show n - 1 < n by omega) (g1.trans (oh_rot_last hL).symm)
      obtain ⟨s, hs, es⟩ := oh_rot_sur hL hj
      by_cases hsn : s = n - 1
      · rw [hsn, oh_rot_last hL] at es
        rw [← es] at hneg
        omega
      · have := hrun s (by omega)
        rw [es] at this
        omega
  · rw [oh_cyc]
    have e : oh_rot n L t = oh_nx n L := by unfold oh_rot oh_nx; split <;> split <;> omega
    rw [e]; exact l1
theorem oh_rays (h : oh_cvx n P) (ho : oh_out n P q) (hF : F < n) (hL : L < n) (f1 : oh_sd n P q F ≤ 0) (f0 : 0 < oh_sd n P q (oh_pv n F)) (l1 : 0 < oh_sd n P q L) (l0 : oh_sd n P q (oh_pv n L) ≤ 0) (hkn : k ≤ n) (hk : oh_rot n L (k - 1) = F) : ∀ j, j < k → ∀ i, i < j → 0 < oh_cp q (P (oh_rot n L i)) (P (oh_rot n L j)) := by
  have hrun := oh_run h ho hF hL f1 f0 l1 hkn hk
  have hray : ∀ t, 0 < t → t < k → 0 < oh_cp q (P L) (P (oh_rot n L t)) := fun t h1 h2 => oh_ray0 h ho hF hL f1 f0 l1 l0 hkn hk h1 h2
  intro j
  induction j with
  | zero => intro _ i hi; omega
  | succ j ih =>
    intro hj i hi
    have hs : 0 < oh_cp q (P (oh_rot n L j)) (P (oh_rot n L (j + 1))) := by
      have g := hrun j hj
      unfold oh_sd at g
      rw [oh_rot_nx hL (by omega)] at g
      rw [oh_cyc]; exact g
    by_cases hij : i = j
    · rw [hij]; exact hs
    · by_cases hi0 : i = 0
      · rw [hi0, oh_rot0 hL]; exact hray (j + 1) (by omega) hj
      · have e := oh_pl q (P L) (P (oh_rot n L j)) (P (oh_rot n L i)) (P (oh_rot n L (j + 1)))
        have p1 := hray j (by omega) (by omega)
        have p2 := Int.mul_pos (hray i (by omega) (by omega)) hs
        have p3 := Int.mul_pos (hray (j + 1) (by omega) hj) (ih (by omega) i (by omega))
        exact oh_pos p1 (by rw [e]; omega)
theorem oh_Gn : oh_G n P q n = q := by unfold oh_G; rw [if_neg (Nat.lt_irrefl n)]
theorem oh_Gi {i : Nat} (h : i < n) : oh_G n P q i = P i := by unfold oh_G; rw [if_pos h]
theorem oh_sg0 : oh_sg n L 0 = n := by unfold oh_sg; rw [if_pos rfl]
theorem oh_sgS (i : Nat) : oh_sg n L (i + 1) = oh_rot n L i := by unfold oh_sg; rw [if_neg (by omega)]; rfl
/-- the new ring is strictly convex -/
theorem oh_ringC (h : oh_cvx n P) (ho : oh_out n P q) (hF : F < n) (hL : L < n) (f1 : oh_sd n P q F ≤ 0) (f0 : 0 < oh_sd n P q (oh_pv n F)) (l1 : 0 < oh_sd n P q L) (l0 : oh_sd n P q (oh_pv n L) ≤ 0) (hkn : k ≤ n) (hk : oh_rot n L (k - 1) = F) : oh_cvx (k + 1) (fun i => oh_G n P q (oh_sg n L i)) := by
  have hrays := oh_rays h ho hF hL f1 f0 l1 l0 hkn hk
  intro i j l h1 h2 h3
  obtain ⟨j, rfl⟩ : ∃ j', j = j' + 1 := ⟨j - 1, by omega⟩
  obtain ⟨l, rfl⟩ : ∃ l', l = l' + 1 := ⟨l - 1, by omega⟩
  show 0 < oh_cp (oh_G n P q (oh_sg n L i)) (oh_G n P q (oh_sg n L (j + 1))) (oh_G n P q (oh_sg n L (l + 1)))
  rw [oh_sgS, oh_sgS, oh_Gi (oh_rot_lt hL (by omega)), oh_Gi (oh_rot_lt hL (by omega))]
  by_cases hi : i = 0
  · rw [hi, oh_sg0, oh_Gn]
    exact hrays l (by omega) j (by omega)
  · obtain ⟨i, rfl⟩ : ∃ i', i = i' + 1 := ⟨i - 1, by omega⟩
    rw [oh_sgS, oh_Gi (oh_rot_lt hL (by omega))]
    exact oh_cvx_rot h hL i j l (by omega) (by omega) (by omega)
/-- its edges have all points on the left, or between their ends -/
theorem oh_ringE (h : oh_cvx n P) (ho : oh_out n P q) (hF : F < n) (hL : L < n) (f1 : oh_sd n P q F ≤ 0) (f0 : 0 < oh_sd n P q (oh_pv n F)) (l1 : 0 < oh_sd n P q L) (l0 : oh_sd n P q (oh_pv n L) ≤ 0) (h2k : 2 ≤ k) (hkn : k ≤ n) (hk : oh_rot n L (k - 1) = F) {e w : Nat} (he : e < k + 1) (hw : w < n + 1) (w1 : w ≠ oh_sg n L e) (w2 : w ≠ oh_sg n L (oh_nx (k + 1) e)) : oh_edg (oh_G n P q (oh_sg n L e)) (oh_G n P q (oh_sg n L (oh_nx (k + 1) e))) (oh_G n P q w) := by
  by_cases e0 : e = 0
  · subst e0
    have en : oh_nx (k + 1) 0 = 0 + 1 := by unfold oh_nx; rw [if_pos (by omega)]
    rw [en, oh_sgS, oh_rot0 hL] at w2 ⊢
    rw [oh_sg0] at w1 ⊢
    rw [oh_Gn, oh_Gi hL, oh_Gi (show w < n by omega)]
    exact oh_edgL h ho hL l1 l0 (by omega) w2
  · obtain ⟨e, rfl⟩ : ∃ e', e = e' + 1 := ⟨e - 1, by omega⟩
    rw [oh_sgS] at w1 ⊢
    by_cases ek : e + 1 = k
    · have en : oh_nx (k + 1) (e + 1) = 0 := by unfold oh_nx; rw [if_neg (by omega)]
      rw [en, oh_sg0] at w2 ⊢
      rw [show e = k - 1 by omega, hk] at w1 ⊢
      rw [oh_Gn, oh_Gi hF, oh_Gi (show w < n by omega)]
      exact oh_edgF h ho hF f1 f0 (by omega) w1
    · have en : oh_nx (k + 1) (e + 1) = e + 1 + 1 := by unfold oh_nx; rw [if_pos (by omega)]
      rw [en, oh_sgS] at w2 ⊢
      have hs := oh_run h ho hF hL f1 f0 l1 hkn hk e (by omega)
      have enx := oh_rot_nx hL (show e + 1 < n by omega)
      rw [oh_Gi (oh_rot_lt hL (show e < n by omega)), oh_Gi (oh_rot_lt hL (show e + 1 < n by omega))]
      left
      rw [← enx] at w2 ⊢
      by_cases wn : w = n
      · rw [wn, oh_Gn]; exact hs
      · rw [oh_Gi (show w < n by omega)]
        exact oh_atN h (oh_rot_lt hL (by omega)) (by omega) w1 w2
theorem oh_qne (h : oh_cvx n P) (ho : oh_out n P q) {i : Nat} (hi : i < n) : q ≠ P i := by
  intro e
  rcases ho with ⟨hn, j, hj, hneg⟩ | ⟨hn, hz⟩
  · have := oh_sidePos h hj hi
    unfold oh_sd at hneg
    rw [e] at hneg
    omega
  · subst hn
    apply hz
    unfold oh_sd
    rw [show oh_nx 2 0 = 1 from rfl, e]
    rcases (show i = 0 ∨ i = 1 by omega) with g | g <;> subst g
    · exact oh_s1 _ _
    · exact oh_s2 _ _
/-- the least of the ring is the least of all -/
theorem oh_ringL (h : oh_cvx n P) (hl : ∀ i, 0 < i → i < n → oh_lx (P 0) (P i)) (ho : oh_out n P q) (hF : F < n) (hL : L < n) (f1 : oh_sd n P q F ≤ 0) (f0 : 0 < oh_sd n P q (oh_pv n F)) (l1 : 0 < oh_sd n P q L) (l0 : oh_sd n P q (oh_pv n L) ≤ 0) (h2k : 2 ≤ k) (hkn : k ≤ n) (hk : oh_rot n L (k - 1) = F) {r : Nat} (hr : r < k + 1) (hmin : ∀ i, i < k + 1 → ¬ oh_lx (oh_G n P q (oh_sg n L i)) (oh_G n P q (oh_sg n L r))) :
    ∀ w, w < n + 1 → w ≠ oh_sg n L r → oh_lx (oh_G n P q (oh_sg n L r)) (oh_G n P q w) := by
  have hc := oh_ringC h ho hF hL f1 f0 l1 l0 hkn hk
  have hmin2 : ∀ i, i < k + 1 → i ≠ r → oh_lx (oh_G n P q (oh_sg n L r)) (oh_G n P q (oh_sg n L i)) := fun i hi hir => by
    have hne : oh_G n P q (oh_sg n L r) ≠ oh_G n P q (oh_sg n L i) := by
      rcases Nat.lt_or_gt_of_ne hir with g | g
      · exact fun e => oh_cvx_ne hc (by omega) g hr e.symm
      · exact oh_cvx_ne hc (by omega) g hi
    rcases oh_lx_tot hne with g | g
    · exact g
    · exact absurd g (hmin i hi)
  have hle : ∀ i, i < n → i = 0 ∨ oh_lx (P 0) (P i) := fun i hi => by
    by_cases g : i = 0
    · exact Or.inl g
    · exact Or.inr (hl i (by omega) hi)
  rcases oh_lx_tot (oh_qne h ho (show 0 < n by omega)) with hq | hq
  · have hr0 : r = 0 := by
      by_cases g : r = 0
      · exact g
      · exfalso
        have g2 := hmin2 0 (by omega) (fun e => g e.symm)
        obtain ⟨r, rfl⟩ : ∃ r', r = r' + 1 := ⟨r - 1, by omega⟩
        rw [oh_sg0, oh_Gn, oh_sgS, oh_Gi (oh_rot_lt hL (by omega))] at g2
        rcases hle _ (oh_rot_lt hL (show r < n by omega)) with e | e
        · rw [e] at g2; exact oh_lx_as hq g2
        · exact oh_lx_as (oh_lx_tr hq e) g2
    subst hr0
    intro w hw hwn
    rw [oh_sg0] at hwn ⊢
    rw [oh_Gn, oh_Gi (show w < n by omega)]
    rcases hle w (by omega) with e | e
    · rw [e]; exact hq
    · exact oh_lx_tr hq e
  · obtain ⟨t, ht, et⟩ := oh_rot_sur hL (show 0 < n by omega)
    have htk : t < k := by
      rcases Nat.lt_or_ge t k with g | g
      · exact g
      · exfalso
        have hn : 3 ≤ n := by omega
        have s0 := oh_run2 h hn hL f1 l1 l0 hk (t - (k - 1)) (by omega)
        have s1 := oh_run2 h hn hL f1 l1 l0 hk (t - 1 - (k - 1)) (by omega)
        rw [show k - 1 + (t - (k - 1)) = t by omega, et] at s0
        rw [show k - 1 + (t - 1 - (k - 1)) = t - 1 by omega] at s1
        have ep := oh_rot_pv hL (show (t - 1) + 1 < n by omega)
        rw [show t - 1 + 1 = t by omega, et] at ep
        rw [← ep] at s1
        have e2 := oh_sd_pv (P := P) (q := q) (show 0 < n by omega)
        have hD := oh_atD h hn (show 0 < n by omega)
        have hx := oh_vec1 (P (oh_pv n 0)) (P 0) (P (oh_nx n 0)) q
        have hy := oh_vec2 (P (oh_pv n 0)) (P 0) (P (oh_nx n 0)) q
        have e3 : oh_cp (P 0) q (P (oh_pv n 0)) ≤ 0 := by rw [oh_swap2]; omega
        have e4 : oh_cp (P 0) (P (oh_nx n 0)) q ≤ 0 := s0
        have n1 := hl (oh_nx n 0) (by unfold oh_nx; rw [if_pos (by omega)]; omega) (oh_nx_lt (by omega))
        have n2 := hl (oh_pv n 0) (by unfold oh_pv; rw [if_neg (by omega)]; omega) (oh_pv_lt (by omega))
        unfold oh_lx at n1 n2 hq
        exact oh_lexcone hD e3 e4 hx hy (by omega) (by omega) (by omega)
    have hrt : r = t + 1 := by
      by_cases g : r = t + 1
      · exact g
      · exfalso
        have g2 := hmin2 (t + 1) (by omega) (fun e => g e.symm)
        rw [oh_sgS, et, oh_Gi (show 0 < n by omega)] at g2
        by_cases r0 : r = 0
        · rw [r0, oh_sg0, oh_Gn] at g2
          exact oh_lx_as hq g2
        · obtain ⟨r, rfl⟩ : ∃ r', r = r' + 1 := ⟨r - 1, by omega⟩
          rw [oh_sgS, oh_Gi (oh_rot_lt hL (by omega))] at g2
          rcases hle _ (oh_rot_lt hL (show r < n by omega)) with e | e
          · exact g (by rw [oh_rot_inj hL (by omega) ht (e.trans et.symm)])
          · exact oh_lx_as e g2
    intro w hw hwn
    rw [hrt, oh_sgS, et] at hwn ⊢
    rw [oh_Gi (show 0 < n by omega)]
    by_cases wn : w = n
    · rw [wn, oh_Gn]; exact hq
    · rw [oh_Gi (show w < n by omega)]
      exact hl w (by omega) (by omega)
/-- all of it, for the ring turned so that its least comes first -/
theorem oh_grow (h : oh_cvx n P) (hl : ∀ i, 0 < i → i < n → oh_lx (P 0) (P i)) (ho : oh_out n P q) (hF : F < n) (hL : L < n) (f1 : oh_sd n P q F ≤ 0) (f0 : 0 < oh_sd n P q (oh_pv n F)) (l1 : 0 < oh_sd n P q L) (l0 : oh_sd n P q (oh_pv n L) ≤ 0) (h2k : 2 ≤ k) (hkn : k ≤ n) (hk : oh_rot n L (k - 1) = F) {r : Nat} (hr : r < k + 1) (hmin : ∀ i, i < k + 1 → ¬ oh_lx (oh_G n P q (oh_sg n L i)) (oh_G n P q (oh_sg n L r))) :
    oh_ring (n + 1) (oh_G n P q) (k + 1) (fun i => oh_sg n L (oh_rot (k + 1) r i)) ∧ oh_cvx (k + 1) (fun i => oh_G n P q (oh_sg n L (oh_rot (k + 1) r i))) := by
  refine ⟨⟨by omega, by omega, ?_, ?_, ?_, ?_⟩, oh_cvx_rot (P := fun i => oh_G n P q (oh_sg n L i)) (oh_ringC h ho hF hL f1 f0 l1 l0 hkn hk) hr⟩
  · intro i hi
    have g := oh_rot_lt hr hi
    unfold oh_sg
    dsimp only
    split
    · omega
    · have := oh_rot_lt hL (show oh_rot (k + 1) r i - 1 < n by omega)
      omega
  · intro i j hij hj e
    have g1 := oh_rot_lt hr (show i < k + 1 by omega)
    have g2 := oh_rot_lt hr hj
    have hne : oh_rot (k + 1) r i ≠ oh_rot (k + 1) r j := fun e => by
      have := oh_rot_inj hr (by omega) hj e
      omega
    unfold oh_sg at e
    dsimp only at e
    split at e <;> split at e
    · omega
    · have := oh_rot_lt hL (show oh_rot (k + 1) r j - 1 < n by omega)
      omega
    · have := oh_rot_lt hL (show oh_rot (k + 1) r i - 1 < n by omega)
      omega
    · have := oh_rot_inj hL (by omega) (by omega) e
      omega
  · intro i hi w hw w1 w2
    dsimp only at w1 w2 ⊢
    rw [oh_rot_nxr hr hi] at w2 ⊢
    exact oh_ringE h ho hF hL f1 f0 l1 l0 h2k hkn hk (oh_rot_lt hr hi) hw w1 w2
  · dsimp only
    rw [oh_rot0 hr]
    exact oh_ringL h hl ho hF hL f1 f0 l1 l0 h2k hkn hk hr hmin
end
