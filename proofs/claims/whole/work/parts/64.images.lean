/-! images -/
theorem keep_0 {S : Mm} (hI : Inv S) : ∃ r X M, f_X10_keep S 0 = some (r, X) ∧ Mh S X ∧ f_X11_keep X 0 = some (r, M) ∧ Xh X M ∧ Inv (cmb X M) := by
  obtain ⟨r1, r2, r3, ⟨kn, u1, u2, u3, u4, u5, u6⟩, ⟨h0, h1, i1, i2, i3, i4, i5⟩, hT⟩ := id hI
  obtain ⟨-, -, s1, s2, s3⟩ := id hT
  have hx : f_X10_keep S 0 = some (1, wr (wr (wr (bc5 S 144 1) 143 1 (S.1 0 6)) 143 2 1) 72 1 0) := by
    refine Eq.trans (show _ = ((f_X4_hold_143 S (S.1 0 6)).bind fun r2 => ((f_X1_forget r2).bind fun r4 => some (1, r4))) from rfl) ?_
    unfold f_X4_hold_143 f_X1_forget
    rw [become_y (by decide) (by decide) (by decide), bnd, bnd, bnd]
  have kB : ∀ k j, ¬ (144 ≤ k ∧ k < 144 + 4) → ¬ (k = 143 ∧ (j = 1 ∨ j = 2)) → ¬ (k = 72 ∧ j = 1) → (wr (wr (wr (bc5 S 144 1) 143 1 (S.1 0 6)) 143 2 1) 72 1 0).1 k j = S.1 k j := fun k j h3 h4 h5 => by
    simp only [wr_at]
    rw [if_neg (by omega), if_neg (by omega), if_neg (by omega)]
    exact bc_frame h3
  have kC : (wr (wr (wr (bc5 S 144 1) 143 1 (S.1 0 6)) 143 2 1) 72 1 0).1 72 1 = 0 := wr_s _ _ _ _
  have kD : (wr (wr (wr (bc5 S 144 1) 143 1 (S.1 0 6)) 143 2 1) 72 1 0).1 143 1 = S.1 0 6 := by
    rw [wr_k _ _ (by omega), wr_j _ _ (by omega), wr_s]
  have kE : (wr (wr (wr (bc5 S 144 1) 143 1 (S.1 0 6)) 143 2 1) 72 1 0).1 143 2 = 1 := by
    rw [wr_k _ _ (by omega), wr_s]
  have kG : Row (wr (wr (wr (bc5 S 144 1) 143 1 (S.1 0 6)) 143 2 1) 72 1 0) 144 (S.1 154) := (bc_row (o := 144) (Or.inl (by omega)) r1).mv (fun a j h3 h4 => by
    rw [wr_k _ _ (by omega), wr_k _ _ (by omega), wr_k _ _ (by omega)])
  have kF : (wr (wr (wr (bc5 S 144 1) 143 1 (S.1 0 6)) 143 2 1) 72 1 0).2 = S.2 := rfl
  generalize wr (wr (wr (bc5 S 144 1) 143 1 (S.1 0 6)) 143 2 1) 72 1 0 = X at hx kB kC kD kE kF kG
  have hMh : Mh S X := fun k j h => kB k j (by omega) (by omega) (by omega)
  obtain ⟨M1, c1, c2, c3, c4⟩ := m_copy (S := X) (a := 0) (b := 1462) (by omega) (by omega) (Or.inl (by omega))
  have e3 : M1.1 153 3 = S.1 153 3 := (c3 153 3 (by omega)).trans (hMh 153 3 (by omega))
  have e2 : M1.1 153 2 = S.1 153 2 := (c3 153 2 (by omega)).trans (hMh 153 2 (by omega))
  have hm : f_X11_keep X 0 = some (1, wr (wr (wr M1 155 0 (S.1 153 3)) 153 2 (S.1 153 2 ||| ((1 : Int32) <<< ((0 : Int32) &&& 31)))) 153 1 0) := by
    have hin : f_X11_in X (0 : Int32).toInt64 0 1 = some 1 := by
      rw [in_c 0 0 1 (by decide) (by decide)]; rfl
    have c1' : f_X11_copyRow X 0 (1462 + (86 * 0)) = some M1 := c1
    unfold f_X11_keep
    rw [hin, bnd, if_neg (by decide), c1', bnd, if_pos (by decide), e3]
    have y : (wr M1 155 (0 : Int32).toNatClampNeg (S.1 153 3)).1 153 2 = S.1 153 2 := (wr_k _ _ (by omega)).trans e2
    rw [y]
    rfl
  have hMk : ∀ k j, 153 ≤ k → k ≠ 154 → ¬ (k = 153 ∧ (j = 1 ∨ j = 2)) → ¬ (k = 155 ∧ j = 0) → (wr (wr (wr M1 155 0 (S.1 153 3)) 153 2 (S.1 153 2 ||| ((1 : Int32) <<< ((0 : Int32) &&& 31)))) 153 1 0).1 k j = S.1 k j := fun k j h3 h4 h5 h6 => by
    simp only [wr_at]
    rw [if_neg (by omega), if_neg (by omega), if_neg (by omega)]
    exact (c3 k j h4).trans (hMh k j h3)
  have hM1 : (wr (wr (wr M1 155 0 (S.1 153 3)) 153 2 (S.1 153 2 ||| ((1 : Int32) <<< ((0 : Int32) &&& 31)))) 153 1 0).1 153 1 = 0 := wr_s _ _ _ _
  have hM2 : (wr (wr (wr M1 155 0 (S.1 153 3)) 153 2 (S.1 153 2 ||| ((1 : Int32) <<< ((0 : Int32) &&& 31)))) 153 1 0).1 153 2 = (S.1 153 2 ||| ((1 : Int32) <<< ((0 : Int32) &&& 31))) := (wr_j _ _ (by omega)).trans (wr_s _ _ _ _)
  have hM5 : (wr (wr (wr M1 155 0 (S.1 153 3)) 153 2 (S.1 153 2 ||| ((1 : Int32) <<< ((0 : Int32) &&& 31)))) 153 1 0).1 155 0 = S.1 153 3 := by
    rw [wr_k _ _ (by omega), wr_k _ _ (by omega), wr_s]
  have hMw : ∀ j, (wr (wr (wr M1 155 0 (S.1 153 3)) 153 2 (S.1 153 2 ||| ((1 : Int32) <<< ((0 : Int32) &&& 31)))) 153 1 0).1 154 j = if 1462 ≤ j ∧ j < 1462 + 86 then S.1 154 (j - 1462) else S.1 154 j := fun j => by
    rw [wr_k _ _ (by omega), wr_k _ _ (by omega), wr_k _ _ (by omega), c4 j, Nat.zero_add, hMh 154 _ (by omega), hMh 154 _ (by omega)]
  have hMX : Xh X (wr (wr (wr M1 155 0 (S.1 153 3)) 153 2 (S.1 153 2 ||| ((1 : Int32) <<< ((0 : Int32) &&& 31)))) 153 1 0) := ⟨c2, fun k j h => by
    rw [wr_k _ _ (by omega), wr_k _ _ (by omega), wr_k _ _ (by omega)]; exact c3 k j (by omega)⟩
  generalize wr (wr (wr M1 155 0 (S.1 153 3)) 153 2 (S.1 153 2 ||| ((1 : Int32) <<< ((0 : Int32) &&& 31)))) 153 1 0 = M at hm hMk hM1 hM2 hM5 hMw hMX
  have h0r : ∀ j, j < 86 → S.1 154 j = (cmb X M).1 154 j := fun j hj => by rw [cmb_m (by omega), hMw, if_neg (by omega)]
  refine ⟨1, X, M, hx, hMh, hm, hMX, (r1.ext h0r).mv (fun a j h3 h4 => (cmb_x (by omega)).trans (kB a j (by omega) (by omega) (by omega))), r2.ext h0r, fun h => ?_, ⟨0, by omega, (cmb_x (by omega)).trans kC, (cmb_m (by omega)).trans hM1, fun i hi => absurd hi (by omega), fun i hi => ?_, fun i j hi hj h => ?_⟩, ⟨true, h1, (cmb_x (by omega)).trans kE, ?_, ?_, fun _ => ?_, fun gg => ?_⟩, Ivt.keep (S := S) hT (fun k j h => ?_)⟩
  · exact ((r3 ((kB 0 8 (by omega) (by omega) (by omega)).symm.trans ((cmb_x (by omega)).symm.trans h))).ext h0r).keep (fun a j h3 h4 => (cmb_x (by omega)).trans (kB a j (by omega) (by omega) (by omega)))
  · show ∃ t, t < 16 ∧ X.2 i = _
    rw [kF]; exact u5 i hi
  · have h : X.2 i = X.2 j := h
    rw [kF] at h; exact u6 i j hi hj h
  · exact (cmb_x (by omega)).trans ((kB 148 2 (by omega) (by omega) (by omega)).trans i2)
  · rw [cmb_m (by omega), hM2, i3]
    cases h0 <;> cases h1 <;> decide
  · show Row (cmb X M) 144 (rwi (cmb X M) 1462) ∧ Val (rwi (cmb X M) 1462) ∧ (cmb X M).1 143 1 = (cmb X M).1 155 0 ∧ 0 ≤ (cmb X M).1 155 0
    have hrr : ∀ j, j < 86 → S.1 154 j = rwi (cmb X M) 1462 j := fun j hj => by
      unfold rwi
      rw [cmb_m (by omega), hMw, if_pos (by omega), Nat.add_sub_cancel_left]
    rw [cmb_x (by omega), cmb_m (by omega), kD, hM5]
    exact ⟨(kG.ext hrr).mv (fun a j h3 h4 => cmb_x (by omega)), r2.ext hrr, s1, s2⟩
  · obtain ⟨g1, g2, g3, g4⟩ := i5 gg
    have e : rwi (cmb X M) 1548 = rwi S 1548 := funext fun j => by
      unfold rwi
      rw [cmb_m (by omega), hMw, if_neg (by omega)]
    rw [e, cmb_x (by omega), kB 148 1 (by omega) (by omega) (by omega), cmb_m (by omega), hMk 155 1 (by omega) (by omega) (by omega) (by omega)]
    exact ⟨g1.mv (fun a j h3 h4 => (cmb_x (by omega)).trans (kB a j (by omega) (by omega) (by omega))), g2, g3, g4⟩
  · by_cases hk : k < 153
    · exact (cmb_x hk).trans (kB k j (by omega) (by omega) (by omega))
    · exact (cmb_m (by omega)).trans (hMk k j (by omega) (by omega) (by omega) (by omega))
theorem back_0 {S : Mm} (hI : Inv S) : ∃ r X M, f_X10_goBack S 0 = some (r, X) ∧ Mh S X ∧ f_X11_goBack X 0 = some (r, M) ∧ Xh X M ∧ Inv (cmb X M) := by
  obtain ⟨r1, r2, r3, ⟨kn, u1, u2, u3, u4, u5, u6⟩, ⟨h0, h1, i1, i2, i3, i4, i5⟩, hT⟩ := id hI
  obtain ⟨⟨z, t1, t2, t3, t4⟩, ⟨e, b1, b2, b3, b4⟩, s1, s2, s3⟩ := id hT
  have hin : ∀ Y : Mm, f_X11_in Y (0 : Int32).toInt64 0 1 = some 1 := fun Y => by
    rw [in_c 0 0 1 (by decide) (by decide)]; rfl
  have hhas : ∀ Y : Mm, f_X11_has Y (fg h0 ||| (fg h1 <<< 1)) 0 = some (fg h0) := fun Y => by
    unfold f_X11_has
    cases h0 <;> cases h1 <;> decide
  have hheld : f_X4_isHeld_143 S = some (fg h0) := by
    unfold f_X4_isHeld_143
    rw [i1, if_pos (by cases h0 <;> decide)]
  have hx0 : f_X10_goBack S 0 = ((f_X4_isHeld_143 S).bind fun r2 => (if r2 = 0 then some ((-1000000003), S) else ((f_X6_become S 1 144).bind fun r6 => ((f_X4_heldSeed_143 r6).bind fun r8 => ((f_X1_forget (wr (wr r6 0 6 r8) 0 8 1)).bind fun r10 => some (1, r10)))))) := rfl
  cases hh : h0 with
  | false =>
    refine ⟨-1000000003, S, S, ?_, Mh.rf S, ?_, Xh.rf S, by rw [cmb_s]; exact hI⟩
    · rw [hx0, hheld, hh, bnd, if_pos (by decide)]
    · unfold f_X11_goBack
      rw [hin, bnd, if_neg (by decide), i3, hhas, hh, bnd, if_pos (by decide)]
  | true =>
    obtain ⟨j1, j2, j3, j4⟩ := i4 hh
    have hx : f_X10_goBack S 0 = some (1, wr (wr (wr (bc5 S 1 144) 0 6 (S.1 143 1)) 0 8 1) 72 1 0) := by
      rw [hx0, hheld, hh, bnd, if_neg (by decide), become_y (by decide) (by decide) (by decide), bnd]
      unfold f_X4_heldSeed_143 f_X1_forget
      rw [bnd, bnd, bc_frame (by omega)]
    have kB : ∀ k j, ¬ (1 ≤ k ∧ k < 5) → ¬ (k = 0 ∧ (j = 6 ∨ j = 8)) → ¬ (k = 72 ∧ j = 1) → (wr (wr (wr (bc5 S 1 144) 0 6 (S.1 143 1)) 0 8 1) 72 1 0).1 k j = S.1 k j := fun k j h3 h4 h5 => by
      simp only [wr_at]
      rw [if_neg (by omega), if_neg (by omega), if_neg (by omega)]
      exact bc_frame (by omega)
    have kC : (wr (wr (wr (bc5 S 1 144) 0 6 (S.1 143 1)) 0 8 1) 72 1 0).1 72 1 = 0 := wr_s _ _ _ _
    have kD : (wr (wr (wr (bc5 S 1 144) 0 6 (S.1 143 1)) 0 8 1) 72 1 0).1 0 6 = S.1 143 1 := by
      rw [wr_k _ _ (by omega), wr_j _ _ (by omega), wr_s]
    have kE : (wr (wr (wr (bc5 S 1 144) 0 6 (S.1 143 1)) 0 8 1) 72 1 0).1 0 8 = 1 := by
      rw [wr_k _ _ (by omega), wr_s]
    have kG : Row (wr (wr (wr (bc5 S 1 144) 0 6 (S.1 143 1)) 0 8 1) 72 1 0) 1 (rwi S 1462) := (bc_row (o := 1) (Or.inr (by omega)) j1).mv (fun a j h3 h4 => by
      rw [wr_k _ _ (by omega), wr_k _ _ (by omega), wr_k _ _ (by omega)])
    have kF : (wr (wr (wr (bc5 S 1 144) 0 6 (S.1 143 1)) 0 8 1) 72 1 0).2 = S.2 := rfl
    generalize wr (wr (wr (bc5 S 1 144) 0 6 (S.1 143 1)) 0 8 1) 72 1 0 = X at hx kB kC kD kE kF kG
    have hMh : Mh S X := fun k j h => kB k j (by omega) (by omega) (by omega)
    obtain ⟨M1, c1, c2, c3, c4⟩ := m_copy (S := X) (a := 1462) (b := 0) (by omega) (by omega) (Or.inr (by omega))
    have e5 : M1.1 155 0 = S.1 155 0 := (c3 155 0 (by omega)).trans (hMh 155 0 (by omega))
    have hm : f_X11_goBack X 0 = some (1, wr (wr M1 153 3 (S.1 155 0)) 153 1 0) := by
      have c1' : f_X11_copyRow X (1462 + (86 * 0)) 0 = some M1 := c1
      unfold f_X11_goBack
      rw [hin, bnd, if_neg (by decide), hMh 153 2 (by omega), i3, hhas, hh, bnd, if_neg (by decide), c1', bnd, if_pos (by decide), show (0 : Int32).toNatClampNeg = 0 from rfl, e5]
    have hMk : ∀ k j, 153 ≤ k → k ≠ 154 → ¬ (k = 153 ∧ (j = 1 ∨ j = 3)) → (wr (wr M1 153 3 (S.1 155 0)) 153 1 0).1 k j = S.1 k j := fun k j h3 h4 h5 => by
      simp only [wr_at]
      rw [if_neg (by omega), if_neg (by omega)]
      exact (c3 k j h4).trans (hMh k j h3)
    have hM1 : (wr (wr M1 153 3 (S.1 155 0)) 153 1 0).1 153 1 = 0 := wr_s _ _ _ _
    have hM3 : (wr (wr M1 153 3 (S.1 155 0)) 153 1 0).1 153 3 = S.1 155 0 := (wr_j _ _ (by omega)).trans (wr_s _ _ _ _)
    have hMw : ∀ j, (wr (wr M1 153 3 (S.1 155 0)) 153 1 0).1 154 j = if j < 86 then S.1 154 (1462 + j) else S.1 154 j := fun j => by
      rw [wr_k _ _ (by omega), wr_k _ _ (by omega), c4 j, hMh 154 _ (by omega), hMh 154 _ (by omega)]
      by_cases h : j < 86
      · rw [if_pos (by omega), if_pos h, Nat.sub_zero]
      · rw [if_neg (by omega), if_neg h]
    have hMX : Xh X (wr (wr M1 153 3 (S.1 155 0)) 153 1 0) := ⟨c2, fun k j h => by
      rw [wr_k _ _ (by omega), wr_k _ _ (by omega)]; exact c3 k j (by omega)⟩
    generalize wr (wr M1 153 3 (S.1 155 0)) 153 1 0 = M at hm hMk hM1 hM3 hMw hMX
    have h0r : ∀ j, j < 86 → rwi S 1462 j = (cmb X M).1 154 j := fun j hj => by
      rw [cmb_m (by omega), hMw, if_pos hj]
      rfl
    have ew : ∀ i, 86 ≤ i → rwi (cmb X M) i = rwi S i := fun i hi => funext fun j => by
      unfold rwi
      rw [cmb_m (by omega), hMw, if_neg (by omega)]
    have hrest : ∀ k j, ¬ (k = 0 ∧ (j = 6 ∨ j = 8)) → ¬ (1 ≤ k ∧ k < 5) → ¬ (k = 72 ∧ j = 1) → k ≠ 154 → ¬ (k = 153 ∧ (j = 1 ∨ j = 3)) → (cmb X M).1 k j = S.1 k j := fun k j g1 g2 g3 g4 g5 => by
      by_cases hk : k < 153
      · exact (cmb_x hk).trans (kB k j (by omega) (by omega) (by omega))
      · exact (cmb_m (by omega)).trans (hMk k j (by omega) (by omega) (by omega))
    refine ⟨1, X, M, hx, hMh, hm, hMX, (kG.ext h0r).mv (fun a j h3 h4 => cmb_x (by omega)), j2.ext h0r, fun h => absurd (show (1 : Int32) = 0 from kE.symm.trans ((cmb_x (by omega)).symm.trans h)) (by decide), ⟨0, by omega, (cmb_x (by omega)).trans kC, (cmb_m (by omega)).trans hM1, fun i hi => absurd hi (by omega), fun i hi => ?_, fun i j hi hj h => ?_⟩, ⟨h0, h1, ?_, ?_, ?_, fun gg => ?_, fun gg => ?_⟩, ⟨z, t1, ?_, ?_, fun j hj => ?_⟩, ⟨e, b1, ?_, ?_, fun j hj => ?_⟩, ?_, ?_, ?_⟩
    · show ∃ t, t < 16 ∧ X.2 i = _
      rw [kF]; exact u5 i hi
    · have h : X.2 i = X.2 j := h
      rw [kF] at h; exact u6 i j hi hj h
    · rw [hrest 143 2 (by omega) (by omega) (by omega) (by omega) (by omega)]; exact i1
    · rw [hrest 148 2 (by omega) (by omega) (by omega) (by omega) (by omega)]; exact i2
    · rw [hrest 153 2 (by omega) (by omega) (by omega) (by omega) (by omega)]; exact i3
    · obtain ⟨g1, g2, g3, g4⟩ := i4 gg
      rw [ew 1462 (by omega), hrest 143 1 (by omega) (by omega) (by omega) (by omega) (by omega), hrest 155 0 (by omega) (by omega) (by omega) (by omega) (by omega)]
      exact ⟨g1.mv (fun a j h3 h4 => hrest a j (by omega) (by omega) (by omega) (by omega) (by omega)), g2, g3, g4⟩
    · obtain ⟨g1, g2, g3, g4⟩ := i5 gg
      rw [ew 1548 (by omega), hrest 148 1 (by omega) (by omega) (by omega) (by omega) (by omega), hrest 155 1 (by omega) (by omega) (by omega) (by omega) (by omega)]
      exact ⟨g1.mv (fun a j h3 h4 => hrest a j (by omega) (by omega) (by omega) (by omega) (by omega)), g2, g3, g4⟩
    · rw [hrest 68 3 (by omega) (by omega) (by omega) (by omega) (by omega)]; exact t2
    · rw [hrest 153 6 (by omega) (by omega) (by omega) (by omega) (by omega)]; exact t3
    · rw [hrest 69 j (by omega) (by omega) (by omega) (by omega) (by omega), hrest 156 j (by omega) (by omega) (by omega) (by omega) (by omega)]; exact t4 j hj
    · rw [hrest 138 3 (by omega) (by omega) (by omega) (by omega) (by omega)]; exact b2
    · rw [hrest 153 11 (by omega) (by omega) (by omega) (by omega) (by omega)]; exact b3
    · rw [hrest 139 j (by omega) (by omega) (by omega) (by omega) (by omega), hrest 157 j (by omega) (by omega) (by omega) (by omega) (by omega), hrest 140 j (by omega) (by omega) (by omega) (by omega) (by omega), hrest 158 j (by omega) (by omega) (by omega) (by omega) (by omega), hrest 141 j (by omega) (by omega) (by omega) (by omega) (by omega), hrest 159 j (by omega) (by omega) (by omega) (by omega) (by omega)]; exact b4 j hj
    · rw [cmb_x (by omega), cmb_m (by omega), kD, hM3]; exact j3
    · rw [cmb_m (by omega), hM3]; exact j4
    · rw [hrest 0 7 (by omega) (by omega) (by omega) (by omega) (by omega), hrest 153 7 (by omega) (by omega) (by omega) (by omega) (by omega)]; exact s3
theorem keep_1 {S : Mm} (hI : Inv S) : ∃ r X M, f_X10_keep S 1 = some (r, X) ∧ Mh S X ∧ f_X11_keep X 1 = some (r, M) ∧ Xh X M ∧ Inv (cmb X M) := by
  obtain ⟨r1, r2, r3, ⟨kn, u1, u2, u3, u4, u5, u6⟩, ⟨h0, h1, i1, i2, i3, i4, i5⟩, hT⟩ := id hI
  obtain ⟨-, -, s1, s2, s3⟩ := id hT
  have hx : f_X10_keep S 1 = some (1, wr (wr (wr (bc5 S 149 1) 148 1 (S.1 0 6)) 148 2 1) 72 1 0) := by
    refine Eq.trans (show _ = ((f_X4_hold_148 S (S.1 0 6)).bind fun r2 => ((f_X1_forget r2).bind fun r4 => some (1, r4))) from rfl) ?_
    unfold f_X4_hold_148 f_X1_forget
    rw [become_y (by decide) (by decide) (by decide), bnd, bnd, bnd]
  have kB : ∀ k j, ¬ (149 ≤ k ∧ k < 149 + 4) → ¬ (k = 148 ∧ (j = 1 ∨ j = 2)) → ¬ (k = 72 ∧ j = 1) → (wr (wr (wr (bc5 S 149 1) 148 1 (S.1 0 6)) 148 2 1) 72 1 0).1 k j = S.1 k j := fun k j h3 h4 h5 => by
    simp only [wr_at]
    rw [if_neg (by omega), if_neg (by omega), if_neg (by omega)]
    exact bc_frame h3
  have kC : (wr (wr (wr (bc5 S 149 1) 148 1 (S.1 0 6)) 148 2 1) 72 1 0).1 72 1 = 0 := wr_s _ _ _ _
  have kD : (wr (wr (wr (bc5 S 149 1) 148 1 (S.1 0 6)) 148 2 1) 72 1 0).1 148 1 = S.1 0 6 := by
    rw [wr_k _ _ (by omega), wr_j _ _ (by omega), wr_s]
  have kE : (wr (wr (wr (bc5 S 149 1) 148 1 (S.1 0 6)) 148 2 1) 72 1 0).1 148 2 = 1 := by
    rw [wr_k _ _ (by omega), wr_s]
  have kG : Row (wr (wr (wr (bc5 S 149 1) 148 1 (S.1 0 6)) 148 2 1) 72 1 0) 149 (S.1 154) := (bc_row (o := 149) (Or.inl (by omega)) r1).mv (fun a j h3 h4 => by
    rw [wr_k _ _ (by omega), wr_k _ _ (by omega), wr_k _ _ (by omega)])
  have kF : (wr (wr (wr (bc5 S 149 1) 148 1 (S.1 0 6)) 148 2 1) 72 1 0).2 = S.2 := rfl
  generalize wr (wr (wr (bc5 S 149 1) 148 1 (S.1 0 6)) 148 2 1) 72 1 0 = X at hx kB kC kD kE kF kG
  have hMh : Mh S X := fun k j h => kB k j (by omega) (by omega) (by omega)
  obtain ⟨M1, c1, c2, c3, c4⟩ := m_copy (S := X) (a := 0) (b := 1548) (by omega) (by omega) (Or.inl (by omega))
  have e3 : M1.1 153 3 = S.1 153 3 := (c3 153 3 (by omega)).trans (hMh 153 3 (by omega))
  have e2 : M1.1 153 2 = S.1 153 2 := (c3 153 2 (by omega)).trans (hMh 153 2 (by omega))
  have hm : f_X11_keep X 1 = some (1, wr (wr (wr M1 155 1 (S.1 153 3)) 153 2 (S.1 153 2 ||| ((1 : Int32) <<< ((1 : Int32) &&& 31)))) 153 1 0) := by
    have hin : f_X11_in X (1 : Int32).toInt64 0 1 = some 1 := by
      rw [in_c 1 0 1 (by decide) (by decide)]; rfl
    have c1' : f_X11_copyRow X 0 (1462 + (86 * 1)) = some M1 := c1
    unfold f_X11_keep
    rw [hin, bnd, if_neg (by decide), c1', bnd, if_pos (by decide), e3]
    have y : (wr M1 155 (1 : Int32).toNatClampNeg (S.1 153 3)).1 153 2 = S.1 153 2 := (wr_k _ _ (by omega)).trans e2
    rw [y]
    rfl
  have hMk : ∀ k j, 153 ≤ k → k ≠ 154 → ¬ (k = 153 ∧ (j = 1 ∨ j = 2)) → ¬ (k = 155 ∧ j = 1) → (wr (wr (wr M1 155 1 (S.1 153 3)) 153 2 (S.1 153 2 ||| ((1 : Int32) <<< ((1 : Int32) &&& 31)))) 153 1 0).1 k j = S.1 k j := fun k j h3 h4 h5 h6 => by
    simp only [wr_at]
    rw [if_neg (by omega), if_neg (by omega), if_neg (by omega)]
    exact (c3 k j h4).trans (hMh k j h3)
  have hM1 : (wr (wr (wr M1 155 1 (S.1 153 3)) 153 2 (S.1 153 2 ||| ((1 : Int32) <<< ((1 : Int32) &&& 31)))) 153 1 0).1 153 1 = 0 := wr_s _ _ _ _
  have hM2 : (wr (wr (wr M1 155 1 (S.1 153 3)) 153 2 (S.1 153 2 ||| ((1 : Int32) <<< ((1 : Int32) &&& 31)))) 153 1 0).1 153 2 = (S.1 153 2 ||| ((1 : Int32) <<< ((1 : Int32) &&& 31))) := (wr_j _ _ (by omega)).trans (wr_s _ _ _ _)
  have hM5 : (wr (wr (wr M1 155 1 (S.1 153 3)) 153 2 (S.1 153 2 ||| ((1 : Int32) <<< ((1 : Int32) &&& 31)))) 153 1 0).1 155 1 = S.1 153 3 := by
    rw [wr_k _ _ (by omega), wr_k _ _ (by omega), wr_s]
  have hMw : ∀ j, (wr (wr (wr M1 155 1 (S.1 153 3)) 153 2 (S.1 153 2 ||| ((1 : Int32) <<< ((1 : Int32) &&& 31)))) 153 1 0).1 154 j = if 1548 ≤ j ∧ j < 1548 + 86 then S.1 154 (j - 1548) else S.1 154 j := fun j => by
    rw [wr_k _ _ (by omega), wr_k _ _ (by omega), wr_k _ _ (by omega), c4 j, Nat.zero_add, hMh 154 _ (by omega), hMh 154 _ (by omega)]
  have hMX : Xh X (wr (wr (wr M1 155 1 (S.1 153 3)) 153 2 (S.1 153 2 ||| ((1 : Int32) <<< ((1 : Int32) &&& 31)))) 153 1 0) := ⟨c2, fun k j h => by
    rw [wr_k _ _ (by omega), wr_k _ _ (by omega), wr_k _ _ (by omega)]; exact c3 k j (by omega)⟩
  generalize wr (wr (wr M1 155 1 (S.1 153 3)) 153 2 (S.1 153 2 ||| ((1 : Int32) <<< ((1 : Int32) &&& 31)))) 153 1 0 = M at hm hMk hM1 hM2 hM5 hMw hMX
  have h0r : ∀ j, j < 86 → S.1 154 j = (cmb X M).1 154 j := fun j hj => by rw [cmb_m (by omega), hMw, if_neg (by omega)]
  refine ⟨1, X, M, hx, hMh, hm, hMX, (r1.ext h0r).mv (fun a j h3 h4 => (cmb_x (by omega)).trans (kB a j (by omega) (by omega) (by omega))), r2.ext h0r, fun h => ?_, ⟨0, by omega, (cmb_x (by omega)).trans kC, (cmb_m (by omega)).trans hM1, fun i hi => absurd hi (by omega), fun i hi => ?_, fun i j hi hj h => ?_⟩, ⟨h0, true, ?_, (cmb_x (by omega)).trans kE, ?_, fun gg => ?_, fun _ => ?_⟩, Ivt.keep (S := S) hT (fun k j h => ?_)⟩
  · exact ((r3 ((kB 0 8 (by omega) (by omega) (by omega)).symm.trans ((cmb_x (by omega)).symm.trans h))).ext h0r).keep (fun a j h3 h4 => (cmb_x (by omega)).trans (kB a j (by omega) (by omega) (by omega)))
  · show ∃ t, t < 16 ∧ X.2 i = _
    rw [kF]; exact u5 i hi
  · have h : X.2 i = X.2 j := h
    rw [kF] at h; exact u6 i j hi hj h
  · exact (cmb_x (by omega)).trans ((kB 143 2 (by omega) (by omega) (by omega)).trans i1)
  · rw [cmb_m (by omega), hM2, i3]
    cases h0 <;> cases h1 <;> decide
  · obtain ⟨g1, g2, g3, g4⟩ := i4 gg
    have hrr : ∀ j, j < 86 → rwi S 1462 j = rwi (cmb X M) 1462 j := fun j hj => by
      unfold rwi
      rw [cmb_m (by omega), hMw, if_neg (by omega)]
    rw [cmb_x (by omega), kB 143 1 (by omega) (by omega) (by omega), cmb_m (by omega), hMk 155 0 (by omega) (by omega) (by omega) (by omega)]
    exact ⟨(g1.ext hrr).mv (fun a j h3 h4 => (cmb_x (by omega)).trans (kB a j (by omega) (by omega) (by omega))), g2.ext hrr, g3, g4⟩
  · show Row (cmb X M) 149 (rwi (cmb X M) 1548) ∧ Val (rwi (cmb X M) 1548) ∧ (cmb X M).1 148 1 = (cmb X M).1 155 1 ∧ 0 ≤ (cmb X M).1 155 1
    have hrr : ∀ j, j < 86 → S.1 154 j = rwi (cmb X M) 1548 j := fun j hj => by
      unfold rwi
      rw [cmb_m (by omega), hMw, if_pos (by omega), Nat.add_sub_cancel_left]
    rw [cmb_x (by omega), cmb_m (by omega), kD, hM5]
    exact ⟨(kG.ext hrr).mv (fun a j h3 h4 => cmb_x (by omega)), r2.ext hrr, s1, s2⟩
  · by_cases hk : k < 153
    · exact (cmb_x hk).trans (kB k j (by omega) (by omega) (by omega))
    · exact (cmb_m (by omega)).trans (hMk k j (by omega) (by omega) (by omega) (by omega))
theorem back_1 {S : Mm} (hI : Inv S) : ∃ r X M, f_X10_goBack S 1 = some (r, X) ∧ Mh S X ∧ f_X11_goBack X 1 = some (r, M) ∧ Xh X M ∧ Inv (cmb X M) := by
  obtain ⟨r1, r2, r3, ⟨kn, u1, u2, u3, u4, u5, u6⟩, ⟨h0, h1, i1, i2, i3, i4, i5⟩, hT⟩ := id hI
  obtain ⟨⟨z, t1, t2, t3, t4⟩, ⟨e, b1, b2, b3, b4⟩, s1, s2, s3⟩ := id hT
  have hin : ∀ Y : Mm, f_X11_in Y (1 : Int32).toInt64 0 1 = some 1 := fun Y => by
    rw [in_c 1 0 1 (by decide) (by decide)]; rfl
  have hhas : ∀ Y : Mm, f_X11_has Y (fg h0 ||| (fg h1 <<< 1)) 1 = some (fg h1) := fun Y => by
    unfold f_X11_has
    cases h0 <;> cases h1 <;> decide
  have hheld : f_X4_isHeld_148 S = some (fg h1) := by
    unfold f_X4_isHeld_148
    rw [i2, if_pos (by cases h1 <;> decide)]
  have hx0 : f_X10_goBack S 1 = ((f_X4_isHeld_148 S).bind fun r2 => (if r2 = 0 then some ((-1000000003), S) else ((f_X6_become S 1 149).bind fun r6 => ((f_X4_heldSeed_148 r6).bind fun r8 => ((f_X1_forget (wr (wr r6 0 6 r8) 0 8 1)).bind fun r10 => some (1, r10)))))) := rfl
  cases hh : h1 with
  | false =>
    refine ⟨-1000000003, S, S, ?_, Mh.rf S, ?_, Xh.rf S, by rw [cmb_s]; exact hI⟩
    · rw [hx0, hheld, hh, bnd, if_pos (by decide)]
    · unfold f_X11_goBack
      rw [hin, bnd, if_neg (by decide), i3, hhas, hh, bnd, if_pos (by decide)]
  | true =>
    obtain ⟨j1, j2, j3, j4⟩ := i5 hh
    have hx : f_X10_goBack S 1 = some (1, wr (wr (wr (bc5 S 1 149) 0 6 (S.1 148 1)) 0 8 1) 72 1 0) := by
      rw [hx0, hheld, hh, bnd, if_neg (by decide), become_y (by decide) (by decide) (by decide), bnd]
      unfold f_X4_heldSeed_148 f_X1_forget
      rw [bnd, bnd, bc_frame (by omega)]
    have kB : ∀ k j, ¬ (1 ≤ k ∧ k < 5) → ¬ (k = 0 ∧ (j = 6 ∨ j = 8)) → ¬ (k = 72 ∧ j = 1) → (wr (wr (wr (bc5 S 1 149) 0 6 (S.1 148 1)) 0 8 1) 72 1 0).1 k j = S.1 k j := fun k j h3 h4 h5 => by
      simp only [wr_at]
      rw [if_neg (by omega), if_neg (by omega), if_neg (by omega)]
      exact bc_frame (by omega)
    have kC : (wr (wr (wr (bc5 S 1 149) 0 6 (S.1 148 1)) 0 8 1) 72 1 0).1 72 1 = 0 := wr_s _ _ _ _
    have kD : (wr (wr (wr (bc5 S 1 149) 0 6 (S.1 148 1)) 0 8 1) 72 1 0).1 0 6 = S.1 148 1 := by
      rw [wr_k _ _ (by omega), wr_j _ _ (by omega), wr_s]
    have kE : (wr (wr (wr (bc5 S 1 149) 0 6 (S.1 148 1)) 0 8 1) 72 1 0).1 0 8 = 1 := by
      rw [wr_k _ _ (by omega), wr_s]
    have kG : Row (wr (wr (wr (bc5 S 1 149) 0 6 (S.1 148 1)) 0 8 1) 72 1 0) 1 (rwi S 1548) := (bc_row (o := 1) (Or.inr (by omega)) j1).mv (fun a j h3 h4 => by
      rw [wr_k _ _ (by omega), wr_k _ _ (by omega), wr_k _ _ (by omega)])
    have kF : (wr (wr (wr (bc5 S 1 149) 0 6 (S.1 148 1)) 0 8 1) 72 1 0).2 = S.2 := rfl
    generalize wr (wr (wr (bc5 S 1 149) 0 6 (S.1 148 1)) 0 8 1) 72 1 0 = X at hx kB kC kD kE kF kG
    have hMh : Mh S X := fun k j h => kB k j (by omega) (by omega) (by omega)
    obtain ⟨M1, c1, c2, c3, c4⟩ := m_copy (S := X) (a := 1548) (b := 0) (by omega) (by omega) (Or.inr (by omega))
    have e5 : M1.1 155 1 = S.1 155 1 := (c3 155 1 (by omega)).trans (hMh 155 1 (by omega))
    have hm : f_X11_goBack X 1 = some (1, wr (wr M1 153 3 (S.1 155 1)) 153 1 0) := by
      have c1' : f_X11_copyRow X (1462 + (86 * 1)) 0 = some M1 := c1
      unfold f_X11_goBack
      rw [hin, bnd, if_neg (by decide), hMh 153 2 (by omega), i3, hhas, hh, bnd, if_neg (by decide), c1', bnd, if_pos (by decide), show (1 : Int32).toNatClampNeg = 1 from rfl, e5]
    have hMk : ∀ k j, 153 ≤ k → k ≠ 154 → ¬ (k = 153 ∧ (j = 1 ∨ j = 3)) → (wr (wr M1 153 3 (S.1 155 1)) 153 1 0).1 k j = S.1 k j := fun k j h3 h4 h5 => by
      simp only [wr_at]
      rw [if_neg (by omega), if_neg (by omega)]
      exact (c3 k j h4).trans (hMh k j h3)
    have hM1 : (wr (wr M1 153 3 (S.1 155 1)) 153 1 0).1 153 1 = 0 := wr_s _ _ _ _
    have hM3 : (wr (wr M1 153 3 (S.1 155 1)) 153 1 0).1 153 3 = S.1 155 1 := (wr_j _ _ (by omega)).trans (wr_s _ _ _ _)
    have hMw : ∀ j, (wr (wr M1 153 3 (S.1 155 1)) 153 1 0).1 154 j = if j < 86 then S.1 154 (1548 + j) else S.1 154 j := fun j => by
      rw [wr_k _ _ (by omega), wr_k _ _ (by omega), c4 j, hMh 154 _ (by omega), hMh 154 _ (by omega)]
      by_cases h : j < 86
      · rw [if_pos (by omega), if_pos h, Nat.sub_zero]
      · rw [if_neg (by omega), if_neg h]
    have hMX : Xh X (wr (wr M1 153 3 (S.1 155 1)) 153 1 0) := ⟨c2, fun k j h => by
      rw [wr_k _ _ (by omega), wr_k _ _ (by omega)]; exact c3 k j (by omega)⟩
    generalize wr (wr M1 153 3 (S.1 155 1)) 153 1 0 = M at hm hMk hM1 hM3 hMw hMX
    have h0r : ∀ j, j < 86 → rwi S 1548 j = (cmb X M).1 154 j := fun j hj => by
      rw [cmb_m (by omega), hMw, if_pos hj]
      rfl
    have ew : ∀ i, 86 ≤ i → rwi (cmb X M) i = rwi S i := fun i hi => funext fun j => by
      unfold rwi
      rw [cmb_m (by omega), hMw, if_neg (by omega)]
    have hrest : ∀ k j, ¬ (k = 0 ∧ (j = 6 ∨ j = 8)) → ¬ (1 ≤ k ∧ k < 5) → ¬ (k = 72 ∧ j = 1) → k ≠ 154 → ¬ (k = 153 ∧ (j = 1 ∨ j = 3)) → (cmb X M).1 k j = S.1 k j := fun k j g1 g2 g3 g4 g5 => by
      by_cases hk : k < 153
      · exact (cmb_x hk).trans (kB k j (by omega) (by omega) (by omega))
      · exact (cmb_m (by omega)).trans (hMk k j (by omega) (by omega) (by omega))
    refine ⟨1, X, M, hx, hMh, hm, hMX, (kG.ext h0r).mv (fun a j h3 h4 => cmb_x (by omega)), j2.ext h0r, fun h => absurd (show (1 : Int32) = 0 from kE.symm.trans ((cmb_x (by omega)).symm.trans h)) (by decide), ⟨0, by omega, (cmb_x (by omega)).trans kC, (cmb_m (by omega)).trans hM1, fun i hi => absurd hi (by omega), fun i hi => ?_, fun i j hi hj h => ?_⟩, ⟨h0, h1, ?_, ?_, ?_, fun gg => ?_, fun gg => ?_⟩, ⟨z, t1, ?_, ?_, fun j hj => ?_⟩, ⟨e, b1, ?_, ?_, fun j hj => ?_⟩, ?_, ?_, ?_⟩
    · show ∃ t, t < 16 ∧ X.2 i = _
      rw [kF]; exact u5 i hi
    · have h : X.2 i = X.2 j := h
      rw [kF] at h; exact u6 i j hi hj h
    · rw [hrest 143 2 (by omega) (by omega) (by omega) (by omega) (by omega)]; exact i1
    · rw [hrest 148 2 (by omega) (by omega) (by omega) (by omega) (by omega)]; exact i2
    · rw [hrest 153 2 (by omega) (by omega) (by omega) (by omega) (by omega)]; exact i3
    · obtain ⟨g1, g2, g3, g4⟩ := i4 gg
      rw [ew 1462 (by omega), hrest 143 1 (by omega) (by omega) (by omega) (by omega) (by omega), hrest 155 0 (by omega) (by omega) (by omega) (by omega) (by omega)]
      exact ⟨g1.mv (fun a j h3 h4 => hrest a j (by omega) (by omega) (by omega) (by omega) (by omega)), g2, g3, g4⟩
    · obtain ⟨g1, g2, g3, g4⟩ := i5 gg
      rw [ew 1548 (by omega), hrest 148 1 (by omega) (by omega) (by omega) (by omega) (by omega), hrest 155 1 (by omega) (by omega) (by omega) (by omega) (by omega)]
      exact ⟨g1.mv (fun a j h3 h4 => hrest a j (by omega) (by omega) (by omega) (by omega) (by omega)), g2, g3, g4⟩
    · rw [hrest 68 3 (by omega) (by omega) (by omega) (by omega) (by omega)]; exact t2
    · rw [hrest 153 6 (by omega) (by omega) (by omega) (by omega) (by omega)]; exact t3
    · rw [hrest 69 j (by omega) (by omega) (by omega) (by omega) (by omega), hrest 156 j (by omega) (by omega) (by omega) (by omega) (by omega)]; exact t4 j hj
    · rw [hrest 138 3 (by omega) (by omega) (by omega) (by omega) (by omega)]; exact b2
    · rw [hrest 153 11 (by omega) (by omega) (by omega) (by omega) (by omega)]; exact b3
    · rw [hrest 139 j (by omega) (by omega) (by omega) (by omega) (by omega), hrest 157 j (by omega) (by omega) (by omega) (by omega) (by omega), hrest 140 j (by omega) (by omega) (by omega) (by omega) (by omega), hrest 158 j (by omega) (by omega) (by omega) (by omega) (by omega), hrest 141 j (by omega) (by omega) (by omega) (by omega) (by omega), hrest 159 j (by omega) (by omega) (by omega) (by omega) (by omega)]; exact b4 j hj
    · rw [cmb_x (by omega), cmb_m (by omega), kD, hM3]; exact j3
    · rw [cmb_m (by omega), hM3]; exact j4
    · rw [hrest 0 7 (by omega) (by omega) (by omega) (by omega) (by omega), hrest 153 7 (by omega) (by omega) (by omega) (by omega) (by omega)]; exact s3
theorem img_else {a1 : Int32} (h0 : ¬ a1 = 0) (h1 : ¬ a1 = 1) (S : Mm) : f_X11_in S a1.toInt64 0 1 = some 0 := by
  rw [in_c a1 0 1 (by decide) (by decide), if_neg]
  intro h
  obtain ⟨n, hn, rfl⟩ := nI_of (Int32.not_lt.mpr h.1)
  have : n ≤ 1 := Nat.not_lt.mp fun h' => nI_ge h' hn h.2
  rcases (by omega : n = 0 ∨ n = 1) with rfl | rfl
  · exact h0 rfl
  · exact h1 rfl
theorem o_keep (a1 : Int32) : Op Inv (fun S => f_X10_keep S a1) (fun S => f_X11_keep S a1) := op_of fun S hI => by
  by_cases h0 : a1 = 0
  · subst h0; exact keep_0 hI
  · by_cases h1 : a1 = 1
    · subst h1; exact keep_1 hI
    · refine ⟨-1000000001, S, S, ?_, Mh.rf S, ?_, Xh.rf S, by rw [cmb_s]; exact hI⟩
      · show f_X10_keep S a1 = _
        unfold f_X10_keep
        rw [if_neg h0, if_neg h1]
      · show f_X11_keep S a1 = _
        unfold f_X11_keep
        rw [img_else h0 h1, bnd, if_pos rfl]
theorem o_goBack (a1 : Int32) : Op Inv (fun S => f_X10_goBack S a1) (fun S => f_X11_goBack S a1) := op_of fun S hI => by
  by_cases h0 : a1 = 0
  · subst h0; exact back_0 hI
  · by_cases h1 : a1 = 1
    · subst h1; exact back_1 hI
    · refine ⟨-1000000001, S, S, ?_, Mh.rf S, ?_, Xh.rf S, by rw [cmb_s]; exact hI⟩
      · show f_X10_goBack S a1 = _
        unfold f_X10_goBack
        rw [if_neg h0, if_neg h1]
      · show f_X11_goBack S a1 = _
        unfold f_X11_goBack
        rw [img_else h0 h1, bnd, if_pos rfl]
