/-! pieces -/
theorem adds {N D q' : Nat} {cx cm : Int32} {kx km : Int32 → Mm → Option (Int32 × Mm)} (hD : D ≤ 12) (hq20 : q' ≤ 20) (hNq : N + q' ≤ 40) : ∀ (m i fx fm : Nat) (X M : Mm), i + m = q' → m < fx → m < fm → Row X 1 (M.1 154) → Val (M.1 154) → M.1 154 1 = nI (N + i) → M.1 154 0 = nI D → X.1 68 4 = nI q' → M.1 153 23 = nI q' → Ark D q' X M → ∃ (X' M' : Mm), lp_X10_pieces_66 kx cx fx (nI i) X = kx (nI q') X' ∧ lp_X11_pieces_25 km cm fm (nI i) M = km (nI q') M' ∧ X'.2 = X.2 ∧ (∀ k j, ¬ (1 ≤ k ∧ k < 5) → X'.1 k j = X.1 k j) ∧ M'.2 = M.2 ∧ (∀ k j, ¬ (k = 154 ∧ j < 86) → M'.1 k j = M.1 k j) ∧ Row X' 1 (M'.1 154) ∧ Val (M'.1 154) := by
  intro m
  induction m with
  | zero =>
    intro i fx fm X M h1 h2 h3 hR hV hn hd0 h4 h23 hA
    obtain ⟨f, rfl⟩ : ∃ f, fx = f + 1 := ⟨fx - 1, by omega⟩
    obtain ⟨f', rfl⟩ : ∃ f, fm = f + 1 := ⟨fm - 1, by omega⟩
    obtain rfl : i = q' := by omega
    refine ⟨X, M, ?_, ?_, rfl, fun _ _ _ => rfl, rfl, fun _ _ _ => rfl, hR, hV⟩
    · rw [lp_X10_pieces_66, f_X9_readCount, bnd, h4, if_pos (nI_le (Nat.le_refl i) (by omega))]
    · rw [lp_X11_pieces_25, h23, if_pos (nI_le (Nat.le_refl i) (by omega))]
  | succ m ih =>
    intro i fx fm X M h1 h2 h3 hR hV hn hd0 h4 h23 hA
    obtain ⟨f, rfl⟩ : ∃ f, fx = f + 1 := ⟨fx - 1, by omega⟩
    obtain ⟨f', rfl⟩ : ∃ f, fm = f + 1 := ⟨fm - 1, by omega⟩
    obtain ⟨d, s, a1, a2, a3, a4, a5, a6⟩ := hA i (by omega)
    have i20 : inb (nI i) 20 := (inb_nI (by omega)).mpr (by omega)
    have i40 : inb (nI i) 40 := (inb_nI (by omega)).mpr (by omega)
    have cl : (nI i).toNatClampNeg = i := nI_clamp (by omega)
    have hX14 : X.1 1 4 = nI (N + i) := hR.2.1.trans hn
    obtain ⟨g1, g2⟩ := add_row (X := X) (M := M) (n := N + i) (d := d) (s := s) (D := D) hR hV hn (by omega) hd0 hD a1 a2
    have kX : ∀ k j, ¬ (1 ≤ k ∧ k < 5) → (wr (wr (wr X 3 (N + i) (nI d)) 4 (N + i) (nI s)) 1 4 (nI (N + i + 1))).1 k j = X.1 k j := fun k j h => by
      rw [wr_k _ _ (by omega), wr_k _ _ (by omega), wr_k _ _ (by omega)]
    have kM : ∀ k j, ¬ (k = 154 ∧ j < 86) → (wr (wr (wr M 154 (6 + (N + i)) (nI d)) 154 (46 + (N + i)) (nI s)) 154 1 (nI (N + i + 1))).1 k j = M.1 k j := fun k j h => by
      simp only [wr_at]
      rw [if_neg (by omega), if_neg (by omega), if_neg (by omega)]
    have kM1 : (wr (wr (wr M 154 (6 + (N + i)) (nI d)) 154 (46 + (N + i)) (nI s)) 154 1 (nI (N + i + 1))).1 154 1 = nI (N + (i + 1)) := wr_s _ _ _ _
    have kM0 : (wr (wr (wr M 154 (6 + (N + i)) (nI d)) 154 (46 + (N + i)) (nI s)) 154 1 (nI (N + i + 1))).1 154 0 = nI D := by
      rw [wr_j _ _ (by omega), wr_j _ _ (by omega), wr_j _ _ (by omega)]; exact hd0
    obtain ⟨X', M', b1, b2, b3, b4, b5, b6, b7, b8⟩ := ih (i + 1) f f' _ _ (by omega) (by omega) (by omega) g1 g2 kM1 kM0 ((kX 68 4 (by omega)).trans h4) ((kM 153 23 (by omega)).trans h23) (fun j hj => by
      obtain ⟨d0, s0, y1, y2, y3, y4, y5, y6⟩ := hA j hj
      exact ⟨d0, s0, y1, y2, (kX 70 j (by omega)).trans y3, (kM 167 j (by omega)).trans y4, (kX 71 j (by omega)).trans y5, (kM 168 j (by omega)).trans y6⟩)
    refine ⟨X', M', ?_, ?_, b3, fun k j h => (b4 k j h).trans (kX k j h), b5, fun k j h => (b6 k j h).trans (kM k j h), b7, b8⟩
    · have e1 : f_X9_dayRead X (nI i) = some (nI d) := by
        unfold f_X9_dayRead
        rw [h4, if_neg (nI_pos (by omega)), if_neg (nI_ge (by omega) (by omega)), if_pos i20, cl, a3]
      have e2 : f_X9_setRead X (nI i) = some (nI s) := by
        unfold f_X9_setRead
        rw [h4, if_neg (nI_pos (by omega)), if_neg (nI_ge (by omega) (by omega)), if_pos i20, cl, a5]
      rw [lp_X10_pieces_66, f_X9_readCount, bnd, h4, if_neg (nI_ge (by omega) (by omega)), e1, bnd, e2, bnd, x_addn hX14 (by omega), bnd, nI_1]
      exact b1
    · rw [lp_X11_pieces_25, h23, if_neg (nI_ge (by omega) (by omega)), if_pos i40, if_pos i40, cl, a4, a6, m_addn hn (by omega), bnd, nI_1]
      exact b2
theorem o_pieces : Op Inv (fun S => f_X10_pieces S) (fun S => f_X11_pieces S) := op_of fun S hI => by
  obtain ⟨F, hFu⟩ : ∃ F : Nat, 100000 = F := ⟨_, rfl⟩
  obtain ⟨D, N, L, hrD, hD1, hD, hn1, h40, hrL, hL1, hL, hV⟩ := hI.v
  obtain ⟨⟨z, t1, t2, t3, t4⟩, ⟨e, b1, b2, b3, b4⟩, s1, s2, s3⟩ := hI.2.2.2.2.2
  show ∃ r X M, f_X10_pieces S = some (r, X) ∧ Mh S X ∧ f_X11_pieces X = some (r, M) ∧ Xh X M ∧ Inv (cmb X M)
  have hc : ∀ j, j < z → S.1 156 j = nI (S.1 156 j).toNatClampNeg ∧ (S.1 156 j).toNatClampNeg < 256 ∧ S.1 69 j = nI (S.1 156 j).toNatClampNeg := fun j hj => by
    obtain ⟨y1, x, y2, y3⟩ := t4 j hj
    rw [y1, y3, nI_clamp (by omega)]
    exact ⟨rfl, y2, rfl⟩
  have kx0 : ∀ k j, ¬ (k = 68 ∧ (j = 4 ∨ j = 5)) → (wr (wr S 68 5 0) 68 4 0).1 k j = S.1 k j := fun k j h => by
    simp only [wr_at]
    rw [if_neg (by omega), if_neg (by omega)]
  have hXT : XT (wr (wr S 68 5 0) 68 4 0) (fun j => (S.1 156 j).toNatClampNeg) z := ⟨t1, (kx0 68 3 (by omega)).trans t2, fun j hj => ⟨(kx0 69 j (by omega)).trans (hc j hj).2.2, (hc j hj).2.1⟩⟩
  -- reading, over any memory whose reference's half is that of S
  have hread : ∀ Y : Mm, Mh S Y → ∃ (w q' : Nat) (X' M' : Mm), w ≤ 3 ∧ f_X9_read S (nI D) (nI (40 - N)) = some (nI w, X') ∧ Tf (wr (wr S 68 5 0) 68 4 0) X' 0 ∧ f_X11_readText Y = some (nI w, M') ∧ Tm Y M' 0 ∧ ((1 ≤ w ∧ M'.1 153 7 = X'.1 68 5) ∨ (w = 0 ∧ M'.1 153 7 = -1 ∧ X'.1 68 4 = nI q' ∧ M'.1 153 23 = nI q' ∧ N + q' ≤ 40 ∧ q' ≤ 20 ∧ Ark D q' X' M')) := fun Y hY => by
    have km0 : ∀ k j, ¬ (k = 153 ∧ (j = 20 ∨ j = 23)) → (wr (wr Y 153 20 0) 153 23 0).1 k j = Y.1 k j := fun k j h => by
      simp only [wr_at]
      rw [if_neg (by omega), if_neg (by omega)]
    have km1 : ∀ k j, 153 ≤ k → ¬ (k = 153 ∧ (j = 20 ∨ j = 23)) → (wr (wr Y 153 20 0) 153 23 0).1 k j = S.1 k j := fun k j h h' => (km0 k j h').trans (hY k j h)
    have hMT : MT (wr (wr Y 153 20 0) 153 23 0) (fun j => (S.1 156 j).toNatClampNeg) z := ⟨t1, (km1 153 6 (by omega) (by omega)).trans t3, fun j hj => ⟨(km1 156 j (by omega) (by omega)).trans (hc j hj).1, (hc j hj).2.1⟩⟩
    obtain ⟨w, q', X', M', i1, i2, i3, i4, i5, i6⟩ := read_pair (E := F - z) (by omega) hD z 0 0 F (wr (wr S 68 5 0) 68 4 0) (wr (wr Y 153 20 0) 153 23 0) (by omega) (by omega) (by omega) (by omega) (by omega) hXT hMT ((wr_j _ _ (by omega)).trans (wr_s _ _ _ _)) (wr_s _ _ _ _) ((wr_j _ _ (by omega)).trans (wr_s _ _ _ _)) (wr_s _ _ _ _) ((km1 154 0 (by omega) (by omega)).trans hrD) ((km1 154 1 (by omega) (by omega)).trans hn1) (fun j hj => absurd hj (by omega))
    refine ⟨w, q', X', M', i1, ?_, i3, ?_, ⟨i5.1, fun x j h h' => (i5.2 x j h h').trans (km0 x j (by omega))⟩, i6⟩
    · unfold f_X9_read
      rw [hFu]
      exact i2
    · unfold f_X11_readText
      rw [hFu]
      rw [show F - z + (z - 0) = F by omega] at i4
      exact i4
  have e40 : (40 : Int32) - S.1 1 4 = nI (40 - N) := by rw [hI.1.2.1, hn1, l_40, pk_sub h40]
  obtain ⟨w, q0, X', M0, w3, x1, x2, -, -, x6⟩ := hread S (Mh.rf S)
  have kX' : ∀ k j, ¬ (k = 68 ∧ (j = 4 ∨ j = 5)) → ¬ (k = 70 ∨ k = 71) → X'.1 k j = S.1 k j := fun k j h h' => (x2.2 k j h (by omega)).trans (kx0 k j h)
  by_cases hw : w = 0
  · subst hw
    have phase : ∀ Y : Mm, Mh S Y → ∃ (X4 M4 : Mm), f_X10_pieces S = some (X4.1 1 4, X4) ∧ f_X11_pieces Y = some (X4.1 1 4, M4) ∧ Mh S X4 ∧ Xh Y M4 ∧ Inv (cmb X4 M4) := fun Y hY => by
      obtain ⟨w', q1, X'', M', y1, y2, y3, y4, y5, y6⟩ := hread Y hY
      obtain ⟨hww, hXX⟩ : nI w' = nI 0 ∧ X'' = X' := by
        have := Option.some.inj (y2.symm.trans x1)
        exact ⟨congrArg Prod.fst this, congrArg Prod.snd this⟩
      subst hXX
      obtain rfl : w' = 0 := (nI_eq (by omega) (by omega)).mp hww
      obtain ⟨h7, q4, q23, hNq, hq20, hA⟩ : M'.1 153 7 = -1 ∧ X''.1 68 4 = nI q1 ∧ M'.1 153 23 = nI q1 ∧ N + q1 ≤ 40 ∧ q1 ≤ 20 ∧ Ark D q1 X'' M' := by
        rcases y6 with ⟨h, -⟩ | ⟨-, h⟩
        · exact absurd h (by omega)
        · exact h
      have kB : ∀ k j, ¬ (k = 68 ∨ k = 70 ∨ k = 71) → ¬ (k = 0 ∧ j = 7) → (wr (wr X'' 0 7 (-1)) 68 3 0).1 k j = S.1 k j := fun k j h h' => by
        rw [wr_k _ _ (by omega)]
        exact (if_neg h').trans (kX' k j (by omega) (by omega))
      have kB2 : ∀ k j, ¬ (k = 0 ∧ j = 7) → ¬ (k = 68 ∧ j = 3) → (wr (wr X'' 0 7 (-1)) 68 3 0).1 k j = X''.1 k j := fun k j h h' => (if_neg h').trans (if_neg h)
      have kC : (wr (wr X'' 0 7 (-1)) 68 3 0).1 0 7 = -1 := (wr_k _ _ (by omega)).trans (wr_s _ _ _ _)
      have kD : (wr (wr X'' 0 7 (-1)) 68 3 0).1 68 3 = 0 := wr_s _ _ _ _
      have kE : (wr (wr X'' 0 7 (-1)) 68 3 0).2 = S.2 := x2.1
      have hx : f_X10_pieces S = ((f_X10_aheadOfDeed (wr (wr X'' 0 7 (-1)) 68 3 0)).bind fun r28 => lp_X10_pieces_66 (fun y2_38 S39 => ((f_X6_count S39).bind fun r41 => some (r41, S39))) (nI 0) F 0 r28) := by
        unfold f_X10_pieces f_X6_dayCount f_X9_clear
        rw [show f_X6_count S = some (S.1 1 4) from rfl, bnd, bnd, e40, hI.1.1, hrD, x1, bnd, hFu]
        dsimp only
        rw [if_pos (show nI 0 = 0 by decide), bnd, if_pos (show nI 0 = 0 by decide)]
      generalize wr (wr X'' 0 7 (-1)) 68 3 0 = X2 at hx kB kB2 kC kD kE
      have km : ∀ k j, ¬ (k = 153 ∧ (j = 6 ∨ j = 7 ∨ j = 20 ∨ j = 23)) → ¬ (k = 167 ∨ k = 168) → (wr M' 153 6 0).1 k j = Y.1 k j := fun k j h h' => (show (wr M' 153 6 0).1 k j = M'.1 k j from if_neg (by omega)).trans (y5.2 k j (by omega) (by omega))
      have km2 : ∀ k j, ¬ (k = 153 ∧ j = 6) → (wr M' 153 6 0).1 k j = M'.1 k j := fun k j h => if_neg h
      have km6 : (wr M' 153 6 0).1 153 6 = 0 := wr_s _ _ _ _
      have km0 : (wr M' 153 6 0).2 = Y.2 := y5.1
      have hm : f_X11_pieces Y = ((f_X11_remember (wr M' 153 6 0)).bind fun r3 => lp_X11_pieces_25 (fun y2_9 S10 => some (S10.1 154 1, S10)) (nI 0) F 0 r3) := by
        unfold f_X11_pieces
        rw [y4, bnd, hFu]
        dsimp only
        rw [if_pos (show nI 0 ≤ 0 by decide)]
      generalize wr M' 153 6 0 = M2 at hm km km2 km6 km0
      have hkk : ∀ k j, ¬ (k = 68 ∨ k = 70 ∨ k = 71) → ¬ (k = 0 ∧ j = 7) → ¬ (k = 153 ∧ (j = 6 ∨ j = 7 ∨ j = 20 ∨ j = 23)) → ¬ (k = 167 ∨ k = 168) → (cmb X2 M2).1 k j = S.1 k j := fun k j h h' h2 h3 => by
        by_cases hk : k < 153
        · exact (cmb_x hk).trans (kB k j h h')
        · exact (cmb_m (by omega)).trans ((km k j h2 h3).trans (hY k j (by omega)))
      have hI2 : Inv (cmb X2 M2) := by
        refine hI.upd kE (fun k j g1 g2 g3 g4 g5 g6 => hkk k j (by omega) (by omega) (by omega) (by omega)) ⟨⟨0, by omega, (cmb_x (by omega)).trans kD, (cmb_m (by omega)).trans km6, fun j hj => absurd hj (by omega)⟩, ⟨e, b1, (hkk 138 3 (by omega) (by omega) (by omega) (by omega)).trans b2, (hkk 153 11 (by omega) (by omega) (by omega) (by omega)).trans b3, fun j hj => ?_⟩, ?_, ?_, ?_⟩
        · rw [hkk 139 j (by omega) (by omega) (by omega) (by omega), hkk 157 j (by omega) (by omega) (by omega) (by omega), hkk 140 j (by omega) (by omega) (by omega) (by omega), hkk 158 j (by omega) (by omega) (by omega) (by omega), hkk 141 j (by omega) (by omega) (by omega) (by omega), hkk 159 j (by omega) (by omega) (by omega) (by omega)]; exact b4 j hj
        · rw [hkk 0 6 (by omega) (by omega) (by omega) (by omega), hkk 153 3 (by omega) (by omega) (by omega) (by omega)]; exact s1
        · rw [hkk 153 3 (by omega) (by omega) (by omega) (by omega)]; exact s2
        · rw [cmb_x (by omega), cmb_m (by omega), kC, km2 153 7 (by omega), h7]
      obtain ⟨kn, X3, M3, k1, k2, k3, a1, a2, a3, a4, a5, a6, a7, a8, a9⟩ := ahead hI2
      have hR2 := hI2.1
      have hV2 := hI2.2.1
      rw [cmb_w] at hR2 hV2
      have h3r : ∀ j, j < 86 → M2.1 154 j = M3.1 154 j := fun j hj => by rw [a9 j, if_neg (by omega)]
      have hM2n : M2.1 154 1 = nI N := ((km 154 1 (by omega) (by omega)).trans (hY 154 1 (by omega))).trans hn1
      have hM2d : M2.1 154 0 = nI D := ((km 154 0 (by omega) (by omega)).trans (hY 154 0 (by omega))).trans hrD
      have hR3 : Row X3 1 (M3.1 154) := (hR2.ext h3r).mv (fun a j h3 h4 => (a5 a j (by omega) (by omega) (by omega)).trans (cmb_x (by omega)).symm)
      obtain ⟨X4, M4, c1, c2, c3, c4, c5, c6, c7, c8⟩ := adds (cx := nI 0) (cm := nI 0) (kx := fun _ S39 => ((f_X6_count S39).bind fun r41 => some (r41, S39))) (km := fun _ S10 => some (S10.1 154 1, S10)) hD hq20 hNq q1 0 F F X3 M3 (by omega) (by omega) (by omega) hR3 (hV2.ext h3r) ((h3r 1 (by omega)).symm.trans hM2n) ((h3r 0 (by omega)).symm.trans hM2d) ((a5 68 4 (by omega) (by omega) (by omega)).trans ((kB2 68 4 (by omega) (by omega)).trans q4)) ((a7 153 23 (by omega) (by omega)).trans ((km2 153 23 (by omega)).trans q23)) (fun j hj => by
        obtain ⟨d0, s0, z1, z2, z3, z4, z5, z6⟩ := hA j hj
        exact ⟨d0, s0, z1, z2, ((a5 70 j (by omega) (by omega) (by omega)).trans (kB2 70 j (by omega) (by omega))).trans z3, ((a7 167 j (by omega) (by omega)).trans (km2 167 j (by omega))).trans z4, ((a5 71 j (by omega) (by omega) (by omega)).trans (kB2 71 j (by omega) (by omega))).trans z5, ((a7 168 j (by omega) (by omega)).trans (km2 168 j (by omega))).trans z6⟩)
      have hcount : X4.1 1 4 = M4.1 154 1 := c7.2.1
      have kM4 : ∀ k j, k ≠ 154 → ¬ (k = 153 ∧ j = 1) → M4.1 k j = M2.1 k j := fun k j h h' => (c6 k j (by omega)).trans (a7 k j h h')
      obtain ⟨p1', p2, p3, p4⟩ := a3
      have hA1 : ∀ i, i < 16 → ∃ t, t < 16 ∧ X3.2 i = 74 + 4 * t := p4.1
      refine ⟨X4, M4, ?_, ?_, fun k j h => (c4 k j (by omega)).trans ((a5 k j (by omega) (by omega) (by omega)).trans (kB k j (by omega) (by omega))), ⟨c5.trans (a6.trans km0), fun k j h => (kM4 k j (by omega) (by omega)).trans (km k j (by omega) (by omega))⟩, deed (X := X2) (M := M2) hI2 k1 k2 ⟨(c4 72 1 (by omega)).trans p1', ?_, fun i hi q hq => ?_, by unfold Aw; rw [c3]; exact p4⟩ (fun k j h h' => (c4 k j (by omega)).trans (a5 k j (by omega) (by omega) (by omega))) ((c6 153 1 (by omega)).trans a8) (kM4 153 2 (by omega) (by omega)) (fun j => kM4 155 j (by omega) (by omega)) (fun j h => ?_) ((c4 0 8 (by omega)).trans a4) c7 c8 (Ivt.keep hI2.2.2.2.2.2 (fun k j h => ?_))⟩
      · rw [hx, a1, bnd, l_0]
        exact c1
      · rw [hm, a2, bnd, l_0, hcount]
        exact c2
      · obtain ⟨t, ht, hyt⟩ := hA1 (min (kn + 1) 16 - 1) (by omega)
        rw [c3]
        exact p2.mv (fun a j h3 h4 => c4 a j (by omega))
      · obtain ⟨t, ht, hyt⟩ := hA1 (min (kn + 1) 16 - 1 - (i + 1)) (by omega)
        rw [c3]
        exact (p3 i hi q hq).mv (fun a j h3 h4 => c4 a j (by omega))
      · rw [c6 154 j (by omega), a9 j]
        by_cases h' : j < 1462
        · rw [if_pos ⟨h, h'⟩, if_pos h']
        · rw [if_neg (by omega), if_neg h']
      · by_cases hk : k < 153
        · rw [cmb_x hk, cmb_x hk, c4 k j (by omega), a5 k j (by omega) (by omega) (by omega)]
        · rw [cmb_m (by omega), cmb_m (by omega), kM4 k j (by omega) (by omega)]
    obtain ⟨X4, -, f1, -, f3, -, -⟩ := phase S (Mh.rf S)
    obtain ⟨X5, M5, g1, g2, g3, g4, g5⟩ := phase X4 f3
    obtain rfl : X5 = X4 := congrArg Prod.snd (Option.some.inj (g1.symm.trans f1))
    exact ⟨X5.1 1 4, X5, M5, g1, g3, g2, g4, g5⟩
  · -- a fault
    have hw0 : ¬ nI w = 0 := fun h => hw ((nI_eq (show w < 2 ^ 31 by omega) (show 0 < 2 ^ 31 by decide)).mp h)
    have kB : ∀ k j, ¬ (k = 68 ∨ k = 70 ∨ k = 71) → ¬ (k = 0 ∧ j = 7) → (wr (wr X' 0 7 (X'.1 68 5)) 68 3 0).1 k j = S.1 k j := fun k j h h' => by
      rw [wr_k _ _ (by omega)]
      exact (if_neg h').trans (kX' k j (by omega) (by omega))
    have kC : (wr (wr X' 0 7 (X'.1 68 5)) 68 3 0).1 0 7 = X'.1 68 5 := (wr_k _ _ (by omega)).trans (wr_s _ _ _ _)
    have kD : (wr (wr X' 0 7 (X'.1 68 5)) 68 3 0).1 68 3 = 0 := wr_s _ _ _ _
    have kE : (wr (wr X' 0 7 (X'.1 68 5)) 68 3 0).2 = S.2 := x2.1
    have hx : f_X10_pieces S = some ((-10) - nI w, wr (wr X' 0 7 (X'.1 68 5)) 68 3 0) := by
      unfold f_X10_pieces f_X6_dayCount f_X6_count f_X9_place f_X9_clear
      rw [bnd, bnd, e40, hI.1.1, hrD, x1, bnd]
      dsimp only
      rw [if_neg hw0, bnd, bnd, if_neg hw0]
    generalize wr (wr X' 0 7 (X'.1 68 5)) 68 3 0 = X2 at hx kB kC kD kE
    have hMh : Mh S X2 := fun k j h => kB k j (by omega) (by omega)
    obtain ⟨w', q1, X'', M', y1, y2, y3, y4, y5, y6⟩ := hread X2 hMh
    obtain ⟨hww, hXX⟩ : nI w' = nI w ∧ X'' = X' := by
      have := Option.some.inj (y2.symm.trans x1)
      exact ⟨congrArg Prod.fst this, congrArg Prod.snd this⟩
    subst hXX
    obtain rfl : w' = w := (nI_eq (by omega) (by omega)).mp hww
    have h7 : M'.1 153 7 = X''.1 68 5 := by
      rcases y6 with ⟨-, h⟩ | ⟨h, -⟩
      · exact h
      · exact absurd h hw
    have km : ∀ k j, ¬ (k = 153 ∧ (j = 6 ∨ j = 7 ∨ j = 20 ∨ j = 23)) → ¬ (k = 167 ∨ k = 168) → (wr M' 153 6 0).1 k j = X2.1 k j := fun k j h h' => (show (wr M' 153 6 0).1 k j = M'.1 k j from if_neg (by omega)).trans (y5.2 k j (by omega) (by omega))
    have hXh : Xh X2 (wr M' 153 6 0) := ⟨y5.1, fun k j h => km k j (by omega) (by omega)⟩
    have hkk : ∀ k j, ¬ (k = 68 ∨ k = 70 ∨ k = 71) → ¬ (k = 0 ∧ j = 7) → ¬ (k = 153 ∧ (j = 6 ∨ j = 7 ∨ j = 20 ∨ j = 23)) → ¬ (k = 167 ∨ k = 168) → (cmb X2 (wr M' 153 6 0)).1 k j = S.1 k j := fun k j h h' h2 h3 => by
      by_cases hk : k < 153
      · exact (cmb_x hk).trans (kB k j h h')
      · exact (cmb_m (by omega)).trans ((km k j h2 h3).trans (kB k j h h'))
    refine ⟨(-10) - nI w', X2, wr M' 153 6 0, hx, hMh, ?_, hXh, hI.upd kE (fun k j g1 g2 g3 g4 g5 g6 => hkk k j (by omega) (by omega) (by omega) (by omega)) ⟨⟨0, by omega, (cmb_x (by omega)).trans kD, (cmb_m (by omega)).trans (wr_s _ _ _ _), fun j hj => absurd hj (by omega)⟩, ⟨e, b1, (hkk 138 3 (by omega) (by omega) (by omega) (by omega)).trans b2, (hkk 153 11 (by omega) (by omega) (by omega) (by omega)).trans b3, fun j hj => ?_⟩, ?_, ?_, ?_⟩⟩
    · unfold f_X11_pieces
      rw [y4, bnd]
      dsimp only
      rw [if_neg (show ¬ nI w' ≤ 0 from nI_ge (show 0 < w' by omega) (by omega))]
    · rw [hkk 139 j (by omega) (by omega) (by omega) (by omega), hkk 157 j (by omega) (by omega) (by omega) (by omega), hkk 140 j (by omega) (by omega) (by omega) (by omega), hkk 158 j (by omega) (by omega) (by omega) (by omega), hkk 141 j (by omega) (by omega) (by omega) (by omega), hkk 159 j (by omega) (by omega) (by omega) (by omega)]; exact b4 j hj
    · rw [hkk 0 6 (by omega) (by omega) (by omega) (by omega), hkk 153 3 (by omega) (by omega) (by omega) (by omega)]; exact s1
    · rw [hkk 153 3 (by omega) (by omega) (by omega) (by omega)]; exact s2
    · rw [cmb_x (by omega), cmb_m (by omega), kC, wr_j _ _ (by omega), h7]
