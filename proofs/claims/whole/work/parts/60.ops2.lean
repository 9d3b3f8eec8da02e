/-! move, days, term -/
theorem m154 {M : Mm} {i : Nat} {v : Int32} (hi : i < 86) : ∀ k j, ¬ (k = 154 ∧ j < 86) → (wr M 154 i v).1 k j = M.1 k j := fun k j h => if_neg (by omega)
theorem w154 {M : Mm} {i j : Nat} {v : Int32} : (wr M 154 i v).1 154 j = if j = i then v else M.1 154 j := by
  rw [wr_at]
  by_cases h : j = i
  · rw [if_pos ⟨rfl, h⟩, if_pos h]
  · rw [if_neg (fun q => h q.2), if_neg h]
theorem o_move (a1 a2 : Int32) : Op Inv (fun S => f_X10_move S a1 a2) (fun S => f_X11_move S a1 a2) := op_of fun S hI => by
  obtain ⟨D, N, L, hrD, hD1, hD, hn1, h40, hrL, hL1, hL, hV⟩ := hI.v
  have hsame : ∀ r, f_X10_move S a1 a2 = some (r, S) → f_X11_move S a1 a2 = some (r, S) → ∃ r X M, f_X10_move S a1 a2 = some (r, X) ∧ Mh S X ∧ f_X11_move X a1 a2 = some (r, M) ∧ Xh X M ∧ Inv (cmb X M) := fun r h1 h2 => ⟨r, S, S, h1, Mh.rf S, h2, Xh.rf S, by rw [cmb_s]; exact hI⟩
  show ∃ r X M, f_X10_move S a1 a2 = some (r, X) ∧ Mh S X ∧ f_X11_move X a1 a2 = some (r, M) ∧ Xh X M ∧ Inv (cmb X M)
  rcases pce3 (S := S) (S' := S) h40 (hI.1.2.1.trans hn1) hn1 a1 with ⟨h1, h2⟩ | ⟨k, hk, rfl, h1, h2⟩
  · exact hsame (-1000000001) (by unfold f_X10_move; rw [h1, bnd, if_pos rfl]) (by unfold f_X11_move; rw [h2, bnd, if_pos rfl])
  · rcases day3 (S := S) (S' := S) hD (hI.1.1.trans hrD) hrD a2 with ⟨h3, h4⟩ | ⟨d, hd, rfl, h3, h4⟩
    · exact hsame (-1000000001) (by unfold f_X10_move; rw [h1, bnd, if_neg (by decide), h3, bnd, if_pos rfl]) (by unfold f_X11_move; rw [h2, bnd, if_neg (by decide), h4, bnd, if_pos rfl])
    · obtain ⟨kn, X1, k1, a1, a2, a3, a4⟩ := deed0 hI
      obtain ⟨M1, b1, b2, b3⟩ := a4 (wr X1 3 k (nI d)) rfl (fun k j h => by rw [wr_k _ _ (by omega)])
      have hcl : (nI k).toNatClampNeg = k := nI_clamp (by omega)
      obtain ⟨q1, q2, q3⟩ := b3 (wr M1 154 (6 + k) (nI d)) rfl (m154 (by omega)) ⟨by rw [w154, if_neg (by omega), wr_k _ _ (by omega), b2 0 (by omega)]; exact a2.1, by rw [w154, if_neg (by omega), wr_k _ _ (by omega), b2 1 (by omega)]; exact a2.2.1, fun j hj => by rw [w154, if_neg (by omega), wr_k _ _ (by omega), b2 _ (by omega)]; exact a2.2.2.1 j hj, fun j hj => by
          rw [w154]
          by_cases h : j = k
          · subst h; rw [if_pos rfl]; exact wr_s _ _ _ _
          · rw [if_neg (by omega), wr_j _ _ h, b2 _ (by omega)]; exact a2.2.2.2.1 j hj, fun j hj => by rw [w154, if_neg (by omega), wr_k _ _ (by omega), b2 _ (by omega)]; exact a2.2.2.2.2 j hj⟩ (by
        obtain ⟨v1, v2, v3, v4, v5, v6, v7⟩ := hI.2.1.ext (q := M1.1 154) (fun j hj => (b2 j hj).symm)
        have hM1 : M1.1 154 1 = nI N := (b2 1 (by omega)).trans hn1
        have hM0 : M1.1 154 0 = nI D := (b2 0 (by omega)).trans hrD
        rw [hM1, hM0, nI_clamp (by omega), nI_clamp (by omega)] at v7
        refine ⟨by rw [w154, if_neg (by omega)]; exact v1, by rw [w154, if_neg (by omega)]; exact v2, by rw [w154, if_neg (by omega)]; exact v3, by rw [w154, if_neg (by omega)]; exact v4, by rw [w154, if_neg (by omega)]; exact v5, by rw [w154, if_neg (by omega)]; exact v6, fun i hi => ?_⟩
        rw [w154, if_neg (by omega), hM1, nI_clamp (by omega)] at hi
        rw [w154 (j := 0), if_neg (by omega), hM0, nI_clamp (by omega), w154 (j := 46 + i), if_neg (by omega), w154]
        by_cases h : i = k
        · subst h; rw [if_pos rfl]; exact ⟨⟨d, rfl, hd⟩, (v7 i hi).2⟩
        · rw [if_neg (by omega)]; exact v7 i hi)
      refine ⟨S.1 154 (6 + k), _, _, ?_, q1, ?_, q2, q3⟩
      · have e1 : f_X6_dayOf S (nI k) = some (S.1 154 (6 + k)) := by
          unfold f_X6_dayOf
          rw [h1, bnd, if_neg (by decide), if_pos ((inb_nI (by omega)).mpr (by omega)), hcl]
          exact congrArg some (hI.1.2.2.2.1 k (by omega))
        have e2 : f_X6_putOn X1 (nI k) (nI d) = some (wr X1 3 k (nI d)) := by
          unfold f_X6_putOn f_X6_hasPiece
          rw [a3, hn1, if_neg (nI_pos (by omega)), if_neg (nI_ge hk (by omega)), bnd, if_neg (by decide), if_pos ((inb_nI (by omega)).mpr (by omega)), hcl]
        unfold f_X10_move
        rw [h1, bnd, if_neg (by decide), h3, bnd, if_neg (by decide), e1, bnd, a1, bnd, e2, bnd]
      · have hd1 : f_X11_isDay (wr X1 3 k (nI d)) (nI d) = some 1 := m_isDay_y hD ((q1 154 0 (by omega)).trans hrD) hd
        have hp1 : f_X11_isPiece (wr X1 3 k (nI d)) (nI k) = some 1 := by
          unfold f_X11_isPiece
          rw [q1 154 1 (by omega), hn1, in_c (nI k) 0 (nI N - 1) (by decide) rfl, bnd, if_pos (rng_y (by omega) hk)]
          rfl
        have i6 : (6 + nI k).toNatClampNeg = 6 + k := by rw [l_6, nI_add, nI_clamp (by omega)]
        have b6 : inb (6 + nI k) 1634 := by rw [l_6, nI_add]; exact (inb_nI (by omega)).mpr (by omega)
        unfold f_X11_move
        rw [hp1, bnd, if_neg (by decide), hd1, bnd, if_neg (by decide), b1, bnd, if_pos b6, if_pos b6, i6, b2 (6 + k) (by omega)]
theorem x_from_loop {S : Mm} {n : Nat} {a : Int32} (h4 : S.1 1 4 = nI n) (h40 : n ≤ 40) : ∀ (m i fuel : Nat), i + m = n → m < fuel → ((∀ j, i ≤ j → j < n → S.1 3 j < a) ∧ lp_X6_hasPieceFrom_2 (fun _ => some 0) S a fuel (nI i) = some 0) ∨ ((∃ j, i ≤ j ∧ j < n ∧ ¬ S.1 3 j < a) ∧ lp_X6_hasPieceFrom_2 (fun _ => some 0) S a fuel (nI i) = some 1) := by
  intro m
  induction m with
  | zero =>
    intro i fuel h1 h2
    obtain ⟨f, rfl⟩ : ∃ f, fuel = f + 1 := ⟨fuel - 1, by omega⟩
    refine Or.inl ⟨fun j h3 h5 => absurd h5 (by omega), ?_⟩
    rw [lp_X6_hasPieceFrom_2, h4, if_pos (nI_le (by omega) (by omega))]
  | succ m ih =>
    intro i fuel h1 h2
    obtain ⟨f, rfl⟩ : ∃ f, fuel = f + 1 := ⟨fuel - 1, by omega⟩
    rw [lp_X6_hasPieceFrom_2, h4, if_neg (nI_ge (by omega) (by omega)), if_pos ((inb_nI (by omega)).mpr (by omega)), nI_1]
    have hcl : (nI i).toNatClampNeg = i := nI_clamp (by omega)
    simp only [hcl]
    by_cases h : S.1 3 i < a
    · rw [if_pos h]
      rcases ih (i + 1) f (by omega) (by omega) with ⟨g1, g2⟩ | ⟨⟨j, g1, g2, g3⟩, g4⟩
      · refine Or.inl ⟨fun j h3 h5 => ?_, g2⟩
        by_cases hj : j = i
        · rw [hj]; exact h
        · exact g1 j (by omega) h5
      · exact Or.inr ⟨⟨j, by omega, g2, g3⟩, g4⟩
    · rw [if_neg h]
      exact Or.inr ⟨⟨i, Nat.le_refl i, by omega, h⟩, rfl⟩
theorem m_from_loop {S : Mm} {n : Nat} {a : Int32} {k : Int32 → Option (Int32 × Mm)} (h4 : S.1 154 1 = nI n) (h40 : n ≤ 40) : ∀ (m i fuel : Nat), i + m = n → m < fuel → ((∀ j, i ≤ j → j < n → S.1 154 (6 + j) < a) → lp_X11_days_17 k S a fuel (nI i) = k (nI n)) ∧ ((∃ j, i ≤ j ∧ j < n ∧ ¬ S.1 154 (6 + j) < a) → lp_X11_days_17 k S a fuel (nI i) = some ((-1000000003), S)) := by
  intro m
  induction m with
  | zero =>
    intro i fuel h1 h2
    obtain ⟨f, rfl⟩ : ∃ f, fuel = f + 1 := ⟨fuel - 1, by omega⟩
    refine ⟨fun _ => ?_, fun ⟨j, h3, h5, _⟩ => absurd h5 (by omega)⟩
    rw [lp_X11_days_17, h4, show i = n by omega, if_pos (nI_le (by omega) (by omega))]
  | succ m ih =>
    intro i fuel h1 h2
    obtain ⟨f, rfl⟩ : ∃ f, fuel = f + 1 := ⟨fuel - 1, by omega⟩
    have i6 : (6 + nI i).toNatClampNeg = 6 + i := by rw [l_6, nI_add, nI_clamp (by omega)]
    have b6 : inb (6 + nI i) 1634 := by rw [l_6, nI_add]; exact (inb_nI (by omega)).mpr (by omega)
    rw [lp_X11_days_17, h4, if_neg (nI_ge (by omega) (by omega)), if_pos b6, nI_1]
    simp only [i6]
    obtain ⟨g1, g2⟩ := ih (i + 1) f (by omega) (by omega)
    refine ⟨fun hall => ?_, fun ⟨j, h3, h5, h6⟩ => ?_⟩
    · rw [if_pos (hall i (Nat.le_refl i) (by omega))]
      exact g1 (fun j h3 h5 => hall j (by omega) h5)
    · by_cases h : S.1 154 (6 + i) < a
      · rw [if_pos h]
        have hj : j ≠ i := fun e => h6 (by rw [e]; exact h)
        exact g2 ⟨j, by omega, h5, h6⟩
      · rw [if_neg h]
theorem o_days (a1 : Int32) : Op Inv (fun S => f_X10_days S a1) (fun S => f_X11_days S a1) := op_of fun S hI => by
  obtain ⟨D, N, L, hrD, hD1, hD, hn1, h40, hrL, hL1, hL, hV⟩ := hI.v
  obtain ⟨F, hFu⟩ : ∃ F : Nat, 100000 = F := ⟨_, rfl⟩
  have hsame : ∀ r, f_X10_days S a1 = some (r, S) → f_X11_days S a1 = some (r, S) → ∃ r X M, f_X10_days S a1 = some (r, X) ∧ Mh S X ∧ f_X11_days X a1 = some (r, M) ∧ Xh X M ∧ Inv (cmb X M) := fun r h1 h2 => ⟨r, S, S, h1, Mh.rf S, h2, Xh.rf S, by rw [cmb_s]; exact hI⟩
  show ∃ r X M, f_X10_days S a1 = some (r, X) ∧ Mh S X ∧ f_X11_days X a1 = some (r, M) ∧ Xh X M ∧ Inv (cmb X M)
  have hin : ∀ Y : Mm, f_X11_in Y a1.toInt64 1 12 = some (if 1 ≤ a1 ∧ a1 ≤ 12 then 1 else 0) := fun Y => in_c a1 1 12 (by decide) (by decide)
  by_cases hlo : a1 < 1
  · refine hsame (-1000000002) (by unfold f_X10_days; rw [if_pos hlo]) (by unfold f_X11_days; rw [hin, if_neg (fun h => Int32.not_le.mpr hlo h.1), bnd, if_pos rfl])
  · by_cases hhi : a1 ≤ 12
    · have hin1 : (1 : Int32) ≤ a1 ∧ a1 ≤ 12 := ⟨Int32.not_lt.mp hlo, hhi⟩
      have h0 : ¬ a1 < 0 := fun h => hlo (Int32.lt_trans h (by decide))
      obtain ⟨d, hd31, rfl⟩ := nI_of h0
      have hd1 : 1 ≤ d := Nat.not_lt.mp fun h => hlo (nI_lt h (by decide))
      have hd12 : d ≤ 12 := Nat.not_lt.mp fun h => nI_ge h hd31 hhi
      rcases x_from_loop (S := S) (a := nI d) (hI.1.2.1.trans hn1) h40 N 0 F (by omega) (by omega) with ⟨g1, g2⟩ | ⟨⟨j, g1, g2, g3⟩, g4⟩
      · have hfrom : f_X6_hasPieceFrom S (nI d) = some 0 := by
          unfold f_X6_hasPieceFrom
          rw [hFu]
          exact g2
        obtain ⟨kn, X1, k1, a1, a2, a3, a4⟩ := deed0 hI
        obtain ⟨M1, b1, b2, b3⟩ := a4 (wr X1 1 3 (nI d)) rfl (fun k j h => by rw [wr_k _ _ (by omega)])
        have hM1 : M1.1 154 1 = nI N := (b2 1 (by omega)).trans hn1
        obtain ⟨q1, q2, q3⟩ := b3 (wr M1 154 0 (nI d)) rfl (m154 (by omega)) ⟨by rw [w154, if_pos rfl]; exact wr_s _ _ _ _, by rw [w154, if_neg (by omega), wr_j _ _ (by omega), b2 1 (by omega)]; exact a2.2.1, fun j hj => by rw [w154, if_neg (by omega), wr_k _ _ (by omega), b2 _ (by omega)]; exact a2.2.2.1 j hj, fun j hj => by rw [w154, if_neg (by omega), wr_k _ _ (by omega), b2 _ (by omega)]; exact a2.2.2.2.1 j hj, fun j hj => by rw [w154, if_neg (by omega), wr_k _ _ (by omega), b2 _ (by omega)]; exact a2.2.2.2.2 j hj⟩ (by
          obtain ⟨v1, v2, v3, v4, v5, v6, v7⟩ := hI.2.1.ext (q := M1.1 154) (fun j hj => (b2 j hj).symm)
          rw [hM1, nI_clamp (by omega)] at v7
          refine ⟨⟨d, by rw [w154, if_pos rfl], hd1, hd12⟩, by rw [w154, if_neg (by omega)]; exact v2, by rw [w154, if_neg (by omega)]; exact v3, by rw [w154, if_neg (by omega)]; exact v4, by rw [w154, if_neg (by omega)]; exact v5, by rw [w154, if_neg (by omega)]; exact v6, fun i hi => ?_⟩
          rw [w154, if_neg (by omega), hM1, nI_clamp (by omega)] at hi
          rw [w154 (j := 0), if_pos rfl, nI_clamp (by omega), w154 (j := 46 + i), if_neg (by omega), w154, if_neg (by omega)]
          obtain ⟨y, y1, y2⟩ := (hV i hi).1
          have hy := g1 i (Nat.zero_le i) hi
          rw [show S.1 3 i = S.1 154 (6 + i) from hI.1.2.2.2.1 i (by omega), y1] at hy
          have hyd : y < d := Nat.not_le.mp fun h => nI_nlt h (by omega) hy
          exact ⟨⟨y, (b2 _ (by omega)).trans y1, hyd⟩, (v7 i hi).2⟩)
        refine ⟨S.1 154 0, _, _, ?_, q1, ?_, q2, q3⟩
        · have e2 : f_X6_setDayCount X1 (nI d) = some (wr X1 1 3 (nI d)) := by
            unfold f_X6_setDayCount
            by_cases h1 : 1 < d
            · simp (disch := omega) only [nI_add, nI_1, nI_leI, nI_ltI, nI_eq, inb_nI, nI_clamp, if_pos, if_neg, if_true, if_false, bnd, l_0, l_1, l_2, l_3, l_4, l_5, l_6, l_7, l_8, l_9, l_10, l_11, l_12, l_13, l_14, l_15, l_16, l_17, l_18, l_19, l_20, l_21, l_22, l_23, l_24, l_25, l_26, l_27, l_28, l_29, l_30, l_31, l_32, l_33, l_34, l_35, l_36, l_37, l_38, l_39, l_40, l_41, l_42, l_43, l_44, l_45, l_46, l_47, l_48, l_49, l_50, l_51, l_52, l_53, l_54, l_55, l_56, l_57, l_58, l_59, l_60, l_61, l_62, l_63, l_64, l_65, l_66, l_67, l_68, l_69, l_70, l_71, l_72, l_73, l_74, l_75, l_76, l_77, l_78, l_79, l_80, l_81, l_82, l_83, l_84, l_85, l_86, l_87, l_88, l_89, l_90, l_91, l_92, l_93, l_94, l_95, l_96, l_97, l_98, l_99, l_100, l_123, l_144, l_160, l_255, l_256, l_1000, l_1462, l_1634, l_65536]
            · obtain rfl : d = 1 := by omega
              rfl
          unfold f_X10_days
          rw [if_neg hlo, if_pos hhi, hfrom, bnd, if_pos rfl, f_X6_dayCount, bnd, a1, bnd, e2, bnd, hI.1.1]
        · unfold f_X11_days
          rw [hin, if_pos hin1, bnd, if_neg (by decide), hFu, l_0]
          refine ((m_from_loop ((q1 154 1 (by omega)).trans hn1) h40 N 0 F (by omega) (by omega)).1 (fun j h3 h5 => ?_)).trans ?_
          · rw [q1 154 (6 + j) (by omega), ← hI.1.2.2.2.1 j (by omega)]; exact g1 j h3 h5
          · rw [b1, bnd, b2 0 (by omega)]
      · refine hsame (-1000000003) ?_ ?_
        · have hfrom : f_X6_hasPieceFrom S (nI d) = some 1 := by
            unfold f_X6_hasPieceFrom
            rw [hFu]
            exact g4
          unfold f_X10_days
          rw [if_neg hlo, if_pos hhi, hfrom, bnd, if_neg (by decide)]
        · unfold f_X11_days
          rw [hin, if_pos hin1, bnd, if_neg (by decide), hFu, l_0]
          refine (m_from_loop hn1 h40 N 0 F (by omega) (by omega)).2 ⟨j, g1, g2, ?_⟩
          rw [← hI.1.2.2.2.1 j (by omega)]; exact g3
    · refine hsame (-1000000002) (by unfold f_X10_days; rw [if_neg hlo, if_neg hhi]) (by unfold f_X11_days; rw [hin, if_neg (fun h => hhi h.2), bnd, if_pos rfl])

theorem trm3 {S : Mm} (a1 a2 : Int32) : (∃ t v, t < 4 ∧ a1 = nI t ∧ a2 = nI v ∧ v ≤ 99 ∧ f_X6_isTerm S a1 = some 1 ∧ f_X6_isInBounds S a1 a2 = some 1 ∧ (t = 0 → 1 ≤ v ∧ v ≤ 3) ∧ (t = 1 → 1 ≤ v ∧ v ≤ 9) ∧ (t = 2 → 1 ≤ v ∧ v ≤ 9) ∧ (t = 3 → v ≤ 99)) ∨ (f_X6_isTerm S a1 = some 0) ∨ (∃ t, t < 4 ∧ a1 = nI t ∧ f_X6_isTerm S a1 = some 1 ∧ f_X6_isInBounds S a1 a2 = some 0 ∧ (t = 0 → ¬ (1 ≤ a2 ∧ a2 ≤ 3)) ∧ (t = 1 → ¬ (1 ≤ a2 ∧ a2 ≤ 9)) ∧ (t = 2 → ¬ (1 ≤ a2 ∧ a2 ≤ 9)) ∧ (t = 3 → ¬ (0 ≤ a2 ∧ a2 ≤ 99))) := by
  rcases rng (show 4 < 2 ^ 31 by decide) a1 with ⟨c1, c2⟩ | ⟨t, ht, rfl⟩
  · refine Or.inr (Or.inl ?_)
    unfold f_X6_isTerm
    by_cases h : a1 < 0
    · rw [if_pos h]
    · rw [if_neg h, if_pos (show (4 : Int32) ≤ a1 from c2.resolve_left h)]
  · have e1 : f_X6_isTerm S (nI t) = some 1 := by
      unfold f_X6_isTerm
      rw [if_neg (nI_pos (by omega)), if_neg (show ¬ (4 : Int32) ≤ nI t from nI_ge ht (by decide))]
    have e2 : f_X6_isInBounds S (nI t) a2 = some (if LEL t ≤ a2 ∧ a2 ≤ MOL t then 1 else 0) := by
      unfold f_X6_isInBounds
      have i1 : inb (nI t) 4 := (inb_nI (by omega)).mpr ht
      rw [e1, bnd, if_neg (by decide), if_pos i1, if_pos i1, nI_clamp (by omega)]
      by_cases h1 : a2 < LEL t
      · rw [if_pos h1, if_neg (fun h => Int32.not_le.mpr h1 h.1)]
      · rw [if_neg h1]
        by_cases h2 : MOL t < a2
        · rw [if_pos h2, if_neg (fun h => Int32.not_le.mpr h2 h.2)]
        · rw [if_neg h2, if_pos ⟨Int32.not_lt.mp h1, Int32.not_lt.mp h2⟩]
    by_cases hb : LEL t ≤ a2 ∧ a2 ≤ MOL t
    · rw [if_pos hb] at e2
      have h0 : ¬ a2 < 0 := fun h => by
        have : (0 : Int32) ≤ LEL t := by
          rcases (by omega : t = 0 ∨ t = 1 ∨ t = 2 ∨ t = 3) with rfl | rfl | rfl | rfl <;> decide
        exact Int32.not_le.mpr h (Int32.le_trans this hb.1)
      obtain ⟨v, hv, rfl⟩ := nI_of h0
      have lo : ∀ x, x < 2 ^ 31 → nI x ≤ nI v → x ≤ v := fun x hx h => Nat.not_lt.mp fun h' => nI_ge h' hx h
      have hi : ∀ x, nI v ≤ nI x → v ≤ x := fun x h => Nat.not_lt.mp fun h' => nI_ge h' hv h
      refine Or.inl ⟨t, v, ht, rfl, rfl, ?_, e1, e2, ?_, ?_, ?_, ?_⟩
      · rcases (by omega : t = 0 ∨ t = 1 ∨ t = 2 ∨ t = 3) with rfl | rfl | rfl | rfl
        · have := hi 3 hb.2; omega
        · have := hi 9 hb.2; omega
        · have := hi 9 hb.2; omega
        · exact hi 99 hb.2
      · rintro rfl; exact ⟨lo 1 (by decide) hb.1, hi 3 hb.2⟩
      · rintro rfl; exact ⟨lo 1 (by decide) hb.1, hi 9 hb.2⟩
      · rintro rfl; exact ⟨lo 1 (by decide) hb.1, hi 9 hb.2⟩
      · rintro rfl; exact hi 99 hb.2
    · rw [if_neg hb] at e2
      refine Or.inr (Or.inr ⟨t, ht, rfl, e1, e2, ?_, ?_, ?_, ?_⟩)
      · rintro rfl; exact hb
      · rintro rfl; exact hb
      · rintro rfl; exact hb
      · rintro rfl; exact hb
theorem m_term {S : Mm} {t : Nat} {a2 : Int32} (ht : t < 4) : f_X11_term S (nI t) a2 = if (if t = 3 then 0 else 1) ≤ a2 ∧ a2 ≤ (if t = 0 then 3 else if t = 3 then 99 else 9) then ((f_X11_remember S).bind fun r5 => some (r5.1 154 (2 + t), wr r5 154 (2 + t) a2)) else some ((-1000000002), S) := by
  have hin0 : f_X11_in S (nI t).toInt64 0 3 = some 1 := by
    rw [in_c (nI t) 0 3 (by decide) (by decide), if_pos ⟨nI_pos' (by omega), nI_le (show t ≤ 3 by omega) (by decide)⟩]
  have i2 : (2 + nI t).toNatClampNeg = 2 + t := by rw [l_2, nI_add, nI_clamp (by omega)]
  have b2 : inb (2 + nI t) 1634 := by rw [l_2, nI_add]; exact (inb_nI (by omega)).mpr (by omega)
  have g13 : f_X11_in S a2.toInt64 1 3 = some (if 1 ≤ a2 ∧ a2 ≤ 3 then 1 else 0) := in_c a2 1 3 (by decide) (by decide)
  have g19 : f_X11_in S a2.toInt64 1 9 = some (if 1 ≤ a2 ∧ a2 ≤ 9 then 1 else 0) := in_c a2 1 9 (by decide) (by decide)
  have g099 : f_X11_in S a2.toInt64 0 99 = some (if 0 ≤ a2 ∧ a2 ≤ 99 then 1 else 0) := in_c a2 0 99 (by decide) (by decide)
  unfold f_X11_term
  rw [hin0, bnd, if_neg (by decide)]
  simp only [if_pos b2, i2, g13, g19, g099, bnd]
  rcases (by omega : t = 0 ∨ t = 1 ∨ t = 2 ∨ t = 3) with rfl | rfl | rfl | rfl
  · rw [if_neg (show ¬ nI 0 = 3 by decide), if_pos (show nI 0 = 0 by decide)]
    by_cases h : (1 : Int32) ≤ a2 ∧ a2 ≤ 3
    · rw [if_pos h, if_neg (by decide)]; exact (if_pos h).symm
    · rw [if_neg h, if_pos rfl]; exact (if_neg h).symm
  · rw [if_neg (show ¬ nI 1 = 3 by decide), if_neg (show ¬ nI 1 = 0 by decide), if_neg (show ¬ nI 1 = 3 by decide)]
    by_cases h : (1 : Int32) ≤ a2 ∧ a2 ≤ 9
    · rw [if_pos h, if_neg (by decide)]; exact (if_pos h).symm
    · rw [if_neg h, if_pos rfl]; exact (if_neg h).symm
  · rw [if_neg (show ¬ nI 2 = 3 by decide), if_neg (show ¬ nI 2 = 0 by decide), if_neg (show ¬ nI 2 = 3 by decide)]
    by_cases h : (1 : Int32) ≤ a2 ∧ a2 ≤ 9
    · rw [if_pos h, if_neg (by decide)]; exact (if_pos h).symm
    · rw [if_neg h, if_pos rfl]; exact (if_neg h).symm
  · rw [if_pos (show nI 3 = 3 by decide), if_neg (show ¬ nI 3 = 0 by decide), if_pos (show nI 3 = 3 by decide)]
    by_cases h : (0 : Int32) ≤ a2 ∧ a2 ≤ 99
    · rw [if_pos h, if_neg (by decide)]; exact (if_pos h).symm
    · rw [if_neg h, if_pos rfl]; exact (if_neg h).symm
theorem o_term (a1 a2 : Int32) : Op Inv (fun S => f_X10_term S a1 a2) (fun S => f_X11_term S a1 a2) := op_of fun S hI => by
  obtain ⟨D, N, L, hrD, hD1, hD, hn1, h40, hrL, hL1, hL, hV⟩ := hI.v
  have hsame : ∀ r, f_X10_term S a1 a2 = some (r, S) → f_X11_term S a1 a2 = some (r, S) → ∃ r X M, f_X10_term S a1 a2 = some (r, X) ∧ Mh S X ∧ f_X11_term X a1 a2 = some (r, M) ∧ Xh X M ∧ Inv (cmb X M) := fun r h1 h2 => ⟨r, S, S, h1, Mh.rf S, h2, Xh.rf S, by rw [cmb_s]; exact hI⟩
  show ∃ r X M, f_X10_term S a1 a2 = some (r, X) ∧ Mh S X ∧ f_X11_term X a1 a2 = some (r, M) ∧ Xh X M ∧ Inv (cmb X M)
  rcases trm3 (S := S) a1 a2 with ⟨t, v, ht, rfl, rfl, hv99, e1, e2, w0, w1, w2, w3⟩ | h1 | ⟨t, ht, rfl, e1, e2, w0, w1, w2, w3⟩
  · obtain ⟨kn, X1, k1, a1, a2, a3, a4⟩ := deed0 hI
    obtain ⟨M1, b1, b2, b3⟩ := a4 (wr X1 2 t (nI v)) rfl (fun k j h => by rw [wr_k _ _ (by omega)])
    have hM1 : M1.1 154 1 = nI N := (b2 1 (by omega)).trans hn1
    have hcl : (nI t).toNatClampNeg = t := nI_clamp (by omega)
    obtain ⟨q1, q2, q3⟩ := b3 (wr M1 154 (2 + t) (nI v)) rfl (m154 (by omega)) ⟨by rw [w154, if_neg (by omega), wr_k _ _ (by omega), b2 0 (by omega)]; exact a2.1, by rw [w154, if_neg (by omega), wr_k _ _ (by omega), b2 1 (by omega)]; exact a2.2.1, fun j hj => by
        rw [w154]
        by_cases h : j = t
        · subst h; rw [if_pos rfl]; exact wr_s _ _ _ _
        · rw [if_neg (by omega), wr_j _ _ h, b2 _ (by omega)]; exact a2.2.2.1 j hj, fun j hj => by rw [w154, if_neg (by omega), wr_k _ _ (by omega), b2 _ (by omega)]; exact a2.2.2.2.1 j hj, fun j hj => by rw [w154, if_neg (by omega), wr_k _ _ (by omega), b2 _ (by omega)]; exact a2.2.2.2.2 j hj⟩ (by
      obtain ⟨v1, v2, v3, v4, v5, v6, v7⟩ := hI.2.1.ext (q := M1.1 154) (fun j hj => (b2 j hj).symm)
      refine ⟨by rw [w154, if_neg (by omega)]; exact v1, by rw [w154, if_neg (by omega)]; exact v2, ?_, ?_, ?_, ?_, fun i hi => ?_⟩
      · rw [w154]
        by_cases h : t = 0
        · rw [if_pos (by omega)]; exact ⟨v, rfl, w0 h⟩
        · rw [if_neg (by omega)]; exact v3
      · rw [w154]
        by_cases h : t = 1
        · rw [if_pos (by omega)]; exact ⟨v, rfl, w1 h⟩
        · rw [if_neg (by omega)]; exact v4
      · rw [w154]
        by_cases h : t = 2
        · rw [if_pos (by omega)]; exact ⟨v, rfl, w2 h⟩
        · rw [if_neg (by omega)]; exact v5
      · rw [w154]
        by_cases h : t = 3
        · rw [if_pos (by omega)]; exact ⟨v, rfl, hv99⟩
        · rw [if_neg (by omega)]; exact v6
      · rw [w154, if_neg (by omega)] at hi
        rw [w154 (j := 0), if_neg (by omega), w154 (j := 46 + i), if_neg (by omega), w154, if_neg (by omega)]
        exact v7 i hi)
    refine ⟨S.1 154 (2 + t), _, _, ?_, q1, ?_, q2, q3⟩
    · have e3 : f_X6_termOf S (nI t) = some (S.1 154 (2 + t)) := by
        unfold f_X6_termOf
        rw [e1, bnd, if_neg (by decide), if_pos ((inb_nI (by omega)).mpr ht), hcl]
        exact congrArg some (hI.1.2.2.1 t ht)
      have e4 : f_X6_setTerm X1 (nI t) (nI v) = some (wr X1 2 t (nI v)) := by
        unfold f_X6_setTerm
        rw [show f_X6_isInBounds X1 (nI t) (nI v) = some 1 from e2, bnd, if_neg (by decide), if_pos ((inb_nI (by omega)).mpr ht), hcl]
      unfold f_X10_term
      rw [e1, bnd, if_neg (by decide), e2, bnd, if_neg (by decide), e3, bnd, a1, bnd, e4, bnd]
    · rw [m_term ht, if_pos, b1, bnd, b2 _ (by omega)]
      rcases (by omega : t = 0 ∨ t = 1 ∨ t = 2 ∨ t = 3) with rfl | rfl | rfl | rfl
      · exact ⟨nI_le (w0 rfl).1 (by omega), nI_le (w0 rfl).2 (by decide)⟩
      · exact ⟨nI_le (w1 rfl).1 (by omega), nI_le (w1 rfl).2 (by decide)⟩
      · exact ⟨nI_le (w2 rfl).1 (by omega), nI_le (w2 rfl).2 (by decide)⟩
      · exact ⟨nI_pos' (by omega), nI_le (w3 rfl) (by decide)⟩
  · refine hsame (-1000000002) (by unfold f_X10_term; rw [h1, bnd, if_pos rfl]) ?_
    unfold f_X11_term
    have : f_X11_in S a1.toInt64 0 3 = some 0 := by
      rw [in_c a1 0 3 (by decide) (by decide), if_neg]
      intro h
      rcases rng (show 4 < 2 ^ 31 by decide) a1 with ⟨c1, c2⟩ | ⟨t, ht, rfl⟩
      · exact c1 h
      · unfold f_X6_isTerm at h1
        rw [if_neg (nI_pos (by omega)), if_neg (show ¬ (4 : Int32) ≤ nI t from nI_ge ht (by decide))] at h1
        exact absurd h1 (by decide)
    rw [this, bnd, if_pos rfl]
  · refine hsame (-1000000002) (by unfold f_X10_term; rw [e1, bnd, if_neg (by decide), e2, bnd, if_pos rfl]) ?_
    rw [m_term ht, if_neg]
    rcases (by omega : t = 0 ∨ t = 1 ∨ t = 2 ∨ t = 3) with rfl | rfl | rfl | rfl
    · exact w0 rfl
    · exact w1 rfl
    · exact w2 rfl
    · exact w3 rfl
