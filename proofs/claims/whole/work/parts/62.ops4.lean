/-! write, tear, feed -/
theorem o_tear : Op Inv (fun S => f_X10_tear S) (fun S => f_X11_tear S) := fun S hI => by
  obtain ⟨⟨z, t1, t2, t3, t4⟩, ⟨e, b1, b2, b3, b4⟩, s1, s2, s3⟩ := hI.2.2.2.2.2
  have hk : ∀ k j, ¬ (k = 138 ∧ j = 3) → ¬ (k = 153 ∧ j = 11) → (wr (wr S 138 3 0) 153 11 0).1 k j = S.1 k j := fun k j h1 h2 => (if_neg h2).trans (if_neg h1)
  refine ⟨S.1 138 3, wr S 138 3 0, wr (wr S 138 3 0) 153 11 0, rfl, ?_, hI.upd rfl (fun k j h1 h2 h3 h4 h5 h6 => hk k j (by omega) (by omega)) ⟨⟨z, t1, (hk 68 3 (by omega) (by omega)).trans t2, (hk 153 6 (by omega) (by omega)).trans t3, fun j hj => ?_⟩, ⟨0, by omega, ?_, wr_s _ _ _ _, fun j hj => absurd hj (by omega)⟩, ?_, ?_, ?_⟩⟩
  · show some ((wr S 138 3 0).1 153 11, _) = _
    rw [wr_k _ _ (by omega), b2, b3]
  · rw [hk 69 j (by omega) (by omega), hk 156 j (by omega) (by omega)]; exact t4 j hj
  · exact (wr_k _ _ (by omega)).trans (wr_s _ _ _ _)
  · rw [hk 0 6 (by omega) (by omega), hk 153 3 (by omega) (by omega)]; exact s1
  · rw [hk 153 3 (by omega) (by omega)]; exact s2
  · rw [hk 0 7 (by omega) (by omega), hk 153 7 (by omega) (by omega)]; exact s3
theorem o_write (a1 a2 a3 : Int32) : Op Inv (fun S => f_X10_write S a1 a2 a3) (fun S => f_X11_write S a1 a2 a3) := fun S hI => by
  obtain ⟨D, N, L, hrD, hD1, hD, hn1, h40, hrL, hL1, hL, hV⟩ := hI.v
  obtain ⟨⟨z, t1, t2, t3, t4⟩, ⟨e, b1, b2, b3, b4⟩, s1, s2, s3⟩ := hI.2.2.2.2.2
  show ∃ r S1 S2, f_X10_write S a1 a2 a3 = some (r, S1) ∧ f_X11_write S1 a1 a2 a3 = some (r, S2) ∧ Inv S2
  unfold f_X10_write f_X11_write
  rcases wrd3 (S := S) (S' := S) a1 with ⟨h1, h2⟩ | ⟨w, hw, rfl, h1, h2⟩
  · rw [h1, bnd, if_pos rfl]
    exact ⟨_, S, S, rfl, by rw [h2, bnd, if_pos rfl], hI⟩
  · rw [h1, bnd, if_neg (by decide)]
    rcases day3 (S := S) (S' := S) hD (hI.1.1.trans hrD) hrD a2 with ⟨h3, h4⟩ | ⟨d, hd, rfl, h3, h4⟩
    · rw [h3, bnd, if_pos rfl]
      exact ⟨_, S, S, rfl, by rw [h2, bnd, if_neg (by decide), h4, bnd, if_pos rfl], hI⟩
    · rw [h3, bnd, if_neg (by decide)]
      by_cases hroom : e < 20
      · have hx : f_X0_hasRoom S = some 1 := by
          unfold f_X0_hasRoom
          rw [b2, if_neg (show ¬ (20 : Int32) ≤ nI e from nI_ge hroom (by decide))]
        have hadd : f_X0_add S (nI w) (nI d) a3 = some (wr (wr (wr (wr S 139 e (nI w)) 140 e (nI d)) 141 e a3) 138 3 (nI (e + 1))) := by
          unfold f_X0_add
          rw [hx]
          simp (disch := omega) only [nI_add, nI_1, nI_leI, nI_ltI, nI_eq, inb_nI, nI_clamp, if_pos, if_neg, if_true, if_false, bnd, l_0, l_1, l_2, l_3, l_4, l_5, l_6, l_7, l_8, l_9, l_10, l_11, l_12, l_13, l_14, l_15, l_16, l_17, l_18, l_19, l_20, l_21, l_22, l_23, l_24, l_25, l_26, l_27, l_28, l_29, l_30, l_31, l_32, l_33, l_34, l_35, l_36, l_37, l_38, l_39, l_40, l_41, l_42, l_43, l_44, l_45, l_46, l_47, l_48, l_49, l_50, l_51, l_52, l_53, l_54, l_55, l_56, l_57, l_58, l_59, l_60, l_61, l_62, l_63, l_64, l_65, l_66, l_67, l_68, l_69, l_70, l_71, l_72, l_73, l_74, l_75, l_76, l_77, l_78, l_79, l_80, l_81, l_82, l_83, l_84, l_85, l_86, l_87, l_88, l_89, l_90, l_91, l_92, l_93, l_94, l_95, l_96, l_97, l_98, l_99, l_100, l_123, l_144, l_160, l_255, l_256, l_1000, l_1462, l_1634, l_65536, b2, wr_k]
        have hk : ∀ k j, ¬ (138 ≤ k ∧ k < 142) → (wr (wr (wr (wr S 139 e (nI w)) 140 e (nI d)) 141 e a3) 138 3 (nI (e + 1))).1 k j = S.1 k j := fun k j h => by
          rw [wr_k _ _ (by omega), wr_k _ _ (by omega), wr_k _ _ (by omega), wr_k _ _ (by omega)]
        have hX : ∀ k j, 138 ≤ k → k < 142 → (wr (wr (wr (wr S 139 e (nI w)) 140 e (nI d)) 141 e a3) 138 3 (nI (e + 1))).1 k j = if k = 138 ∧ j = 3 then nI (e + 1) else if k = 141 ∧ j = e then a3 else if k = 140 ∧ j = e then nI d else if k = 139 ∧ j = e then nI w else S.1 k j := fun k j _ _ => by
          simp only [wr_at]
        have hX2 : (wr (wr (wr (wr S 139 e (nI w)) 140 e (nI d)) 141 e a3) 138 3 (nI (e + 1))).2 = S.2 := rfl
        generalize wr (wr (wr (wr S 139 e (nI w)) 140 e (nI d)) 141 e a3) 138 3 (nI (e + 1)) = X at hadd hk hX hX2
        have hm : ∀ k j, ¬ (157 ≤ k ∧ k < 160) → ¬ (k = 153 ∧ j = 11) → (wr (wr (wr (wr X 157 e (nI w)) 158 e (nI d)) 159 e a3) 153 11 (nI (e + 1))).1 k j = X.1 k j := fun k j h h' => (if_neg h').trans (by
          rw [wr_k _ _ (by omega), wr_k _ _ (by omega), wr_k _ _ (by omega)])
        have hM : ∀ k j, 157 ≤ k → (wr (wr (wr (wr X 157 e (nI w)) 158 e (nI d)) 159 e a3) 153 11 (nI (e + 1))).1 k j = if k = 159 ∧ j = e then a3 else if k = 158 ∧ j = e then nI d else if k = 157 ∧ j = e then nI w else X.1 k j := fun k j h => by
          simp only [wr_at]
          rw [if_neg (by omega)]
        refine ⟨nI (e + 1), X, wr (wr (wr (wr X 157 e (nI w)) 158 e (nI d)) 159 e a3) 153 11 (nI (e + 1)), ?_, ?_, hI.upd hX2 (fun k j h1 h2 h3 h4 h5 h6 => (hm k j (by omega) (by omega)).trans (hk k j (by omega))) ⟨⟨z, t1, ((hm 68 3 (by omega) (by omega)).trans (hk 68 3 (by omega))).trans t2, ((hm 153 6 (by omega) (by omega)).trans (hk 153 6 (by omega))).trans t3, fun j hj => ?_⟩, ⟨e + 1, by omega, ?_, wr_s _ _ _ _, fun j hj => ?_⟩, ?_, ?_, ?_⟩⟩
        · rw [hx, bnd, if_neg (by decide), hadd, bnd, f_X0_entries, bnd, hX 138 3 (by omega) (by omega), if_pos ⟨rfl, rfl⟩]
        · have hd1 : f_X11_isDay X (nI d) = some 1 := m_isDay_y hD ((hk 154 0 (by omega)).trans hrD) hd
          have hX11 : X.1 153 11 = nI e := (hk 153 11 (by omega)).trans b3
          have hn4 : ¬ nI e = 20 := fun h => by
            have := (nI_eq (show e < 2 ^ 31 by omega) (show 20 < 2 ^ 31 by decide)).mp h
            omega
          have y1 : (wr X 157 e (nI w)).1 153 11 = nI e := (wr_k _ _ (by omega)).trans hX11
          have y2 : (wr (wr X 157 e (nI w)) 158 e (nI d)).1 153 11 = nI e := (wr_k _ _ (by omega)).trans y1
          have y3 : (wr (wr (wr X 157 e (nI w)) 158 e (nI d)) 159 e a3).1 153 11 = nI e := (wr_k _ _ (by omega)).trans y2
          have i1 : inb (nI e) 20 := (inb_nI (by omega)).mpr hroom
          have cl : (nI e).toNatClampNeg = e := nI_clamp (by omega)
          rw [m_isWord_y hw, bnd, if_neg (by decide), hd1, bnd, if_neg (by decide)]
          simp only [hX11, cl, y1, y2, y3, if_pos i1, nI_1, wr_s]
          rw [if_neg hn4]
        · rw [hm 69 j (by omega) (by omega), hm 156 j (by omega) (by omega), hk 69 j (by omega), hk 156 j (by omega)]; exact t4 j hj
        · rw [hm 138 3 (by omega) (by omega), hX 138 3 (by omega) (by omega), if_pos ⟨rfl, rfl⟩]
        · rw [hm 139 j (by omega) (by omega), hm 140 j (by omega) (by omega), hm 141 j (by omega) (by omega), hX 139 j (by omega) (by omega), hX 140 j (by omega) (by omega), hX 141 j (by omega) (by omega), hM 157 j (by omega), hM 158 j (by omega), hM 159 j (by omega), hk 157 j (by omega), hk 158 j (by omega), hk 159 j (by omega)]
          by_cases h : j = e
          · subst h
            simp
            exact ⟨⟨w, hw, rfl⟩, ⟨d, by omega, rfl⟩⟩
          · simp [h]
            obtain ⟨⟨w', w1, w2, w3⟩, ⟨d', d1, d2, d3⟩, l⟩ := b4 j (by omega)
            exact ⟨⟨w', w1, w2, w3⟩, ⟨d', d1, d2, d3⟩, l⟩
        · rw [hm 0 6 (by omega) (by omega), hm 153 3 (by omega) (by omega), hk 0 6 (by omega), hk 153 3 (by omega)]; exact s1
        · rw [hm 153 3 (by omega) (by omega), hk 153 3 (by omega)]; exact s2
        · rw [hm 0 7 (by omega) (by omega), hm 153 7 (by omega) (by omega), hk 0 7 (by omega), hk 153 7 (by omega)]; exact s3
      · obtain rfl : e = 20 := by omega
        have hx : f_X0_hasRoom S = some 0 := by
          unfold f_X0_hasRoom
          rw [b2]; rfl
        rw [hx, bnd, if_pos rfl]
        exact ⟨_, S, S, rfl, by rw [h2, bnd, if_neg (by decide), h4, bnd, if_neg (by decide), b3, if_pos (by decide)], hI⟩
theorem o_feed (a1 : Int32) : Op Inv (fun S => f_X10_feed S a1) (fun S => f_X11_feed S a1) := fun S hI => by
  obtain ⟨⟨z, t1, t2, t3, t4⟩, ⟨e, b1, b2, b3, b4⟩, s1, s2, s3⟩ := hI.2.2.2.2.2
  show ∃ r S1 S2, f_X10_feed S a1 = some (r, S1) ∧ f_X11_feed S1 a1 = some (r, S2) ∧ Inv S2
  unfold f_X10_feed f_X11_feed
  have hin : ∀ Y : Mm, f_X11_in Y a1.toInt64 0 255 = some (if 0 ≤ a1 ∧ a1 ≤ nI 256 - 1 then 1 else 0) := fun Y => in_c a1 0 _ (by decide) (by decide)
  rcases rng (show 256 < 2 ^ 31 by decide) a1 with ⟨c1, c2⟩ | ⟨s, hs, rfl⟩
  · refine ⟨-1000000002, S, S, ?_, by rw [hin, if_neg c1, bnd, if_pos rfl], hI⟩
    by_cases h : a1 < 0
    · rw [if_pos h]
    · rw [if_neg h, if_neg (show ¬ a1 < 256 from Int32.not_lt.mpr (c2.resolve_left h))]
  · rw [if_neg (nI_pos (by omega)), if_pos (show nI s < 256 from nI_lt hs (by decide))]
    by_cases hroom : z < 60
    · have hx : f_X9_hasRoom S = some 1 := by
        unfold f_X9_hasRoom
        rw [t2, if_neg (show ¬ (60 : Int32) ≤ nI z from nI_ge hroom (by decide))]
      have hadd : f_X9_add S (nI s) = some (wr (wr S 69 z (nI s)) 68 3 (nI (z + 1))) := by
        unfold f_X9_add
        rw [hx]
        simp (disch := omega) only [nI_add, nI_1, nI_leI, nI_ltI, nI_eq, inb_nI, nI_clamp, if_pos, if_neg, if_true, if_false, bnd, l_0, l_1, l_2, l_3, l_4, l_5, l_6, l_7, l_8, l_9, l_10, l_11, l_12, l_13, l_14, l_15, l_16, l_17, l_18, l_19, l_20, l_21, l_22, l_23, l_24, l_25, l_26, l_27, l_28, l_29, l_30, l_31, l_32, l_33, l_34, l_35, l_36, l_37, l_38, l_39, l_40, l_41, l_42, l_43, l_44, l_45, l_46, l_47, l_48, l_49, l_50, l_51, l_52, l_53, l_54, l_55, l_56, l_57, l_58, l_59, l_60, l_61, l_62, l_63, l_64, l_65, l_66, l_67, l_68, l_69, l_70, l_71, l_72, l_73, l_74, l_75, l_76, l_77, l_78, l_79, l_80, l_81, l_82, l_83, l_84, l_85, l_86, l_87, l_88, l_89, l_90, l_91, l_92, l_93, l_94, l_95, l_96, l_97, l_98, l_99, l_100, l_123, l_144, l_160, l_255, l_256, l_1000, l_1462, l_1634, l_65536, t2, wr_k]
      have hk : ∀ k j, ¬ (k = 69 ∧ j = z) → ¬ (k = 68 ∧ j = 3) → (wr (wr S 69 z (nI s)) 68 3 (nI (z + 1))).1 k j = S.1 k j := fun k j h h' => (if_neg h').trans (if_neg h)
      have hX1 : (wr (wr S 69 z (nI s)) 68 3 (nI (z + 1))).1 69 z = nI s := (wr_k _ _ (by omega)).trans (wr_s _ _ _ _)
      have hX3 : (wr (wr S 69 z (nI s)) 68 3 (nI (z + 1))).1 68 3 = nI (z + 1) := wr_s _ _ _ _
      have hX2 : (wr (wr S 69 z (nI s)) 68 3 (nI (z + 1))).2 = S.2 := rfl
      generalize wr (wr S 69 z (nI s)) 68 3 (nI (z + 1)) = X at hadd hk hX1 hX2 hX3
      have hm : ∀ k j, ¬ (k = 156 ∧ j = z) → ¬ (k = 153 ∧ j = 6) → (wr (wr X 156 z (nI s)) 153 6 (nI (z + 1))).1 k j = X.1 k j := fun k j h h' => (if_neg h').trans (if_neg h)
      have hX6 : X.1 153 6 = nI z := (hk 153 6 (by omega) (by omega)).trans t3
      refine ⟨nI (z + 1), X, wr (wr X 156 z (nI s)) 153 6 (nI (z + 1)), ?_, ?_, hI.upd hX2 (fun k j h1 h2 h3 h4 h5 h6 => (hm k j (by omega) (by omega)).trans (hk k j (by omega) (by omega))) ⟨⟨z + 1, by omega, (hm 68 3 (by omega) (by omega)).trans hX3, wr_s _ _ _ _, fun j hj => ?_⟩, ⟨e, b1, ((hm 138 3 (by omega) (by omega)).trans (hk 138 3 (by omega) (by omega))).trans b2, ((hm 153 11 (by omega) (by omega)).trans (hk 153 11 (by omega) (by omega))).trans b3, fun j hj => ?_⟩, ?_, ?_, ?_⟩⟩
      · rw [hx, bnd, if_neg (by decide), hadd, bnd, f_X9_length, bnd, hX3]
      · have hn4 : ¬ nI z = 60 := fun h => by
          have := (nI_eq (show z < 2 ^ 31 by omega) (show 60 < 2 ^ 31 by decide)).mp h
          omega
        have y1 : (wr X 156 z (nI s)).1 153 6 = nI z := (wr_k _ _ (by omega)).trans hX6
        rw [hin, if_pos (rng_y (by decide) hs), bnd, if_neg (by decide)]
        simp only [hX6, nI_clamp (show z < 2 ^ 31 by omega), y1, nI_1, wr_s]
        rw [if_neg hn4, if_pos ((inb_nI (by omega)).mpr hroom)]
      · rw [hm 69 j (by omega) (by omega)]
        by_cases h : j = z
        · subst h
          have : (wr (wr X 156 j (nI s)) 153 6 (nI (j + 1))).1 156 j = nI s := (wr_k _ _ (by omega)).trans (wr_s _ _ _ _)
          rw [this, hX1]
          exact ⟨rfl, s, hs, rfl⟩
        · rw [hm 156 j (by omega) (by omega), hk 69 j (by omega) (by omega), hk 156 j (by omega) (by omega)]; exact t4 j (by omega)
      · rw [hm 139 j (by omega) (by omega), hm 157 j (by omega) (by omega), hm 140 j (by omega) (by omega), hm 158 j (by omega) (by omega), hm 141 j (by omega) (by omega), hm 159 j (by omega) (by omega), hk 139 j (by omega) (by omega), hk 157 j (by omega) (by omega), hk 140 j (by omega) (by omega), hk 158 j (by omega) (by omega), hk 141 j (by omega) (by omega), hk 159 j (by omega) (by omega)]; exact b4 j hj
      · rw [hm 0 6 (by omega) (by omega), hm 153 3 (by omega) (by omega), hk 0 6 (by omega) (by omega), hk 153 3 (by omega) (by omega)]; exact s1
      · rw [hm 153 3 (by omega) (by omega), hk 153 3 (by omega) (by omega)]; exact s2
      · rw [hm 0 7 (by omega) (by omega), hm 153 7 (by omega) (by omega), hk 0 7 (by omega) (by omega), hk 153 7 (by omega) (by omega)]; exact s3
    · obtain rfl : z = 60 := by omega
      have hx : f_X9_hasRoom S = some 0 := by
        unfold f_X9_hasRoom
        rw [t2]; rfl
      refine ⟨-1000000004, S, S, by rw [hx, bnd, if_pos rfl], ?_, hI⟩
      rw [hin, if_pos (rng_y (by decide) hs), bnd, if_neg (by decide), t3, if_pos (by decide)]
