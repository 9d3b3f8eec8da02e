/-! ===== the deeds ===== -/
theorem Row.ext {Y : Mm} {p q : Nat → Int32} {o : Nat} (hpq : ∀ j, j < 86 → p j = q j) (h : Row Y o p) : Row Y o q := ⟨h.1.trans (hpq 0 (by omega)), h.2.1.trans (hpq 1 (by omega)), fun j hj => (h.2.2.1 j hj).trans (hpq _ (by omega)), fun j hj => (h.2.2.2.1 j hj).trans (hpq _ (by omega)), fun j hj => (h.2.2.2.2 j hj).trans (hpq _ (by omega))⟩
theorem Val.ext {p q : Nat → Int32} (hpq : ∀ j, j < 86 → p j = q j) (h : Val p) : Val q := by
  obtain ⟨v1, ⟨n, v2, v2'⟩, v3, v4, v5, v6, v7⟩ := h
  have e1 := hpq 1 (by omega)
  have e0 := hpq 0 (by omega)
  refine ⟨by rw [← e0]; exact v1, ⟨n, by rw [← e1]; exact v2, v2'⟩, by rw [← hpq 2 (by omega)]; exact v3, by rw [← hpq 3 (by omega)]; exact v4, by rw [← hpq 4 (by omega)]; exact v5, by rw [← hpq 5 (by omega)]; exact v6, fun k hk => ?_⟩
  rw [← e1] at hk
  have hk' := hk
  rw [v2, nI_clamp (by omega)] at hk'
  rw [← hpq (6 + k) (by omega), ← hpq (46 + k) (by omega), ← e0]
  exact v7 k hk
theorem deed1 {S X1 X2 M1 M2 : Mm} {kn : Nat} (hI : Inv S) (hk16 : kn ≤ 16) (hkn : S.1 72 1 = nI kn) (hRem : Rem S X1 (S.1 154) kn) (h8 : X1.1 0 8 = 1) (hX1 : ∀ k j, ¬ (74 ≤ k ∧ k < 138) → ¬ (k = 72 ∧ j = 1) → ¬ (k = 0 ∧ j = 8) → X1.1 k j = S.1 k j) (hX2 : X2.2 = X1.2) (hX2' : ∀ k j, ¬ (1 ≤ k ∧ k < 5) → X2.1 k j = X1.1 k j) (hm2 : M1.2 = X2.2) (hm3 : ∀ k j, k ≠ 154 → ¬ (k = 153 ∧ j = 1) → M1.1 k j = X2.1 k j) (hm4 : M1.1 153 1 = nI (min (kn + 1) 16)) (hm5 : ∀ j, M1.1 154 j = if 86 ≤ j ∧ j < 1462 then X2.1 154 (j - 86) else X2.1 154 j) (hM2 : M2.2 = M1.2) (hM2' : ∀ k j, ¬ (k = 154 ∧ j < 86) → M2.1 k j = M1.1 k j) (hR : Row X2 1 (M2.1 154)) (hV : Val (M2.1 154)) : Mh S X2 ∧ Xh X2 M2 ∧ Inv (cmb X2 M2) := by
  have hMh : Mh S X2 := fun k j h => (hX2' k j (by omega)).trans (hX1 k j (by omega) (by omega) (by omega))
  refine ⟨hMh, ⟨hM2.trans hm2, fun k j h => (hM2' k j (by omega)).trans (hm3 k j (by omega) (by omega))⟩, ?_⟩
  obtain ⟨r1, r2, r3, r4⟩ := hRem
  have hA1 : ∀ i, i < 16 → ∃ t, t < 16 ∧ X1.2 i = 74 + 4 * t := r4.1
  refine deed (X := S) (M := S) (by rw [cmb_s]; exact hI) hk16 hkn ⟨(hX2' 72 1 (by omega)).trans r1, ?_, fun i hi q hq => ?_, by unfold Aw; rw [hX2]; exact r4⟩ (fun k j h h' => (hX2' k j (by omega)).trans (hX1 k j (by omega) (by omega) (by omega))) ((hM2' 153 1 (by omega)).trans hm4) ?_ (fun j => ?_) (fun j h => ?_) ((hX2' 0 8 (by omega)).trans h8) hR hV ?_
  · obtain ⟨t, ht, hyt⟩ := hA1 (min (kn + 1) 16 - 1) (by omega)
    rw [hX2]
    exact r2.mv (fun a j h3 h4 => hX2' a j (by omega))
  · obtain ⟨t, ht, hyt⟩ := hA1 (min (kn + 1) 16 - 1 - (i + 1)) (by omega)
    rw [hX2]
    exact (r3 i hi q hq).mv (fun a j h3 h4 => hX2' a j (by omega))
  · rw [hM2' 153 2 (by omega), hm3 153 2 (by omega) (by omega), hMh 153 2 (by omega)]
  · rw [hM2' 155 j (by omega), hm3 155 j (by omega) (by omega), hMh 155 j (by omega)]
  · rw [hM2' 154 j (by omega), hm5 j]
    by_cases h' : j < 1462
    · rw [if_pos ⟨h, h'⟩, if_pos h', hMh 154 _ (by omega)]
    · rw [if_neg (by omega), if_neg h', hMh 154 _ (by omega)]
  · refine Ivt.keep (S := S) hI.2.2.2.2.2 (fun k j h => ?_)
    by_cases hk : k < 153
    · rw [cmb_x hk, hX2' k j (by omega), hX1 k j (by omega) (by omega) (by omega)]
    · rw [cmb_m (by omega), hM2' k j (by omega), hm3 k j (by omega) (by omega), hMh k j (by omega)]
/-- what a simple deed gives: the row before it, on both sides -/
theorem deed0 {S : Mm} (hI : Inv S) : ∃ kn X1, kn ≤ 16 ∧ f_X10_aheadOfDeed S = some X1 ∧ Row X1 1 (S.1 154) ∧ X1.1 1 4 = S.1 154 1 ∧ ∀ X2 : Mm, X2.2 = X1.2 → (∀ k j, ¬ (1 ≤ k ∧ k < 5) → X2.1 k j = X1.1 k j) → ∃ M1, f_X11_remember X2 = some M1 ∧ (∀ j, j < 86 → M1.1 154 j = S.1 154 j) ∧ ∀ M2 : Mm, M2.2 = M1.2 → (∀ k j, ¬ (k = 154 ∧ j < 86) → M2.1 k j = M1.1 k j) → Row X2 1 (M2.1 154) → Val (M2.1 154) → Mh S X2 ∧ Xh X2 M2 ∧ Inv (cmb X2 M2) := by
  obtain ⟨kn, X1, M0, k1, k2, k3, a1, -, a3, a4, a5, -⟩ := ahead (X := S) (M := S) (by rw [cmb_s]; exact hI)
  have hR1 : Row X1 1 (S.1 154) := hI.1.mv (fun a j h3 h4 => a5 a j (by omega) (by omega) (by omega))
  refine ⟨kn, X1, k1, a1, hR1, hR1.2.1, fun X2 h1 h2 => ?_⟩
  have hMh : Mh S X2 := fun k j h => (h2 k j (by omega)).trans (a5 k j (by omega) (by omega) (by omega))
  obtain ⟨M1, c1, c2, c3, c4, c5⟩ := m_rem (M := X2) k1 ((hMh 153 1 (by omega)).trans k3)
  refine ⟨M1, c1, fun j hj => ?_, fun M2 h3 h4 h5 h6 => deed1 hI k1 k2 a3 a4 a5 h1 h2 c2 c3 c4 c5 h3 h4 h5 h6⟩
  rw [c5, if_neg (by omega), hMh 154 j (by omega)]
theorem x_addn {X : Mm} {n : Nat} {a b : Int32} (h : X.1 1 4 = nI n) (hn : n < 40) : f_X6_add X a b = some (wr (wr (wr X 3 n a) 4 n b) 1 4 (nI (n + 1))) := by
  unfold f_X6_add f_X6_hasRoom
  simp (disch := omega) only [nI_add, nI_1, nI_leI, nI_ltI, nI_eq, inb_nI, nI_clamp, if_pos, if_neg, if_true, if_false, bnd, l_0, l_1, l_2, l_3, l_4, l_5, l_6, l_7, l_8, l_9, l_10, l_11, l_12, l_13, l_14, l_15, l_16, l_17, l_18, l_19, l_20, l_21, l_22, l_23, l_24, l_25, l_26, l_27, l_28, l_29, l_30, l_31, l_32, l_33, l_34, l_35, l_36, l_37, l_38, l_39, l_40, l_41, l_42, l_43, l_44, l_45, l_46, l_47, l_48, l_49, l_50, l_51, l_52, l_53, l_54, l_55, l_56, l_57, l_58, l_59, l_60, l_61, l_62, l_63, l_64, l_65, l_66, l_67, l_68, l_69, l_70, l_71, l_72, l_73, l_74, l_75, l_76, l_77, l_78, l_79, l_80, l_81, l_82, l_83, l_84, l_85, l_86, l_87, l_88, l_89, l_90, l_91, l_92, l_93, l_94, l_95, l_96, l_97, l_98, l_99, l_100, l_123, l_144, l_160, l_255, l_256, l_1000, l_1462, l_1634, l_65536, h, wr_k]
theorem m_addn {M : Mm} {n : Nat} {a b : Int32} (h : M.1 154 1 = nI n) (hn : n < 40) : f_X11_add M a b = some (wr (wr (wr M 154 (6 + n) a) 154 (46 + n) b) 154 1 (nI (n + 1))) := by
  have e1 : (wr M 154 (6 + n) a).1 154 1 = nI n := (wr_j _ _ (by omega)).trans h
  have e2 : (wr (wr M 154 (6 + n) a) 154 (46 + n) b).1 154 1 = nI n := (wr_j _ _ (by omega)).trans e1
  unfold f_X11_add
  simp (disch := omega) only [nI_add, nI_1, nI_leI, nI_ltI, nI_eq, inb_nI, nI_clamp, if_pos, if_neg, if_true, if_false, bnd, l_0, l_1, l_2, l_3, l_4, l_5, l_6, l_7, l_8, l_9, l_10, l_11, l_12, l_13, l_14, l_15, l_16, l_17, l_18, l_19, l_20, l_21, l_22, l_23, l_24, l_25, l_26, l_27, l_28, l_29, l_30, l_31, l_32, l_33, l_34, l_35, l_36, l_37, l_38, l_39, l_40, l_41, l_42, l_43, l_44, l_45, l_46, l_47, l_48, l_49, l_50, l_51, l_52, l_53, l_54, l_55, l_56, l_57, l_58, l_59, l_60, l_61, l_62, l_63, l_64, l_65, l_66, l_67, l_68, l_69, l_70, l_71, l_72, l_73, l_74, l_75, l_76, l_77, l_78, l_79, l_80, l_81, l_82, l_83, l_84, l_85, l_86, l_87, l_88, l_89, l_90, l_91, l_92, l_93, l_94, l_95, l_96, l_97, l_98, l_99, l_100, l_123, l_144, l_160, l_255, l_256, l_1000, l_1462, l_1634, l_65536, h, e1, e2]
/-- one piece more, on both sides -/
theorem add_row {X M : Mm} {n d s D : Nat} (hR : Row X 1 (M.1 154)) (hV : Val (M.1 154)) (hn : M.1 154 1 = nI n) (h40 : n < 40) (hD : M.1 154 0 = nI D) (hD12 : D ≤ 12) (hd : d < D) (hs : s < 256) : Row (wr (wr (wr X 3 n (nI d)) 4 n (nI s)) 1 4 (nI (n + 1))) 1 ((wr (wr (wr M 154 (6 + n) (nI d)) 154 (46 + n) (nI s)) 154 1 (nI (n + 1))).1 154) ∧ Val ((wr (wr (wr M 154 (6 + n) (nI d)) 154 (46 + n) (nI s)) 154 1 (nI (n + 1))).1 154) := by
  have e1 : ∀ j, (wr (wr (wr M 154 (6 + n) (nI d)) 154 (46 + n) (nI s)) 154 1 (nI (n + 1))).1 154 j = if j = 1 then nI (n + 1) else if j = 46 + n then nI s else if j = 6 + n then nI d else M.1 154 j := fun j => by
    simp only [wr_at, true_and]
  generalize (wr (wr (wr M 154 (6 + n) (nI d)) 154 (46 + n) (nI s)) 154 1 (nI (n + 1))).1 154 = q at e1
  obtain ⟨h1, h2, h3, h4, h5⟩ := hR
  refine ⟨⟨?_, ?_, fun j hj => ?_, fun j hj => ?_, fun j hj => ?_⟩, ?_⟩
  · rw [e1 0, if_neg (by omega), if_neg (by omega), if_neg (by omega), wr_j _ _ (by omega), wr_k _ _ (by omega), wr_k _ _ (by omega)]; exact h1
  · rw [e1 1, if_pos rfl, wr_s]
  · rw [e1, if_neg (by omega), if_neg (by omega), if_neg (by omega), wr_k _ _ (by omega), wr_k _ _ (by omega), wr_k _ _ (by omega)]; exact h3 j hj
  · rw [e1, if_neg (by omega), if_neg (by omega), wr_k _ _ (by omega), wr_k _ _ (by omega)]
    by_cases h : j = n
    · subst h; rw [if_pos rfl]; exact wr_s _ _ _ _
    · rw [if_neg (by omega), wr_j _ _ h]; exact h4 j hj
  · rw [e1, if_neg (by omega), wr_k _ _ (by omega)]
    by_cases h : j = n
    · subst h; rw [if_pos rfl]; exact wr_s _ _ _ _
    · rw [if_neg (by omega), if_neg (by omega), wr_j _ _ h, wr_k _ _ (by omega)]; exact h5 j hj
  · obtain ⟨v1, -, v3, v4, v5, v6, v7⟩ := hV
    rw [hn, hD, nI_clamp (by omega), nI_clamp (by omega)] at v7
    have g : ∀ j, j < 6 → j ≠ 1 → q j = M.1 154 j := fun j hj hj1 => by rw [e1 j, if_neg hj1, if_neg (by omega), if_neg (by omega)]
    refine ⟨by rw [g 0 (by omega) (by omega)]; exact v1, ⟨n + 1, by rw [e1 1, if_pos rfl], by omega⟩, by rw [g 2 (by omega) (by omega)]; exact v3, by rw [g 3 (by omega) (by omega)]; exact v4, by rw [g 4 (by omega) (by omega)]; exact v5, by rw [g 5 (by omega) (by omega)]; exact v6, fun k hk => ?_⟩
    rw [e1 1, if_pos rfl, nI_clamp (by omega)] at hk
    rw [g 0 (by omega) (by omega), hD, nI_clamp (by omega)]
    by_cases h : k = n
    · subst h
      have e6 : q (6 + k) = nI d := by rw [e1, if_neg (by omega), if_neg (by omega), if_pos rfl]
      have e46 : q (46 + k) = nI s := by rw [e1, if_neg (by omega), if_pos rfl]
      exact ⟨⟨d, e6, hd⟩, s, e46, hs⟩
    · have e6 : q (6 + k) = M.1 154 (6 + k) := by rw [e1, if_neg (by omega), if_neg (by omega), if_neg (by omega)]
      have e46 : q (46 + k) = M.1 154 (46 + k) := by rw [e1, if_neg (by omega), if_neg (by omega), if_neg (by omega)]
      rw [e6, e46]
      exact v7 k (by omega)
theorem o_piece (a1 a2 : Int32) : Op Inv (fun S => f_X10_piece S a1 a2) (fun S => f_X11_piece S a1 a2) := op_of fun S hI => by
  obtain ⟨D, N, L, hrD, hD1, hD, hn1, h40, hrL, hL1, hL, hV⟩ := hI.v
  have hsame : ∀ r, f_X10_piece S a1 a2 = some (r, S) → f_X11_piece S a1 a2 = some (r, S) → ∃ r X M, f_X10_piece S a1 a2 = some (r, X) ∧ Mh S X ∧ f_X11_piece X a1 a2 = some (r, M) ∧ Xh X M ∧ Inv (cmb X M) := fun r h1 h2 => ⟨r, S, S, h1, Mh.rf S, h2, Xh.rf S, by rw [cmb_s]; exact hI⟩
  show ∃ r X M, f_X10_piece S a1 a2 = some (r, X) ∧ Mh S X ∧ f_X11_piece X a1 a2 = some (r, M) ∧ Xh X M ∧ Inv (cmb X M)
  have hin : ∀ Y : Mm, f_X11_in Y a2.toInt64 0 255 = some (if 0 ≤ a2 ∧ a2 ≤ nI 256 - 1 then 1 else 0) := fun Y => in_c a2 0 _ (by decide) (by decide)
  rcases day3 (S := S) (S' := S) hD (hI.1.1.trans hrD) hrD a1 with ⟨h1, h2⟩ | ⟨d, hd, rfl, h1, h2⟩
  · exact hsame (-1000000001) (by unfold f_X10_piece; rw [h1, bnd, if_pos rfl]) (by unfold f_X11_piece; rw [h2, bnd, if_pos rfl])
  · rcases rng (show 256 < 2 ^ 31 by decide) a2 with ⟨c1, c2⟩ | ⟨s, hs, rfl⟩
    · refine hsame (-1000000002) ?_ ?_
      · unfold f_X10_piece
        rw [h1, bnd, if_neg (by decide)]
        by_cases h : a2 < 0
        · rw [if_pos h]
        · rw [if_neg h, if_neg (show ¬ a2 < 256 from Int32.not_lt.mpr (c2.resolve_left h))]
      · unfold f_X11_piece
        rw [h2, bnd, if_neg (by decide), hin, if_neg c1, bnd, if_pos rfl]
    · by_cases hroom : N < 40
      · obtain ⟨kn, X1, k1, a1, a2, a3, a4⟩ := deed0 hI
        have hX14 : X1.1 1 4 = nI N := a3.trans hn1
        obtain ⟨M1, b1, b2, b3⟩ := a4 (wr (wr (wr X1 3 N (nI d)) 4 N (nI s)) 1 4 (nI (N + 1))) rfl (fun k j h => by rw [wr_k _ _ (by omega), wr_k _ _ (by omega), wr_k _ _ (by omega)])
        have hM1 : M1.1 154 1 = nI N := (b2 1 (by omega)).trans hn1
        obtain ⟨g1, g2⟩ := add_row (X := X1) (M := M1) (n := N) (d := d) (s := s) (D := D) (a2.ext (fun j hj => (b2 j hj).symm)) (hI.2.1.ext (fun j hj => (b2 j hj).symm)) hM1 hroom ((b2 0 (by omega)).trans hrD) hD hd hs
        · obtain ⟨q1, q2, q3⟩ := b3 (wr (wr (wr M1 154 (6 + N) (nI d)) 154 (46 + N) (nI s)) 154 1 (nI (N + 1))) rfl (fun k j h => by
            by_cases hk : k = 154
            · subst hk
              rw [wr_j _ _ (by omega), wr_j _ _ (by omega), wr_j _ _ (by omega)]
            · rw [wr_k _ _ hk, wr_k _ _ hk, wr_k _ _ hk]) g1 g2
          refine ⟨nI N, _, _, ?_, q1, ?_, q2, q3⟩
          · unfold f_X10_piece f_X10_comes f_X6_hasRoom f_X6_count
            rw [h1, bnd, if_neg (by decide), if_neg (nI_pos (by omega)), if_pos (show nI s < 256 from nI_lt hs (by decide)), show S.1 1 4 = nI N from hI.1.2.1.trans hn1, if_neg (show ¬ (40 : Int32) ≤ nI N from nI_ge hroom (by decide)), bnd, if_neg (by decide), a1, bnd, x_addn hX14 hroom, bnd, bnd, bnd, wr_s, l_1, pk_sub (by omega), Nat.add_sub_cancel]
          · have hd1 : f_X11_isDay (wr (wr (wr X1 3 N (nI d)) 4 N (nI s)) 1 4 (nI (N + 1))) (nI d) = some 1 := m_isDay_y hD ((q1 154 0 (by omega)).trans hrD) hd
            have hn4 : ¬ nI N = 40 := fun h => by
              have := (nI_eq (show N < 2 ^ 31 by omega) (show 40 < 2 ^ 31 by decide)).mp h
              omega
            unfold f_X11_piece
            rw [hd1, bnd, if_neg (by decide), hin, if_pos (rng_y (by decide) hs), bnd, if_neg (by decide), q1 154 1 (by omega), hn1, if_neg hn4, b1, bnd, m_addn hM1 hroom, bnd, wr_s, l_1, pk_sub (by omega), Nat.add_sub_cancel]
      · obtain rfl : N = 40 := by omega
        refine hsame (-1000000004) ?_ ?_
        · unfold f_X10_piece f_X6_hasRoom
          rw [h1, bnd, if_neg (by decide), if_neg (nI_pos (by omega)), if_pos (show nI s < 256 from nI_lt hs (by decide)), show S.1 1 4 = nI 40 from hI.1.2.1.trans hn1, if_pos (by decide), bnd, if_pos rfl]
        · unfold f_X11_piece
          rw [h2, bnd, if_neg (by decide), hin, if_pos (rng_y (by decide) hs), bnd, if_neg (by decide), hn1, if_pos (by decide)]
