/-! take -/
theorem x_remove_loop {n : Nat} {c : Int32} {k : Int32 → Mm → Option Mm} (h40 : n ≤ 40) : ∀ (m i fuel : Nat) (S : Mm), i + m = n → 1 ≤ i → m < fuel → S.1 1 4 = nI n → ∃ S', lp_X6_remove_13 k c fuel (nI i) S = k (nI n) S' ∧ S'.2 = S.2 ∧ (∀ a j, a ≠ 3 → a ≠ 4 → S'.1 a j = S.1 a j) ∧ ∀ a j, a = 3 ∨ a = 4 → S'.1 a j = if i - 1 ≤ j ∧ j + 1 < n then S.1 a (j + 1) else S.1 a j := by
  intro m
  induction m with
  | zero =>
    intro i fuel S h1 h0 h2 h4
    obtain ⟨f, rfl⟩ : ∃ f, fuel = f + 1 := ⟨fuel - 1, by omega⟩
    refine ⟨S, ?_, rfl, fun _ _ _ _ => rfl, fun a j _ => by rw [if_neg (by omega)]⟩
    rw [lp_X6_remove_13, h4, show i = n by omega, if_pos (nI_le (by omega) (by omega))]
  | succ m ih =>
    intro i fuel S h1 h0 h2 h4
    obtain ⟨f, rfl⟩ : ∃ f, fuel = f + 1 := ⟨fuel - 1, by omega⟩
    have hk : ∀ a j, a ≠ 3 → a ≠ 4 → (wr (wr S 3 (i - 1) (S.1 3 i)) 4 (i - 1) (S.1 4 i)).1 a j = S.1 a j := fun a j h h' => (wr_k _ _ h').trans (wr_k _ _ h)
    have hs : ∀ a j, a = 3 ∨ a = 4 → (wr (wr S 3 (i - 1) (S.1 3 i)) 4 (i - 1) (S.1 4 i)).1 a j = if j = i - 1 then S.1 a i else S.1 a j := fun a j h => by
      by_cases hj : j = i - 1
      · subst hj
        rw [if_pos rfl]
        rcases h with rfl | rfl
        · exact (wr_k _ _ (by omega)).trans (wr_s _ _ _ _)
        · exact wr_s _ _ _ _
      · rw [if_neg hj, wr_j _ _ hj, wr_j _ _ hj]
    obtain ⟨S', e1, e2, e3, e4⟩ := ih (i + 1) f _ (by omega) (by omega) (by omega) ((hk 1 4 (by omega) (by omega)).trans h4)
    refine ⟨S', ?_, e2, fun a j h h' => (e3 a j h h').trans (hk a j h h'), fun a j h => ?_⟩
    · rw [lp_X6_remove_13, h4]
      simp (disch := omega) only [nI_add, nI_1, nI_leI, nI_ltI, nI_eq, inb_nI, nI_clamp, if_pos, if_neg, if_true, if_false, bnd, l_0, l_1, l_2, l_3, l_4, l_5, l_6, l_7, l_8, l_9, l_10, l_11, l_12, l_13, l_14, l_15, l_16, l_17, l_18, l_19, l_20, l_21, l_22, l_23, l_24, l_25, l_26, l_27, l_28, l_29, l_30, l_31, l_32, l_33, l_34, l_35, l_36, l_37, l_38, l_39, l_40, l_41, l_42, l_43, l_44, l_45, l_46, l_47, l_48, l_49, l_50, l_51, l_52, l_53, l_54, l_55, l_56, l_57, l_58, l_59, l_60, l_61, l_62, l_63, l_64, l_65, l_66, l_67, l_68, l_69, l_70, l_71, l_72, l_73, l_74, l_75, l_76, l_77, l_78, l_79, l_80, l_81, l_82, l_83, l_84, l_85, l_86, l_87, l_88, l_89, l_90, l_91, l_92, l_93, l_94, l_95, l_96, l_97, l_98, l_99, l_100, l_123, l_144, l_160, l_255, l_256, l_1000, l_1462, l_1634, l_65536, pk_sub, wr_k]
      exact e1
    · rw [e4 a j h, hs a _ h, hs a _ h]
      by_cases hj : j = i - 1
      · subst hj
        rw [if_neg (by omega), if_pos rfl, if_pos (by omega), Nat.sub_add_cancel h0]
      · by_cases hj2 : i - 1 ≤ j ∧ j + 1 < n
        · rw [if_pos (by omega), if_neg (by omega), if_pos hj2]
        · rw [if_neg (by omega), if_neg hj, if_neg hj2]
theorem m_take_loop {n : Nat} {c : Int32} {k : Int32 → Mm → Option (Int32 × Mm)} (h40 : n ≤ 40) (hn0 : 1 ≤ n) : ∀ (m i fuel : Nat) (S : Mm), i + m = n - 1 → m < fuel → S.1 154 1 = nI n → ∃ S', lp_X11_take_17 k c fuel (nI i) S = k (nI (n - 1)) S' ∧ S'.2 = S.2 ∧ (∀ a j, ¬ (a = 154 ∧ 6 ≤ j ∧ j < 86) → S'.1 a j = S.1 a j) ∧ ∀ b j, b = 6 ∨ b = 46 → j < 40 → S'.1 154 (b + j) = if i ≤ j ∧ j + 1 < n then S.1 154 (b + (j + 1)) else S.1 154 (b + j) := by
  intro m
  induction m with
  | zero =>
    intro i fuel S h1 h2 h4
    obtain ⟨f, rfl⟩ : ∃ f, fuel = f + 1 := ⟨fuel - 1, by omega⟩
    refine ⟨S, ?_, rfl, fun _ _ _ => rfl, fun b j _ _ => by rw [if_neg (by omega)]⟩
    rw [lp_X11_take_17, h4, l_1, pk_sub hn0, show i = n - 1 by omega, if_pos (nI_le (by omega) (by omega))]
  | succ m ih =>
    intro i fuel S h1 h2 h4
    obtain ⟨f, rfl⟩ : ∃ f, fuel = f + 1 := ⟨fuel - 1, by omega⟩
    have hk : ∀ a j, ¬ (a = 154 ∧ (j = 6 + i ∨ j = 46 + i)) → (wr (wr S 154 (6 + i) (S.1 154 (6 + i + 1))) 154 (46 + i) (S.1 154 (46 + i + 1))).1 a j = S.1 a j := fun a j h => by
      simp only [wr_at]
      rw [if_neg (by omega), if_neg (by omega)]
    have hs : ∀ b j, b = 6 ∨ b = 46 → j < 40 → (wr (wr S 154 (6 + i) (S.1 154 (6 + i + 1))) 154 (46 + i) (S.1 154 (46 + i + 1))).1 154 (b + j) = if j = i then S.1 154 (b + (i + 1)) else S.1 154 (b + j) := fun b j h hj40 => by
      by_cases hj : j = i
      · subst hj
        rw [if_pos rfl]
        rcases h with rfl | rfl
        · exact (wr_j _ _ (by omega)).trans (wr_s _ _ _ _)
        · exact wr_s _ _ _ _
      · rw [if_neg hj, hk _ _ (by omega)]
    obtain ⟨S', e1, e2, e3, e4⟩ := ih (i + 1) f _ (by omega) (by omega) ((hk 154 1 (by omega)).trans h4)
    refine ⟨S', ?_, e2, fun a j h => (e3 a j h).trans (hk a j (by omega)), fun b j h hj40 => ?_⟩
    · have e46 : (wr S 154 (6 + i) (S.1 154 (6 + i + 1))).1 154 (46 + i + 1) = S.1 154 (46 + i + 1) := wr_j _ _ (by omega)
      rw [lp_X11_take_17, h4]
      simp (disch := omega) only [nI_add, nI_1, nI_leI, nI_ltI, nI_eq, inb_nI, nI_clamp, if_pos, if_neg, if_true, if_false, bnd, l_0, l_1, l_2, l_3, l_4, l_5, l_6, l_7, l_8, l_9, l_10, l_11, l_12, l_13, l_14, l_15, l_16, l_17, l_18, l_19, l_20, l_21, l_22, l_23, l_24, l_25, l_26, l_27, l_28, l_29, l_30, l_31, l_32, l_33, l_34, l_35, l_36, l_37, l_38, l_39, l_40, l_41, l_42, l_43, l_44, l_45, l_46, l_47, l_48, l_49, l_50, l_51, l_52, l_53, l_54, l_55, l_56, l_57, l_58, l_59, l_60, l_61, l_62, l_63, l_64, l_65, l_66, l_67, l_68, l_69, l_70, l_71, l_72, l_73, l_74, l_75, l_76, l_77, l_78, l_79, l_80, l_81, l_82, l_83, l_84, l_85, l_86, l_87, l_88, l_89, l_90, l_91, l_92, l_93, l_94, l_95, l_96, l_97, l_98, l_99, l_100, l_123, l_144, l_160, l_255, l_256, l_1000, l_1462, l_1634, l_65536, pk_sub, e46]
      exact e1
    · rw [e4 b j h hj40]
      by_cases hj2 : i + 1 ≤ j ∧ j + 1 < n
      · rw [if_pos hj2, if_pos (by omega), hs b _ h (by omega), if_neg (by omega)]
      · rw [if_neg hj2, hs b j h hj40]
        by_cases hj : j = i
        · subst hj
          rw [if_pos rfl, if_pos (by omega)]
        · rw [if_neg hj, if_neg (by omega)]
theorem o_take (a1 : Int32) : Op Inv (fun S => f_X10_take S a1) (fun S => f_X11_take S a1) := op_of fun S hI => by
  obtain ⟨D, N, L, hrD, hD1, hD, hn1, h40, hrL, hL1, hL, hV⟩ := hI.v
  obtain ⟨F, hFu⟩ : ∃ F : Nat, 100000 = F := ⟨_, rfl⟩
  show ∃ r X M, f_X10_take S a1 = some (r, X) ∧ Mh S X ∧ f_X11_take X a1 = some (r, M) ∧ Xh X M ∧ Inv (cmb X M)
  rcases pce3 (S := S) (S' := S) h40 (hI.1.2.1.trans hn1) hn1 a1 with ⟨h1, h2⟩ | ⟨k, hk, rfl, h1, h2⟩
  · exact ⟨-1000000001, S, S, by unfold f_X10_take; rw [h1, bnd, if_pos rfl], Mh.rf S, by unfold f_X11_take; rw [h2, bnd, if_pos rfl], Xh.rf S, by rw [cmb_s]; exact hI⟩
  · obtain ⟨kn, X1, k1, a1, a2, a3, a4⟩ := deed0 hI
    obtain ⟨X2, c1, c2, c3, c4⟩ := x_remove_loop (c := nI k) (k := fun _ S8 => some (wr S8 1 4 ((S8.1 1 4) - 1))) h40 (N - (k + 1)) (k + 1) F X1 (by omega) (by omega) (by omega) (a3.trans hn1)
    have hX24 : X2.1 1 4 = nI N := (c3 1 4 (by omega) (by omega)).trans (a3.trans hn1)
    have hX3 : ∀ x j, ¬ (1 ≤ x ∧ x < 5) → (wr X2 1 4 (nI (N - 1))).1 x j = X1.1 x j := fun x j h => (wr_k _ _ (by omega)).trans (c3 x j (by omega) (by omega))
    obtain ⟨M1, b1, b2, b3⟩ := a4 (wr X2 1 4 (nI (N - 1))) c2 hX3
    have hM1 : M1.1 154 1 = nI N := (b2 1 (by omega)).trans hn1
    have hM0 : M1.1 154 0 = nI D := (b2 0 (by omega)).trans hrD
    obtain ⟨M2, d1, d2, d3, d4⟩ := m_take_loop (c := nI k) (k := fun _ S10 => some ((wr S10 154 1 ((S10.1 154 1) - 1)).1 154 1, wr S10 154 1 ((S10.1 154 1) - 1))) h40 (by omega) (N - 1 - k) k F M1 (by omega) (by omega) hM1
    have hM21 : M2.1 154 1 = nI N := (d3 154 1 (by omega)).trans hM1
    obtain ⟨q1, q2, q3⟩ := b3 (wr M2 154 1 (nI (N - 1))) d2 (fun x j h => (if_neg (by omega)).trans (d3 x j (by omega))) ⟨by rw [w154, if_neg (by omega), d3 154 0 (by omega), wr_j _ _ (by omega), c3 1 3 (by omega) (by omega), b2 0 (by omega)]; exact a2.1, by rw [w154, if_pos rfl]; exact wr_s _ _ _ _, fun j hj => by rw [w154, if_neg (by omega), d3 154 _ (by omega), wr_k _ _ (by omega), c3 2 j (by omega) (by omega), b2 _ (by omega)]; exact a2.2.2.1 j hj, fun j hj => by
          rw [w154, if_neg (by omega), d4 6 j (Or.inl rfl) hj, wr_k _ _ (by omega), show 1 + 2 = 3 from rfl, c4 3 j (Or.inl rfl), Nat.add_sub_cancel]
          by_cases h : k ≤ j ∧ j + 1 < N
          · rw [if_pos h, if_pos h, b2 _ (by omega)]; exact a2.2.2.2.1 (j + 1) (by omega)
          · rw [if_neg h, if_neg h, b2 _ (by omega)]; exact a2.2.2.2.1 j hj, fun j hj => by
          rw [w154, if_neg (by omega), d4 46 j (Or.inr rfl) hj, wr_k _ _ (by omega), show 1 + 3 = 4 from rfl, c4 4 j (Or.inr rfl), Nat.add_sub_cancel]
          by_cases h : k ≤ j ∧ j + 1 < N
          · rw [if_pos h, if_pos h, b2 _ (by omega)]; exact a2.2.2.2.2 (j + 1) (by omega)
          · rw [if_neg h, if_neg h, b2 _ (by omega)]; exact a2.2.2.2.2 j hj⟩ (by
        obtain ⟨v1, v2, v3, v4, v5, v6, v7⟩ := hI.2.1.ext (q := M1.1 154) (fun j hj => (b2 j hj).symm)
        rw [hM1, hM0, nI_clamp (by omega), nI_clamp (by omega)] at v7
        have g : ∀ j, j < 6 → j ≠ 1 → (wr M2 154 1 (nI (N - 1))).1 154 j = M1.1 154 j := fun j hj hj1 => by rw [w154, if_neg hj1, d3 154 j (by omega)]
        refine ⟨by rw [g 0 (by omega) (by omega)]; exact v1, ⟨N - 1, by rw [w154, if_pos rfl], by omega⟩, by rw [g 2 (by omega) (by omega)]; exact v3, by rw [g 3 (by omega) (by omega)]; exact v4, by rw [g 4 (by omega) (by omega)]; exact v5, by rw [g 5 (by omega) (by omega)]; exact v6, fun i hi => ?_⟩
        rw [w154, if_pos rfl, nI_clamp (by omega)] at hi
        rw [g 0 (by omega) (by omega), hM0, nI_clamp (by omega), w154 (j := 6 + i), if_neg (by omega), w154 (j := 46 + i), if_neg (by omega), d4 6 i (Or.inl rfl) (by omega), d4 46 i (Or.inr rfl) (by omega)]
        by_cases h : k ≤ i ∧ i + 1 < N
        · rw [if_pos h, if_pos h]; exact v7 (i + 1) (by omega)
        · rw [if_neg h, if_neg h]; exact v7 i (by omega))
    refine ⟨nI (N - 1), _, _, ?_, q1, ?_, q2, q3⟩
    · have e2 : f_X6_remove X1 (nI k) = some (wr X2 1 4 (nI (N - 1))) := by
        unfold f_X6_remove f_X6_hasPiece
        rw [a3, hn1, if_neg (nI_pos (by omega)), if_neg (nI_ge hk (by omega)), bnd, if_neg (by decide), hFu, nI_1]
        refine Eq.trans c1 ?_
        simp only [hX24]
        rw [l_1, pk_sub (by omega)]
      unfold f_X10_take f_X6_count
      rw [h1, bnd, if_neg (by decide), a1, bnd, e2, bnd, bnd, wr_s]
    · have hp1 : f_X11_isPiece (wr X2 1 4 (nI (N - 1))) (nI k) = some 1 := by
        unfold f_X11_isPiece
        rw [q1 154 1 (by omega), hn1, in_c (nI k) 0 (nI N - 1) (by decide) rfl, bnd, if_pos (rng_y (by omega) hk)]
        rfl
      unfold f_X11_take
      rw [hp1, bnd, if_neg (by decide), b1, bnd, hFu]
      refine Eq.trans d1 ?_
      simp only [hM21]
      rw [l_1, pk_sub (by omega), wr_s]
/-! the book, the seed, the text's letters -/
theorem Inv.upd {S S' : Mm} (hI : Inv S) (h2 : S'.2 = S.2) (hk : ∀ k j, ¬ (k = 0 ∧ (j = 6 ∨ j = 7)) → ¬ (k = 68) → ¬ (k = 69 ∨ k = 70 ∨ k = 71) → ¬ (138 ≤ k ∧ k < 142) → ¬ (k = 153 ∧ (j = 3 ∨ j = 6 ∨ j = 7 ∨ j = 11 ∨ j = 20 ∨ j = 23)) → ¬ (156 ≤ k ∧ k ≠ 160 ∧ k ≠ 161) → S'.1 k j = S.1 k j) (hT : Ivt S') : Inv S' := by
  have hw : S'.1 154 = S.1 154 := funext fun j => hk 154 j (by omega) (by omega) (by omega) (by omega) (by omega) (by omega)
  have hwi : ∀ i, rwi S' i = rwi S i := fun i => funext fun j => hk 154 (i + j) (by omega) (by omega) (by omega) (by omega) (by omega) (by omega)
  obtain ⟨a1, a2, a3, ⟨kn, u1, u2, u3, u4, u5, u6⟩, ⟨h0, h1, i1, i2, i3, i4, i5⟩, -⟩ := hI
  refine ⟨?_, by rw [hw]; exact a2, fun h => ?_, ⟨kn, u1, (hk 72 1 (by omega) (by omega) (by omega) (by omega) (by omega) (by omega)).trans u2, (hk 153 1 (by omega) (by omega) (by omega) (by omega) (by omega) (by omega)).trans u3, fun i hi => ?_, fun i hi => by rw [h2]; exact u5 i hi, fun i j hi hj => by rw [h2]; exact u6 i j hi hj⟩, ⟨h0, h1, (hk 143 2 (by omega) (by omega) (by omega) (by omega) (by omega) (by omega)).trans i1, (hk 148 2 (by omega) (by omega) (by omega) (by omega) (by omega) (by omega)).trans i2, (hk 153 2 (by omega) (by omega) (by omega) (by omega) (by omega) (by omega)).trans i3, fun hh => ?_, fun hh => ?_⟩, hT⟩
  · rw [hw]; exact a1.mv (fun a j h3 h4 => hk a j (by omega) (by omega) (by omega) (by omega) (by omega) (by omega))
  · rw [hw]
    exact (a3 ((hk 0 8 (by omega) (by omega) (by omega) (by omega) (by omega) (by omega)).symm.trans h)).keep (fun a j h3 h4 => hk a j (by omega) (by omega) (by omega) (by omega) (by omega) (by omega))
  · obtain ⟨t, ht, e1⟩ := u5 (kn - 1 - i) (by omega)
    rw [hwi, h2]
    exact ⟨(u4 i hi).1.mv (fun a j h3 h4 => hk a j (by omega) (by omega) (by omega) (by omega) (by omega) (by omega)), (u4 i hi).2⟩
  · obtain ⟨j1, j2, j3, j4⟩ := i4 hh
    rw [hwi, hk 143 1 (by omega) (by omega) (by omega) (by omega) (by omega) (by omega), hk 155 0 (by omega) (by omega) (by omega) (by omega) (by omega) (by omega)]
    exact ⟨j1.mv (fun a j h3 h4 => hk a j (by omega) (by omega) (by omega) (by omega) (by omega) (by omega)), j2, j3, j4⟩
  · obtain ⟨j1, j2, j3, j4⟩ := i5 hh
    rw [hwi, hk 148 1 (by omega) (by omega) (by omega) (by omega) (by omega) (by omega), hk 155 1 (by omega) (by omega) (by omega) (by omega) (by omega) (by omega)]
    exact ⟨j1.mv (fun a j h3 h4 => hk a j (by omega) (by omega) (by omega) (by omega) (by omega) (by omega)), j2, j3, j4⟩
theorem o_seed (a1 : Int32) : Op Inv (fun S => f_X10_seed S a1) (fun S => f_X11_seed S a1) := fun S hI => by
  show ∃ r S1 S2, f_X10_seed S a1 = some (r, S1) ∧ f_X11_seed S1 a1 = some (r, S2) ∧ Inv S2
  unfold f_X10_seed f_X11_seed
  by_cases h : 0 ≤ a1
  · rw [if_pos h]
    obtain ⟨t, b, s1, s2, s3⟩ := hI.2.2.2.2.2
    refine ⟨S.1 0 6, wr S 0 6 a1, wr (wr S 0 6 a1) 153 3 a1, rfl, ?_, hI.upd rfl (fun k j h1 h2 h3 h4 h5 h6 => ?_) ?_⟩
    · rw [if_pos h, wr_k _ _ (by omega), s1]
    · simp only [wr_at]
      rw [if_neg (by omega), if_neg (by omega)]
    · have hk : ∀ k j, ¬ (k = 0 ∧ j = 6) → ¬ (k = 153 ∧ j = 3) → (wr (wr S 0 6 a1) 153 3 a1).1 k j = S.1 k j := fun k j h1 h2 => (if_neg h2).trans (if_neg h1)
      obtain ⟨z, t1, t2, t3, t4⟩ := t
      obtain ⟨e, b1, b2, b3, b4⟩ := b
      refine ⟨⟨z, t1, (hk 68 3 (by omega) (by omega)).trans t2, (hk 153 6 (by omega) (by omega)).trans t3, fun j hj => ?_⟩, ⟨e, b1, (hk 138 3 (by omega) (by omega)).trans b2, (hk 153 11 (by omega) (by omega)).trans b3, fun j hj => ?_⟩, ?_, ?_, ?_⟩
      · rw [hk 69 j (by omega) (by omega), hk 156 j (by omega) (by omega)]; exact t4 j hj
      · rw [hk 139 j (by omega) (by omega), hk 157 j (by omega) (by omega), hk 140 j (by omega) (by omega), hk 158 j (by omega) (by omega), hk 141 j (by omega) (by omega), hk 159 j (by omega) (by omega)]; exact b4 j hj
      · rw [wr_s, wr_k _ _ (by omega), wr_s]
      · rw [wr_s]; exact h
      · rw [hk 0 7 (by omega) (by omega), hk 153 7 (by omega) (by omega)]; exact s3
  · rw [if_neg h]
    exact ⟨_, S, S, rfl, by rw [if_neg h], hI⟩
