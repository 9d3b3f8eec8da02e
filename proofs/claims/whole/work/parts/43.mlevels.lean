/-! ===== the reference's levels ===== -/
def ML (S : Mm) (r : Nat → Int32) (w D L d : Nat) : Prop := ∀ a, d ≤ a → a ≤ D → ∀ l, l ≤ L → S.1 160 (4 * a + l) = lef r w D L (D - a) l
theorem m_thr {S : Mm} {r : Nat → Int32} {n w D L d b l : Nat} (hr : S.1 154 = r) (hn : r 1 = nI n) (h40 : n ≤ 40) (hM : ML S r w D L (d + 1)) (hD : D ≤ 12) (hL : L ≤ 3) (hd : d < D) (hb : b ≤ L) (hl : l ≤ L) : f_X11_through S (nI w) (nI d) (nI b) (nI l) = some (thr r w D L d b l) := by
  have hu : f_X11_unlikely S (nI w) (nI d) (nI l) = some (unl r w d l) := by
    rw [m_unl (n := n) (by rw [hr]; exact hn) h40 (by omega), hr]
  have hm := hM (d + 1) (Nat.le_refl _) hd l hl
  unfold f_X11_through
  rw [hu, hr]
  unfold thr
  by_cases hc : l ≤ b
  · simp (disch := omega) only [nI_add, nI_1, nI_leI, nI_ltI, nI_eq, inb_nI, nI_clamp, if_pos, if_neg, if_true, if_false, bnd, l_0, l_1, l_2, l_3, l_4, l_5, l_6, l_7, l_8, l_9, l_10, l_11, l_12, l_13, l_14, l_15, l_16, l_17, l_18, l_19, l_20, l_21, l_22, l_23, l_24, l_25, l_26, l_27, l_28, l_29, l_30, l_31, l_32, l_33, l_34, l_35, l_36, l_37, l_38, l_39, l_40, l_41, l_42, l_43, l_44, l_45, l_46, l_47, l_48, l_49, l_50, l_51, l_52, l_53, l_54, l_55, l_56, l_57, l_58, l_59, l_60, l_61, l_62, l_63, l_64, l_65, l_66, l_67, l_68, l_69, l_70, l_71, l_72, l_73, l_74, l_75, l_76, l_77, l_78, l_79, l_80, l_81, l_82, l_83, l_84, l_85, l_86, l_87, l_88, l_89, l_90, l_91, l_92, l_93, l_94, l_95, l_96, l_97, l_98, l_99, l_100, l_123, l_144, l_160, l_255, l_256, l_1000, l_1462, l_1634, l_65536, pk_mul]
    rw [hm, show l - b = 0 by omega]
  · simp (disch := omega) only [nI_add, nI_1, nI_leI, nI_ltI, nI_eq, inb_nI, nI_clamp, if_pos, if_neg, if_true, if_false, bnd, l_0, l_1, l_2, l_3, l_4, l_5, l_6, l_7, l_8, l_9, l_10, l_11, l_12, l_13, l_14, l_15, l_16, l_17, l_18, l_19, l_20, l_21, l_22, l_23, l_24, l_25, l_26, l_27, l_28, l_29, l_30, l_31, l_32, l_33, l_34, l_35, l_36, l_37, l_38, l_39, l_40, l_41, l_42, l_43, l_44, l_45, l_46, l_47, l_48, l_49, l_50, l_51, l_52, l_53, l_54, l_55, l_56, l_57, l_58, l_59, l_60, l_61, l_62, l_63, l_64, l_65, l_66, l_67, l_68, l_69, l_70, l_71, l_72, l_73, l_74, l_75, l_76, l_77, l_78, l_79, l_80, l_81, l_82, l_83, l_84, l_85, l_86, l_87, l_88, l_89, l_90, l_91, l_92, l_93, l_94, l_95, l_96, l_97, l_98, l_99, l_100, l_123, l_144, l_160, l_255, l_256, l_1000, l_1462, l_1634, l_65536, pk_mul, pk_sub]
    rw [hm]
theorem m_best_loop {S : Mm} {r : Nat → Int32} {n w D L d b : Nat} {k : Int32 → Int32 → Option Int32} (hr : S.1 154 = r) (hn : r 1 = nI n) (h40 : n ≤ 40) (hM : ML S r w D L (d + 1)) (hD : D ≤ 12) (hL : L ≤ 3) (hrL : r 2 = nI L) (hd : d < D) (hb : b ≤ L) : ∀ (m l fuel : Nat), l + m = L → m < fuel → lp_X11_bestLevel_6 k S (nI w) (nI d) (nI b) fuel (nI (bst (thr r w D L d b) l)) (nI (l + 1)) = k (nI (bst (thr r w D L d b) L)) (nI (L + 1)) := by
  intro m
  induction m with
  | zero =>
    intro l fuel h1 h2
    obtain ⟨f, rfl⟩ : ∃ f, fuel = f + 1 := ⟨fuel - 1, by omega⟩
    rw [lp_X11_bestLevel_6, hr, hrL, show l = L by omega]
    simp (disch := omega) only [nI_add, nI_1, nI_leI, nI_ltI, nI_eq, inb_nI, nI_clamp, if_pos, if_neg, if_true, if_false, bnd]
  | succ m ih =>
    intro l fuel h1 h2
    obtain ⟨f, rfl⟩ : ∃ f, fuel = f + 1 := ⟨fuel - 1, by omega⟩
    have hb2 := bst_le (thr r w D L d b) l
    have ih1 := ih (l + 1) f (by omega) (by omega)
    rw [lp_X11_bestLevel_6, hr, hrL, m_thr hr hn h40 hM hD hL hd hb (show l + 1 ≤ L by omega), m_thr hr hn h40 hM hD hL hd hb (show bst (thr r w D L d b) l ≤ L by omega)]
    simp (disch := omega) only [nI_add, nI_1, nI_leI, nI_ltI, nI_eq, inb_nI, nI_clamp, if_pos, if_neg, if_true, if_false, bnd]
    rw [bst] at ih1
    by_cases hc : thr r w D L d b (bst (thr r w D L d b) l) ≤ thr r w D L d b (l + 1)
    · rw [if_pos hc] at ih1 ⊢
      exact ih1
    · rw [if_neg hc] at ih1 ⊢
      exact ih1
theorem m_best {S : Mm} {r : Nat → Int32} {n w D L d b : Nat} (hr : S.1 154 = r) (hn : r 1 = nI n) (h40 : n ≤ 40) (hM : ML S r w D L (d + 1)) (hD : D ≤ 12) (hL : L ≤ 3) (hrL : r 2 = nI L) (hd : d < D) (hb : b ≤ L) : f_X11_bestLevel S (nI w) (nI d) (nI b) = some (nI (bst (thr r w D L d b) L)) := by
  unfold f_X11_bestLevel
  rw [l_0, l_1]
  exact m_best_loop (k := fun y _ => some y) hr hn h40 hM hD hL hrL hd hb L 0 100000 (by omega) (by omega)
theorem m_zero {r : Nat → Int32} {D : Nat} {c : Int32} {k : Int32 → Mm → Option Mm} (hD : D ≤ 12) (hrD : r 0 = nI D) : ∀ (m l fuel : Nat) (S : Mm), l + m = 4 → m < fuel → S.1 154 = r → ∃ S', lp_X11_layLevels_2 k c fuel (nI l) S = k (nI 4) S' ∧ S'.2 = S.2 ∧ (∀ a j, ¬ (a = 160 ∧ 4 * D + l ≤ j) → S'.1 a j = S.1 a j) ∧ ∀ j, l ≤ j → j < 4 → S'.1 160 (4 * D + j) = 0 := by
  intro m
  induction m with
  | zero =>
    intro l fuel S h1 h2 hr
    obtain ⟨f, rfl⟩ : ∃ f, fuel = f + 1 := ⟨fuel - 1, by omega⟩
    refine ⟨S, ?_, rfl, fun _ _ _ => rfl, fun j h3 h4 => absurd h4 (by omega)⟩
    rw [lp_X11_layLevels_2, show l = 4 by omega]
    simp (disch := omega) only [nI_add, nI_1, nI_leI, nI_ltI, nI_eq, inb_nI, nI_clamp, if_pos, if_neg, if_true, if_false, bnd, l_0, l_1, l_2, l_3, l_4, l_5, l_6, l_7, l_8, l_9, l_10, l_11, l_12, l_13, l_14, l_15, l_16, l_17, l_18, l_19, l_20, l_21, l_22, l_23, l_24, l_25, l_26, l_27, l_28, l_29, l_30, l_31, l_32, l_33, l_34, l_35, l_36, l_37, l_38, l_39, l_40, l_41, l_42, l_43, l_44, l_45, l_46, l_47, l_48, l_49, l_50, l_51, l_52, l_53, l_54, l_55, l_56, l_57, l_58, l_59, l_60, l_61, l_62, l_63, l_64, l_65, l_66, l_67, l_68, l_69, l_70, l_71, l_72, l_73, l_74, l_75, l_76, l_77, l_78, l_79, l_80, l_81, l_82, l_83, l_84, l_85, l_86, l_87, l_88, l_89, l_90, l_91, l_92, l_93, l_94, l_95, l_96, l_97, l_98, l_99, l_100, l_123, l_144, l_160, l_255, l_256, l_1000, l_1462, l_1634, l_65536]
  | succ m ih =>
    intro l fuel S h1 h2 hr
    obtain ⟨f, rfl⟩ : ∃ f, fuel = f + 1 := ⟨fuel - 1, by omega⟩
    have hk : ∀ a j, ¬ (a = 160 ∧ j = 4 * D + l) → (wr S 160 (4 * D + l) 0).1 a j = S.1 a j := fun a j h => if_neg h
    obtain ⟨S', e1, e2, e3, e4⟩ := ih (l + 1) f (wr S 160 (4 * D + l) 0) (by omega) (by omega) ((funext fun j => hk 154 j (by omega)).trans hr)
    refine ⟨S', ?_, e2, fun a j h3 => (e3 a j (by omega)).trans (hk a j (by omega)), fun j h3 h4 => ?_⟩
    · rw [lp_X11_layLevels_2, hr, hrD, ← e1]
      simp (disch := omega) only [nI_add, nI_1, nI_leI, nI_ltI, nI_eq, inb_nI, nI_clamp, if_pos, if_neg, if_true, if_false, bnd, l_0, l_1, l_2, l_3, l_4, l_5, l_6, l_7, l_8, l_9, l_10, l_11, l_12, l_13, l_14, l_15, l_16, l_17, l_18, l_19, l_20, l_21, l_22, l_23, l_24, l_25, l_26, l_27, l_28, l_29, l_30, l_31, l_32, l_33, l_34, l_35, l_36, l_37, l_38, l_39, l_40, l_41, l_42, l_43, l_44, l_45, l_46, l_47, l_48, l_49, l_50, l_51, l_52, l_53, l_54, l_55, l_56, l_57, l_58, l_59, l_60, l_61, l_62, l_63, l_64, l_65, l_66, l_67, l_68, l_69, l_70, l_71, l_72, l_73, l_74, l_75, l_76, l_77, l_78, l_79, l_80, l_81, l_82, l_83, l_84, l_85, l_86, l_87, l_88, l_89, l_90, l_91, l_92, l_93, l_94, l_95, l_96, l_97, l_98, l_99, l_100, l_123, l_144, l_160, l_255, l_256, l_1000, l_1462, l_1634, l_65536, pk_mul]
    · by_cases hj : j = l
      · subst hj
        exact (e3 _ _ (by omega)).trans (wr_s _ _ _ _)
      · exact e4 j (by omega) h4
theorem m_in {r : Nat → Int32} {n w D L d : Nat} {k : Int32 → Mm → Option Mm} (hn : r 1 = nI n) (h40 : n ≤ 40) (hD : D ≤ 12) (hL : L ≤ 3) (hrL : r 2 = nI L) (hd : d < D) : ∀ (m b fuel : Nat) (S : Mm), b + m = L + 1 → m < fuel → S.1 154 = r → ML S r w D L (d + 1) → ∃ S', lp_X11_layLevels_44 k (nI w) (nI d) fuel (nI b) S = k (nI (L + 1)) S' ∧ S'.2 = S.2 ∧ (∀ a j, ¬ (a = 160 ∧ 4 * d + b ≤ j ∧ j < 4 * d + 4) → S'.1 a j = S.1 a j) ∧ ∀ j, b ≤ j → j ≤ L → S'.1 160 (4 * d + j) = lef r w D L (D - d) j := by
  intro m
  induction m with
  | zero =>
    intro b fuel S h1 h2 hr hM
    obtain ⟨f, rfl⟩ : ∃ f, fuel = f + 1 := ⟨fuel - 1, by omega⟩
    refine ⟨S, ?_, rfl, fun _ _ _ => rfl, fun j h3 h4 => absurd h4 (by omega)⟩
    rw [lp_X11_layLevels_44, hr, hrL, show b = L + 1 by omega]
    simp (disch := omega) only [nI_add, nI_1, nI_leI, nI_ltI, nI_eq, inb_nI, nI_clamp, if_pos, if_neg, if_true, if_false, bnd]
  | succ m ih =>
    intro b fuel S h1 h2 hr hM
    obtain ⟨f, rfl⟩ : ∃ f, fuel = f + 1 := ⟨fuel - 1, by omega⟩
    have hk : ∀ a j, ¬ (a = 160 ∧ j = 4 * d + b) → (wr S 160 (4 * d + b) (lef r w D L (D - d) b)).1 a j = S.1 a j := fun a j h => if_neg h
    obtain ⟨S', e1, e2, e3, e4⟩ := ih (b + 1) f (wr S 160 (4 * d + b) (lef r w D L (D - d) b)) (by omega) (by omega) ((funext fun j => hk 154 j (by omega)).trans hr) (fun a h3 h4 l h5 => (hk _ _ (by omega)).trans (hM a h3 h4 l h5))
    refine ⟨S', ?_, e2, fun a j h3 => (e3 a j (by omega)).trans (hk a j (by omega)), fun j h3 h4 => ?_⟩
    · rw [lp_X11_layLevels_44, m_best hr hn h40 hM hD hL hrL hd (show b ≤ L by omega)]
      simp only [bnd]
      rw [m_thr hr hn h40 hM hD hL hd (show b ≤ L by omega) (bst_le _ _), ← lef_thr hd, hr, hrL, ← e1]
      simp (disch := omega) only [nI_add, nI_1, nI_leI, nI_ltI, nI_eq, inb_nI, nI_clamp, if_pos, if_neg, if_true, if_false, bnd, l_0, l_1, l_2, l_3, l_4, l_5, l_6, l_7, l_8, l_9, l_10, l_11, l_12, l_13, l_14, l_15, l_16, l_17, l_18, l_19, l_20, l_21, l_22, l_23, l_24, l_25, l_26, l_27, l_28, l_29, l_30, l_31, l_32, l_33, l_34, l_35, l_36, l_37, l_38, l_39, l_40, l_41, l_42, l_43, l_44, l_45, l_46, l_47, l_48, l_49, l_50, l_51, l_52, l_53, l_54, l_55, l_56, l_57, l_58, l_59, l_60, l_61, l_62, l_63, l_64, l_65, l_66, l_67, l_68, l_69, l_70, l_71, l_72, l_73, l_74, l_75, l_76, l_77, l_78, l_79, l_80, l_81, l_82, l_83, l_84, l_85, l_86, l_87, l_88, l_89, l_90, l_91, l_92, l_93, l_94, l_95, l_96, l_97, l_98, l_99, l_100, l_123, l_144, l_160, l_255, l_256, l_1000, l_1462, l_1634, l_65536, pk_mul]
    · by_cases hj : j = b
      · subst hj
        exact (e3 _ _ (by omega)).trans (wr_s _ _ _ _)
      · exact e4 j (by omega) h4
theorem m_out {r : Nat → Int32} {n w D L : Nat} {k : Int32 → Mm → Option Mm} (hn : r 1 = nI n) (h40 : n ≤ 40) (hD : D ≤ 12) (hL : L ≤ 3) (hrL : r 2 = nI L) : ∀ (d fuel : Nat) (S : Mm), d < D → d + 1 < fuel → S.1 154 = r → ML S r w D L (d + 1) → ∃ S', lp_X11_layLevels_38 k (nI w) fuel (nI d) S = k (-1) S' ∧ S'.2 = S.2 ∧ (∀ a j, a ≠ 160 → S'.1 a j = S.1 a j) ∧ ML S' r w D L 0 := by
  intro d
  induction d with
  | zero =>
    intro fuel S h1 h2 hr hM
    obtain ⟨f, rfl⟩ : ∃ f, fuel = f + 1 + 1 := ⟨fuel - 2, by omega⟩
    obtain ⟨F, hFu⟩ : ∃ F : Nat, 100000 = F := ⟨_, rfl⟩
    obtain ⟨S1, a1, a2, a3, a4⟩ := m_in (k := fun _ S11 => lp_X11_layLevels_38 k (nI w) (f + 1) (nI 0 + (-1)) S11) hn h40 hD hL hrL h1 (L + 1) 0 F S (by omega) (by omega) hr hM
    refine ⟨S1, ?_, a2, fun a j h => a3 a j (by omega), fun a h3 h4 l h5 => ?_⟩
    · rw [lp_X11_layLevels_38, if_neg (nI_pos (by omega)), hFu, l_0, a1, lp_X11_layLevels_38, if_pos (by decide)]
      rfl
    · by_cases ha : a = 0
      · subst ha
        exact a4 l (Nat.zero_le l) h5
      · exact (a3 _ _ (by omega)).trans (hM a (by omega) h4 l h5)
  | succ d ih =>
    intro fuel S h1 h2 hr hM
    obtain ⟨f, rfl⟩ : ∃ f, fuel = f + 1 := ⟨fuel - 1, by omega⟩
    obtain ⟨F, hFu⟩ : ∃ F : Nat, 100000 = F := ⟨_, rfl⟩
    obtain ⟨S1, a1, a2, a3, a4⟩ := m_in (k := fun _ S11 => lp_X11_layLevels_38 k (nI w) f (nI (d + 1) + (-1)) S11) hn h40 hD hL hrL h1 (L + 1) 0 F S (by omega) (by omega) hr hM
    obtain ⟨S2, b1, b2, b3, b4⟩ := ih f S1 (by omega) (by omega) ((funext fun j => a3 154 j (by omega)).trans hr) (fun a h3 h4 l h5 => by
      by_cases ha : a = d + 1
      · subst ha
        exact a4 l (Nat.zero_le l) h5
      · exact (a3 _ _ (by omega)).trans (hM a (by omega) h4 l h5))
    refine ⟨S2, ?_, b2.trans a2, fun a j h => (b3 a j h).trans (a3 a j (by omega)), b4⟩
    rw [lp_X11_layLevels_38, if_neg (nI_pos (by omega)), hFu, l_0, a1, pk_m1, b1]
theorem m_walk {r : Nat → Int32} {n w D L : Nat} {k : Int32 → Int32 → Mm → Option Mm} (hn : r 1 = nI n) (h40 : n ≤ 40) (hD : D ≤ 12) (hrD : r 0 = nI D) (hL : L ≤ 3) (hrL : r 2 = nI L) : ∀ (m d fuel : Nat) (S : Mm), d + m = D → m < fuel → S.1 154 = r → ML S r w D L 0 → ∃ (y : Int32) (S' : Mm), lp_X11_layLevels_94 k (nI w) fuel (nI (if d = 0 then 0 else lv r w D L (d - 1))) (nI d) S = k y (nI D) S' ∧ S'.2 = S.2 ∧ (∀ a j, ¬ (a = 161 ∧ d ≤ j) → S'.1 a j = S.1 a j) ∧ ∀ j, d ≤ j → j < D → S'.1 161 j = nI (lv r w D L j) := by
  intro m
  induction m with
  | zero =>
    intro d fuel S h1 h2 hr hM
    obtain ⟨f, rfl⟩ : ∃ f, fuel = f + 1 := ⟨fuel - 1, by omega⟩
    refine ⟨nI (if d = 0 then 0 else lv r w D L (d - 1)), S, ?_, rfl, fun _ _ _ => rfl, fun j h3 h4 => absurd h4 (by omega)⟩
    rw [lp_X11_layLevels_94, hr, hrD, if_pos (by rw [show d = D by omega]; exact nI_le (Nat.le_refl D) (by omega)), show d = D by omega]
  | succ m ih =>
    intro d fuel S h1 h2 hr hM
    obtain ⟨f, rfl⟩ : ∃ f, fuel = f + 1 := ⟨fuel - 1, by omega⟩
    have hk : ∀ a j, ¬ (a = 161 ∧ j = d) → (wr S 161 d (nI (lv r w D L d))).1 a j = S.1 a j := fun a j h => if_neg h
    obtain ⟨y, S', e1, e2, e3, e4⟩ := ih (d + 1) f (wr S 161 d (nI (lv r w D L d))) (by omega) (by omega) ((funext fun j => hk 154 j (by omega)).trans hr) (fun a h3 h4 l h5 => (hk _ _ (by omega)).trans (hM a h3 h4 l h5))
    refine ⟨y, S', ?_, e2, fun a j h3 => (e3 a j (by omega)).trans (hk a j (by omega)), fun j h3 h4 => ?_⟩
    · have hb : (if d = 0 then 0 else lv r w D L (d - 1)) ≤ L := by
        by_cases h0 : d = 0
        · rw [if_pos h0]; omega
        · rw [if_neg h0]; exact lv_le _ _ _ _ _
      have hbst : bst (thr r w D L d (if d = 0 then 0 else lv r w D L (d - 1))) L = lv r w D L d := by
        cases d with
        | zero => rfl
        | succ d => rfl
      rw [lp_X11_layLevels_94, m_best hr hn h40 (fun a h3 h4 => hM a (Nat.zero_le a) h4) hD hL hrL (show d < D by omega) hb, hbst, hr, hrD, if_neg (nI_ge (by omega) (by omega)), ← e1]
      rw [if_neg (show ¬ d + 1 = 0 by omega), Nat.add_sub_cancel]
      simp (disch := omega) only [nI_add, nI_1, nI_leI, nI_ltI, nI_eq, inb_nI, nI_clamp, if_pos, if_neg, if_true, if_false, bnd, wr_s]
    · by_cases hj : j = d
      · subst hj
        exact (e3 _ j (by omega)).trans (wr_s _ _ _ _)
      · exact e4 j (by omega) h4
theorem m_lay {S : Mm} {r : Nat → Int32} {n w D L : Nat} (hr : S.1 154 = r) (hn : r 1 = nI n) (h40 : n ≤ 40) (h0 : 1 ≤ D) (hD : D ≤ 12) (hrD : r 0 = nI D) (hL : L ≤ 3) (hrL : r 2 = nI L) : ∃ S', f_X11_layLevels S (nI w) = some S' ∧ S'.2 = S.2 ∧ (∀ a j, a ≠ 160 → a ≠ 161 → S'.1 a j = S.1 a j) ∧ (∀ d, d < D → S'.1 161 d = nI (lv r w D L d)) ∧ S'.1 160 0 = lef r w D L D 0 := by
  obtain ⟨F, hFu⟩ : ∃ F : Nat, 100000 = F := ⟨_, rfl⟩
  obtain ⟨S1, a1, a2, a3, a4⟩ := m_zero (c := nI w) (k := fun _ S3 => lp_X11_layLevels_38 (fun _ S14 => lp_X11_layLevels_94 (fun _ _ S22 => some S22) (nI w) F (nI 0) (nI 0) S14) (nI w) F ((S3.1 154 0) - nI 1) S3) hD hrD 4 0 F S (by omega) (by omega) hr
  have hr1 : S1.1 154 = r := (funext fun j => a3 154 j (by omega)).trans hr
  obtain ⟨S2, b1, b2, b3, b4⟩ := m_out (w := w) (k := fun _ S14 => lp_X11_layLevels_94 (fun _ _ S22 => some S22) (nI w) F (nI 0) (nI 0) S14) hn h40 hD hL hrL (D - 1) F S1 (by omega) (by omega) hr1 (fun a h3 h4 l h5 => by
    have ha : a = D := by omega
    subst ha
    rw [a4 l (Nat.zero_le l) (by omega), Nat.sub_self]
    rfl)
  have hr2 : S2.1 154 = r := (funext fun j => b3 154 j (by omega)).trans hr1
  obtain ⟨y, S3, c1, c2, c3, c4⟩ := m_walk (w := w) (k := fun _ _ S22 => some S22) hn h40 hD hrD hL hrL D 0 F S2 (by omega) (by omega) hr2 b4
  refine ⟨S3, ?_, c2.trans (b2.trans a2), fun a j h3 h4 => ?_, fun d hd => c4 d (Nat.zero_le d) hd, ?_⟩
  · unfold f_X11_layLevels
    rw [hFu]
    simp only [l_0, l_1]
    rw [a1, hr1, hrD, pk_sub h0, b1]
    exact c1
  · rw [c3 a j (by omega), b3 a j h3, a3 a j (by omega)]
  · rw [c3 160 0 (by omega)]
    exact b4 0 (Nat.zero_le 0) (Nat.zero_le D) 0 (Nat.zero_le L)
