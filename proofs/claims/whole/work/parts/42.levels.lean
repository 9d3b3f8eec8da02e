/-! ===== levels ===== -/
/-- the first of 0 .. L at which f is least -/
def bst (f : Nat → Int32) : Nat → Nat
  | 0 => 0
  | l + 1 => if f (bst f l) ≤ f (l + 1) then bst f l else l + 1
theorem bst_le (f : Nat → Int32) : ∀ L, bst f L ≤ L
  | 0 => Nat.le_refl _
  | L + 1 => by
    have := bst_le f L
    unfold bst
    split <;> omega
/-- what the last e days cost at least, behind level b -/
def lef (r : Nat → Int32) (w D L : Nat) : Nat → Nat → Int32
  | 0, _ => 0
  | e + 1, b => unl r w (D - (e + 1)) (bst (fun l => unl r w (D - (e + 1)) l + r 5 * nI (l - b) + lef r w D L e l) L) + r 5 * nI ((bst (fun l => unl r w (D - (e + 1)) l + r 5 * nI (l - b) + lef r w D L e l) L) - b) + lef r w D L e (bst (fun l => unl r w (D - (e + 1)) l + r 5 * nI (l - b) + lef r w D L e l) L)
def thr (r : Nat → Int32) (w D L d b l : Nat) : Int32 := unl r w d l + r 5 * nI (l - b) + lef r w D L (D - (d + 1)) l
def lv (r : Nat → Int32) (w D L : Nat) : Nat → Nat
  | 0 => bst (thr r w D L 0 0) L
  | d + 1 => bst (thr r w D L (d + 1) (lv r w D L d)) L
theorem lv_le (r : Nat → Int32) (w D L d : Nat) : lv r w D L d ≤ L := by
  cases d <;> exact bst_le _ _
theorem lef_thr {r : Nat → Int32} {w D L d b : Nat} (h : d < D) : lef r w D L (D - d) b = thr r w D L d b (bst (thr r w D L d b) L) := by
  obtain ⟨e, he⟩ : ∃ e, D - d = e + 1 := ⟨D - d - 1, by omega⟩
  have h1 : D - (e + 1) = d := by omega
  have h2 : D - (d + 1) = e := by omega
  rw [he, lef, h1]
  unfold thr
  rw [h2]
/-! the class -/
def XR (S : Mm) (r : Nat → Int32) (w D L d : Nat) : Prop := ∀ a, d ≤ a → a < D → ∀ l, l ≤ L → S.1 (38 + a) l = unl r w a l + lef r w D L (D - (a + 1)) l
theorem x_costFrom {S : Mm} {r : Nat → Int32} {w D L d b l : Nat} (h : FT S r) (hx : XR S r w D L d) (hD : D ≤ 12) (hL : L ≤ 3) (hd : d < D) (hb : b ≤ L) (hl : l ≤ L) : f_X5_costFrom S (nI d) (nI b) (nI l) = some (thr r w D L d b l) := by
  unfold f_X5_costFrom
  rw [isDay_y (by omega), x_rise h (by omega) (by omega)]
  simp (disch := omega) only [nI_add, nI_1, nI_leI, nI_ltI, nI_eq, inb_nI, nI_clamp, if_pos, if_neg, if_true, if_false, bnd, l_0, l_1, l_2, l_3, l_4, l_5, l_6, l_7, l_8, l_9, l_10, l_11, l_12, l_13, l_14, l_15, l_16, l_17, l_18, l_19, l_20, l_21, l_22, l_23, l_24, l_25, l_26, l_27, l_28, l_29, l_30, l_31, l_32, l_33, l_34, l_35, l_36, l_37, l_38, l_39, l_40, l_41, l_42, l_43, l_44, l_45, l_46, l_47, l_48, l_49, l_50, l_51, l_52, l_53, l_54, l_55, l_56, l_57, l_58, l_59, l_60, l_61, l_62, l_63, l_64, l_65, l_66, l_67, l_68, l_69, l_70, l_71, l_72, l_73, l_74, l_75, l_76, l_77, l_78, l_79, l_80, l_81, l_82, l_83, l_84, l_85, l_86, l_87, l_88, l_89, l_90, l_91, l_92, l_93, l_94, l_95, l_96, l_97, l_98, l_99, l_100, l_123, l_144, l_160, l_255, l_256, l_1000, l_1462, l_1634, l_65536]
  rw [hx d (Nat.le_refl d) hd l hl]
  unfold thr
  rw [Int32.add_assoc, Int32.add_comm (lef _ _ _ _ _ _), ← Int32.add_assoc]
theorem x_least_loop {S : Mm} {r : Nat → Int32} {w D L d b : Nat} {k : Int32 → Int32 → Option Int32} (h : FT S r) (hx : XR S r w D L d) (hD : D ≤ 12) (hL : L ≤ 3) (hrL : r 2 = nI L) (hd : d < D) (hb : b ≤ L) : ∀ (m l fuel : Nat), l + m = L → m < fuel → lp_X5_leastFrom_6 k S (nI d) (nI b) fuel (nI (bst (thr r w D L d b) l)) (nI (l + 1)) = k (nI (bst (thr r w D L d b) L)) (nI (L + 1)) := by
  intro m
  induction m with
  | zero =>
    intro l fuel h1 h2
    obtain ⟨f, rfl⟩ : ∃ f, fuel = f + 1 := ⟨fuel - 1, by omega⟩
    rw [lp_X5_leastFrom_6, f_X8_highest, h.1.2.1, hrL, show l = L by omega]
    simp (disch := omega) only [nI_add, nI_1, nI_leI, nI_ltI, nI_eq, inb_nI, nI_clamp, if_pos, if_neg, if_true, if_false, bnd]
  | succ m ih =>
    intro l fuel h1 h2
    obtain ⟨f, rfl⟩ : ∃ f, fuel = f + 1 := ⟨fuel - 1, by omega⟩
    have hb2 := bst_le (thr r w D L d b) l
    have ih1 := ih (l + 1) f (by omega) (by omega)
    rw [lp_X5_leastFrom_6, f_X8_highest, h.1.2.1, hrL, x_costFrom h hx hD hL hd hb (show l + 1 ≤ L by omega), x_costFrom h hx hD hL hd hb (show bst (thr r w D L d b) l ≤ L by omega)]
    simp (disch := omega) only [nI_add, nI_1, nI_leI, nI_ltI, nI_eq, inb_nI, nI_clamp, if_pos, if_neg, if_true, if_false, bnd]
    rw [bst] at ih1
    by_cases hc : thr r w D L d b (bst (thr r w D L d b) l) ≤ thr r w D L d b (l + 1)
    · rw [if_pos hc] at ih1 ⊢
      exact ih1
    · rw [if_neg hc] at ih1 ⊢
      exact ih1
theorem x_least {S : Mm} {r : Nat → Int32} {w D L d b : Nat} (h : FT S r) (hx : XR S r w D L d) (hD : D ≤ 12) (hL : L ≤ 3) (hrL : r 2 = nI L) (hd : d < D) (hb : b ≤ L) : f_X5_leastFrom S (nI d) (nI b) = some (nI (bst (thr r w D L d b) L)) := by
  unfold f_X5_leastFrom
  rw [l_0, l_1]
  exact x_least_loop (k := fun y _ => some y) h hx hD hL hrL hd hb L 0 100000 (by omega) (by omega)
theorem FT.keep {S S1 : Mm} {r : Nat → Int32} (h : FT S r) (hk : ∀ a j, 6 ≤ a → a < 26 → S1.1 a j = S.1 a j) : FT S1 r := by
  obtain ⟨⟨a1, a2, a3, a4, a5⟩, b, c, d⟩ := h
  refine ⟨⟨?_, ?_, ?_, ?_, ?_⟩, fun x hx => (hk _ _ (by omega) (by omega)).trans (b x hx), fun w x hw hx => (hk _ _ (by omega) (by omega)).trans (c w x hw hx), fun w x hw hx => (hk _ _ (by omega) (by omega)).trans (d w x hw hx)⟩
  · rw [hk _ _ (by omega) (by omega)]; exact a1
  · rw [hk _ _ (by omega) (by omega)]; exact a2
  · rw [hk _ _ (by omega) (by omega)]; exact a3
  · rw [hk _ _ (by omega) (by omega)]; exact a4
  · rw [hk _ _ (by omega) (by omega)]; exact a5
theorem x_rests_in {r : Nat → Int32} {w D L d : Nat} {k : Int32 → Mm → Option Mm} (hw : w < 8) (hD : D ≤ 12) (hL : L ≤ 3) (hrL : r 2 = nI L) (hd : d < D) : ∀ (m l fuel : Nat) (S : Mm), l + m = L + 1 → m < fuel → FT S r → XR S r w D L (d + 1) → ∃ S', lp_X5_costRests_18 k (nI w) (nI (D - 1)) (nI d) fuel (nI l) S = k (nI (L + 1)) S' ∧ S'.2 = S.2 ∧ (∀ a j, ¬ (a = 38 + d ∧ l ≤ j) → S'.1 a j = S.1 a j) ∧ ∀ j, l ≤ j → j ≤ L → S'.1 (38 + d) j = unl r w d j + lef r w D L (D - (d + 1)) j := by
  intro m
  induction m with
  | zero =>
    intro l fuel S h1 h2 hF hX
    obtain ⟨f, rfl⟩ : ∃ f, fuel = f + 1 := ⟨fuel - 1, by omega⟩
    refine ⟨S, ?_, rfl, fun _ _ _ => rfl, fun j h3 h4 => absurd h4 (by omega)⟩
    rw [lp_X5_costRests_18, f_X8_highest, hF.1.2.1, hrL, show l = L + 1 by omega]
    simp (disch := omega) only [nI_add, nI_1, nI_leI, nI_ltI, nI_eq, inb_nI, nI_clamp, if_pos, if_neg, if_true, if_false, bnd]
  | succ m ih =>
    intro l fuel S h1 h2 hF hX
    obtain ⟨f, rfl⟩ : ∃ f, fuel = f + 1 := ⟨fuel - 1, by omega⟩
    have hk : ∀ a j, ¬ (a = 38 + d ∧ j = l) → (wr S (38 + d) l (unl r w d l + lef r w D L (D - (d + 1)) l)).1 a j = S.1 a j := fun a j h => if_neg h
    have hF' := hF.keep (S1 := wr S (38 + d) l (unl r w d l + lef r w D L (D - (d + 1)) l)) (fun a j h3 h4 => hk a j (by omega))
    have hX' : XR (wr S (38 + d) l (unl r w d l + lef r w D L (D - (d + 1)) l)) r w D L (d + 1) := fun a h3 h4 l2 h5 => (hk _ _ (by omega)).trans (hX a h3 h4 l2 h5)
    obtain ⟨S', e1, e2, e3, e4⟩ := ih (l + 1) f _ (by omega) (by omega) hF' hX'
    refine ⟨S', ?_, e2, fun a j h3 => (e3 a j (by omega)).trans (hk a j (by omega)), fun j h3 h4 => ?_⟩
    · rw [lp_X5_costRests_18, f_X8_highest, hF.1.2.1, hrL, x_unl hF hw (by omega), ← e1]
      by_cases hlast : d = D - 1
      · have h0 : lef r w D L (D - (d + 1)) l = 0 := by rw [show D - (d + 1) = 0 by omega]; rfl
        rw [h0]
        simp (disch := omega) only [nI_add, nI_1, nI_leI, nI_ltI, nI_eq, inb_nI, nI_clamp, if_pos, if_neg, if_true, if_false, bnd, l_0, l_1, l_2, l_3, l_4, l_5, l_6, l_7, l_8, l_9, l_10, l_11, l_12, l_13, l_14, l_15, l_16, l_17, l_18, l_19, l_20, l_21, l_22, l_23, l_24, l_25, l_26, l_27, l_28, l_29, l_30, l_31, l_32, l_33, l_34, l_35, l_36, l_37, l_38, l_39, l_40, l_41, l_42, l_43, l_44, l_45, l_46, l_47, l_48, l_49, l_50, l_51, l_52, l_53, l_54, l_55, l_56, l_57, l_58, l_59, l_60, l_61, l_62, l_63, l_64, l_65, l_66, l_67, l_68, l_69, l_70, l_71, l_72, l_73, l_74, l_75, l_76, l_77, l_78, l_79, l_80, l_81, l_82, l_83, l_84, l_85, l_86, l_87, l_88, l_89, l_90, l_91, l_92, l_93, l_94, l_95, l_96, l_97, l_98, l_99, l_100, l_123, l_144, l_160, l_255, l_256, l_1000, l_1462, l_1634, l_65536]
      · rw [nI_1 d, x_least hF hX hD hL hrL (show d + 1 < D by omega) (show l ≤ L by omega)]
        simp only [bnd]
        rw [x_costFrom hF hX hD hL (show d + 1 < D by omega) (show l ≤ L by omega) (bst_le _ _), ← lef_thr (show d + 1 < D by omega)]
        simp (disch := omega) only [nI_add, nI_1, nI_leI, nI_ltI, nI_eq, inb_nI, nI_clamp, if_pos, if_neg, if_true, if_false, bnd, l_0, l_1, l_2, l_3, l_4, l_5, l_6, l_7, l_8, l_9, l_10, l_11, l_12, l_13, l_14, l_15, l_16, l_17, l_18, l_19, l_20, l_21, l_22, l_23, l_24, l_25, l_26, l_27, l_28, l_29, l_30, l_31, l_32, l_33, l_34, l_35, l_36, l_37, l_38, l_39, l_40, l_41, l_42, l_43, l_44, l_45, l_46, l_47, l_48, l_49, l_50, l_51, l_52, l_53, l_54, l_55, l_56, l_57, l_58, l_59, l_60, l_61, l_62, l_63, l_64, l_65, l_66, l_67, l_68, l_69, l_70, l_71, l_72, l_73, l_74, l_75, l_76, l_77, l_78, l_79, l_80, l_81, l_82, l_83, l_84, l_85, l_86, l_87, l_88, l_89, l_90, l_91, l_92, l_93, l_94, l_95, l_96, l_97, l_98, l_99, l_100, l_123, l_144, l_160, l_255, l_256, l_1000, l_1462, l_1634, l_65536]
    · by_cases hj : j = l
      · subst hj
        exact (e3 _ j (by omega)).trans (wr_s _ _ _ _)
      · exact e4 j (by omega) h4
theorem x_rests_out {r : Nat → Int32} {w D L : Nat} {k : Int32 → Mm → Option Mm} (hw : w < 8) (hD : D ≤ 12) (hL : L ≤ 3) (hrL : r 2 = nI L) : ∀ (d fuel : Nat) (S : Mm), d < D → d + 1 < fuel → FT S r → XR S r w D L (d + 1) → ∃ S', lp_X5_costRests_10 k (nI w) (nI (D - 1)) fuel (nI d) S = k (-1) S' ∧ S'.2 = S.2 ∧ (∀ a j, ¬ (38 ≤ a ∧ a < 50) → S'.1 a j = S.1 a j) ∧ XR S' r w D L 0 := by
  intro d
  induction d with
  | zero =>
    intro fuel S h1 h2 hF hX
    obtain ⟨f, rfl⟩ : ∃ f, fuel = f + 1 + 1 := ⟨fuel - 2, by omega⟩
    obtain ⟨F, hFu⟩ : ∃ F : Nat, 100000 = F := ⟨_, rfl⟩
    obtain ⟨S1, a1, a2, a3, a4⟩ := x_rests_in (k := fun _ S18 => lp_X5_costRests_10 k (nI w) (nI (D - 1)) (f + 1) (nI 0 + (-1)) S18) hw hD hL hrL h1 (L + 1) 0 F S (by omega) (by omega) hF hX
    refine ⟨S1, ?_, a2, fun a j h => a3 a j (by omega), fun a h3 h4 l h5 => ?_⟩
    · rw [lp_X5_costRests_10, if_neg (nI_pos (by omega)), hFu, l_0, a1, lp_X5_costRests_10, if_pos (by decide)]
      rfl
    · by_cases ha : a = 0
      · subst ha
        exact a4 l (Nat.zero_le l) h5
      · exact (a3 _ l (by omega)).trans (hX a (by omega) h4 l h5)
  | succ d ih =>
    intro fuel S h1 h2 hF hX
    obtain ⟨f, rfl⟩ : ∃ f, fuel = f + 1 := ⟨fuel - 1, by omega⟩
    obtain ⟨F, hFu⟩ : ∃ F : Nat, 100000 = F := ⟨_, rfl⟩
    obtain ⟨S1, a1, a2, a3, a4⟩ := x_rests_in (k := fun _ S18 => lp_X5_costRests_10 k (nI w) (nI (D - 1)) f (nI (d + 1) + (-1)) S18) hw hD hL hrL h1 (L + 1) 0 F S (by omega) (by omega) hF hX
    obtain ⟨S2, b1, b2, b3, b4⟩ := ih f S1 (by omega) (by omega) (hF.keep (fun a j h3 h4 => a3 a j (by omega))) (fun a h3 h4 l h5 => by
      by_cases ha : a = d + 1
      · subst ha
        exact a4 l (Nat.zero_le l) h5
      · exact (a3 _ l (by omega)).trans (hX a (by omega) h4 l h5))
    refine ⟨S2, ?_, b2.trans a2, fun a j h => (b3 a j h).trans (a3 a j (by omega)), b4⟩
    rw [lp_X5_costRests_10, if_neg (nI_pos (by omega)), hFu, l_0, a1, pk_m1, b1]
theorem x_rests {S : Mm} {r : Nat → Int32} {w D L : Nat} (hw : w < 8) (h0 : 1 ≤ D) (hD : D ≤ 12) (hrD : r 0 = nI D) (hL : L ≤ 3) (hrL : r 2 = nI L) (hF : FT S r) : ∃ S', f_X5_costRests S (nI w) = some S' ∧ S'.2 = S.2 ∧ (∀ a j, ¬ (38 ≤ a ∧ a < 50) → S'.1 a j = S.1 a j) ∧ XR S' r w D L 0 := by
  obtain ⟨F, hFu⟩ : ∃ F : Nat, 100000 = F := ⟨_, rfl⟩
  obtain ⟨S1, a1, a2, a3, a4⟩ := x_rests_out (k := fun _ S => some S) hw hD hL hrL (D - 1) F S (by omega) (by omega) hF (fun a h3 h4 => absurd h4 (by omega))
  refine ⟨S1, ?_, a2, a3, a4⟩
  unfold f_X5_costRests f_X8_dayCount
  rw [Option.bind_some, hF.1.1, hrD, l_1, pk_sub h0, hFu, a1]
theorem x_walk_loop {r : Nat → Int32} {w D L : Nat} {k : Int32 → Int32 → Mm → Option Mm} (hw : w < 8) (hD : D ≤ 12) (hrD : r 0 = nI D) (hL : L ≤ 3) (hrL : r 2 = nI L) : ∀ (m d fuel : Nat) (S : Mm), d + m = D → m < fuel → FT S r → XR S r w D L 0 → ∃ (y : Int32) (S' : Mm), lp_X5_walk_5 k (nI w) fuel (nI (if d = 0 then 0 else lv r w D L (d - 1))) (nI d) S = k y (nI D) S' ∧ S'.2 = S.2 ∧ (∀ a j, ¬ (a = 28 + w ∧ d ≤ j) → S'.1 a j = S.1 a j) ∧ ∀ j, d ≤ j → j < D → S'.1 (28 + w) j = nI (lv r w D L j) := by
  intro m
  induction m with
  | zero =>
    intro d fuel S h1 h2 hF hX
    obtain ⟨f, rfl⟩ : ∃ f, fuel = f + 1 := ⟨fuel - 1, by omega⟩
    refine ⟨nI (if d = 0 then 0 else lv r w D L (d - 1)), S, ?_, rfl, fun _ _ _ => rfl, fun j h3 h4 => absurd h4 (by omega)⟩
    rw [lp_X5_walk_5, f_X8_dayCount, hF.1.1, hrD, Option.bind_some, if_pos (by rw [show d = D by omega]; exact nI_le (Nat.le_refl D) (by omega)), show d = D by omega]
  | succ m ih =>
    intro d fuel S h1 h2 hF hX
    obtain ⟨f, rfl⟩ : ∃ f, fuel = f + 1 := ⟨fuel - 1, by omega⟩
    have hk : ∀ a j, ¬ (a = 28 + w ∧ j = d) → (wr S (28 + w) d (nI (lv r w D L d))).1 a j = S.1 a j := fun a j h => if_neg h
    obtain ⟨y, S', e1, e2, e3, e4⟩ := ih (d + 1) f (wr S (28 + w) d (nI (lv r w D L d))) (by omega) (by omega) (hF.keep (fun a j h3 h4 => hk a j (by omega))) (fun a h3 h4 l h5 => (hk _ _ (by omega)).trans (hX a h3 h4 l h5))
    refine ⟨y, S', ?_, e2, fun a j h3 => (e3 a j (by omega)).trans (hk a j (by omega)), fun j h3 h4 => ?_⟩
    · have hb : (if d = 0 then 0 else lv r w D L (d - 1)) ≤ L := by
        by_cases h0 : d = 0
        · rw [if_pos h0]; omega
        · rw [if_neg h0]; exact lv_le _ _ _ _ _
      have hbst : bst (thr r w D L d (if d = 0 then 0 else lv r w D L (d - 1))) L = lv r w D L d := by
        cases d with
        | zero => rfl
        | succ d => rfl
      rw [lp_X5_walk_5, f_X8_dayCount, hF.1.1, hrD, Option.bind_some, if_neg (nI_ge (by omega) (by omega)), x_least hF (fun a h3 h4 => hX a (Nat.zero_le a) h4) hD hL hrL (show d < D by omega) hb, hbst, ← e1]
      rw [if_neg (show ¬ d + 1 = 0 by omega), Nat.add_sub_cancel]
      simp (disch := omega) only [nI_add, nI_1, nI_leI, nI_ltI, nI_eq, inb_nI, nI_clamp, if_pos, if_neg, if_true, if_false, bnd]
    · by_cases hj : j = d
      · subst hj
        exact (e3 _ j (by omega)).trans (wr_s _ _ _ _)
      · exact e4 j (by omega) h4
theorem x_walk {S : Mm} {r : Nat → Int32} {w D L : Nat} (hw : w < 8) (hD : D ≤ 12) (hrD : r 0 = nI D) (hL : L ≤ 3) (hrL : r 2 = nI L) (hF : FT S r) (hX : XR S r w D L 0) : ∃ S', f_X5_walk S (nI w) = some S' ∧ S'.2 = S.2 ∧ (∀ a j, ¬ (a = 28 + w) → S'.1 a j = S.1 a j) ∧ ∀ j, j < D → S'.1 (28 + w) j = nI (lv r w D L j) := by
  obtain ⟨F, hFu⟩ : ∃ F : Nat, 100000 = F := ⟨_, rfl⟩
  obtain ⟨y, S1, a1, a2, a3, a4⟩ := x_walk_loop (k := fun _ _ S => some S) hw hD hrD hL hrL D 0 F S (by omega) (by omega) hF hX
  refine ⟨S1, ?_, a2, fun a j h => a3 a j (by omega), fun j hj => a4 j (Nat.zero_le j) hj⟩
  unfold f_X5_walk
  rw [hFu, l_0]
  exact a1
/-- the levels' cells -/
def FL (S : Mm) (r : Nat → Int32) (D L : Nat) : Prop := ∀ w, w < 8 → S.1 36 w = lef r w D L D 0 ∧ ∀ d, d < D → S.1 (28 + w) d = nI (lv r w D L d)
theorem x_levels_loop {r : Nat → Int32} {D L : Nat} {k : Int32 → Mm → Option Mm} (h0 : 1 ≤ D) (hD : D ≤ 12) (hrD : r 0 = nI D) (hL : L ≤ 3) (hrL : r 2 = nI L) : ∀ (m w fuel : Nat) (S : Mm), w + m = 8 → m < fuel → FT S r → ∃ S', lp_X5_findAll_2 k fuel (nI w) S = k (nI 8) S' ∧ S'.2 = S.2 ∧ (∀ a j, ¬ (28 + w ≤ a ∧ a < 50 ∧ ¬ (a = 36 ∧ j < w)) → S'.1 a j = S.1 a j) ∧ ∀ v, w ≤ v → v < 8 → S'.1 36 v = lef r v D L D 0 ∧ ∀ d, d < D → S'.1 (28 + v) d = nI (lv r v D L d) := by
  intro m
  induction m with
  | zero =>
    intro w fuel S h1 h2 hF
    obtain ⟨f, rfl⟩ : ∃ f, fuel = f + 1 := ⟨fuel - 1, by omega⟩
    refine ⟨S, ?_, rfl, fun _ _ _ => rfl, fun v h3 h4 => absurd h4 (by omega)⟩
    rw [lp_X5_findAll_2, show w = 8 by omega]
    simp (disch := omega) only [nI_add, nI_1, nI_leI, nI_ltI, nI_eq, inb_nI, nI_clamp, if_pos, if_neg, if_true, if_false, bnd, l_0, l_1, l_2, l_3, l_4, l_5, l_6, l_7, l_8, l_9, l_10, l_11, l_12, l_13, l_14, l_15, l_16, l_17, l_18, l_19, l_20, l_21, l_22, l_23, l_24, l_25, l_26, l_27, l_28, l_29, l_30, l_31, l_32, l_33, l_34, l_35, l_36, l_37, l_38, l_39, l_40, l_41, l_42, l_43, l_44, l_45, l_46, l_47, l_48, l_49, l_50, l_51, l_52, l_53, l_54, l_55, l_56, l_57, l_58, l_59, l_60, l_61, l_62, l_63, l_64, l_65, l_66, l_67, l_68, l_69, l_70, l_71, l_72, l_73, l_74, l_75, l_76, l_77, l_78, l_79, l_80, l_81, l_82, l_83, l_84, l_85, l_86, l_87, l_88, l_89, l_90, l_91, l_92, l_93, l_94, l_95, l_96, l_97, l_98, l_99, l_100, l_123, l_144, l_160, l_255, l_256, l_1000, l_1462, l_1634, l_65536]
  | succ m ih =>
    intro w fuel S h1 h2 hF
    obtain ⟨f, rfl⟩ : ∃ f, fuel = f + 1 := ⟨fuel - 1, by omega⟩
    obtain ⟨S1, a1, a2, a3, a4⟩ := x_rests (show w < 8 by omega) h0 hD hrD hL hrL hF
    have hF1 := hF.keep (fun a j h3 h4 => a3 a j (by omega))
    have hk : ∀ a j, ¬ (a = 36 ∧ j = w) → (wr S1 36 w (lef r w D L D 0)).1 a j = S1.1 a j := fun a j h => if_neg h
    have hF2 := hF1.keep (S1 := wr S1 36 w (lef r w D L D 0)) (fun a j h3 h4 => hk a j (by omega))
    obtain ⟨S2, b1, b2, b3, b4⟩ := x_walk (show w < 8 by omega) hD hrD hL hrL hF2 (fun a h3 h4 l h5 => (hk _ _ (by omega)).trans (a4 a h3 h4 l h5))
    have hF3 := hF2.keep (S1 := S2) (fun a j h3 h4 => b3 a j (by omega))
    obtain ⟨S3, c1, c2, c3, c4⟩ := ih (w + 1) f S2 (by omega) (by omega) hF3
    refine ⟨S3, ?_, c2.trans (b2.trans a2), fun a j h3 => ?_, fun v h3 h4 => ?_⟩
    · have e5 : thr r w D L 0 0 (bst (thr r w D L 0 0) L) = lef r w D L D 0 := (lef_thr (show 0 < D by omega)).symm
      have e6 : f_X5_leastFrom S1 0 0 = some (nI (bst (thr r w D L 0 0) L)) := x_least hF1 a4 hD hL hrL (show 0 < D by omega) (Nat.zero_le L)
      have e7 : f_X5_costFrom S1 0 0 (nI (bst (thr r w D L 0 0) L)) = some (lef r w D L D 0) := (x_costFrom hF1 a4 hD hL (show 0 < D by omega) (Nat.zero_le L) (bst_le _ _)).trans (congrArg some e5)
      rw [lp_X5_findAll_2, a1, Option.bind_some, e6, Option.bind_some, e7, Option.bind_some, ← c1]
      simp (disch := omega) only [nI_add, nI_1, nI_leI, nI_ltI, nI_eq, inb_nI, nI_clamp, if_pos, if_neg, if_true, if_false, bnd, l_0, l_1, l_2, l_3, l_4, l_5, l_6, l_7, l_8, l_9, l_10, l_11, l_12, l_13, l_14, l_15, l_16, l_17, l_18, l_19, l_20, l_21, l_22, l_23, l_24, l_25, l_26, l_27, l_28, l_29, l_30, l_31, l_32, l_33, l_34, l_35, l_36, l_37, l_38, l_39, l_40, l_41, l_42, l_43, l_44, l_45, l_46, l_47, l_48, l_49, l_50, l_51, l_52, l_53, l_54, l_55, l_56, l_57, l_58, l_59, l_60, l_61, l_62, l_63, l_64, l_65, l_66, l_67, l_68, l_69, l_70, l_71, l_72, l_73, l_74, l_75, l_76, l_77, l_78, l_79, l_80, l_81, l_82, l_83, l_84, l_85, l_86, l_87, l_88, l_89, l_90, l_91, l_92, l_93, l_94, l_95, l_96, l_97, l_98, l_99, l_100, l_123, l_144, l_160, l_255, l_256, l_1000, l_1462, l_1634, l_65536, b1]
    · rw [c3 a j (by omega), b3 a j (by omega), hk a j (by omega), a3 a j (by omega)]
    · by_cases hv : v = w
      · subst hv
        refine ⟨?_, fun d hd => ?_⟩
        · rw [c3 36 v (by omega), b3 36 v (by omega)]; exact wr_s _ _ _ _
        · rw [c3 _ d (by omega)]; exact b4 d hd
      · exact c4 v (by omega) h4
theorem x_levels {S : Mm} {r : Nat → Int32} {D L : Nat} (h0 : 1 ≤ D) (hD : D ≤ 12) (hrD : r 0 = nI D) (hL : L ≤ 3) (hrL : r 2 = nI L) (hF : FT S r) : ∃ S', f_X5_findAll S = some S' ∧ S'.2 = S.2 ∧ (∀ a j, ¬ (28 ≤ a ∧ a < 50) → S'.1 a j = S.1 a j) ∧ FL S' r D L := by
  obtain ⟨F, hFu⟩ : ∃ F : Nat, 100000 = F := ⟨_, rfl⟩
  obtain ⟨S1, a1, a2, a3, a4⟩ := x_levels_loop (k := fun _ S => some S) h0 hD hrD hL hrL 8 0 F S (by omega) (by omega) hF
  refine ⟨S1, ?_, a2, fun a j h => a3 a j (by omega), fun w hw => a4 w (Nat.zero_le w) hw⟩
  unfold f_X5_findAll
  rw [hFu, l_0]
  exact a1
