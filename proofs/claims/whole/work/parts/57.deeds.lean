/-! ===== deeds: what is kept ahead of each ===== -/
theorem bc_frame {S : Mm} {o t a j : Nat} (h : ¬ (o ≤ a ∧ a < o + 4)) : (bc5 S o t).1 a j = S.1 a j := by
  unfold bc5 cw0 cw
  show (if a = o + 3 then _ else _) = _
  rw [if_neg (by omega)]
  unfold bc4 cw0 cw
  show (if a = o + 2 then _ else _) = _
  rw [if_neg (by omega)]
  unfold bc3 cw0 cw
  show (if a = o + 1 then _ else _) = _
  rw [if_neg (by omega)]
  unfold bc2 bc1
  rw [wr_k _ _ (by omega), wr_k _ _ (by omega)]
theorem bc_3 {S : Mm} {o t a j : Nat} (h1 : a ≠ o + 3) (h2 : a ≠ o + 2) (h3 : a ≠ o + 1) : (bc5 S o t).1 a j = (bc2 S o t).1 a j := by
  unfold bc5 cw0 cw
  show (if a = o + 3 then _ else _) = _
  rw [if_neg h1]
  unfold bc4 cw0 cw
  show (if a = o + 2 then _ else _) = _
  rw [if_neg h2]
  unfold bc3 cw0 cw
  show (if a = o + 1 then _ else _) = _
  rw [if_neg h3]
theorem bc_row {S : Mm} {o t : Nat} {r : Nat → Int32} (hno : t + 4 ≤ o ∨ o + 4 ≤ t) (h : Row S t r) : Row (bc5 S o t) o r := by
  obtain ⟨h1, h2, h3, h4, h5⟩ := h
  have b2 : ∀ a j, a ≠ o → (bc2 S o t).1 a j = S.1 a j := fun a j ha => by
    unfold bc2 bc1
    rw [wr_k _ _ ha, wr_k _ _ ha]
  have b3 : ∀ a j, a ≠ o → a ≠ o + 1 → (bc3 S o t).1 a j = S.1 a j := fun a j ha hb => by
    unfold bc3 cw0 cw
    show (if a = o + 1 then _ else _) = _
    rw [if_neg hb]; exact b2 a j ha
  have b4 : ∀ a j, a ≠ o → a ≠ o + 1 → a ≠ o + 2 → (bc4 S o t).1 a j = S.1 a j := fun a j ha hb hc => by
    unfold bc4 cw0 cw
    show (if a = o + 2 then _ else _) = _
    rw [if_neg hc]; exact b3 a j ha hb
  refine ⟨?_, ?_, fun j hj => ?_, fun j hj => ?_, fun j hj => ?_⟩
  · rw [bc_3 (by omega) (by omega) (by omega)]
    unfold bc2 bc1
    rw [wr_j _ _ (by omega), wr_s]; exact h1
  · rw [bc_3 (by omega) (by omega) (by omega)]
    unfold bc2 bc1
    rw [wr_s, wr_k _ _ (by omega)]; exact h2
  · unfold bc5 cw0 cw
    show (if o + 1 = o + 3 then _ else _) = _
    rw [if_neg (by omega)]
    unfold bc4 cw0 cw
    show (if o + 1 = o + 2 then _ else _) = _
    rw [if_neg (by omega)]
    unfold bc3 cw0 cw
    show (if o + 1 = o + 1 then _ else _) = _
    rw [if_pos rfl]
    refine Eq.trans (sb_cpy0 (n := 4) hj) ?_
    rw [b2 _ _ (by omega)]; exact h3 j hj
  · unfold bc5 cw0 cw
    show (if o + 2 = o + 3 then _ else _) = _
    rw [if_neg (by omega)]
    unfold bc4 cw0 cw
    show (if o + 2 = o + 2 then _ else _) = _
    rw [if_pos rfl]
    refine Eq.trans (sb_cpy0 (n := 40) hj) ?_
    rw [b3 _ _ (by omega) (by omega)]; exact h4 j hj
  · unfold bc5 cw0 cw
    show (if o + 3 = o + 3 then _ else _) = _
    rw [if_pos rfl]
    refine Eq.trans (sb_cpy0 (n := 40) hj) ?_
    rw [b4 _ _ (by omega) (by omega) (by omega)]; exact h5 j hj
theorem NW_a : ∀ t, t < 16 → NW (74 + 4 * t) = true := by decide
theorem become_y {S : Mm} {o t : Nat} (h1 : NW o = true) (h2 : NW t = true) (h3 : o ≠ t) : f_X6_become S o t = some (bc5 S o t) := if_pos ⟨h1, h2, h3⟩
def Aw (S : Mm) : Prop := (∀ i, i < 16 → ∃ t, t < 16 ∧ S.2 i = 74 + 4 * t) ∧ ∀ i j, i < 16 → j < 16 → S.2 i = S.2 j → i = j
def Rem (X X2 : Mm) (r : Nat → Int32) (kn : Nat) : Prop := X2.1 72 1 = nI (min (kn + 1) 16) ∧ Row X2 (X2.2 (min (kn + 1) 16 - 1)) r ∧ (∀ i, i < min (kn + 1) 16 - 1 → ∀ q, Row X (X.2 (kn - 1 - i)) q → Row X2 (X2.2 (min (kn + 1) 16 - 1 - (i + 1))) q) ∧ Aw X2
theorem x_drop {c : Nat} {k : Int32 → Mm → Option Mm} : ∀ (m i fuel : Nat) (S : Mm), i + m = 16 → 1 ≤ i → m < fuel → (∀ j, i ≤ j → j < 16 → NW (S.2 j) = true) → ∃ S', lp_X1_dropOldest_9 k c fuel (nI i) S = k (nI 16) S' ∧ S'.1 = S.1 ∧ ∀ j, S'.2 j = if i - 1 ≤ j ∧ j < 15 then S.2 (j + 1) else S.2 j := by
  intro m
  induction m with
  | zero =>
    intro i fuel S h1 h0 h2 hN
    obtain ⟨f, rfl⟩ : ∃ f, fuel = f + 1 := ⟨fuel - 1, by omega⟩
    refine ⟨S, ?_, rfl, fun j => ?_⟩
    · rw [lp_X1_dropOldest_9, show i = 16 by omega]
      rfl
    · rw [if_neg (by omega)]
  | succ m ih =>
    intro i fuel S h1 h0 h2 hN
    obtain ⟨f, rfl⟩ : ∃ f, fuel = f + 1 := ⟨fuel - 1, by omega⟩
    have hw : ∀ j, (wp S (i - 1) (S.2 i)).2 j = if j = i - 1 then S.2 i else S.2 j := fun j => rfl
    obtain ⟨S', e1, e2, e3⟩ := ih (i + 1) f (wp S (i - 1) (S.2 i)) (by omega) (by omega) (by omega) (fun j h3 h4 => by
      rw [hw, if_neg (by omega)]; exact hN j (by omega) h4)
    refine ⟨S', ?_, e2, fun j => ?_⟩
    · rw [lp_X1_dropOldest_9]
      have hNi := hN i (by omega) (by omega)
      simp (disch := omega) only [nI_add, nI_1, nI_leI, nI_ltI, nI_eq, inb_nI, nI_clamp, if_pos, if_neg, if_true, if_false, bnd, l_0, l_1, l_2, l_3, l_4, l_5, l_6, l_7, l_8, l_9, l_10, l_11, l_12, l_13, l_14, l_15, l_16, l_17, l_18, l_19, l_20, l_21, l_22, l_23, l_24, l_25, l_26, l_27, l_28, l_29, l_30, l_31, l_32, l_33, l_34, l_35, l_36, l_37, l_38, l_39, l_40, l_41, l_42, l_43, l_44, l_45, l_46, l_47, l_48, l_49, l_50, l_51, l_52, l_53, l_54, l_55, l_56, l_57, l_58, l_59, l_60, l_61, l_62, l_63, l_64, l_65, l_66, l_67, l_68, l_69, l_70, l_71, l_72, l_73, l_74, l_75, l_76, l_77, l_78, l_79, l_80, l_81, l_82, l_83, l_84, l_85, l_86, l_87, l_88, l_89, l_90, l_91, l_92, l_93, l_94, l_95, l_96, l_97, l_98, l_99, l_100, l_123, l_144, l_160, l_255, l_256, l_1000, l_1462, l_1634, l_65536, pk_sub, hNi]
      exact e1
    · rw [e3 j, hw, hw]
      by_cases hj : j = i - 1
      · subst hj
        rw [if_neg (by omega), if_pos rfl, if_pos (by omega), Nat.sub_add_cancel h0]
      · by_cases hj2 : i - 1 ≤ j ∧ j < 15
        · rw [if_pos (by omega), if_neg (by omega), if_pos hj2]
        · rw [if_neg (by omega), if_neg (by omega), if_neg hj2]
theorem x_rem {X : Mm} {r : Nat → Int32} {kn : Nat} (hk : kn ≤ 16) (h72 : X.1 72 1 = nI kn) (hA : Aw X) (hR : Row X 1 r) : ∃ X1, f_X1_remember X = some X1 ∧ Rem X X1 r kn ∧ ∀ k j, ¬ (74 ≤ k ∧ k < 138) → ¬ (k = 72 ∧ j = 1) → X1.1 k j = X.1 k j := by
  obtain ⟨F, hFu⟩ : ∃ F : Nat, 100000 = F := ⟨_, rfl⟩
  -- one step of remembering at place p < 16, over a memory whose places are y
  have core : ∀ (Y : Mm) (p : Nat), p < 16 → Y.1 = X.1 ∨ (∀ k j, ¬ (k = 72 ∧ j = 1) → Y.1 k j = X.1 k j) → Y.1 72 1 = nI p → Aw Y → ∃ X1, ((f_X6_become Y (Y.2 (Y.1 72 1).toNatClampNeg) 1).bind fun r3 => some (wr r3 72 1 ((r3.1 72 1) + 1))) = some X1 ∧ X1.1 72 1 = nI (p + 1) ∧ Row X1 (Y.2 p) r ∧ X1.2 = Y.2 ∧ (∀ i, i < 16 → i ≠ p → ∀ q, Row X (Y.2 i) q → Row X1 (Y.2 i) q) ∧ ∀ k j, ¬ (74 ≤ k ∧ k < 138) → ¬ (k = 72 ∧ j = 1) → X1.1 k j = X.1 k j := by
    intro Y p hp hY h1 hAY
    have hY' : ∀ k j, ¬ (k = 72 ∧ j = 1) → Y.1 k j = X.1 k j := by
      rcases hY with h | h
      · intro k j _; rw [h]
      · exact h
    obtain ⟨t, ht, hyt⟩ := hAY.1 p hp
    have hcl : (nI p).toNatClampNeg = p := nI_clamp (by omega)
    have k1 : ∀ k j, ¬ (Y.2 p ≤ k ∧ k < Y.2 p + 4) → ¬ (k = 72 ∧ j = 1) → (wr (bc5 Y (Y.2 p) 1) 72 1 (nI (p + 1))).1 k j = X.1 k j := fun k j h3 h4 => (if_neg h4).trans ((bc_frame h3).trans (hY' k j h4))
    refine ⟨wr (bc5 Y (Y.2 p) 1) 72 1 (nI (p + 1)), ?_, wr_s _ _ _ _, ?_, rfl, fun i hi hip q hq => ?_, fun k j h3 h4 => k1 k j (by omega) h4⟩
    · rw [h1, hcl, become_y (by rw [hyt]; exact NW_a t ht) (by decide) (by omega), bnd, bc_frame (by omega), h1, nI_1]
    · exact (bc_row (Or.inl (by omega)) (hR.mv (fun a j h3 h4 => hY' a j (by omega)))).mv (fun a j h3 h4 => wr_k _ _ (by omega))
    · obtain ⟨t2, ht2, hyt2⟩ := hAY.1 i hi
      have hne : Y.2 i ≠ Y.2 p := fun h => hip (hAY.2 i p hi hp h)
      exact hq.mv (fun a j h3 h4 => k1 a j (by omega) (by omega))
  unfold f_X1_remember
  by_cases h16 : kn < 16
  · obtain ⟨X1, c1, c2, c3, c4, c5, c6⟩ := core X kn h16 (Or.inl rfl) h72 hA
    refine ⟨X1, ?_, ⟨by rw [c2, Nat.min_eq_left (by omega)], ?_, fun i hi q hq => ?_, by unfold Aw; rw [c4]; exact hA⟩, c6⟩
    · have i1 : inb (X.1 72 1) 16 := by rw [h72]; exact (inb_nI (by omega)).mpr (by omega)
      rw [if_pos (show X.1 72 1 < 16 by rw [h72]; exact nI_lt h16 (by decide)), if_neg (show ¬ X.1 72 1 < 0 by rw [h72]; exact nI_pos (by omega)), if_neg (show ¬ (16 : Int32) ≤ X.1 72 1 by rw [h72]; exact nI_ge h16 (by decide)), if_pos i1, if_pos i1]
      exact c1
    · rw [Nat.min_eq_left (by omega), c4, Nat.add_sub_cancel]; exact c3
    · rw [Nat.min_eq_left (by omega)] at hi ⊢
      rw [c4, show kn + 1 - 1 - (i + 1) = kn - 1 - i by omega]
      exact c5 (kn - 1 - i) (by omega) (by omega) q hq
  · obtain rfl : kn = 16 := by omega
    obtain ⟨t0, ht0, hy0⟩ := hA.1 0 (by omega)
    obtain ⟨Y, d1, d2, d3⟩ := x_drop (c := X.2 0) (k := fun _ S5 => (if NW (X.2 0) = true then some (wr (wp S5 15 (X.2 0)) 72 1 15) else none)) 15 1 F X (by omega) (by omega) (by omega) (fun j h3 h4 => by
      obtain ⟨t, ht, hy⟩ := hA.1 j h4
      rw [hy]; exact NW_a t ht)
    have hdrop : f_X1_dropOldest X = some (wr (wp Y 15 (X.2 0)) 72 1 15) := by
      unfold f_X1_dropOldest
      rw [hFu]
      refine Eq.trans d1 ?_
      rw [hy0, if_pos (NW_a t0 ht0)]
    have hZ2 : ∀ j, j < 16 → (wr (wp Y 15 (X.2 0)) 72 1 15).2 j = X.2 (if j = 15 then 0 else j + 1) := fun j hj => by
      show (if j = 15 then X.2 0 else Y.2 j) = _
      by_cases h : j = 15
      · rw [if_pos h, if_pos h]
      · rw [if_neg h, if_neg h, d3 j, if_pos (by omega)]
    have hZ1 : ∀ k j, ¬ (k = 72 ∧ j = 1) → (wr (wp Y 15 (X.2 0)) 72 1 15).1 k j = X.1 k j := fun k j h => by
      refine (if_neg h).trans ?_
      show Y.1 k j = _
      rw [d2]
    have hZ72 : (wr (wp Y 15 (X.2 0)) 72 1 15).1 72 1 = nI 15 := wr_s _ _ _ _
    have hZA : Aw (wr (wp Y 15 (X.2 0)) 72 1 15) := by
      refine ⟨fun i hi => ?_, fun i j hi hj h => ?_⟩
      · rw [hZ2 i hi]
        by_cases h : i = 15
        · rw [if_pos h]; exact hA.1 0 (by omega)
        · rw [if_neg h]; exact hA.1 (i + 1) (by omega)
      · rw [hZ2 i hi, hZ2 j hj] at h
        have h2 := hA.2 _ _ (by split <;> omega) (by split <;> omega) h
        by_cases h3 : i = 15
        · by_cases h4 : j = 15
          · omega
          · rw [if_pos h3, if_neg h4] at h2; omega
        · by_cases h4 : j = 15
          · rw [if_neg h3, if_pos h4] at h2; omega
          · rw [if_neg h3, if_neg h4] at h2; omega
    generalize wr (wp Y 15 (X.2 0)) 72 1 15 = Z at hdrop hZ2 hZ1 hZ72 hZA
    obtain ⟨X1, c1, c2, c3, c4, c5, c6⟩ := core Z 15 (by omega) (Or.inr hZ1) hZ72 hZA
    refine ⟨X1, ?_, ⟨c2, ?_, fun i hi q hq => ?_, by unfold Aw; rw [c4]; exact hZA⟩, c6⟩
    · have i1 : inb (Z.1 72 1) 16 := by rw [hZ72]; exact (inb_nI (by omega)).mpr (by omega)
      rw [if_neg (show ¬ X.1 72 1 < 16 by rw [h72]; exact nI_nlt (Nat.le_refl 16) (by decide)), hdrop, bnd, if_neg (show ¬ Z.1 72 1 < 0 by rw [hZ72]; exact nI_pos (by omega)), if_neg (show ¬ (16 : Int32) ≤ Z.1 72 1 by rw [hZ72]; decide), if_pos i1, if_pos i1]
      exact c1
    · show Row X1 (X1.2 15) r
      rw [c4]; exact c3
    · have hi : i < 15 := hi
      show Row X1 (X1.2 (15 - (i + 1))) q
      rw [c4]
      refine c5 (15 - (i + 1)) (by omega) (by omega) q ?_
      rw [hZ2 _ (by omega), if_neg (by omega), show 15 - (i + 1) + 1 = 16 - 1 - i by omega]
      exact hq
/-! the reference -/
theorem m_copy_loop {a b : Nat} {k : Int32 → Mm → Option Mm} (ha : a + 86 ≤ 1634) (hb : b + 86 ≤ 1634) (hno : a + 86 ≤ b ∨ b + 86 ≤ a) : ∀ (m i fuel : Nat) (S : Mm), i + m = 86 → m < fuel → ∃ S', lp_X11_copyRow_2 k (nI a) (nI b) fuel (nI i) S = k (nI 86) S' ∧ S'.2 = S.2 ∧ (∀ x j, x ≠ 154 → S'.1 x j = S.1 x j) ∧ ∀ j, S'.1 154 j = if b + i ≤ j ∧ j < b + 86 then S.1 154 (a + (j - b)) else S.1 154 j := by
  intro m
  induction m with
  | zero =>
    intro i fuel S h1 h2
    obtain ⟨f, rfl⟩ : ∃ f, fuel = f + 1 := ⟨fuel - 1, by omega⟩
    refine ⟨S, ?_, rfl, fun _ _ _ => rfl, fun j => by rw [if_neg (by omega)]⟩
    rw [lp_X11_copyRow_2, show i = 86 by omega]
    rfl
  | succ m ih =>
    intro i fuel S h1 h2
    obtain ⟨f, rfl⟩ : ∃ f, fuel = f + 1 := ⟨fuel - 1, by omega⟩
    obtain ⟨S', e1, e2, e3, e4⟩ := ih (i + 1) f (wr S 154 (b + i) (S.1 154 (a + i))) (by omega) (by omega)
    refine ⟨S', ?_, e2, fun x j h => (e3 x j h).trans (wr_k _ _ h), fun j => ?_⟩
    · rw [lp_X11_copyRow_2]
      simp (disch := omega) only [nI_add, nI_1, nI_leI, nI_ltI, nI_eq, inb_nI, nI_clamp, if_pos, if_neg, if_true, if_false, bnd, l_0, l_1, l_2, l_3, l_4, l_5, l_6, l_7, l_8, l_9, l_10, l_11, l_12, l_13, l_14, l_15, l_16, l_17, l_18, l_19, l_20, l_21, l_22, l_23, l_24, l_25, l_26, l_27, l_28, l_29, l_30, l_31, l_32, l_33, l_34, l_35, l_36, l_37, l_38, l_39, l_40, l_41, l_42, l_43, l_44, l_45, l_46, l_47, l_48, l_49, l_50, l_51, l_52, l_53, l_54, l_55, l_56, l_57, l_58, l_59, l_60, l_61, l_62, l_63, l_64, l_65, l_66, l_67, l_68, l_69, l_70, l_71, l_72, l_73, l_74, l_75, l_76, l_77, l_78, l_79, l_80, l_81, l_82, l_83, l_84, l_85, l_86, l_87, l_88, l_89, l_90, l_91, l_92, l_93, l_94, l_95, l_96, l_97, l_98, l_99, l_100, l_123, l_144, l_160, l_255, l_256, l_1000, l_1462, l_1634, l_65536]
      exact e1
    · rw [e4 j]
      by_cases hj : j = b + i
      · subst hj
        rw [if_neg (by omega), if_pos (by omega), wr_s, Nat.add_sub_cancel_left]
      · by_cases hj2 : b + i ≤ j ∧ j < b + 86
        · rw [if_pos (by omega), if_pos hj2, wr_j _ _ (by omega)]
        · rw [if_neg (by omega), if_neg hj2, wr_j _ _ hj]
theorem m_copy {S : Mm} {a b : Nat} (ha : a + 86 ≤ 1634) (hb : b + 86 ≤ 1634) (hno : a + 86 ≤ b ∨ b + 86 ≤ a) : ∃ S', f_X11_copyRow S (nI a) (nI b) = some S' ∧ S'.2 = S.2 ∧ (∀ x j, x ≠ 154 → S'.1 x j = S.1 x j) ∧ ∀ j, S'.1 154 j = if b ≤ j ∧ j < b + 86 then S.1 154 (a + (j - b)) else S.1 154 j := by
  obtain ⟨F, hFu⟩ : ∃ F : Nat, 100000 = F := ⟨_, rfl⟩
  obtain ⟨S', e1, e2⟩ := m_copy_loop (k := fun _ S => some S) ha hb hno 86 0 F S (by omega) (by omega)
  refine ⟨S', ?_, e2⟩
  unfold f_X11_copyRow
  rw [hFu, l_0]
  exact e1
theorem m_rem_loop {o : Nat → Int32} {k : Int32 → Mm → Option Mm} : ∀ (x fuel : Nat) (S : Mm), x ≤ 16 → x < fuel → (∀ j, S.1 154 j = if 86 * (x + 1) ≤ j ∧ j < 1462 then o (j - 86) else o j) → ∃ S', lp_X11_remember_3 k fuel (nI x) S = k (nI 0) S' ∧ S'.2 = S.2 ∧ (∀ a j, a ≠ 154 → S'.1 a j = S.1 a j) ∧ ∀ j, S'.1 154 j = if 86 ≤ j ∧ j < 1462 then o (j - 86) else o j := by
  intro x
  induction x with
  | zero =>
    intro fuel S h1 h2 hS
    obtain ⟨f, rfl⟩ : ∃ f, fuel = f + 1 := ⟨fuel - 1, by omega⟩
    refine ⟨S, ?_, rfl, fun _ _ _ => rfl, hS⟩
    rw [lp_X11_remember_3, if_pos (by decide)]
  | succ x ih =>
    intro fuel S h1 h2 hS
    obtain ⟨f, rfl⟩ : ∃ f, fuel = f + 1 := ⟨fuel - 1, by omega⟩
    obtain ⟨S1, a1, a2, a3, a4⟩ := m_copy (S := S) (a := 86 * x) (b := 86 * (x + 1)) (by omega) (by omega) (Or.inl (by omega))
    obtain ⟨S2, b1, b2, b3, b4⟩ := ih f S1 (by omega) (by omega) (fun j => by
      rw [a4 j]
      by_cases h : 86 * (x + 1) ≤ j ∧ j < 86 * (x + 1) + 86
      · rw [if_pos h, if_pos (by omega), hS, if_neg (by omega), show 86 * x + (j - 86 * (x + 1)) = j - 86 by omega]
      · rw [if_neg h, hS]
        by_cases h2 : 86 * (x + 1 + 1) ≤ j ∧ j < 1462
        · rw [if_pos h2, if_pos (by omega)]
        · rw [if_neg h2, if_neg (by omega)])
    refine ⟨S2, ?_, b2.trans a2, fun a j h => (b3 a j h).trans (a3 a j h), b4⟩
    have e1 : (86 : Int32) * (nI (x + 1) - 1) = nI (86 * x) := by rw [l_1, pk_sub (by omega), l_86, pk_mul, Nat.add_sub_cancel]
    have e2 : (86 : Int32) * nI (x + 1) = nI (86 * (x + 1)) := by rw [l_86, pk_mul]
    rw [lp_X11_remember_3, if_neg (show ¬ nI (x + 1) ≤ 0 from nI_ge (show 0 < x + 1 by omega) (by omega)), e1, e2, a1, bnd, pk_m1, b1]
theorem m_rem {M : Mm} {kn : Nat} (hk : kn ≤ 16) (h1 : M.1 153 1 = nI kn) : ∃ M1, f_X11_remember M = some M1 ∧ M1.2 = M.2 ∧ (∀ k j, k ≠ 154 → ¬ (k = 153 ∧ j = 1) → M1.1 k j = M.1 k j) ∧ M1.1 153 1 = nI (min (kn + 1) 16) ∧ ∀ j, M1.1 154 j = if 86 ≤ j ∧ j < 1462 then M.1 154 (j - 86) else M.1 154 j := by
  obtain ⟨F, hFu⟩ : ∃ F : Nat, 100000 = F := ⟨_, rfl⟩
  obtain ⟨S', e1, e2, e3, e4⟩ := m_rem_loop (o := M.1 154) (k := fun _ S4 => (if 16 ≤ (S4.1 153 1) then some (wr S4 153 1 16) else some (wr S4 153 1 ((S4.1 153 1) + 1)))) 16 F M (by omega) (by omega) (fun j => by rw [if_neg (by omega)])
  refine ⟨wr S' 153 1 (nI (min (kn + 1) 16)), ?_, e2, fun k j h h' => (if_neg h').trans (e3 k j h), wr_s _ _ _ _, fun j => (wr_k _ _ (by omega)).trans (e4 j)⟩
  unfold f_X11_remember
  rw [hFu]
  refine Eq.trans e1 ?_
  have h1' : S'.1 153 1 = nI kn := (e3 153 1 (by omega)).trans h1
  simp only [h1']
  by_cases h : 16 ≤ kn
  · rw [if_pos (show (16 : Int32) ≤ nI kn from nI_le h (by omega)), Nat.min_eq_right (by omega)]; rfl
  · rw [if_neg (show ¬ (16 : Int32) ≤ nI kn from nI_ge (show kn < 16 by omega) (by decide)), Nat.min_eq_left (by omega), nI_1]
