/-! ===== the questions ===== -/
theorem Inv.v {S : Mm} (hI : Inv S) : ∃ D N L, S.1 154 0 = nI D ∧ 1 ≤ D ∧ D ≤ 12 ∧ S.1 154 1 = nI N ∧ N ≤ 40 ∧ S.1 154 2 = nI L ∧ 1 ≤ L ∧ L ≤ 3 ∧ ∀ k, k < N → (∃ d, S.1 154 (6 + k) = nI d ∧ d < D) ∧ ∃ s, S.1 154 (46 + k) = nI s ∧ s < 256 := by
  obtain ⟨⟨D, hrD, hD1, hD⟩, ⟨N, hn1, h40⟩, ⟨L, hrL, hL1, hL⟩, -, -, -, hV⟩ := hI.2.1
  rw [hn1, hrD, nI_clamp (by omega), nI_clamp (by omega)] at hV
  exact ⟨D, N, L, hrD, hD1, hD, hn1, h40, hrL, hL1, hL, hV⟩
theorem o_fault : Op Inv (pu fun S => f_X10_fault S) (pu fun S => f_X11_fault S) := fun S hI => ⟨S.1 153 7, S, S, by
  show some (S.1 0 7, S) = _
  rw [hI.2.2.2.2.2.2.2.2.2], rfl, hI⟩
theorem o_at (a1 a2 : Int32) : Op Inv (pu fun S => f_X10_at S a1 a2) (pu fun S => f_X11_at S a1 a2) := fun S hI => by
  obtain ⟨D, N, L, hrD, hD1, hD, hn1, h40, hrL, hL1, hL, hV⟩ := hI.v
  have hR := hI.1
  suffices h : ∃ r, f_X10_at S a1 a2 = some r ∧ f_X11_at S a1 a2 = some r by
    obtain ⟨r, h1, h2⟩ := h
    exact ⟨r, S, S, by show Option.map _ (f_X10_at S a1 a2) = _; rw [h1]; rfl, by show Option.map _ (f_X11_at S a1 a2) = _; rw [h2]; rfl, hI⟩
  unfold f_X10_at f_X11_at f_X6_dayOf f_X6_setOf
  rcases pce3 h40 (hR.2.1.trans hn1) hn1 a1 with ⟨h1, h2⟩ | ⟨d, hd, rfl, h1, h2⟩
  · rw [h1, h2]
    exact ⟨_, rfl, rfl⟩
  · have h10 : ((1 : Int32) = 0) = False := by decide
    simp only [h1, h2, bnd, h10, if_false]
    simp (disch := omega) only [nI_add, nI_1, nI_leI, nI_ltI, nI_eq, inb_nI, nI_clamp, if_pos, if_neg, if_true, if_false, bnd, l_0, l_1, l_2, l_3, l_4, l_5, l_6, l_7, l_8, l_9, l_10, l_11, l_12, l_13, l_14, l_15, l_16, l_17, l_18, l_19, l_20, l_21, l_22, l_23, l_24, l_25, l_26, l_27, l_28, l_29, l_30, l_31, l_32, l_33, l_34, l_35, l_36, l_37, l_38, l_39, l_40, l_41, l_42, l_43, l_44, l_45, l_46, l_47, l_48, l_49, l_50, l_51, l_52, l_53, l_54, l_55, l_56, l_57, l_58, l_59, l_60, l_61, l_62, l_63, l_64, l_65, l_66, l_67, l_68, l_69, l_70, l_71, l_72, l_73, l_74, l_75, l_76, l_77, l_78, l_79, l_80, l_81, l_82, l_83, l_84, l_85, l_86, l_87, l_88, l_89, l_90, l_91, l_92, l_93, l_94, l_95, l_96, l_97, l_98, l_99, l_100, l_123, l_144, l_160, l_255, l_256, l_1000, l_1462, l_1634, l_65536, hR.2.2.2.1 d (by omega), hR.2.2.2.2 d (by omega)]
    by_cases e0 : a2 = nI 0
    · rw [if_pos e0]; exact ⟨_, rfl, rfl⟩
    · rw [if_neg e0]
      by_cases e1 : a2 = nI 1
      · rw [if_pos e1]; exact ⟨_, rfl, rfl⟩
      · rw [if_neg e1]; exact ⟨_, rfl, rfl⟩
theorem o_together (a1 a2 : Int32) : Op Inv (pu fun S => f_X10_together S a1 a2) (pu fun S => f_X11_together S a1 a2) := fun S hI => by
  obtain ⟨D, N, L, hrD, hD1, hD, hn1, h40, hrL, hL1, hL, hV⟩ := hI.v
  suffices h : ∃ r, f_X10_together S a1 a2 = some r ∧ f_X11_together S a1 a2 = some r by
    obtain ⟨r, h1, h2⟩ := h
    exact ⟨r, S, S, by show Option.map _ (f_X10_together S a1 a2) = _; rw [h1]; rfl, by show Option.map _ (f_X11_together S a1 a2) = _; rw [h2]; rfl, hI⟩
  unfold f_X10_together f_X11_together
  rcases wrd3 (S := S) (S' := S) a1 with ⟨h1, h2⟩ | ⟨w, hw, rfl, h1, h2⟩
  · rw [h1, h2, bnd, bnd, if_pos rfl, if_pos rfl]
    exact ⟨_, rfl, rfl⟩
  · rw [h1, h2, bnd, bnd, if_neg (by decide), if_neg (by decide)]
    rcases wrd3 (S := S) (S' := S) a2 with ⟨h3, h4⟩ | ⟨v, hv, rfl, h3, h4⟩
    · rw [h3, h4, bnd, bnd, if_pos rfl, if_pos rfl]
      exact ⟨_, rfl, rfl⟩
    · rw [h3, h4, bnd, bnd, if_neg (by decide), if_neg (by decide), set_y, set_y, bnd, bnd, x_all hI.1 hn1 h40, bnd]
      refine ⟨_, rfl, ?_⟩
      refine Eq.trans (congrArg (fun z : Option Int32 => z.bind fun r5 => some r5) (m_all (s := bit w ||| bit v) hn1 h40)) ?_
      rfl
theorem m_levelOf {S : Mm} {r : Nat → Int32} {n w d D L : Nat} (hr : S.1 154 = r) (hn : r 1 = nI n) (h40 : n ≤ 40) (h0 : 1 ≤ D) (hD : D ≤ 12) (hrD : r 0 = nI D) (hL : L ≤ 3) (hrL : r 2 = nI L) (hd : d < D) : ∃ S', f_X11_levelOf S (nI w) (nI d) = some (nI (lv r w D L d), S') ∧ MS S S' := by
  obtain ⟨S1, a1, a2, a3, a4, -⟩ := m_lay (w := w) hr hn h40 h0 hD hrD hL hrL
  refine ⟨S1, ?_, a2, fun k j h1 h2 => a3 k j (by omega) (by omega)⟩
  unfold f_X11_levelOf
  rw [a1, bnd, if_pos ((inb_nI (by omega)).mpr (by omega)), nI_clamp (by omega), a4 d hd]
theorem o_cost (a1 : Int32) : Op Inv (fun S => f_X10_cost S a1) (fun S => f_X11_cost S a1) := fun S hI => by
  obtain ⟨D, N, L, hrD, hD1, hD, hn1, h40, hrL, hL1, hL, hV⟩ := hI.v
  show ∃ r S1 S2, f_X10_cost S a1 = some (r, S1) ∧ f_X11_cost S1 a1 = some (r, S2) ∧ Inv S2
  unfold f_X10_cost f_X11_cost
  rcases wrd3 (S := S) (S' := S) a1 with ⟨h1, h2⟩ | ⟨w, hw, rfl, h1, h2⟩
  · rw [h1, bnd, if_pos rfl]
    exact ⟨_, S, S, rfl, by rw [h2, bnd, if_pos rfl], hI⟩
  · obtain ⟨S1, f1, f2, f3, f4⟩ := hI.found
    obtain ⟨lab, g1, g2, g3, g4, g5⟩ := f3 D L N hrD hn1 hrL hD h40 hL
    obtain ⟨S2, a1, a2, a3, a4, a5⟩ := m_lay (S := S1) (w := w) (f4.w) hn1 h40 hD1 hD hrD hL hrL
    refine ⟨lef (S.1 154) w D L D 0, S1, S2, ?_, ?_, hI.ask f4 (fun _ => f3) ⟨a2, fun k j h3 h4 => a3 k j (by omega) (by omega)⟩⟩
    · rw [h1, bnd, if_neg (by decide), f1, bnd]
      unfold f_X5_costOf
      rw [isWord_y hw]
      simp (disch := omega) only [nI_add, nI_1, nI_leI, nI_ltI, nI_eq, inb_nI, nI_clamp, if_pos, if_neg, if_true, if_false, bnd, l_0, l_1, l_2, l_3, l_4, l_5, l_6, l_7, l_8, l_9, l_10, l_11, l_12, l_13, l_14, l_15, l_16, l_17, l_18, l_19, l_20, l_21, l_22, l_23, l_24, l_25, l_26, l_27, l_28, l_29, l_30, l_31, l_32, l_33, l_34, l_35, l_36, l_37, l_38, l_39, l_40, l_41, l_42, l_43, l_44, l_45, l_46, l_47, l_48, l_49, l_50, l_51, l_52, l_53, l_54, l_55, l_56, l_57, l_58, l_59, l_60, l_61, l_62, l_63, l_64, l_65, l_66, l_67, l_68, l_69, l_70, l_71, l_72, l_73, l_74, l_75, l_76, l_77, l_78, l_79, l_80, l_81, l_82, l_83, l_84, l_85, l_86, l_87, l_88, l_89, l_90, l_91, l_92, l_93, l_94, l_95, l_96, l_97, l_98, l_99, l_100, l_123, l_144, l_160, l_255, l_256, l_1000, l_1462, l_1634, l_65536, (g2 w hw).1]
    · rcases wrd3 (S := S1) (S' := S1) (nI w) with ⟨h3, h4⟩ | ⟨v, hv, hvv, h3, h4⟩
      · rw [isWord_y hw] at h3; cases h3
      · rw [h4, bnd, if_neg (by decide), a1, bnd, a5]
theorem m_isWord_y {S : Mm} {w : Nat} (hw : w < 8) : f_X11_isWord S (nI w) = some 1 := by
  rcases wrd3 (S := S) (S' := S) (nI w) with ⟨h3, h4⟩ | ⟨v, hv, hvv, h3, h4⟩
  · rw [isWord_y hw] at h3; cases h3
  · exact h4
theorem m_isDay_y {S : Mm} {d D : Nat} (hD : D ≤ 12) (h : S.1 154 0 = nI D) (hd : d < D) : f_X11_isDay S (nI d) = some 1 := by
  unfold f_X11_isDay
  rw [h, in_c (nI d) 0 (nI D - 1) (by decide) rfl, bnd, if_pos (rng_y (by omega) hd)]
  rfl
theorem lev3 {S S' : Mm} {L : Nat} (hL : L ≤ 3) (h1 : S.1 2 0 = nI L) (h2 : S'.1 154 2 = nI L) (a : Int32) : (f_X6_hasLevel S a = some 0 ∧ f_X11_in S' a.toInt64 0 ((S'.1 154 2).toInt64) = some 0) ∨ ∃ d, d ≤ L ∧ a = nI d ∧ f_X6_hasLevel S a = some 1 ∧ f_X11_in S' a.toInt64 0 ((S'.1 154 2).toInt64) = some 1 := by
  have e : nI L = nI (L + 1) - 1 := by rw [l_1, pk_sub (by omega), Nat.add_sub_cancel]
  unfold f_X6_hasLevel
  rw [h1, h2, in_c a 0 (nI L) (by decide) rfl]
  rcases rng (show L + 1 < 2 ^ 31 by omega) a with ⟨g1, g2⟩ | ⟨d, hd, rfl⟩
  · rw [← e] at g1
    refine Or.inl ⟨?_, by rw [if_neg g1]⟩
    by_cases h : a < 0
    · rw [if_pos h]
    · rw [if_neg h, if_pos]
      exact Int32.not_le.mp (fun h' => g1 ⟨Int32.not_lt.mp h, h'⟩)
  · refine Or.inr ⟨d, by omega, rfl, ?_, by rw [e, if_pos (rng_y (by omega) hd)]⟩
    rw [if_neg (nI_pos (by omega)), if_neg (nI_nlt (by omega) (by omega))]
theorem m_steady_loop {S : Mm} {r : Nat → Int32} {w l n D : Nat} {k : Int32 → Int32 → Option Int32} (hr : S.1 154 = r) (hn : r 1 = nI n) (h40 : n ≤ 40) (hD : r 0 = nI D) (h12 : D ≤ 12) : ∀ (m i fuel : Nat) (a : Int32), i + m = D → m < fuel → lp_X11_steady_41 k S (nI w) (nI l) fuel a (nI i) = k (Nat.rec a (fun q x => x + unl r w (i + q) l) m) (nI D) := by
  have hu : ∀ d, d < 2 ^ 31 → f_X11_unlikely S (nI w) (nI d) (nI l) = some (unl r w d l) := fun d hd => (m_unl (by rw [hr]; exact hn) h40 hd).trans (by rw [hr])
  intro m
  induction m with
  | zero =>
    intro i fuel a h1 h2
    obtain ⟨f, rfl⟩ : ∃ f, fuel = f + 1 := ⟨fuel - 1, by omega⟩
    rw [lp_X11_steady_41, hr, hD, show i = D by omega]
    simp (disch := omega) only [nI_add, nI_1, nI_leI, nI_ltI, nI_eq, inb_nI, nI_clamp, if_pos, if_neg, if_true, if_false, bnd]
    rfl
  | succ m ih =>
    intro i fuel a h1 h2
    obtain ⟨f, rfl⟩ : ∃ f, fuel = f + 1 := ⟨fuel - 1, by omega⟩
    rw [lp_X11_steady_41, hr, hD, hu i (by omega)]
    simp (disch := omega) only [nI_add, nI_1, nI_leI, nI_ltI, nI_eq, inb_nI, nI_clamp, if_pos, if_neg, if_true, if_false, bnd]
    rw [ih (i + 1) f _ (by omega) (by omega)]
    congr 1
    clear ih h1 h2
    induction m with
    | zero => rfl
    | succ m ihm =>
      show _ + unl r w (i + 1 + m) l = _ + unl r w (i + (m + 1)) l
      rw [ihm, show i + 1 + m = i + (m + 1) by omega]
theorem o_steady (a1 a2 : Int32) : Op Inv (fun S => f_X10_steady S a1 a2) (pu fun S => f_X11_steady S a1 a2) := fun S hI => by
  obtain ⟨D, N, L, hrD, hD1, hD, hn1, h40, hrL, hL1, hL, hV⟩ := hI.v
  obtain ⟨F, hFu⟩ : ∃ F : Nat, 100000 = F := ⟨_, rfl⟩
  suffices h : ∃ r S1, f_X10_steady S a1 a2 = some (r, S1) ∧ f_X11_steady S1 a1 a2 = some r ∧ Inv S1 by
    obtain ⟨r, S1, h1, h2, h3⟩ := h
    exact ⟨r, S1, S1, h1, by show Option.map _ (f_X11_steady S1 a1 a2) = _; rw [h2]; rfl, h3⟩
  unfold f_X10_steady f_X11_steady
  rcases wrd3 (S := S) (S' := S) a1 with ⟨h1, h2⟩ | ⟨w, hw, rfl, h1, h2⟩
  · rw [h1, bnd, if_pos rfl]
    exact ⟨_, S, rfl, by rw [h2, bnd, if_pos rfl], hI⟩
  · rw [h1, bnd, if_neg (by decide)]
    rcases lev3 (S := S) (S' := S) hL ((hI.1.2.2.1 0 (by omega)).trans hrL) hrL a2 with ⟨h3, h4⟩ | ⟨l, hl, rfl, h3, h4⟩
    · rw [h3, bnd, if_pos rfl]
      exact ⟨_, S, rfl, by rw [h2, bnd, if_neg (by decide), h4, bnd, if_pos rfl], hI⟩
    · obtain ⟨S1, f1, f2, f3, f4⟩ := hI.found
      obtain ⟨lab, g1, g2, g3, g4, g5⟩ := f3 D L N hrD hn1 hrL hD h40 hL
      refine ⟨std (S.1 154) w l D, S1, ?_, ?_, hI.ask f4 (fun _ => f3) (MS.rf S1)⟩
      · rw [h3, bnd, if_neg (by decide), f1, bnd, x_steady g1 hw (by omega) hrD hD, bnd]
      · have hlp := m_steady_loop (S := S1) (w := w) (l := l) (k := fun y _ => some y) f4.w hn1 h40 hrD hD D 0 F (S.1 154 5 * nI l) (by omega) (by omega)
        have h5 : f_X11_in S1 (nI l).toInt64 0 ((S1.1 154 2).toInt64) = some 1 := by rw [f4.w]; exact h4
        rw [m_isWord_y hw, bnd, if_neg (by decide), h5, bnd, if_neg (by decide), hFu, l_0, f4.w]
        refine hlp.trans ?_
        simp only [std, Nat.zero_add]
