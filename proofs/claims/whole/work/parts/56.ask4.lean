/-! story and told -/
theorem o_story (a1 a2 : Int32) : Op Inv (fun S => f_X10_story S a1 a2) (fun S => f_X11_story S a1 a2) := fun S hI => by
  obtain ⟨D, N, L, hrD, hD1, hD, hn1, h40, hrL, hL1, hL, hV⟩ := hI.v
  obtain ⟨F, hFu⟩ : ∃ F : Nat, 100000 = F := ⟨_, rfl⟩
  obtain ⟨S1, f1, f2, f3, f4⟩ := hI.found
  obtain ⟨lab, g1, g2, g3, g4, g5, g6⟩ := f3 D L N hrD hn1 hrL hD h40 hL
  obtain ⟨S2, h, m1, m2, m3, m4, m5, m6⟩ := m_stories (S := S1) f4.w hn1 h40 hD1 hD hrD hL hrL (fun k hk => (hV k hk).1)
  have h144 := fl_len (r := S.1 154) hD hL
  have hB := fl_Bq (r := S.1 154) hD hL
  have hlab := fun f hf => Gx_uniq g5 g6 m5.1 m6 f hf
  have hI2 : Inv S2 := hI.ask f4 (fun _ => f3) m2
  have h48 := rt_48 (r := S.1 154) (L := L) (lab := lab) hD
  have hnum := g4.1
  have hfac := g4.2.2
  show ∃ r S1 S2, f_X10_story S a1 a2 = some (r, S1) ∧ f_X11_story S1 a1 a2 = some (r, S2) ∧ Inv S2
  suffices hh : ∃ r, f_X10_story S a1 a2 = some (r, S1) ∧ f_X11_story S1 a1 a2 = some (r, S2) by
    obtain ⟨r, q1, q2⟩ := hh
    exact ⟨r, S1, S2, q1, q2, hI2⟩
  rw [rt_congr hlab] at hnum hfac h48
  unfold f_X10_story f_X11_story
  rw [f1, bnd, m1, bnd]
  generalize hc : ct (rt (fl (S.1 154) D L) h) 0 (fl (S.1 154) D L).length = c at *
  have hin : f_X11_in S2 a1.toInt64 0 ((nI c - 1).toInt64) = some (if 0 ≤ a1 ∧ a1 ≤ nI c - 1 then 1 else 0) := in_c a1 0 _ (by decide) rfl
  rw [hin, bnd]
  rcases rng (show c < 2 ^ 31 by omega) a1 with ⟨c1, c2⟩ | ⟨s, hs, rfl⟩
  · have hx : f_X7_has S1 a1 = some 0 := by
      unfold f_X7_has
      rw [hnum]
      by_cases h : a1 < 0
      · rw [if_pos h]
      · rw [if_neg h, if_pos (c2.resolve_left h)]
    rw [hx, bnd, if_pos rfl, if_neg c1, if_pos rfl]
    exact ⟨_, rfl, rfl⟩
  · have hx : f_X7_has S1 (nI s) = some 1 := by
      unfold f_X7_has
      rw [hnum, if_neg (nI_pos (by omega)), if_neg (nI_ge hs (by omega))]
    have hlp := m_story_loop (c2 := a2) (s := s) (k := fun y3_14 y4_15 y5_16 y6_17 _ => (if a2 = 0 then some (y3_14, S2) else (if a2 = 1 then some (y4_15, S2) else (if a2 = 2 then some (y5_16, S2) else (if a2 = 3 then some (y6_17, S2) else some ((-1000000002), S2)))))) m3 hB h144 m4 m5 m6 (by omega) (fl (S.1 154) D L).length 0 F (by omega) (by omega)
    rw [hx, bnd, if_neg (by decide), if_pos (rng_y (by omega) hs), if_neg (by decide), hFu]
    have hfin : ∀ r, (if a2 = 0 then some (nI (ag (fl (S.1 154) D L) (ps (fl (S.1 154) D L) h s) (fl (S.1 154) D L).length).1, S2) else (if a2 = 1 then some ((ag (fl (S.1 154) D L) (ps (fl (S.1 154) D L) h s) (fl (S.1 154) D L).length).2.1, S2) else (if a2 = 2 then some (nI (ag (fl (S.1 154) D L) (ps (fl (S.1 154) D L) h s) (fl (S.1 154) D L).length).2.2.1, S2) else (if a2 = 3 then some (nI (ag (fl (S.1 154) D L) (ps (fl (S.1 154) D L) h s) (fl (S.1 154) D L).length).2.2.2, S2) else some ((-1000000002), S2))))) = some (r, S2) → lp_X11_story_34 (fun y3_14 y4_15 y5_16 y6_17 _ => (if a2 = 0 then some (y3_14, S2) else (if a2 = 1 then some (y4_15, S2) else (if a2 = 2 then some (y5_16, S2) else (if a2 = 3 then some (y6_17, S2) else some ((-1000000002), S2)))))) S2 (nI s) a2 F 0 0 12 0 0 = some (r, S2) := fun r hr => Eq.trans hlp hr
    obtain ⟨q1, q2, q3, q4⟩ := hfac s hs
    rw [ps_congr hlab] at q1 q2 q3 q4
    have hxf : ∀ j, j < 4 → ∀ x : Int32, x = nI j → ((f_X7_isFact S1 x).bind fun r5 => (if r5 = 0 then some ((-1000000002 : Int32), S1) else ((f_X7_fact S1 (nI s) x).bind fun r7 => some (r7, S1)))) = some (S1.1 (64 + j) s, S1) := fun j hj x hxj => by
      subst hxj
      have h7 : f_X7_isFact S1 (nI j) = some 1 := by
        unfold f_X7_isFact
        simp (disch := omega) only [nI_add, nI_1, nI_leI, nI_ltI, nI_eq, inb_nI, nI_clamp, if_pos, if_neg, if_true, if_false, bnd, l_0, l_1, l_2, l_3, l_4, l_5, l_6, l_7, l_8, l_9, l_10, l_11, l_12, l_13, l_14, l_15, l_16, l_17, l_18, l_19, l_20, l_21, l_22, l_23, l_24, l_25, l_26, l_27, l_28, l_29, l_30, l_31, l_32, l_33, l_34, l_35, l_36, l_37, l_38, l_39, l_40, l_41, l_42, l_43, l_44, l_45, l_46, l_47, l_48, l_49, l_50, l_51, l_52, l_53, l_54, l_55, l_56, l_57, l_58, l_59, l_60, l_61, l_62, l_63, l_64, l_65, l_66, l_67, l_68, l_69, l_70, l_71, l_72, l_73, l_74, l_75, l_76, l_77, l_78, l_79, l_80, l_81, l_82, l_83, l_84, l_85, l_86, l_87, l_88, l_89, l_90, l_91, l_92, l_93, l_94, l_95, l_96, l_97, l_98, l_99, l_100, l_123, l_144, l_160, l_255, l_256, l_1000, l_1462, l_1634, l_65536]
      have h8 : f_X7_fact S1 (nI s) (nI j) = some (S1.1 (64 + j) s) := by
        unfold f_X7_fact
        rw [hx, h7]
        simp (disch := omega) only [nI_add, nI_1, nI_leI, nI_ltI, nI_eq, inb_nI, nI_clamp, if_pos, if_neg, if_true, if_false, bnd, l_0, l_1, l_2, l_3, l_4, l_5, l_6, l_7, l_8, l_9, l_10, l_11, l_12, l_13, l_14, l_15, l_16, l_17, l_18, l_19, l_20, l_21, l_22, l_23, l_24, l_25, l_26, l_27, l_28, l_29, l_30, l_31, l_32, l_33, l_34, l_35, l_36, l_37, l_38, l_39, l_40, l_41, l_42, l_43, l_44, l_45, l_46, l_47, l_48, l_49, l_50, l_51, l_52, l_53, l_54, l_55, l_56, l_57, l_58, l_59, l_60, l_61, l_62, l_63, l_64, l_65, l_66, l_67, l_68, l_69, l_70, l_71, l_72, l_73, l_74, l_75, l_76, l_77, l_78, l_79, l_80, l_81, l_82, l_83, l_84, l_85, l_86, l_87, l_88, l_89, l_90, l_91, l_92, l_93, l_94, l_95, l_96, l_97, l_98, l_99, l_100, l_123, l_144, l_160, l_255, l_256, l_1000, l_1462, l_1634, l_65536]
      rw [h7, bnd, if_neg (by decide), h8, bnd]
    by_cases z0 : a2 = 0
    · exact ⟨_, by rw [hxf 0 (by omega) a2 z0, show S1.1 (64 + 0) s = _ from q1], hfin _ (by rw [if_pos z0])⟩
    by_cases z1 : a2 = 1
    · exact ⟨_, by rw [hxf 1 (by omega) a2 z1, show S1.1 (64 + 1) s = _ from q2], hfin _ (by rw [if_neg z0, if_pos z1])⟩
    by_cases z2 : a2 = 2
    · exact ⟨_, by rw [hxf 2 (by omega) a2 z2, show S1.1 (64 + 2) s = _ from q3], hfin _ (by rw [if_neg z0, if_neg z1, if_pos z2])⟩
    by_cases z3 : a2 = 3
    · exact ⟨_, by rw [hxf 3 (by omega) a2 z3, show S1.1 (64 + 3) s = _ from q4], hfin _ (by rw [if_neg z0, if_neg z1, if_neg z2, if_pos z3])⟩
    refine ⟨-1000000002, ?_, hfin _ (by rw [if_neg z0, if_neg z1, if_neg z2, if_neg z3])⟩
    have : f_X7_isFact S1 a2 = some 0 := by
      unfold f_X7_isFact
      rcases rng (show 4 < 2 ^ 31 by decide) a2 with ⟨c1, c2⟩ | ⟨j, hj, rfl⟩
      · by_cases h : a2 < 0
        · rw [if_pos h]
        · rw [if_neg h, if_pos (show (4 : Int32) ≤ a2 from c2.resolve_left h)]
      · exfalso
        rcases (by omega : j = 0 ∨ j = 1 ∨ j = 2 ∨ j = 3) with rfl | rfl | rfl | rfl
        · exact z0 rfl
        · exact z1 rfl
        · exact z2 rfl
        · exact z3 rfl
    rw [this, bnd, if_pos rfl]
/-! told -/
theorem x_of_gen {S : Mm} {r : Nat → Int32} {D L w d : Nat} (hG : FL S r D L) (hD : D ≤ 12) (hw : w < 8) (hd : d < D) : f_X5_of S (nI w) (nI d) = some (nI (lv r w D L d)) := x_of hw (by omega) ((hG w hw).2 d hd)
/-- the first entry that is wrong -/
def wrg (r : Nat → Int32) (D L : Nat) (bw bd : Nat → Nat) (bl : Nat → Int32) : Nat → Nat → Option Nat
  | 0, _ => none
  | m + 1, i => if D ≤ bd i then some i else if nI (lv r (bw i) D L (bd i)) = bl i then wrg r D L bw bd bl m (i + 1) else some i
theorem x_wrong_loop {S : Mm} {r : Nat → Int32} {D L e : Nat} {bw bd : Nat → Nat} {bl : Nat → Int32} {k : Int32 → Option Int32} (hG : FL S r D L) (hD : D ≤ 12) (hL : L ≤ 3) (he : e ≤ 20) (h3 : S.1 138 3 = nI e) (hday : S.1 1 3 = nI D) (hb : ∀ j, j < e → bw j < 8 ∧ bd j < 12 ∧ S.1 139 j = nI (bw j) ∧ S.1 140 j = nI (bd j) ∧ S.1 141 j = bl j) : ∀ (m i fuel : Nat), i + m = e → m < fuel → lp_X0_firstWrong_12 k S fuel (nI i) = match wrg r D L bw bd bl m i with
    | none => k (nI e)
    | some i => some (nI i) := by
  intro m
  induction m with
  | zero =>
    intro i fuel h1 h2
    obtain ⟨f, rfl⟩ : ∃ f, fuel = f + 1 := ⟨fuel - 1, by omega⟩
    rw [lp_X0_firstWrong_12, h3, show i = e by omega, if_pos (nI_le (Nat.le_refl e) (by omega)), wrg]
  | succ m ih =>
    intro i fuel h1 h2
    obtain ⟨f, rfl⟩ : ∃ f, fuel = f + 1 := ⟨fuel - 1, by omega⟩
    obtain ⟨b1, b2, b3, b4, b5⟩ := hb i (by omega)
    have hi : inb (nI i) 20 := (inb_nI (by omega)).mpr (by omega)
    have cl : (nI i).toNatClampNeg = i := nI_clamp (by omega)
    have ih1 := ih (i + 1) f (by omega) (by omega)
    rw [lp_X0_firstWrong_12, h3, if_neg (nI_ge (by omega) (by omega)), wrg]
    simp only [if_pos hi, cl, b3, b4, b5]
    by_cases hd : D ≤ bd i
    · have : f_X6_hasDay S (nI (bd i)) = some 0 := by
        unfold f_X6_hasDay
        rw [hday, if_neg (nI_pos (by omega)), if_pos (nI_le hd (by omega))]
      rw [this, bnd, if_pos rfl, if_pos hd]
    · have : f_X6_hasDay S (nI (bd i)) = some 1 := by
        unfold f_X6_hasDay
        rw [hday, if_neg (nI_pos (by omega)), if_neg (nI_ge (by omega) (by omega))]
      rw [this, bnd, if_neg (by decide), if_neg hd, x_of_gen hG hD b1 (by omega), bnd]
      by_cases hl : nI (lv r (bw i) D L (bd i)) = bl i
      · rw [if_pos hl, if_pos hl, nI_1]; exact ih1
      · rw [if_neg hl, if_neg hl]
theorem m_wrong_loop {r : Nat → Int32} {n D L e : Nat} {bw bd : Nat → Nat} {bl : Nat → Int32} {k : Int32 → Mm → Option (Int32 × Mm)} (hn : r 1 = nI n) (h40 : n ≤ 40) (h0 : 1 ≤ D) (hD : D ≤ 12) (hrD : r 0 = nI D) (hL : L ≤ 3) (hrL : r 2 = nI L) (he : e ≤ 20) (hbb : ∀ j, j < e → bw j < 8 ∧ bd j < 12) : ∀ (m i fuel : Nat) (S : Mm), i + m = e → m < fuel → S.1 154 = r → S.1 153 11 = nI e → (∀ j, j < e → S.1 157 j = nI (bw j) ∧ S.1 158 j = nI (bd j) ∧ S.1 159 j = bl j) → ∃ S', MS S S' ∧ lp_X11_wrong_2 k fuel (nI i) S = match wrg r D L bw bd bl m i with
    | none => k (nI e) S'
    | some i => some (nI i, S') := by
  intro m
  induction m with
  | zero =>
    intro i fuel S h1 h2 hr h3 hb
    obtain ⟨f, rfl⟩ : ∃ f, fuel = f + 1 := ⟨fuel - 1, by omega⟩
    refine ⟨S, MS.rf S, ?_⟩
    rw [lp_X11_wrong_2, h3, show i = e by omega, if_pos (nI_le (Nat.le_refl e) (by omega)), wrg]
  | succ m ih =>
    intro i fuel S h1 h2 hr h3 hb
    obtain ⟨f, rfl⟩ : ∃ f, fuel = f + 1 := ⟨fuel - 1, by omega⟩
    obtain ⟨b1, b2⟩ := hbb i (by omega)
    obtain ⟨b3, b4, b5⟩ := hb i (by omega)
    have hi : inb (nI i) 20 := (inb_nI (by omega)).mpr (by omega)
    have cl : (nI i).toNatClampNeg = i := nI_clamp (by omega)
    rw [lp_X11_wrong_2, h3, if_neg (nI_ge (by omega) (by omega)), wrg]
    simp only [if_pos hi, cl, b3, b4]
    by_cases hd : D ≤ bd i
    · have : f_X11_isDay S (nI (bd i)) = some 0 := by
        have hneg : ¬ (0 ≤ nI (bd i) ∧ nI (bd i) ≤ nI D - 1) := by
          intro h
          have h2 := h.2
          rw [l_1, pk_sub (by omega)] at h2
          exact nI_ge (by omega) (by omega) h2
        unfold f_X11_isDay
        rw [hr, hrD, in_c (nI (bd i)) 0 (nI D - 1) (by decide) rfl, bnd, if_neg hneg]
        rfl
      refine ⟨S, MS.rf S, ?_⟩
      rw [this, bnd, if_pos rfl, if_pos hd]
    · have : f_X11_isDay S (nI (bd i)) = some 1 := m_isDay_y hD (by rw [hr]; exact hrD) (by omega)
      obtain ⟨S1, a1, a2⟩ := m_levelOf (w := bw i) hr hn h40 h0 hD hrD hL hrL (show bd i < D by omega)
      rw [this, bnd, if_neg (by decide), if_neg hd, a1, bnd]
      have h159 : S1.1 159 i = bl i := (a2.2 159 i (by omega) (by omega)).trans b5
      by_cases hl : nI (lv r (bw i) D L (bd i)) = bl i
      · obtain ⟨S2, c1, c2⟩ := ih (i + 1) f S1 (by omega) (by omega) (a2.qf.w.trans hr) ((a2.2 153 11 (by omega) (by omega)).trans h3) (fun j hj => by
          rw [a2.2 157 j (by omega) (by omega), a2.2 158 j (by omega) (by omega), a2.2 159 j (by omega) (by omega)]; exact hb j hj)
        refine ⟨S2, a2.tr c1, ?_⟩
        simp only [h159]
        rw [if_pos hl, if_pos hl, nI_1]; exact c2
      · refine ⟨S1, a2, ?_⟩
        simp only [h159]
        rw [if_neg hl, if_neg hl]
theorem o_told (a1 : Int32) : Op Inv (fun S => f_X10_told S a1) (fun S => f_X11_told S a1) := fun S hI => by
  obtain ⟨D, N, L, hrD, hD1, hD, hn1, h40, hrL, hL1, hL, hV⟩ := hI.v
  obtain ⟨F, hFu⟩ : ∃ F : Nat, 100000 = F := ⟨_, rfl⟩
  have hR := hI.1
  obtain ⟨⟨kn, u1, u2, u3, u4⟩, i1, ⟨z, t1, t2, t3, t4⟩, ⟨e, b1, b2, b3, b4⟩, s1, s2, s3⟩ := hI.2.2.2
  show ∃ r S1 S2, f_X10_told S a1 = some (r, S1) ∧ f_X11_told S1 a1 = some (r, S2) ∧ Inv S2
  have hsm : ∀ r x, f_X10_told S a1 = some (r, S) → f_X11_told S a1 = some (x, S) → x = r → ∃ r S1 S2, f_X10_told S a1 = some (r, S1) ∧ f_X11_told S1 a1 = some (r, S2) ∧ Inv S2 := fun r x h1 h2 h3 => ⟨r, S, S, h1, by rw [h2, h3], hI⟩
  by_cases z0 : a1 = 0
  · subst z0; exact hsm (S.1 1 3) (S.1 154 0) rfl rfl hR.1.symm
  by_cases z1 : a1 = 1
  · subst z1; exact hsm (S.1 1 4) (S.1 154 1) rfl rfl hR.2.1.symm
  by_cases z4 : a1 = 4
  · subst z4; exact hsm (S.1 2 0) (S.1 154 2) rfl rfl (hR.2.2.1 0 (by omega)).symm
  by_cases z5 : a1 = 5
  · subst z5; exact hsm (S.1 2 1) (S.1 154 3) rfl rfl (hR.2.2.1 1 (by omega)).symm
  by_cases z6 : a1 = 6
  · subst z6; exact hsm (S.1 2 2) (S.1 154 4) rfl rfl (hR.2.2.1 2 (by omega)).symm
  by_cases z7 : a1 = 7
  · subst z7; exact hsm (S.1 2 3) (S.1 154 5) rfl rfl (hR.2.2.1 3 (by omega)).symm
  by_cases z8 : a1 = 8
  · subst z8; exact hsm (S.1 68 3) (S.1 153 6) rfl rfl (t3.trans t2.symm)
  by_cases z9 : a1 = 9
  · subst z9; exact hsm (S.1 138 3) (S.1 153 11) rfl rfl (b3.trans b2.symm)
  by_cases z11 : a1 = 11
  · subst z11; exact hsm (S.1 72 1) (S.1 153 1) rfl rfl (u3.trans u2.symm)
  by_cases z12 : a1 = 12
  · subst z12; exact hsm (S.1 0 6) (S.1 153 3) rfl rfl s1.symm
  obtain ⟨S1, f1, f2, f3, f4⟩ := hI.found
  obtain ⟨lab, g1, g2, g3, g4, g5, g6⟩ := f3 D L N hrD hn1 hrL hD h40 hL
  by_cases z2 : a1 = 2
  · subst z2
    obtain ⟨S2, m1, m2, m3, m4⟩ := m_flares (S := S1) f4.w hn1 h40 hD1 hD hrD hL hrL
    refine ⟨nI (fl (S.1 154) D L).length, S1, S2, ?_, ?_, hI.ask f4 (fun _ => f3) m2⟩
    · refine Eq.trans (show _ = ((f_X10_found S).bind fun r8 => ((f_X3_number r8).bind fun r10 => some (r10, r8))) from rfl) ?_
      rw [f1, bnd, f_X3_number, bnd, g3.2.1]
    · refine Eq.trans (show _ = ((f_X11_flaresNow S1).bind fun r6 => some (r6.1, r6.2)) from rfl) ?_
      unfold f_X11_flaresNow
      rw [m1, bnd, bnd, m4]
  by_cases z3 : a1 = 3
  · subst z3
    obtain ⟨S2, h, m1, m2, m3, m4, m5, m6⟩ := m_stories (S := S1) f4.w hn1 h40 hD1 hD hrD hL hrL (fun k hk => (hV k hk).1)
    have hlab := fun f hf => Gx_uniq g5 g6 m5.1 m6 f hf
    refine ⟨nI (ct (rt (fl (S.1 154) D L) h) 0 (fl (S.1 154) D L).length), S1, S2, ?_, ?_, hI.ask f4 (fun _ => f3) m2⟩
    · refine Eq.trans (show _ = ((f_X10_found S).bind fun r13 => ((f_X7_number r13).bind fun r15 => some (r15, r13))) from rfl) ?_
      rw [f1, bnd, f_X7_number, bnd, g4.1, rt_congr hlab]
    · refine Eq.trans (show _ = ((f_X11_stories S1).bind fun r9 => some (r9.1, r9.2)) from rfl) ?_
      rw [m1, bnd]
  by_cases z10 : a1 = 10
  · subst z10
    have hbw : ∀ j, j < e → (S.1 139 j).toNatClampNeg < 8 ∧ (S.1 140 j).toNatClampNeg < 12 ∧ S.1 139 j = nI (S.1 139 j).toNatClampNeg ∧ S.1 140 j = nI (S.1 140 j).toNatClampNeg ∧ S.1 157 j = nI (S.1 139 j).toNatClampNeg ∧ S.1 158 j = nI (S.1 140 j).toNatClampNeg ∧ S.1 159 j = S.1 141 j := fun j hj => by
      obtain ⟨⟨w, w1, w2, w3⟩, ⟨d, d1, d2, d3⟩, l⟩ := b4 j hj
      rw [w2, d2, w3, d3, nI_clamp (by omega), nI_clamp (by omega)]
      exact ⟨w1, d1, rfl, rfl, rfl, rfl, l.symm⟩
    have hq := f4.qf
    obtain ⟨S2, m1, m2⟩ := m_wrong_loop (bw := fun j => (S.1 139 j).toNatClampNeg) (bd := fun j => (S.1 140 j).toNatClampNeg) (bl := S.1 141) (k := fun _ S10 => some ((-1), S10)) hn1 h40 hD1 hD hrD hL hrL b1 (fun j hj => ⟨(hbw j hj).1, (hbw j hj).2.1⟩) e 0 F S1 (by omega) (by omega) f4.w ((hq.2 153 11 (by omega)).trans b3) (fun j hj => by
      obtain ⟨-, -, -, -, y1, y2, y3⟩ := hbw j hj
      exact ⟨(hq.2 157 j (by omega)).trans y1, (hq.2 158 j (by omega)).trans y2, (hq.2 159 j (by omega)).trans y3⟩)
    have hx := x_wrong_loop (S := S1) (bw := fun j => (S.1 139 j).toNatClampNeg) (bd := fun j => (S.1 140 j).toNatClampNeg) (bl := S.1 141) (k := fun _ => some (-1)) g2 hD hL b1 ((hq.2 138 3 (by omega)).trans b2) ((hq.2 1 3 (by omega)).trans (hR.1.trans hrD)) (fun j hj => by
      obtain ⟨y0, y1, y2, y3, -, -, -⟩ := hbw j hj
      exact ⟨y0, y1, (hq.2 139 j (by omega)).trans y2, (hq.2 140 j (by omega)).trans y3, hq.2 141 j (by omega)⟩) e 0 F (by omega) (by omega)
    refine ⟨fi (wrg (S.1 154) D L (fun j => (S.1 139 j).toNatClampNeg) (fun j => (S.1 140 j).toNatClampNeg) (S.1 141) e 0), S1, S2, ?_, ?_, hI.ask f4 (fun _ => f3) m1⟩
    · refine Eq.trans (show _ = ((f_X10_found S).bind fun r36 => ((f_X0_firstWrong r36).bind fun r38 => some (r38, r36))) from rfl) ?_
      have : f_X0_firstWrong S1 = some (fi (wrg (S.1 154) D L (fun j => (S.1 139 j).toNatClampNeg) (fun j => (S.1 140 j).toNatClampNeg) (S.1 141) e 0)) := by
        unfold f_X0_firstWrong
        rw [hFu]
        refine Eq.trans hx ?_
        cases wrg (S.1 154) D L (fun j => (S.1 139 j).toNatClampNeg) (fun j => (S.1 140 j).toNatClampNeg) (S.1 141) e 0 <;> rfl
      rw [f1, bnd, this, bnd]
    · refine Eq.trans (show _ = ((f_X11_toldMore S1 10).bind fun r19 => some (r19.1, r19.2)) from rfl) ?_
      have : f_X11_wrong S1 = some (fi (wrg (S.1 154) D L (fun j => (S.1 139 j).toNatClampNeg) (fun j => (S.1 140 j).toNatClampNeg) (S.1 141) e 0), S2) := by
        unfold f_X11_wrong
        rw [hFu]
        refine Eq.trans m2 ?_
        cases wrg (S.1 154) D L (fun j => (S.1 139 j).toNatClampNeg) (fun j => (S.1 140 j).toNatClampNeg) (S.1 141) e 0 <;> rfl
      refine Eq.trans (show _ = (((f_X11_wrong S1).bind fun r4 => some (r4.1, r4.2)).bind fun r19 => some (r19.1, r19.2)) from rfl) ?_
      rw [this, bnd, bnd]
  refine hsm (-1000000002) (-1000000002) ?_ ?_ rfl
  · unfold f_X10_told
    rw [if_neg z0, if_neg z1, if_neg z2, if_neg z3, if_neg z4, if_neg z5, if_neg z6, if_neg z7, if_neg z8, if_neg z9, if_neg z10, if_neg z11, if_neg z12]
  · unfold f_X11_told f_X11_toldMore
    rw [if_neg z0, if_neg z1, if_neg z2, if_neg z3, if_neg z4, if_neg z5, if_neg z6, if_neg z7, if_neg z8, if_neg z9, if_neg z10, if_neg z11, if_neg z12, bnd]
