/-! day, word, flare, story, told -/
theorem o_day (a1 a2 : Int32) : Op Inv (fun S => f_X10_day S a1 a2) (fun S => f_X11_day S a1 a2) := fun S hI => by
  obtain ⟨D, N, L, hrD, hD1, hD, hn1, h40, hrL, hL1, hL, hV⟩ := hI.v
  obtain ⟨F, hFu⟩ : ∃ F : Nat, 100000 = F := ⟨_, rfl⟩
  show ∃ r S1 S2, f_X10_day S a1 a2 = some (r, S1) ∧ f_X11_day S1 a1 a2 = some (r, S2) ∧ Inv S2
  unfold f_X10_day f_X11_day
  rcases day3 (S := S) (S' := S) hD (hI.1.1.trans hrD) hrD a1 with ⟨h1, h2⟩ | ⟨d, hd, rfl, h1, h2⟩
  · rw [h1, bnd, if_pos rfl]
    exact ⟨_, S, S, rfl, by rw [h2, bnd, if_pos rfl], hI⟩
  · rw [h1, bnd, if_neg (by decide)]
    obtain ⟨S1, f1, f2, f3, f4⟩ := hI.found
    obtain ⟨lab, g1, g2, g3, g4, g5⟩ := f3 D L N hrD hn1 hrL hD h40 hL
    have hd1 : f_X11_isDay S1 (nI d) = some 1 := m_isDay_y hD (by rw [f4.w]; exact hrD) hd
    rw [f1, bnd, bnd, bnd]
    by_cases e0 : a2 = 0
    · subst e0
      refine ⟨nI (cO (S.1 154) 0 d), S1, S1, ?_, ?_, hI.ask f4 (fun _ => f3) (MS.rf S1)⟩
      · rw [if_pos rfl, x_ofall g1 (by omega), bnd]
      · rw [hd1, bnd, if_neg (by decide), if_pos rfl, m_on (by rw [f4.w]; exact hn1) h40 (by omega), bnd, f4.w]
    · rw [if_neg e0]
      by_cases e1 : a2 = 1
      · subst e1
        obtain ⟨S2, b1, b2⟩ := m_hot_loop (k := fun y _ S5 => some (y, S5)) hn1 h40 hD1 hD hrD hL hrL hd 8 0 F 0 S1 (by omega) (by omega) f4.w
        refine ⟨hts (S.1 154) D L d 8 0 0, S1, S2, ?_, ?_, hI.ask f4 (fun _ => f3) b2⟩
        · have hx := x_hot_loop (k := fun y _ => some y) g2 hD hL hd 8 0 F 0 (by omega) (by omega)
          have hx2 : f_X2_hot S1 (nI d) = some (hts (S.1 154) D L d 8 0 0) := by
            unfold f_X2_hot
            rw [hFu]
            exact hx
          rw [if_pos rfl, hx2, bnd]
        · have hm : f_X11_hot S1 (nI d) = some (hts (S.1 154) D L d 8 0 0, S2) := by
            unfold f_X11_hot
            rw [hFu]
            exact b1
          rw [hd1, bnd, if_neg (by decide), if_neg e0, if_pos rfl, hm, bnd]
      · rw [if_neg e1]
        by_cases e2 : a2 = 2
        · subst e2
          obtain ⟨y, S2, b1, b2⟩ := m_top_loop (k := fun y _ _ S5 => some (y, S5)) hn1 h40 hD1 hD hrD hL hrL hd 8 0 F none S1 (by omega) (by omega) f4.w (fun b h => by cases h)
          refine ⟨fi (tps (S.1 154) D L d 8 0 none), S1, S2, ?_, ?_, hI.ask f4 (fun _ => f3) b2⟩
          · have hx := x_top_loop (k := fun y _ => some y) g1 hn1 h40 g2 hD hL hd 8 0 F none (by omega) (by omega) (fun b h => by cases h)
            have hx2 : f_X2_top S1 (nI d) = some (fi (tps (S.1 154) D L d 8 0 none)) := by
              unfold f_X2_top
              rw [hFu]
              exact hx
            rw [if_pos rfl, hx2, bnd]
          · have hm : f_X11_topOf S1 (nI d) = some (fi (tps (S.1 154) D L d 8 0 none), S2) := by
              unfold f_X11_topOf
              rw [hFu]
              exact b1
            rw [hd1, bnd, if_neg (by decide), if_neg e0, if_neg e1, if_pos rfl, hm, bnd]
        · rw [if_neg e2]
          exact ⟨_, S, S, rfl, by rw [h2, bnd, if_neg (by decide), if_neg e0, if_neg e1, if_neg e2], hI⟩
theorem o_word (a1 a2 a3 : Int32) : Op Inv (fun S => f_X10_word S a1 a2 a3) (fun S => f_X11_word S a1 a2 a3) := fun S hI => by
  obtain ⟨D, N, L, hrD, hD1, hD, hn1, h40, hrL, hL1, hL, hV⟩ := hI.v
  show ∃ r S1 S2, f_X10_word S a1 a2 a3 = some (r, S1) ∧ f_X11_word S1 a1 a2 a3 = some (r, S2) ∧ Inv S2
  unfold f_X10_word f_X11_word
  rcases wrd3 (S := S) (S' := S) a1 with ⟨h1, h2⟩ | ⟨w, hw, rfl, h1, h2⟩
  · rw [h1, bnd, if_pos rfl]
    exact ⟨_, S, S, rfl, by rw [h2, bnd, if_pos rfl], hI⟩
  · rw [h1, bnd, if_neg (by decide)]
    rcases day3 (S := S) (S' := S) hD (hI.1.1.trans hrD) hrD a2 with ⟨h3, h4⟩ | ⟨d, hd, rfl, h3, h4⟩
    · rw [h3, bnd, if_pos rfl]
      exact ⟨_, S, S, rfl, by rw [h2, bnd, if_neg (by decide), h4, bnd, if_pos rfl], hI⟩
    · rw [h3, bnd, if_neg (by decide)]
      obtain ⟨S1, f1, f2, f3, f4⟩ := hI.found
      obtain ⟨lab, g1, g2, g3, g4, g5⟩ := f3 D L N hrD hn1 hrL hD h40 hL
      have hd1 : f_X11_isDay S1 (nI d) = some 1 := m_isDay_y hD (by rw [f4.w]; exact hrD) hd
      have hn1' : S1.1 154 1 = nI N := by rw [f4.w]; exact hn1
      -- what the wanted number of a level asks: the same on both sides
      have hwan : ∀ l, l ≤ 3 → ∀ x : Int32, x = nI l → ∃ r S1 S2, ((f_X6_hasLevel S x).bind fun r16 => (if r16 = 0 then some ((-1 : Int32), S) else ((f_X10_found S).bind fun r18 => ((f_X8_wanted r18 (nI w) (nI d) x).bind fun r20 => some (r20, r18))))) = some (r, S1) ∧ (if (S1.1 154 2) < x then some ((-1 : Int32), S1) else ((f_X11_wanted S1 (nI w) (nI d) x).bind fun r12 => some (r12, S1))) = some (r, S2) ∧ Inv S2 ∧ f_X11_isDay S1 (nI d) = some 1 := by
        intro l hl x hx
        subst hx
        have hh : f_X6_hasLevel S (nI l) = some (if l ≤ L then 1 else 0) := by
          unfold f_X6_hasLevel
          rw [(hI.1.2.2.1 0 (by omega)).trans hrL, if_neg (nI_pos (by omega))]
          by_cases h : l ≤ L
          · rw [if_neg (nI_nlt h (by omega)), if_pos h]
          · rw [if_pos (nI_lt (by omega) (by omega)), if_neg h]
        by_cases h : l ≤ L
        · refine ⟨wan (S.1 154) w d l, S1, S1, ?_, ?_, hI.ask f4 (fun _ => f3) (MS.rf S1), hd1⟩
          · rw [hh, if_pos h, bnd, if_neg (by decide), f1, bnd, x_wanted g1 hw (by omega), bnd]
          · rw [f4.w, hrL, if_neg (nI_nlt h (by omega)), m_wanted hn1' h40 (by omega), bnd, f4.w]
        · refine ⟨-1, S, S, ?_, ?_, hI, h4⟩
          · rw [hh, if_neg h, bnd, if_pos rfl]
          · rw [hrL, if_pos (nI_lt (by omega) (by omega))]
      by_cases e0 : a3 = 0
      · subst e0
        refine ⟨nI (cO (S.1 154) (bit w) d), S1, S1, ?_, ?_, hI.ask f4 (fun _ => f3) (MS.rf S1)⟩
        · rw [if_pos rfl, f1, bnd, x_count g1 hw (by omega), bnd]
        · rw [m_isWord_y hw, bnd, if_neg (by decide), hd1, bnd, if_neg (by decide), if_pos rfl, show (1 : Int32) <<< (nI w &&& 31) = bit w from rfl, m_on hn1' h40 (by omega), bnd, f4.w]
      · rw [if_neg e0]
        by_cases e1 : a3 = 1
        · subst e1
          obtain ⟨S2, b1, b2⟩ := m_levelOf (w := w) f4.w hn1 h40 hD1 hD hrD hL hrL hd
          refine ⟨nI (lv (S.1 154) w D L d), S1, S2, ?_, ?_, hI.ask f4 (fun _ => f3) b2⟩
          · rw [if_pos rfl, f1, bnd, x_of hw (by omega) ((g2 w hw).2 d hd), bnd]
          · rw [m_isWord_y hw, bnd, if_neg (by decide), hd1, bnd, if_neg (by decide), if_neg e0, if_pos rfl, b1, bnd]
        · rw [if_neg e1]
          by_cases e2 : a3 = 2
          · subst e2
            obtain ⟨r, S3, S4, q1, q2, q3, q4⟩ := hwan 0 (by omega) (2 - 2) (by decide)
            refine ⟨r, S3, S4, ?_, ?_, q3⟩
            · rw [if_pos rfl]; exact q1
            · rw [m_isWord_y hw, bnd, if_neg (by decide), q4, bnd, if_neg (by decide), if_neg e0, if_neg e1, if_pos rfl]; exact q2
          · rw [if_neg e2]
            by_cases e3 : a3 = 3
            · subst e3
              obtain ⟨r, S3, S4, q1, q2, q3, q4⟩ := hwan 1 (by omega) (3 - 2) (by decide)
              refine ⟨r, S3, S4, ?_, ?_, q3⟩
              · rw [if_pos rfl]; exact q1
              · rw [m_isWord_y hw, bnd, if_neg (by decide), q4, bnd, if_neg (by decide), if_neg e0, if_neg e1, if_neg e2, if_pos rfl]; exact q2
            · rw [if_neg e3]
              by_cases e4 : a3 = 4
              · subst e4
                obtain ⟨r, S3, S4, q1, q2, q3, q4⟩ := hwan 2 (by omega) (4 - 2) (by decide)
                refine ⟨r, S3, S4, ?_, ?_, q3⟩
                · rw [if_pos rfl]; exact q1
                · rw [m_isWord_y hw, bnd, if_neg (by decide), q4, bnd, if_neg (by decide), if_neg e0, if_neg e1, if_neg e2, if_neg e3, if_pos rfl]; exact q2
              · rw [if_neg e4]
                by_cases e5 : a3 = 5
                · subst e5
                  obtain ⟨r, S3, S4, q1, q2, q3, q4⟩ := hwan 3 (by omega) (5 - 2) (by decide)
                  refine ⟨r, S3, S4, ?_, ?_, q3⟩
                  · rw [if_pos rfl]; exact q1
                  · rw [m_isWord_y hw, bnd, if_neg (by decide), q4, bnd, if_neg (by decide), if_neg e0, if_neg e1, if_neg e2, if_neg e3, if_neg e4, if_pos rfl]; exact q2
                · rw [if_neg e5]
                  exact ⟨_, S, S, rfl, by rw [h2, bnd, if_neg (by decide), h4, bnd, if_neg (by decide), if_neg e0, if_neg e1, if_neg e2, if_neg e3, if_neg e4, if_neg e5], hI⟩
theorem o_flare (a1 a2 : Int32) : Op Inv (fun S => f_X10_flare S a1 a2) (fun S => f_X11_flare S a1 a2) := fun S hI => by
  obtain ⟨D, N, L, hrD, hD1, hD, hn1, h40, hrL, hL1, hL, hV⟩ := hI.v
  obtain ⟨S1, f1, f2, f3, f4⟩ := hI.found
  obtain ⟨lab, g1, g2, g3, g4, g5, g6⟩ := f3 D L N hrD hn1 hrL hD h40 hL
  obtain ⟨S2, h, m1, m2, m3, m4, m5, m6⟩ := m_heaps (S := S1) f4.w hn1 h40 hD1 hD hrD hL hrL (fun k hk => (hV k hk).1)
  have h144 := fl_len (r := S.1 154) hD hL
  have hB := fl_Bq (r := S.1 154) hD hL
  have hlab := fun f hf => Gx_uniq g5 g6 m5.1 m6 f hf
  have hI2 : Inv S2 := hI.ask f4 (fun _ => f3) m2
  show ∃ r S1 S2, f_X10_flare S a1 a2 = some (r, S1) ∧ f_X11_flare S1 a1 a2 = some (r, S2) ∧ Inv S2
  suffices hh : ∃ r, f_X10_flare S a1 a2 = some (r, S1) ∧ f_X11_flare S1 a1 a2 = some (r, S2) by
    obtain ⟨r, q1, q2⟩ := hh
    exact ⟨r, S1, S2, q1, q2, hI2⟩
  unfold f_X10_flare f_X11_flare
  rw [f1, bnd, m1, bnd]
  have hin : f_X11_in S2 a1.toInt64 0 (((S2.1 153 19) - 1).toInt64) = some (if 0 ≤ a1 ∧ a1 ≤ nI (fl (S.1 154) D L).length - 1 then 1 else 0) := by
    rw [m3.2.2]
    exact in_c a1 0 _ (by decide) rfl
  rw [hin, bnd]
  rcases rng (show (fl (S.1 154) D L).length < 2 ^ 31 by omega) a1 with ⟨c1, c2⟩ | ⟨f, hf, rfl⟩
  · have hx : f_X3_has S1 a1 = some 0 := by
      unfold f_X3_has
      rw [g3.2.1]
      by_cases h : a1 < 0
      · rw [if_pos h]
      · rw [if_neg h, if_pos (c2.resolve_left h)]
    rw [hx, bnd, if_pos rfl, if_neg c1, if_pos rfl]
    exact ⟨_, rfl, rfl⟩
  · rw [x_has g3.2.1 h144 hf, bnd, if_neg (by decide), if_pos (rng_y (by omega) hf), if_neg (by decide)]
    obtain ⟨q, hq⟩ : ∃ q, (fl (S.1 154) D L)[f]? = some q := ⟨_, List.getElem?_eq_getElem hf⟩
    obtain ⟨e1, e2, e3, e4⟩ := g3.1 f q hq
    obtain ⟨t1, t2, t3, t4⟩ := m3.2.1 f q hq
    obtain ⟨b1, b2, b3, b4, b5⟩ := hB f q hq
    obtain ⟨p1, p2, p3, p4⟩ := g3.2.2 f q hq
    have hi : inb (nI f) 160 := (inb_nI (by omega)).mpr (by omega)
    have cl : (nI f).toNatClampNeg = f := nI_clamp (by omega)
    have t2' : S2.1 163 f = nI q.2.1 := t2
    have t3' : S2.1 164 f = nI q.2.2.1 := t3
    have t4' : S2.1 165 f = nI q.2.2.2 := t4
    have hxf : ∀ j, j < 9 → ∀ x : Int32, x = nI j → ((f_X3_isFact S1 x).bind fun r5 => (if r5 = 0 then some ((-1000000002 : Int32), S1) else ((f_X3_fact S1 (nI f) x).bind fun r7 => some (r7, S1)))) = some (S1.1 (52 + j) f, S1) := fun j hj x hx => by
      subst hx
      have : f_X3_isFact S1 (nI j) = some 1 := by
        unfold f_X3_isFact
        simp (disch := omega) only [nI_add, nI_1, nI_leI, nI_ltI, nI_eq, inb_nI, nI_clamp, if_pos, if_neg, if_true, if_false, bnd, l_0, l_1, l_2, l_3, l_4, l_5, l_6, l_7, l_8, l_9, l_10, l_11, l_12, l_13, l_14, l_15, l_16, l_17, l_18, l_19, l_20, l_21, l_22, l_23, l_24, l_25, l_26, l_27, l_28, l_29, l_30, l_31, l_32, l_33, l_34, l_35, l_36, l_37, l_38, l_39, l_40, l_41, l_42, l_43, l_44, l_45, l_46, l_47, l_48, l_49, l_50, l_51, l_52, l_53, l_54, l_55, l_56, l_57, l_58, l_59, l_60, l_61, l_62, l_63, l_64, l_65, l_66, l_67, l_68, l_69, l_70, l_71, l_72, l_73, l_74, l_75, l_76, l_77, l_78, l_79, l_80, l_81, l_82, l_83, l_84, l_85, l_86, l_87, l_88, l_89, l_90, l_91, l_92, l_93, l_94, l_95, l_96, l_97, l_98, l_99, l_100, l_123, l_144, l_160, l_255, l_256, l_1000, l_1462, l_1634, l_65536]
      rw [this, bnd, if_neg (by decide), x_fact g3.2.1 h144 hf hj, bnd]
    have hu : ∀ d, d < 2 ^ 31 → f_X11_count S2 (nI d) (1 <<< (nI q.1 &&& 31)) = some (nI (cO (S.1 154) (bit q.1) d)) := fun d hd => (m_on (s := bit q.1) (by rw [m3.1]; exact hn1) h40 hd).trans (by rw [m3.1])
    have hpk := pkq_in (r := S.1 154) b4 b5
    simp only [if_pos hi, cl, t1, t2', t3', t4', m_within m3.2.1 hB (fl_Fos _ _ _) m3.2.2 h144 hq, m_weight m3.1 hn1 h40 m3.2.1 hB h144 hq, m_peak m3.1 hn1 h40 m3.2.1 hB h144 hq, m_storyOf m3 hB h144 m4 m5 m6 hf, bnd, hu (pk (S.1 154) q) (by omega), hu q.2.2.2 (by omega)]
    by_cases z0 : a2 = 0
    · rw [if_pos z0]
      exact ⟨_, by rw [hxf 0 (by omega) a2 z0, show S1.1 (52 + 0) f = nI q.1 from e1], rfl⟩
    rw [if_neg z0]
    by_cases z1 : a2 = 1
    · rw [if_pos z1]
      exact ⟨_, by rw [hxf 1 (by omega) a2 z1, show S1.1 (52 + 1) f = nI q.2.1 from e2], rfl⟩
    rw [if_neg z1]
    by_cases z2 : a2 = 2
    · rw [if_pos z2]
      exact ⟨_, by rw [hxf 2 (by omega) a2 z2, show S1.1 (52 + 2) f = nI q.2.2.1 from e3], rfl⟩
    rw [if_neg z2]
    by_cases z3 : a2 = 3
    · rw [if_pos z3]
      exact ⟨_, by rw [hxf 3 (by omega) a2 z3, show S1.1 (52 + 3) f = nI q.2.2.2 from e4], rfl⟩
    rw [if_neg z3]
    by_cases z4 : a2 = 4
    · rw [if_pos z4]
      exact ⟨_, by rw [hxf 4 (by omega) a2 z4, show S1.1 (52 + 4) f = _ from p1], rfl⟩
    rw [if_neg z4]
    by_cases z5 : a2 = 5
    · rw [if_pos z5]
      exact ⟨_, by rw [hxf 5 (by omega) a2 z5, show S1.1 (52 + 5) f = _ from p2], rfl⟩
    rw [if_neg z5]
    by_cases z6 : a2 = 6
    · rw [if_pos z6]
      exact ⟨_, by rw [hxf 6 (by omega) a2 z6, show S1.1 (52 + 6) f = _ from p3], rfl⟩
    rw [if_neg z6]
    by_cases z7 : a2 = 7
    · rw [if_pos z7]
      exact ⟨_, by rw [hxf 7 (by omega) a2 z7, show S1.1 (52 + 7) f = _ from p4], rfl⟩
    rw [if_neg z7]
    by_cases z8 : a2 = 8
    · rw [if_pos z8]
      have e60 : S1.1 (52 + 8) f = if l1 (fl (S.1 154) D L) f then nI (sn (fl (S.1 154) D L) h f) else -1 := by
        refine (g4.2.1 f hf).trans ?_
        rw [decide_eq_true hf, Bool.and_true]
        cases hl : l1 (fl (S.1 154) D L) f with
        | false => rfl
        | true => rw [sn_congr hlab f hl]
      exact ⟨_, by rw [hxf 8 (by omega) a2 z8, e60], rfl⟩
    rw [if_neg z8]
    refine ⟨-1000000002, ?_, rfl⟩
    have : f_X3_isFact S1 a2 = some 0 := by
      unfold f_X3_isFact
      rcases rng (show 9 < 2 ^ 31 by decide) a2 with ⟨c1, c2⟩ | ⟨j, hj, rfl⟩
      · by_cases h : a2 < 0
        · rw [if_pos h]
        · rw [if_neg h, if_pos (show (9 : Int32) ≤ a2 from c2.resolve_left h)]
      · exfalso
        rcases (by omega : j = 0 ∨ j = 1 ∨ j = 2 ∨ j = 3 ∨ j = 4 ∨ j = 5 ∨ j = 6 ∨ j = 7 ∨ j = 8) with rfl | rfl | rfl | rfl | rfl | rfl | rfl | rfl | rfl
        · exact z0 rfl
        · exact z1 rfl
        · exact z2 rfl
        · exact z3 rfl
        · exact z4 rfl
        · exact z5 rfl
        · exact z6 rfl
        · exact z7 rfl
        · exact z8 rfl
    rw [this, bnd, if_pos rfl]
