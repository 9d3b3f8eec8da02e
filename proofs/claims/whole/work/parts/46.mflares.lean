/-! ===== the reference's flares ===== -/
theorem wide_lt (a b : Int32) : a.toInt64 < b.toInt64 ↔ a < b := by rw [Int64.lt_iff_toInt_lt, Int32.lt_iff_toInt_lt, Int32.toInt_toInt64, Int32.toInt_toInt64]
theorem in_gen {S : Mm} (x y z : Int32) : f_X11_in S x.toInt64 y.toInt64 z.toInt64 = some (if y ≤ x ∧ x ≤ z then 1 else 0) := by
  unfold f_X11_in
  by_cases h1 : x < y
  · rw [if_pos ((lg_cmp_lt _ _).mpr ((wide_lt _ _).mpr h1)), if_neg (fun h => Int32.not_le.mpr h1 h.1)]
  · rw [if_neg (fun h => h1 ((wide_lt _ _).mp ((lg_cmp_lt _ _).mp h)))]
    by_cases h2 : z < x
    · rw [if_pos ((lg_cmp_gt _ _).mpr ((wide_lt _ _).mpr h2)), if_neg (fun h => Int32.not_le.mpr h2 h.2)]
    · rw [if_neg (fun h => h2 ((wide_lt _ _).mp ((lg_cmp_gt _ _).mp h))), if_pos ⟨Int32.not_lt.mp h1, Int32.not_lt.mp h2⟩]
theorem m_isIn {S : Mm} {xs : List Fq} {g a : Nat} {q : Fq} (hH : Hf S 162 xs) (hB : Bq xs) (h144 : xs.length ≤ 144) (hg : xs[g]? = some q) (ha : a < 2 ^ 31) : f_X11_isIn S (nI g) (nI a) = some (if q.2.2.1 ≤ a ∧ a ≤ q.2.2.2 then 1 else 0) := by
  have hl : g < xs.length := (List.getElem?_eq_some_iff.mp hg).1
  obtain ⟨-, -, e3, e4⟩ := hH g q hg
  obtain ⟨b1, b2, b3, b4, b5⟩ := hB g q hg
  unfold f_X11_isIn
  simp (disch := omega) only [nI_add, nI_1, nI_leI, nI_ltI, nI_eq, inb_nI, nI_clamp, if_pos, if_neg, if_true, if_false, bnd, e3, e4, in_gen]
  by_cases h : q.2.2.1 ≤ a ∧ a ≤ q.2.2.2
  · rw [if_pos h]; rfl
  · rw [if_neg h]; rfl
theorem m_at {r : Nat → Int32} {lev : Nat → Nat} {w l D : Nat} {k : Int32 → Int32 → Mm → Option Mm} (hD : D ≤ 12) (hrD : r 0 = nI D) (hl : l ≤ 3) (hlev : ∀ d, lev d ≤ 3) : ∀ (m d fuel : Nat) (st : Option Nat) (S : Mm) (xs : List Fq), d + m = D + 1 → m < fuel → (∀ f, st = some f → f < d) → S.1 154 = r → (∀ a, a < D → S.1 161 a = nI (lev a)) → Hf S 162 xs → S.1 153 19 = nI xs.length → xs.length + (sc lev l D m d st).length ≤ 144 → ∃ (y z : Int32) (S' : Mm), lp_X11_addFlares_5 k (nI w) (nI l) fuel (fi st) (nI d) S = k y z S' ∧ S'.2 = S.2 ∧ (∀ a j, ¬ (162 ≤ a ∧ a < 166) → ¬ (a = 153 ∧ j = 19) → S'.1 a j = S.1 a j) ∧ Hf S' 162 (xs ++ (sc lev l D m d st).map (fun p => (w, l, p.1, p.2))) ∧ S'.1 153 19 = nI (xs.length + (sc lev l D m d st).length) := by
  intro m
  induction m with
  | zero =>
    intro d fuel st S xs h1 h2 hst hr hS hH hn hb
    obtain ⟨f, rfl⟩ : ∃ f, fuel = f + 1 := ⟨fuel - 1, by omega⟩
    refine ⟨fi st, nI d, S, ?_, rfl, fun _ _ _ _ => rfl, ?_, ?_⟩
    · rw [lp_X11_addFlares_5, hr, hrD, if_pos (nI_lt (by omega) (by omega))]
    · rw [sc, List.map_nil, List.append_nil]; exact hH
    · rw [sc]; exact hn
  | succ m ih =>
    intro d fuel st S xs h1 h2 hst hr hS hH hn hb
    obtain ⟨f, rfl⟩ : ∃ f, fuel = f + 1 := ⟨fuel - 1, by omega⟩
    have hfn : fi none < nI 0 := by decide
    have h3 := hlev d
    cases st with
    | none =>
      by_cases hc : d < D ∧ l ≤ lev d
      · rw [sc, if_pos hc] at hb ⊢
        obtain ⟨y, z, S', e1, e2⟩ := ih (d + 1) f (some d) S xs (by omega) (by omega) (fun f h => by cases h; omega) hr hS hH hn hb
        refine ⟨y, z, S', ?_, e2⟩
        have hSd := hS d hc.1
        rw [lp_X11_addFlares_5, hr, hrD]
        simp (disch := omega) only [nI_add, nI_1, nI_leI, nI_ltI, nI_eq, inb_nI, nI_clamp, if_pos, if_neg, if_true, if_false, bnd, l_0, l_1, l_2, l_3, l_4, l_5, l_6, l_7, l_8, l_9, l_10, l_11, l_12, l_13, l_14, l_15, l_16, l_17, l_18, l_19, l_20, l_21, l_22, l_23, l_24, l_25, l_26, l_27, l_28, l_29, l_30, l_31, l_32, l_33, l_34, l_35, l_36, l_37, l_38, l_39, l_40, l_41, l_42, l_43, l_44, l_45, l_46, l_47, l_48, l_49, l_50, l_51, l_52, l_53, l_54, l_55, l_56, l_57, l_58, l_59, l_60, l_61, l_62, l_63, l_64, l_65, l_66, l_67, l_68, l_69, l_70, l_71, l_72, l_73, l_74, l_75, l_76, l_77, l_78, l_79, l_80, l_81, l_82, l_83, l_84, l_85, l_86, l_87, l_88, l_89, l_90, l_91, l_92, l_93, l_94, l_95, l_96, l_97, l_98, l_99, l_100, l_123, l_144, l_160, l_255, l_256, l_1000, l_1462, l_1634, l_65536, hfn, hSd]
        exact e1
      · rw [sc, if_neg hc] at hb ⊢
        obtain ⟨y, z, S', e1, e2⟩ := ih (d + 1) f none S xs (by omega) (by omega) (fun f h => by cases h) hr hS hH hn hb
        refine ⟨y, z, S', ?_, e2⟩
        rw [lp_X11_addFlares_5, hr, hrD]
        by_cases hdD : d < D
        · have hSd := hS d hdD
          have hlt : lev d < l := by omega
          simp (disch := omega) only [nI_add, nI_1, nI_leI, nI_ltI, nI_eq, inb_nI, nI_clamp, if_pos, if_neg, if_true, if_false, bnd, l_0, l_1, l_2, l_3, l_4, l_5, l_6, l_7, l_8, l_9, l_10, l_11, l_12, l_13, l_14, l_15, l_16, l_17, l_18, l_19, l_20, l_21, l_22, l_23, l_24, l_25, l_26, l_27, l_28, l_29, l_30, l_31, l_32, l_33, l_34, l_35, l_36, l_37, l_38, l_39, l_40, l_41, l_42, l_43, l_44, l_45, l_46, l_47, l_48, l_49, l_50, l_51, l_52, l_53, l_54, l_55, l_56, l_57, l_58, l_59, l_60, l_61, l_62, l_63, l_64, l_65, l_66, l_67, l_68, l_69, l_70, l_71, l_72, l_73, l_74, l_75, l_76, l_77, l_78, l_79, l_80, l_81, l_82, l_83, l_84, l_85, l_86, l_87, l_88, l_89, l_90, l_91, l_92, l_93, l_94, l_95, l_96, l_97, l_98, l_99, l_100, l_123, l_144, l_160, l_255, l_256, l_1000, l_1462, l_1634, l_65536, hfn, hSd]
          exact e1
        · simp (disch := omega) only [nI_add, nI_1, nI_leI, nI_ltI, nI_eq, inb_nI, nI_clamp, if_pos, if_neg, if_true, if_false, bnd, l_0, l_1, l_2, l_3, l_4, l_5, l_6, l_7, l_8, l_9, l_10, l_11, l_12, l_13, l_14, l_15, l_16, l_17, l_18, l_19, l_20, l_21, l_22, l_23, l_24, l_25, l_26, l_27, l_28, l_29, l_30, l_31, l_32, l_33, l_34, l_35, l_36, l_37, l_38, l_39, l_40, l_41, l_42, l_43, l_44, l_45, l_46, l_47, l_48, l_49, l_50, l_51, l_52, l_53, l_54, l_55, l_56, l_57, l_58, l_59, l_60, l_61, l_62, l_63, l_64, l_65, l_66, l_67, l_68, l_69, l_70, l_71, l_72, l_73, l_74, l_75, l_76, l_77, l_78, l_79, l_80, l_81, l_82, l_83, l_84, l_85, l_86, l_87, l_88, l_89, l_90, l_91, l_92, l_93, l_94, l_95, l_96, l_97, l_98, l_99, l_100, l_123, l_144, l_160, l_255, l_256, l_1000, l_1462, l_1634, l_65536, hfn]
          exact e1
    | some f0 =>
      have hf0 := hst f0 rfl
      show ∃ (y z : Int32) (S' : Mm), lp_X11_addFlares_5 k (nI w) (nI l) (f + 1) (nI f0) (nI d) S = k y z S' ∧ _
      by_cases hc : d < D ∧ l ≤ lev d
      · rw [sc, if_pos hc] at hb ⊢
        obtain ⟨y, z, S', e1, e2⟩ := ih (d + 1) f (some f0) S xs (by omega) (by omega) (fun f h => by cases h; omega) hr hS hH hn hb
        refine ⟨y, z, S', ?_, e2⟩
        have hSd := hS d hc.1
        rw [lp_X11_addFlares_5, hr, hrD]
        simp (disch := omega) only [nI_add, nI_1, nI_leI, nI_ltI, nI_eq, inb_nI, nI_clamp, if_pos, if_neg, if_true, if_false, bnd, l_0, l_1, l_2, l_3, l_4, l_5, l_6, l_7, l_8, l_9, l_10, l_11, l_12, l_13, l_14, l_15, l_16, l_17, l_18, l_19, l_20, l_21, l_22, l_23, l_24, l_25, l_26, l_27, l_28, l_29, l_30, l_31, l_32, l_33, l_34, l_35, l_36, l_37, l_38, l_39, l_40, l_41, l_42, l_43, l_44, l_45, l_46, l_47, l_48, l_49, l_50, l_51, l_52, l_53, l_54, l_55, l_56, l_57, l_58, l_59, l_60, l_61, l_62, l_63, l_64, l_65, l_66, l_67, l_68, l_69, l_70, l_71, l_72, l_73, l_74, l_75, l_76, l_77, l_78, l_79, l_80, l_81, l_82, l_83, l_84, l_85, l_86, l_87, l_88, l_89, l_90, l_91, l_92, l_93, l_94, l_95, l_96, l_97, l_98, l_99, l_100, l_123, l_144, l_160, l_255, l_256, l_1000, l_1462, l_1634, l_65536, hSd]
        exact e1
      · rw [sc, if_neg hc, List.length_cons] at hb
        rw [sc, if_neg hc]
        have hk : ∀ a j, ¬ (162 ≤ a ∧ a < 166) → ¬ (a = 153 ∧ j = 19) → (wr (pf S 162 xs.length (w, l, f0, d - 1)) 153 19 (nI (xs.length + 1))).1 a j = S.1 a j := fun a j h3 h4 => (if_neg h4).trans (pf_keep (by omega))
        obtain ⟨y, z, S', e1, e2, e3, e4, e5⟩ := ih (d + 1) f none (wr (pf S 162 xs.length (w, l, f0, d - 1)) 153 19 (nI (xs.length + 1))) (xs ++ [(w, l, f0, d - 1)]) (by omega) (by omega) (fun f h => by cases h) ((funext fun j => hk 154 j (by omega) (by omega)).trans hr) (fun a ha => (hk _ _ (by omega) (by omega)).trans (hS a ha)) (hH.push.keep (fun a j h3 h4 => wr_k _ _ (by omega))) (by rw [List.length_append]; exact wr_s _ _ _ _) (by rw [List.length_append]; show _ + 1 + _ ≤ _; omega)
        refine ⟨y, z, S', ?_, e2, fun a j h3 h4 => (e3 a j h3 h4).trans (hk a j h3 h4), ?_, ?_⟩
        · rw [lp_X11_addFlares_5, hr, hrD]
          by_cases hdD : d < D
          · have hSd := hS d hdD
            have hlt : lev d < l := by omega
            simp (disch := omega) only [nI_add, nI_1, nI_leI, nI_ltI, nI_eq, inb_nI, nI_clamp, if_pos, if_neg, if_true, if_false, bnd, l_0, l_1, l_2, l_3, l_4, l_5, l_6, l_7, l_8, l_9, l_10, l_11, l_12, l_13, l_14, l_15, l_16, l_17, l_18, l_19, l_20, l_21, l_22, l_23, l_24, l_25, l_26, l_27, l_28, l_29, l_30, l_31, l_32, l_33, l_34, l_35, l_36, l_37, l_38, l_39, l_40, l_41, l_42, l_43, l_44, l_45, l_46, l_47, l_48, l_49, l_50, l_51, l_52, l_53, l_54, l_55, l_56, l_57, l_58, l_59, l_60, l_61, l_62, l_63, l_64, l_65, l_66, l_67, l_68, l_69, l_70, l_71, l_72, l_73, l_74, l_75, l_76, l_77, l_78, l_79, l_80, l_81, l_82, l_83, l_84, l_85, l_86, l_87, l_88, l_89, l_90, l_91, l_92, l_93, l_94, l_95, l_96, l_97, l_98, l_99, l_100, l_123, l_144, l_160, l_255, l_256, l_1000, l_1462, l_1634, l_65536, hSd, hn, wr_k, pk_sub]
            exact e1
          · simp (disch := omega) only [nI_add, nI_1, nI_leI, nI_ltI, nI_eq, inb_nI, nI_clamp, if_pos, if_neg, if_true, if_false, bnd, l_0, l_1, l_2, l_3, l_4, l_5, l_6, l_7, l_8, l_9, l_10, l_11, l_12, l_13, l_14, l_15, l_16, l_17, l_18, l_19, l_20, l_21, l_22, l_23, l_24, l_25, l_26, l_27, l_28, l_29, l_30, l_31, l_32, l_33, l_34, l_35, l_36, l_37, l_38, l_39, l_40, l_41, l_42, l_43, l_44, l_45, l_46, l_47, l_48, l_49, l_50, l_51, l_52, l_53, l_54, l_55, l_56, l_57, l_58, l_59, l_60, l_61, l_62, l_63, l_64, l_65, l_66, l_67, l_68, l_69, l_70, l_71, l_72, l_73, l_74, l_75, l_76, l_77, l_78, l_79, l_80, l_81, l_82, l_83, l_84, l_85, l_86, l_87, l_88, l_89, l_90, l_91, l_92, l_93, l_94, l_95, l_96, l_97, l_98, l_99, l_100, l_123, l_144, l_160, l_255, l_256, l_1000, l_1462, l_1634, l_65536, hn, wr_k, pk_sub]
            exact e1
        · rw [List.map_cons, ← List.singleton_append, ← List.append_assoc]; exact e4
        · rw [e5]
          simp only [List.length_append, List.length_cons, List.length_nil]
          congr 1
          omega
theorem m_add {S : Mm} {r : Nat → Int32} {lev : Nat → Nat} {w l D : Nat} {xs : List Fq} (hD : D ≤ 12) (hrD : r 0 = nI D) (hl : l ≤ 3) (hlev : ∀ d, lev d ≤ 3) (hr : S.1 154 = r) (hS : ∀ a, a < D → S.1 161 a = nI (lev a)) (hH : Hf S 162 xs) (hn : S.1 153 19 = nI xs.length) (hb : xs.length + (sc lev l D (D + 1) 0 none).length ≤ 144) : ∃ S', f_X11_addFlares S (nI w) (nI l) = some S' ∧ S'.2 = S.2 ∧ (∀ a j, ¬ (162 ≤ a ∧ a < 166) → ¬ (a = 153 ∧ j = 19) → S'.1 a j = S.1 a j) ∧ Hf S' 162 (xs ++ (sc lev l D (D + 1) 0 none).map (fun p => (w, l, p.1, p.2))) ∧ S'.1 153 19 = nI (xs.length + (sc lev l D (D + 1) 0 none).length) := by
  obtain ⟨F, hFu⟩ : ∃ F : Nat, 100000 = F := ⟨_, rfl⟩
  obtain ⟨y, z, S', e1, e2⟩ := m_at (w := w) (k := fun _ _ S => some S) hD hrD hl hlev (D + 1) 0 F none S xs (by omega) (by omega) (fun f h => by cases h) hr hS hH hn hb
  refine ⟨S', ?_, e2⟩
  unfold f_X11_addFlares
  rw [hFu, l_0]
  exact e1
theorem m_lvls {r : Nat → Int32} {lev : Nat → Nat} {w D L : Nat} {k : Int32 → Mm → Option Mm} (hD : D ≤ 12) (hrD : r 0 = nI D) (hL : L ≤ 3) (hrL : r 2 = nI L) (hlev : ∀ d, lev d ≤ 3) : ∀ (m l fuel : Nat) (S : Mm) (xs : List Fq), l + m = L + 1 → m < fuel → S.1 154 = r → (∀ a, a < D → S.1 161 a = nI (lev a)) → Hf S 162 xs → S.1 153 19 = nI xs.length → xs.length + (flL lev w D m l).length ≤ 144 → ∃ S', lp_X11_layFlares_20 k (nI w) fuel (nI l) S = k (nI (L + 1)) S' ∧ S'.2 = S.2 ∧ (∀ a j, ¬ (162 ≤ a ∧ a < 166) → ¬ (a = 153 ∧ j = 19) → S'.1 a j = S.1 a j) ∧ Hf S' 162 (xs ++ flL lev w D m l) ∧ S'.1 153 19 = nI (xs.length + (flL lev w D m l).length) := by
  intro m
  induction m with
  | zero =>
    intro l fuel S xs h1 h2 hr hS hH hn hb
    obtain ⟨f, rfl⟩ : ∃ f, fuel = f + 1 := ⟨fuel - 1, by omega⟩
    refine ⟨S, ?_, rfl, fun _ _ _ _ => rfl, by rw [flL, List.append_nil]; exact hH, by rw [flL]; exact hn⟩
    rw [lp_X11_layFlares_20, hr, hrL, if_pos (nI_lt (by omega) (by omega)), show l = L + 1 by omega]
  | succ m ih =>
    intro l fuel S xs h1 h2 hr hS hH hn hb
    obtain ⟨f, rfl⟩ : ∃ f, fuel = f + 1 := ⟨fuel - 1, by omega⟩
    rw [flL] at hb ⊢
    rw [List.length_append, List.length_map] at hb
    obtain ⟨S1, a1, a2, a3, a4, a5⟩ := m_add (w := w) (l := l) hD hrD (by omega) hlev hr hS hH hn (by omega)
    obtain ⟨S2, b1, b2, b3, b4, b5⟩ := ih (l + 1) f S1 _ (by omega) (by omega) ((funext fun j => a3 154 j (by omega) (by omega)).trans hr) (fun a ha => (a3 _ _ (by omega) (by omega)).trans (hS a ha)) a4 (by rw [a5, List.length_append, List.length_map]) (by rw [List.length_append, List.length_map]; omega)
    refine ⟨S2, ?_, b2.trans a2, fun a j h3 h4 => (b3 a j h3 h4).trans (a3 a j h3 h4), ?_, ?_⟩
    · rw [lp_X11_layFlares_20, hr, hrL, if_neg (nI_nlt (by omega) (by omega)), a1, Option.bind_some, nI_1, b1]
    · rw [← List.append_assoc]; exact b4
    · rw [b5]
      simp only [List.length_append, List.length_map]
      congr 1
      omega
theorem m_wrds {r : Nat → Int32} {n D L : Nat} {k : Int32 → Mm → Option Mm} (hn1 : r 1 = nI n) (h40 : n ≤ 40) (h0 : 1 ≤ D) (hD : D ≤ 12) (hrD : r 0 = nI D) (hL : L ≤ 3) (hrL : r 2 = nI L) : ∀ (m w fuel : Nat) (S : Mm) (xs : List Fq), w + m = 8 → m < fuel → S.1 154 = r → Hf S 162 xs → S.1 153 19 = nI xs.length → xs.length + (flW r D L m w).length ≤ 144 → ∃ S', lp_X11_layFlares_7 k fuel (nI w) S = k (nI 8) S' ∧ S'.2 = S.2 ∧ (∀ a j, ¬ (160 ≤ a ∧ a < 166) → ¬ (a = 153 ∧ j = 19) → S'.1 a j = S.1 a j) ∧ Hf S' 162 (xs ++ flW r D L m w) ∧ S'.1 153 19 = nI (xs.length + (flW r D L m w).length) := by
  intro m
  induction m with
  | zero =>
    intro w fuel S xs h1 h2 hr hH hn hb
    obtain ⟨f, rfl⟩ : ∃ f, fuel = f + 1 := ⟨fuel - 1, by omega⟩
    refine ⟨S, ?_, rfl, fun _ _ _ _ => rfl, by rw [flW, List.append_nil]; exact hH, by rw [flW]; exact hn⟩
    rw [lp_X11_layFlares_7, show w = 8 by omega]
    simp (disch := omega) only [nI_add, nI_1, nI_leI, nI_ltI, nI_eq, inb_nI, nI_clamp, if_pos, if_neg, if_true, if_false, bnd, l_0, l_1, l_2, l_3, l_4, l_5, l_6, l_7, l_8, l_9, l_10, l_11, l_12, l_13, l_14, l_15, l_16, l_17, l_18, l_19, l_20, l_21, l_22, l_23, l_24, l_25, l_26, l_27, l_28, l_29, l_30, l_31, l_32, l_33, l_34, l_35, l_36, l_37, l_38, l_39, l_40, l_41, l_42, l_43, l_44, l_45, l_46, l_47, l_48, l_49, l_50, l_51, l_52, l_53, l_54, l_55, l_56, l_57, l_58, l_59, l_60, l_61, l_62, l_63, l_64, l_65, l_66, l_67, l_68, l_69, l_70, l_71, l_72, l_73, l_74, l_75, l_76, l_77, l_78, l_79, l_80, l_81, l_82, l_83, l_84, l_85, l_86, l_87, l_88, l_89, l_90, l_91, l_92, l_93, l_94, l_95, l_96, l_97, l_98, l_99, l_100, l_123, l_144, l_160, l_255, l_256, l_1000, l_1462, l_1634, l_65536]
  | succ m ih =>
    intro w fuel S xs h1 h2 hr hH hn hb
    obtain ⟨f, rfl⟩ : ∃ f, fuel = f + 1 := ⟨fuel - 1, by omega⟩
    obtain ⟨F, hFu⟩ : ∃ F : Nat, 100000 = F := ⟨_, rfl⟩
    rw [flW] at hb ⊢
    rw [List.length_append] at hb
    obtain ⟨Sa, c1, c2, c3, c4, -⟩ := m_lay (w := w) hr hn1 h40 h0 hD hrD hL hrL
    obtain ⟨S1, a1, a2, a3, a4, a5⟩ := m_lvls (w := w) (k := fun _ S6 => lp_X11_layFlares_7 k f (nI w + 1) S6) hD hrD hL hrL (fun d => Nat.le_trans (lv_le r w D L d) hL) L 1 F Sa xs (by omega) (by omega) ((funext fun j => c3 154 j (by omega) (by omega)).trans hr) c4 (hH.keep (fun a j h3 h4 => c3 a j (by omega) (by omega))) ((c3 153 19 (by omega) (by omega)).trans hn) (by omega)
    have kk : ∀ a j, ¬ (160 ≤ a ∧ a < 166) → ¬ (a = 153 ∧ j = 19) → S1.1 a j = S.1 a j := fun a j h3 h4 => (a3 a j (by omega) h4).trans (c3 a j (by omega) (by omega))
    obtain ⟨S2, b1, b2, b3, b4, b5⟩ := ih (w + 1) f S1 _ (by omega) (by omega) ((funext fun j => kk 154 j (by omega) (by omega)).trans hr) a4 (by rw [a5, List.length_append]) (by rw [List.length_append]; omega)
    refine ⟨S2, ?_, b2.trans (a2.trans c2), fun a j h3 h4 => (b3 a j h3 h4).trans (kk a j h3 h4), ?_, ?_⟩
    · rw [lp_X11_layFlares_7, if_neg (show ¬ (8 : Int32) ≤ nI w from nI_ge (show w < 8 by omega) (by decide)), hFu, c1, Option.bind_some]
      refine Eq.trans (show _ = lp_X11_layFlares_20 (fun _ S6 => lp_X11_layFlares_7 k f (nI w + 1) S6) (nI w) F (nI 1) Sa from rfl) ?_
      rw [a1, nI_1, b1]
    · rw [← List.append_assoc]; exact b4
    · rw [b5]
      simp only [List.length_append]
      congr 1
      omega
/-- the reference's scratch: what its questions may change -/
def MS (S S' : Mm) : Prop := S'.2 = S.2 ∧ ∀ k j, k < 160 → ¬ (k = 153 ∧ (j = 19 ∨ j = 20 ∨ j = 23)) → S'.1 k j = S.1 k j
theorem MS.rf (S : Mm) : MS S S := ⟨rfl, fun _ _ _ _ => rfl⟩
theorem MS.tr {S S1 S2 : Mm} (h1 : MS S S1) (h2 : MS S1 S2) : MS S S2 := ⟨h2.1.trans h1.1, fun k j h h' => (h2.2 k j h h').trans (h1.2 k j h h')⟩
theorem m_flares {S : Mm} {r : Nat → Int32} {n D L : Nat} (hr : S.1 154 = r) (hn1 : r 1 = nI n) (h40 : n ≤ 40) (h0 : 1 ≤ D) (hD : D ≤ 12) (hrD : r 0 = nI D) (hL : L ≤ 3) (hrL : r 2 = nI L) : ∃ S', f_X11_layFlares S = some S' ∧ MS S S' ∧ Hf S' 162 (fl r D L) ∧ S'.1 153 19 = nI (fl r D L).length := by
  obtain ⟨F, hFu⟩ : ∃ F : Nat, 100000 = F := ⟨_, rfl⟩
  have h144 := fl_len (r := r) hD hL
  have k0 : ∀ a j, ¬ (a = 153 ∧ j = 19) → (wr S 153 19 (nI 0)).1 a j = S.1 a j := fun a j h => if_neg h
  obtain ⟨S1, a1, a2, a3, a4, a5⟩ := m_wrds (k := fun _ S9 => some S9) hn1 h40 h0 hD hrD hL hrL 8 0 F (wr S 153 19 (nI 0)) [] (by omega) (by omega) ((funext fun j => k0 154 j (by omega)).trans hr) (fun i q h => by simp at h) (wr_s _ _ _ _) (by rw [List.length_nil, Nat.zero_add]; exact h144)
  rw [List.nil_append] at a4
  rw [List.length_nil, Nat.zero_add] at a5
  refine ⟨S1, ?_, ⟨a2, fun k j h1 h2 => ?_⟩, a4, a5⟩
  · unfold f_X11_layFlares
    rw [hFu]
    simp only [l_0]
    rw [a1]
  · rw [a3 k j (by omega) (by omega), k0 k j (by omega)]
