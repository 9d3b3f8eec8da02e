/-! ===== how unlikely: the tally's cells, and what the reference reckons ===== -/
def bit (w : Nat) : Int32 := 1 <<< (nI w &&& 31)
def us (r : Nat → Int32) (w d : Nat) : Int32 := if r 1 = 0 then 0 else (nI (cO r 0 d) * nI (cA r (bit w))) / r 1
def wan (r : Nat → Int32) (w d l : Nat) : Int32 := us r w d + nI l * r 4
def ab (x : Int32) : Int32 := if 0 ≤ x then x else 0 - x
def unl (r : Nat → Int32) (w d l : Nat) : Int32 := r 3 * ab (nI (cO r (bit w) d) - wan r w d l)
def FT (S : Mm) (r : Nat → Int32) : Prop := (S.1 6 3 = r 0 ∧ S.1 6 4 = r 2 ∧ S.1 6 5 = r 3 ∧ S.1 6 6 = r 4 ∧ S.1 6 7 = r 5) ∧ (∀ d, d < 12 → S.1 7 d = nI (cO r 0 d)) ∧ (∀ w d, w < 8 → d < 12 → S.1 (9 + w) d = nI (cO r (bit w) d)) ∧ (∀ w d, w < 8 → d < 12 → S.1 (18 + w) d = us r w d)
theorem isWord_y {S : Mm} {w : Nat} (hw : w < 8) : f_X10_isWord S (nI w) = some 1 := by
  unfold f_X10_isWord
  simp (disch := omega) only [nI_add, nI_1, nI_leI, nI_ltI, nI_eq, inb_nI, nI_clamp, if_pos, if_neg, if_true, if_false, bnd, l_0, l_1, l_2, l_3, l_4, l_5, l_6, l_7, l_8, l_9, l_10, l_11, l_12, l_13, l_14, l_15, l_16, l_17, l_18, l_19, l_20, l_21, l_22, l_23, l_24, l_25, l_26, l_27, l_28, l_29, l_30, l_31, l_32, l_33, l_34, l_35, l_36, l_37, l_38, l_39, l_40, l_41, l_42, l_43, l_44, l_45, l_46, l_47, l_48, l_49, l_50, l_51, l_52, l_53, l_54, l_55, l_56, l_57, l_58, l_59, l_60, l_61, l_62, l_63, l_64, l_65, l_66, l_67, l_68, l_69, l_70, l_71, l_72, l_73, l_74, l_75, l_76, l_77, l_78, l_79, l_80, l_81, l_82, l_83, l_84, l_85, l_86, l_87, l_88, l_89, l_90, l_91, l_92, l_93, l_94, l_95, l_96, l_97, l_98, l_99, l_100, l_123, l_144, l_160, l_255, l_256, l_1000, l_1462, l_1634, l_65536]
theorem isDay_y {S : Mm} {d : Nat} (hd : d < 12) : f_X8_isDay S (nI d) = some 1 := by
  unfold f_X8_isDay
  simp (disch := omega) only [nI_add, nI_1, nI_leI, nI_ltI, nI_eq, inb_nI, nI_clamp, if_pos, if_neg, if_true, if_false, bnd, l_0, l_1, l_2, l_3, l_4, l_5, l_6, l_7, l_8, l_9, l_10, l_11, l_12, l_13, l_14, l_15, l_16, l_17, l_18, l_19, l_20, l_21, l_22, l_23, l_24, l_25, l_26, l_27, l_28, l_29, l_30, l_31, l_32, l_33, l_34, l_35, l_36, l_37, l_38, l_39, l_40, l_41, l_42, l_43, l_44, l_45, l_46, l_47, l_48, l_49, l_50, l_51, l_52, l_53, l_54, l_55, l_56, l_57, l_58, l_59, l_60, l_61, l_62, l_63, l_64, l_65, l_66, l_67, l_68, l_69, l_70, l_71, l_72, l_73, l_74, l_75, l_76, l_77, l_78, l_79, l_80, l_81, l_82, l_83, l_84, l_85, l_86, l_87, l_88, l_89, l_90, l_91, l_92, l_93, l_94, l_95, l_96, l_97, l_98, l_99, l_100, l_123, l_144, l_160, l_255, l_256, l_1000, l_1462, l_1634, l_65536]
theorem set_y {S : Mm} {w : Nat} : f_X10_setOfWord S (nI w) = some (bit w) := rfl
theorem x_count {S : Mm} {r : Nat → Int32} {w d : Nat} (h : FT S r) (hw : w < 8) (hd : d < 12) : f_X8_count S (nI w) (nI d) = some (nI (cO r (bit w) d)) := by
  unfold f_X8_count
  rw [isWord_y hw, isDay_y hd]
  simp (disch := omega) only [nI_add, nI_1, nI_leI, nI_ltI, nI_eq, inb_nI, nI_clamp, if_pos, if_neg, if_true, if_false, bnd, l_0, l_1, l_2, l_3, l_4, l_5, l_6, l_7, l_8, l_9, l_10, l_11, l_12, l_13, l_14, l_15, l_16, l_17, l_18, l_19, l_20, l_21, l_22, l_23, l_24, l_25, l_26, l_27, l_28, l_29, l_30, l_31, l_32, l_33, l_34, l_35, l_36, l_37, l_38, l_39, l_40, l_41, l_42, l_43, l_44, l_45, l_46, l_47, l_48, l_49, l_50, l_51, l_52, l_53, l_54, l_55, l_56, l_57, l_58, l_59, l_60, l_61, l_62, l_63, l_64, l_65, l_66, l_67, l_68, l_69, l_70, l_71, l_72, l_73, l_74, l_75, l_76, l_77, l_78, l_79, l_80, l_81, l_82, l_83, l_84, l_85, l_86, l_87, l_88, l_89, l_90, l_91, l_92, l_93, l_94, l_95, l_96, l_97, l_98, l_99, l_100, l_123, l_144, l_160, l_255, l_256, l_1000, l_1462, l_1634, l_65536]
  rw [h.2.2.1 w d hw hd]
theorem x_wanted {S : Mm} {r : Nat → Int32} {w d l : Nat} (h : FT S r) (hw : w < 8) (hd : d < 12) : f_X8_wanted S (nI w) (nI d) (nI l) = some (wan r w d l) := by
  unfold f_X8_wanted
  rw [isWord_y hw, isDay_y hd]
  simp (disch := omega) only [nI_add, nI_1, nI_leI, nI_ltI, nI_eq, inb_nI, nI_clamp, if_pos, if_neg, if_true, if_false, bnd, l_0, l_1, l_2, l_3, l_4, l_5, l_6, l_7, l_8, l_9, l_10, l_11, l_12, l_13, l_14, l_15, l_16, l_17, l_18, l_19, l_20, l_21, l_22, l_23, l_24, l_25, l_26, l_27, l_28, l_29, l_30, l_31, l_32, l_33, l_34, l_35, l_36, l_37, l_38, l_39, l_40, l_41, l_42, l_43, l_44, l_45, l_46, l_47, l_48, l_49, l_50, l_51, l_52, l_53, l_54, l_55, l_56, l_57, l_58, l_59, l_60, l_61, l_62, l_63, l_64, l_65, l_66, l_67, l_68, l_69, l_70, l_71, l_72, l_73, l_74, l_75, l_76, l_77, l_78, l_79, l_80, l_81, l_82, l_83, l_84, l_85, l_86, l_87, l_88, l_89, l_90, l_91, l_92, l_93, l_94, l_95, l_96, l_97, l_98, l_99, l_100, l_123, l_144, l_160, l_255, l_256, l_1000, l_1462, l_1634, l_65536]
  rw [h.2.2.2 w d hw hd, h.1.2.2.2.1]
  rfl
theorem x_unl {S : Mm} {r : Nat → Int32} {w d l : Nat} (h : FT S r) (hw : w < 8) (hd : d < 12) : f_X8_unlikely S (nI w) (nI d) (nI l) = some (unl r w d l) := by
  unfold f_X8_unlikely
  rw [x_count h hw hd, x_wanted h hw hd, Option.bind_some, Option.bind_some, h.1.2.2.1]
  rfl
theorem x_ofall {S : Mm} {r : Nat → Int32} {d : Nat} (h : FT S r) (hd : d < 12) : f_X8_all S (nI d) = some (nI (cO r 0 d)) := by
  unfold f_X8_all
  rw [isDay_y hd]
  simp (disch := omega) only [nI_add, nI_1, nI_leI, nI_ltI, nI_eq, inb_nI, nI_clamp, if_pos, if_neg, if_true, if_false, bnd, l_0, l_1, l_2, l_3, l_4, l_5, l_6, l_7, l_8, l_9, l_10, l_11, l_12, l_13, l_14, l_15, l_16, l_17, l_18, l_19, l_20, l_21, l_22, l_23, l_24, l_25, l_26, l_27, l_28, l_29, l_30, l_31, l_32, l_33, l_34, l_35, l_36, l_37, l_38, l_39, l_40, l_41, l_42, l_43, l_44, l_45, l_46, l_47, l_48, l_49, l_50, l_51, l_52, l_53, l_54, l_55, l_56, l_57, l_58, l_59, l_60, l_61, l_62, l_63, l_64, l_65, l_66, l_67, l_68, l_69, l_70, l_71, l_72, l_73, l_74, l_75, l_76, l_77, l_78, l_79, l_80, l_81, l_82, l_83, l_84, l_85, l_86, l_87, l_88, l_89, l_90, l_91, l_92, l_93, l_94, l_95, l_96, l_97, l_98, l_99, l_100, l_123, l_144, l_160, l_255, l_256, l_1000, l_1462, l_1634, l_65536]
  rw [h.2.1 d hd]
  rfl
theorem x_rise {S : Mm} {r : Nat → Int32} {a b : Nat} (h : FT S r) (ha : a < 2 ^ 31) (hb : b < 2 ^ 31) : f_X8_costOfRise S (nI a) (nI b) = some (r 5 * nI (b - a)) := by
  unfold f_X8_costOfRise
  by_cases hab : b ≤ a
  · simp (disch := omega) only [nI_add, nI_1, nI_leI, nI_ltI, nI_eq, inb_nI, nI_clamp, if_pos, if_neg, if_true, if_false, bnd, l_0, l_1, l_2, l_3, l_4, l_5, l_6, l_7, l_8, l_9, l_10, l_11, l_12, l_13, l_14, l_15, l_16, l_17, l_18, l_19, l_20, l_21, l_22, l_23, l_24, l_25, l_26, l_27, l_28, l_29, l_30, l_31, l_32, l_33, l_34, l_35, l_36, l_37, l_38, l_39, l_40, l_41, l_42, l_43, l_44, l_45, l_46, l_47, l_48, l_49, l_50, l_51, l_52, l_53, l_54, l_55, l_56, l_57, l_58, l_59, l_60, l_61, l_62, l_63, l_64, l_65, l_66, l_67, l_68, l_69, l_70, l_71, l_72, l_73, l_74, l_75, l_76, l_77, l_78, l_79, l_80, l_81, l_82, l_83, l_84, l_85, l_86, l_87, l_88, l_89, l_90, l_91, l_92, l_93, l_94, l_95, l_96, l_97, l_98, l_99, l_100, l_123, l_144, l_160, l_255, l_256, l_1000, l_1462, l_1634, l_65536]
    rw [show b - a = 0 by omega]
    exact congrArg some Int32.mul_zero.symm
  · simp (disch := omega) only [nI_add, nI_1, nI_leI, nI_ltI, nI_eq, inb_nI, nI_clamp, if_pos, if_neg, if_true, if_false, bnd, l_0, l_1, l_2, l_3, l_4, l_5, l_6, l_7, l_8, l_9, l_10, l_11, l_12, l_13, l_14, l_15, l_16, l_17, l_18, l_19, l_20, l_21, l_22, l_23, l_24, l_25, l_26, l_27, l_28, l_29, l_30, l_31, l_32, l_33, l_34, l_35, l_36, l_37, l_38, l_39, l_40, l_41, l_42, l_43, l_44, l_45, l_46, l_47, l_48, l_49, l_50, l_51, l_52, l_53, l_54, l_55, l_56, l_57, l_58, l_59, l_60, l_61, l_62, l_63, l_64, l_65, l_66, l_67, l_68, l_69, l_70, l_71, l_72, l_73, l_74, l_75, l_76, l_77, l_78, l_79, l_80, l_81, l_82, l_83, l_84, l_85, l_86, l_87, l_88, l_89, l_90, l_91, l_92, l_93, l_94, l_95, l_96, l_97, l_98, l_99, l_100, l_123, l_144, l_160, l_255, l_256, l_1000, l_1462, l_1634, l_65536, pk_sub]
    rw [h.1.2.2.2.2]
theorem x_steady_loop {S : Mm} {r : Nat → Int32} {w l D : Nat} {k : Int32 → Int32 → Option Int32} (h : FT S r) (hw : w < 8) (hD : r 0 = nI D) (h12 : D ≤ 12) : ∀ (m i fuel : Nat) (a : Int32), i + m = D → m < fuel → lp_X8_costOfSteady_10 k S (nI w) (nI l) fuel a (nI i) = k (Nat.rec a (fun q x => x + unl r w (i + q) l) m) (nI D) := by
  intro m
  induction m with
  | zero =>
    intro i fuel a h1 h2
    obtain ⟨f, rfl⟩ : ∃ f, fuel = f + 1 := ⟨fuel - 1, by omega⟩
    rw [lp_X8_costOfSteady_10, h.1.1, hD, show i = D by omega]
    simp (disch := omega) only [nI_add, nI_1, nI_leI, nI_ltI, nI_eq, inb_nI, nI_clamp, if_pos, if_neg, if_true, if_false, bnd]
    rfl
  | succ m ih =>
    intro i fuel a h1 h2
    obtain ⟨f, rfl⟩ : ∃ f, fuel = f + 1 := ⟨fuel - 1, by omega⟩
    rw [lp_X8_costOfSteady_10, h.1.1, hD, x_unl h hw (by omega)]
    simp (disch := omega) only [nI_add, nI_1, nI_leI, nI_ltI, nI_eq, inb_nI, nI_clamp, if_pos, if_neg, if_true, if_false, bnd]
    rw [ih (i + 1) f _ (by omega) (by omega)]
    congr 1
    clear ih h1 h2
    induction m with
    | zero => rfl
    | succ m ihm =>
      show _ + unl r w (i + 1 + m) l = _ + unl r w (i + (m + 1)) l
      rw [ihm, show i + 1 + m = i + (m + 1) by omega]
/-- what all days would cost at one level -/
def std (r : Nat → Int32) (w l D : Nat) : Int32 := Nat.rec (r 5 * nI l) (fun q x => x + unl r w q l) D
theorem x_steady {S : Mm} {r : Nat → Int32} {w l D : Nat} (h : FT S r) (hw : w < 8) (hl : l < 2 ^ 31) (hD : r 0 = nI D) (h12 : D ≤ 12) : f_X8_costOfSteady S (nI w) (nI l) = some (std r w l D) := by
  unfold f_X8_costOfSteady
  rw [l_0, x_rise h (by omega) hl, Option.bind_some, x_steady_loop h hw hD h12 D 0 100000 _ (by omega) (by omega)]
  simp only [std, Nat.sub_zero, Nat.zero_add]
/-! the reference -/
theorem m_wanted {S : Mm} {n w d l : Nat} (hn : S.1 154 1 = nI n) (h40 : n ≤ 40) (hd : d < 2 ^ 31) : f_X11_wanted S (nI w) (nI d) (nI l) = some (wan (S.1 154) w d l) := by
  unfold f_X11_wanted wan us
  by_cases h0 : S.1 154 1 = 0
  · rw [if_pos h0, if_pos h0]
  · rw [if_neg h0, if_neg h0, m_on hn h40 hd, show (1 : Int32) <<< (nI w &&& 31) = bit w from rfl, m_all hn h40, Option.bind_some, Option.bind_some, if_pos h0]
theorem m_unl {S : Mm} {n w d l : Nat} (hn : S.1 154 1 = nI n) (h40 : n ≤ 40) (hd : d < 2 ^ 31) : f_X11_unlikely S (nI w) (nI d) (nI l) = some (unl (S.1 154) w d l) := by
  unfold f_X11_unlikely
  rw [show (1 : Int32) <<< (nI w &&& 31) = bit w from rfl, m_on hn h40 hd, m_wanted hn h40 hd, Option.bind_some, Option.bind_some]
  unfold unl ab
  generalize nI (cO (S.1 154) (bit w) d) - wan (S.1 154) w d l = x
  by_cases hx : 0 ≤ x
  · rw [if_pos hx, if_pos hx]
  · rw [if_neg hx, if_neg hx, Int32.zero_sub]
/-! the tally is laid -/
/-- nothing of x but what is found has changed -/
def Fr (S S' : Mm) : Prop := S'.2 = S.2 ∧ ∀ k j, (k < 5 ∧ ¬ (k = 0 ∧ j = 8)) ∨ 68 ≤ k → S'.1 k j = S.1 k j
theorem Fr.rf (S : Mm) : Fr S S := ⟨rfl, fun _ _ _ => rfl⟩
theorem Fr.tr {S S1 S2 : Mm} (h1 : Fr S S1) (h2 : Fr S1 S2) : Fr S S2 := ⟨h2.1.trans h1.1, fun k j h => (h2.2 k j h).trans (h1.2 k j h)⟩
theorem Fr.row {S S1 : Mm} {r : Nat → Int32} (h1 : Fr S S1) (h : Row S 1 r) : Row S1 1 r := by
  obtain ⟨a, b, c, d, e⟩ := h
  refine ⟨(h1.2 1 3 (by omega)).trans a, (h1.2 1 4 (by omega)).trans b, fun j hj => (h1.2 2 j (by omega)).trans (c j hj), fun j hj => (h1.2 3 j (by omega)).trans (d j hj), fun j hj => (h1.2 4 j (by omega)).trans (e j hj)⟩
theorem t_days {r : Nat → Int32} {n : Nat} {k : Int32 → Mm → Option Mm} (hn : r 1 = nI n) (h40 : n ≤ 40) : ∀ (m i fuel : Nat) (S : Mm), i + m = 12 → m < fuel → Row S 1 r → ∃ S', lp_X8_countAll_42 k fuel (nI i) S = k (nI 12) S' ∧ S'.2 = S.2 ∧ (∀ a j, a ≠ 7 → S'.1 a j = S.1 a j) ∧ (∀ j, j < i → S'.1 7 j = S.1 7 j) ∧ ∀ j, i ≤ j → j < 12 → S'.1 7 j = nI (cO r 0 j) := by
  intro m
  induction m with
  | zero =>
    intro i fuel S h1 h2 hR
    obtain ⟨f, rfl⟩ : ∃ f, fuel = f + 1 := ⟨fuel - 1, by omega⟩
    refine ⟨S, ?_, rfl, fun _ _ _ => rfl, fun _ _ => rfl, fun j h3 h4 => absurd h4 (by omega)⟩
    rw [lp_X8_countAll_42, show i = 12 by omega]
    simp (disch := omega) only [nI_add, nI_1, nI_leI, nI_ltI, nI_eq, inb_nI, nI_clamp, if_pos, if_neg, if_true, if_false, bnd, l_0, l_1, l_2, l_3, l_4, l_5, l_6, l_7, l_8, l_9, l_10, l_11, l_12, l_13, l_14, l_15, l_16, l_17, l_18, l_19, l_20, l_21, l_22, l_23, l_24, l_25, l_26, l_27, l_28, l_29, l_30, l_31, l_32, l_33, l_34, l_35, l_36, l_37, l_38, l_39, l_40, l_41, l_42, l_43, l_44, l_45, l_46, l_47, l_48, l_49, l_50, l_51, l_52, l_53, l_54, l_55, l_56, l_57, l_58, l_59, l_60, l_61, l_62, l_63, l_64, l_65, l_66, l_67, l_68, l_69, l_70, l_71, l_72, l_73, l_74, l_75, l_76, l_77, l_78, l_79, l_80, l_81, l_82, l_83, l_84, l_85, l_86, l_87, l_88, l_89, l_90, l_91, l_92, l_93, l_94, l_95, l_96, l_97, l_98, l_99, l_100, l_123, l_144, l_160, l_255, l_256, l_1000, l_1462, l_1634, l_65536]
  | succ m ih =>
    intro i fuel S h1 h2 hR
    obtain ⟨f, rfl⟩ : ∃ f, fuel = f + 1 := ⟨fuel - 1, by omega⟩
    have hR' : Row (wr S 7 i (nI (cO r 0 i))) 1 r := by
      obtain ⟨a, b, c, d, e⟩ := hR
      exact ⟨(wr_k _ _ (by omega)).trans a, (wr_k _ _ (by omega)).trans b, fun j hj => (wr_k _ _ (by omega)).trans (c j hj), fun j hj => (wr_k _ _ (by omega)).trans (d j hj), fun j hj => (wr_k _ _ (by omega)).trans (e j hj)⟩
    obtain ⟨S', e1, e2, e3, e4, e5⟩ := ih (i + 1) f (wr S 7 i (nI (cO r 0 i))) (by omega) (by omega) hR'
    refine ⟨S', ?_, e2, fun a j ha => (e3 a j ha).trans (wr_k _ _ ha), fun j hj => (e4 j (by omega)).trans (wr_j _ _ (by omega)), fun j h3 h4 => ?_⟩
    · rw [lp_X8_countAll_42, x_on hR hn h40]
      rw [← e1]
      simp (disch := omega) only [nI_add, nI_1, nI_leI, nI_ltI, nI_eq, inb_nI, nI_clamp, if_pos, if_neg, if_true, if_false, bnd, l_0, l_1, l_2, l_3, l_4, l_5, l_6, l_7, l_8, l_9, l_10, l_11, l_12, l_13, l_14, l_15, l_16, l_17, l_18, l_19, l_20, l_21, l_22, l_23, l_24, l_25, l_26, l_27, l_28, l_29, l_30, l_31, l_32, l_33, l_34, l_35, l_36, l_37, l_38, l_39, l_40, l_41, l_42, l_43, l_44, l_45, l_46, l_47, l_48, l_49, l_50, l_51, l_52, l_53, l_54, l_55, l_56, l_57, l_58, l_59, l_60, l_61, l_62, l_63, l_64, l_65, l_66, l_67, l_68, l_69, l_70, l_71, l_72, l_73, l_74, l_75, l_76, l_77, l_78, l_79, l_80, l_81, l_82, l_83, l_84, l_85, l_86, l_87, l_88, l_89, l_90, l_91, l_92, l_93, l_94, l_95, l_96, l_97, l_98, l_99, l_100, l_123, l_144, l_160, l_255, l_256, l_1000, l_1462, l_1634, l_65536]
    · by_cases hj : j = i
      · subst hj
        exact (e4 j (by omega)).trans (wr_s _ _ _ _)
      · exact e5 j (by omega) h4
theorem Row.keep {S S1 : Mm} {r : Nat → Int32} (h : Row S 1 r) (hk : ∀ a j, a < 5 → S1.1 a j = S.1 a j) : Row S1 1 r := by
  obtain ⟨a, b, c, d, e⟩ := h
  exact ⟨(hk _ _ (by omega)).trans a, (hk _ _ (by omega)).trans b, fun j hj => (hk _ _ (by omega)).trans (c j hj), fun j hj => (hk _ _ (by omega)).trans (d j hj), fun j hj => (hk _ _ (by omega)).trans (e j hj)⟩
theorem us_nz {r : Nat → Int32} {n : Nat} (hn : r 1 = nI n) (h40 : n ≤ 40) (w d : Nat) : us r w d = if n = 0 then 0 else (nI (cO r 0 d) * nI (cA r (bit w))) / nI n := by
  unfold us
  rw [hn]
  by_cases h : n = 0
  · subst h; rfl
  · rw [if_neg h, if_neg (nI_ne0 (by omega) (by omega))]
theorem t_word {r : Nat → Int32} {n w : Nat} {k : Int32 → Mm → Option Mm} (hn : r 1 = nI n) (h40 : n ≤ 40) (hw : w < 8) : ∀ (m i fuel : Nat) (S : Mm), i + m = 12 → m < fuel → Row S 1 r → (∀ d, d < 12 → S.1 7 d = nI (cO r 0 d)) → ∃ S', lp_X8_countWord_18 k (nI w) (nI n) (nI (cA r (bit w))) fuel (nI i) S = k (nI 12) S' ∧ S'.2 = S.2 ∧ (∀ a j, a ≠ 9 + w → a ≠ 18 + w → S'.1 a j = S.1 a j) ∧ (∀ j, j < i → S'.1 (9 + w) j = S.1 (9 + w) j ∧ S'.1 (18 + w) j = S.1 (18 + w) j) ∧ ∀ j, i ≤ j → j < 12 → S'.1 (9 + w) j = nI (cO r (bit w) j) ∧ S'.1 (18 + w) j = us r w j := by
  intro m
  induction m with
  | zero =>
    intro i fuel S h1 h2 hR h7
    obtain ⟨f, rfl⟩ : ∃ f, fuel = f + 1 := ⟨fuel - 1, by omega⟩
    refine ⟨S, ?_, rfl, fun _ _ _ _ => rfl, fun _ _ => ⟨rfl, rfl⟩, fun j h3 h4 => absurd h4 (by omega)⟩
    rw [lp_X8_countWord_18, show i = 12 by omega]
    simp (disch := omega) only [nI_add, nI_1, nI_leI, nI_ltI, nI_eq, inb_nI, nI_clamp, if_pos, if_neg, if_true, if_false, bnd, l_0, l_1, l_2, l_3, l_4, l_5, l_6, l_7, l_8, l_9, l_10, l_11, l_12, l_13, l_14, l_15, l_16, l_17, l_18, l_19, l_20, l_21, l_22, l_23, l_24, l_25, l_26, l_27, l_28, l_29, l_30, l_31, l_32, l_33, l_34, l_35, l_36, l_37, l_38, l_39, l_40, l_41, l_42, l_43, l_44, l_45, l_46, l_47, l_48, l_49, l_50, l_51, l_52, l_53, l_54, l_55, l_56, l_57, l_58, l_59, l_60, l_61, l_62, l_63, l_64, l_65, l_66, l_67, l_68, l_69, l_70, l_71, l_72, l_73, l_74, l_75, l_76, l_77, l_78, l_79, l_80, l_81, l_82, l_83, l_84, l_85, l_86, l_87, l_88, l_89, l_90, l_91, l_92, l_93, l_94, l_95, l_96, l_97, l_98, l_99, l_100, l_123, l_144, l_160, l_255, l_256, l_1000, l_1462, l_1634, l_65536]
  | succ m ih =>
    intro i fuel S h1 h2 hR h7
    obtain ⟨f, rfl⟩ : ∃ f, fuel = f + 1 := ⟨fuel - 1, by omega⟩
    have hne : ∀ a b : Nat, 18 + w ≠ 9 + w := fun _ _ => by omega
    have hk : ∀ a j, a ≠ 9 + w → a ≠ 18 + w → (wr (wr S (9 + w) i (nI (cO r (bit w) i))) (18 + w) i (us r w i)).1 a j = S.1 a j := fun a j h3 h4 => (wr_k _ _ h4).trans (wr_k _ _ h3)
    obtain ⟨S', e1, e2, e3, e4, e5⟩ := ih (i + 1) f (wr (wr S (9 + w) i (nI (cO r (bit w) i))) (18 + w) i (us r w i)) (by omega) (by omega) (hR.keep (fun a j h => hk a j (by omega) (by omega))) (fun d hd => (hk 7 d (by omega) (by omega)).trans (h7 d hd))
    refine ⟨S', ?_, e2, fun a j h3 h4 => (e3 a j h3 h4).trans (hk a j h3 h4), fun j hj => ⟨(e4 j (by omega)).1.trans ((wr_k _ _ (by omega)).trans (wr_j _ _ (by omega))), (e4 j (by omega)).2.trans ((wr_j _ _ (by omega)).trans (wr_k _ _ (by omega)))⟩, fun j h3 h4 => ?_⟩
    · rw [lp_X8_countWord_18, set_y, Option.bind_some, x_on hR hn h40]
      rw [← e1, us_nz hn h40]
      by_cases h0 : n = 0
      · subst h0
        simp (disch := omega) only [nI_add, nI_1, nI_leI, nI_ltI, nI_eq, inb_nI, nI_clamp, if_pos, if_neg, if_true, if_false, bnd, l_0, l_1, l_2, l_3, l_4, l_5, l_6, l_7, l_8, l_9, l_10, l_11, l_12, l_13, l_14, l_15, l_16, l_17, l_18, l_19, l_20, l_21, l_22, l_23, l_24, l_25, l_26, l_27, l_28, l_29, l_30, l_31, l_32, l_33, l_34, l_35, l_36, l_37, l_38, l_39, l_40, l_41, l_42, l_43, l_44, l_45, l_46, l_47, l_48, l_49, l_50, l_51, l_52, l_53, l_54, l_55, l_56, l_57, l_58, l_59, l_60, l_61, l_62, l_63, l_64, l_65, l_66, l_67, l_68, l_69, l_70, l_71, l_72, l_73, l_74, l_75, l_76, l_77, l_78, l_79, l_80, l_81, l_82, l_83, l_84, l_85, l_86, l_87, l_88, l_89, l_90, l_91, l_92, l_93, l_94, l_95, l_96, l_97, l_98, l_99, l_100, l_123, l_144, l_160, l_255, l_256, l_1000, l_1462, l_1634, l_65536]
      · simp (disch := omega) only [nI_add, nI_1, nI_leI, nI_ltI, nI_eq, inb_nI, nI_clamp, if_pos, if_neg, if_true, if_false, bnd, l_0, l_1, l_2, l_3, l_4, l_5, l_6, l_7, l_8, l_9, l_10, l_11, l_12, l_13, l_14, l_15, l_16, l_17, l_18, l_19, l_20, l_21, l_22, l_23, l_24, l_25, l_26, l_27, l_28, l_29, l_30, l_31, l_32, l_33, l_34, l_35, l_36, l_37, l_38, l_39, l_40, l_41, l_42, l_43, l_44, l_45, l_46, l_47, l_48, l_49, l_50, l_51, l_52, l_53, l_54, l_55, l_56, l_57, l_58, l_59, l_60, l_61, l_62, l_63, l_64, l_65, l_66, l_67, l_68, l_69, l_70, l_71, l_72, l_73, l_74, l_75, l_76, l_77, l_78, l_79, l_80, l_81, l_82, l_83, l_84, l_85, l_86, l_87, l_88, l_89, l_90, l_91, l_92, l_93, l_94, l_95, l_96, l_97, l_98, l_99, l_100, l_123, l_144, l_160, l_255, l_256, l_1000, l_1462, l_1634, l_65536]
        rw [wr_k S _ (show 7 ≠ 9 + w by omega), h7 i (by omega)]
        rfl
    · by_cases hj : j = i
      · subst hj
        exact ⟨(e4 j (by omega)).1.trans ((wr_k _ _ (by omega)).trans (wr_s _ _ _ _)), (e4 j (by omega)).2.trans (wr_s _ _ _ _)⟩
      · exact e5 j (by omega) h4
theorem x_word {S : Mm} {r : Nat → Int32} {n w : Nat} (hn : r 1 = nI n) (h40 : n ≤ 40) (hw : w < 8) (hR : Row S 1 r) (h7 : ∀ d, d < 12 → S.1 7 d = nI (cO r 0 d)) : ∃ S', f_X8_countWord S (nI w) = some S' ∧ S'.2 = S.2 ∧ (∀ a j, a ≠ 9 + w → a ≠ 18 + w → S'.1 a j = S.1 a j) ∧ ∀ j, j < 12 → S'.1 (9 + w) j = nI (cO r (bit w) j) ∧ S'.1 (18 + w) j = us r w j := by
  obtain ⟨S', e1, e2, e3, -, e5⟩ := t_word (k := fun _ S => some S) hn h40 hw 12 0 100000 S (by omega) (by omega) hR h7
  refine ⟨S', ?_, e2, e3, fun j hj => e5 j (Nat.zero_le j) hj⟩
  unfold f_X8_countWord f_X6_count
  rw [Option.bind_some, set_y, Option.bind_some, x_all hR hn h40, Option.bind_some, hR.2.1, hn, l_0, e1]
theorem t_words {r : Nat → Int32} {n : Nat} {k : Int32 → Mm → Option Mm} (hn : r 1 = nI n) (h40 : n ≤ 40) : ∀ (m i fuel : Nat) (S : Mm), i + m = 8 → m < fuel → Row S 1 r → (∀ d, d < 12 → S.1 7 d = nI (cO r 0 d)) → ∃ S', lp_X8_countAll_68 k fuel (nI i) S = k (nI 8) S' ∧ S'.2 = S.2 ∧ (∀ a j, ¬ (9 + i ≤ a ∧ a < 17) → ¬ (18 + i ≤ a ∧ a < 26) → S'.1 a j = S.1 a j) ∧ ∀ w j, i ≤ w → w < 8 → j < 12 → S'.1 (9 + w) j = nI (cO r (bit w) j) ∧ S'.1 (18 + w) j = us r w j := by
  intro m
  induction m with
  | zero =>
    intro i fuel S h1 h2 hR h7
    obtain ⟨f, rfl⟩ : ∃ f, fuel = f + 1 := ⟨fuel - 1, by omega⟩
    refine ⟨S, ?_, rfl, fun _ _ _ _ => rfl, fun w j h3 h4 _ => absurd h4 (by omega)⟩
    rw [lp_X8_countAll_68, show i = 8 by omega]
    simp (disch := omega) only [nI_add, nI_1, nI_leI, nI_ltI, nI_eq, inb_nI, nI_clamp, if_pos, if_neg, if_true, if_false, bnd, l_0, l_1, l_2, l_3, l_4, l_5, l_6, l_7, l_8, l_9, l_10, l_11, l_12, l_13, l_14, l_15, l_16, l_17, l_18, l_19, l_20, l_21, l_22, l_23, l_24, l_25, l_26, l_27, l_28, l_29, l_30, l_31, l_32, l_33, l_34, l_35, l_36, l_37, l_38, l_39, l_40, l_41, l_42, l_43, l_44, l_45, l_46, l_47, l_48, l_49, l_50, l_51, l_52, l_53, l_54, l_55, l_56, l_57, l_58, l_59, l_60, l_61, l_62, l_63, l_64, l_65, l_66, l_67, l_68, l_69, l_70, l_71, l_72, l_73, l_74, l_75, l_76, l_77, l_78, l_79, l_80, l_81, l_82, l_83, l_84, l_85, l_86, l_87, l_88, l_89, l_90, l_91, l_92, l_93, l_94, l_95, l_96, l_97, l_98, l_99, l_100, l_123, l_144, l_160, l_255, l_256, l_1000, l_1462, l_1634, l_65536]
  | succ m ih =>
    intro i fuel S h1 h2 hR h7
    obtain ⟨f, rfl⟩ : ∃ f, fuel = f + 1 := ⟨fuel - 1, by omega⟩
    obtain ⟨S1, a1, a2, a3, a4⟩ := x_word hn h40 (show i < 8 by omega) hR h7
    obtain ⟨S', e1, e2, e3, e5⟩ := ih (i + 1) f S1 (by omega) (by omega) (hR.keep (fun a j h => a3 a j (by omega) (by omega))) (fun d hd => (a3 7 d (by omega) (by omega)).trans (h7 d hd))
    refine ⟨S', ?_, e2.trans a2, fun a j h3 h4 => (e3 a j (by omega) (by omega)).trans (a3 a j (by omega) (by omega)), fun w j h3 h4 h5 => ?_⟩
    · rw [lp_X8_countAll_68, a1, Option.bind_some, ← e1]
      simp (disch := omega) only [nI_add, nI_1, nI_leI, nI_ltI, nI_eq, inb_nI, nI_clamp, if_pos, if_neg, if_true, if_false, bnd, l_0, l_1, l_2, l_3, l_4, l_5, l_6, l_7, l_8, l_9, l_10, l_11, l_12, l_13, l_14, l_15, l_16, l_17, l_18, l_19, l_20, l_21, l_22, l_23, l_24, l_25, l_26, l_27, l_28, l_29, l_30, l_31, l_32, l_33, l_34, l_35, l_36, l_37, l_38, l_39, l_40, l_41, l_42, l_43, l_44, l_45, l_46, l_47, l_48, l_49, l_50, l_51, l_52, l_53, l_54, l_55, l_56, l_57, l_58, l_59, l_60, l_61, l_62, l_63, l_64, l_65, l_66, l_67, l_68, l_69, l_70, l_71, l_72, l_73, l_74, l_75, l_76, l_77, l_78, l_79, l_80, l_81, l_82, l_83, l_84, l_85, l_86, l_87, l_88, l_89, l_90, l_91, l_92, l_93, l_94, l_95, l_96, l_97, l_98, l_99, l_100, l_123, l_144, l_160, l_255, l_256, l_1000, l_1462, l_1634, l_65536]
    · by_cases hj : w = i
      · subst hj
        exact ⟨(e3 _ j (by omega) (by omega)).trans (a4 j h5).1, (e3 _ j (by omega) (by omega)).trans (a4 j h5).2⟩
      · exact e5 w j (by omega) h4 h5
theorem x_tally {S : Mm} {r : Nat → Int32} {n : Nat} (hn : r 1 = nI n) (h40 : n ≤ 40) (hR : Row S 1 r) : ∃ S', f_X8_countAll S = some S' ∧ FT S' r ∧ Fr S S' := by
  obtain ⟨F, hF⟩ : ∃ F : Nat, 100000 = F := ⟨_, rfl⟩
  have hr := hR
  obtain ⟨q0, q1, q2, q3, q4⟩ := hr
  have t0 := q2 0 (by omega)
  have t1 := q2 1 (by omega)
  have t2 := q2 2 (by omega)
  have t3 := q2 3 (by omega)
  have hk : ∀ a j, a ≠ 6 → (wr (wr (wr (wr (wr S 6 3 (r 0)) 6 4 (r 2)) 6 5 (r 3)) 6 6 (r 4)) 6 7 (r 5)).1 a j = S.1 a j := fun a j h => by
    rw [wr_k _ _ h, wr_k _ _ h, wr_k _ _ h, wr_k _ _ h, wr_k _ _ h]
  generalize hS0 : wr (wr (wr (wr (wr S 6 3 (r 0)) 6 4 (r 2)) 6 5 (r 3)) 6 6 (r 4)) 6 7 (r 5) = Sa at hk
  have hR0 : Row Sa 1 r := hR.keep (fun a j h => hk a j (by omega))
  obtain ⟨S1, a1, a2, a3, -, a5⟩ := t_days (k := fun _ S15 => lp_X8_countAll_68 (fun _ S20 => some S20) F (nI 0) S15) hn h40 12 0 F Sa (by omega) (by omega) hR0
  have hR1 : Row S1 1 r := hR0.keep (fun a j h => a3 a j (by omega))
  obtain ⟨S2, b1, b2, b3, b4⟩ := t_words (k := fun _ S20 => some S20) hn h40 8 0 F S1 (by omega) (by omega) hR1 (fun d hd => a5 d (Nat.zero_le d) hd)
  refine ⟨S2, ?_, ⟨⟨?_, ?_, ?_, ?_, ?_⟩, fun d hd => (b3 7 d (by omega) (by omega)).trans (a5 d (Nat.zero_le d) hd), fun w d hw hd => (b4 w d (Nat.zero_le w) hw hd).1, fun w d hw hd => (b4 w d (Nat.zero_le w) hw hd).2⟩, ?_, fun k j h => ?_⟩
  · unfold f_X8_countAll f_X6_dayCount f_X6_levels f_X6_base f_X6_step f_X6_rise
    rw [hF]
    simp only [bnd]
    rw [wr_k _ _ (show (2 : Nat) ≠ 6 by omega), wr_k _ _ (show (2 : Nat) ≠ 6 by omega), wr_k _ _ (show (2 : Nat) ≠ 6 by omega), wr_k _ _ (show (2 : Nat) ≠ 6 by omega)]
    simp only [wr_k _ _ (show (2 : Nat) ≠ 6 by omega)]
    rw [q0, t0, t1, t2, t3, hS0]
    simp only [l_0]
    rw [a1, b1]
  · rw [b3 6 3 (by omega) (by omega), a3 6 3 (by omega), ← hS0]; rfl
  · rw [b3 6 4 (by omega) (by omega), a3 6 4 (by omega), ← hS0]; rfl
  · rw [b3 6 5 (by omega) (by omega), a3 6 5 (by omega), ← hS0]; rfl
  · rw [b3 6 6 (by omega) (by omega), a3 6 6 (by omega), ← hS0]; rfl
  · rw [b3 6 7 (by omega) (by omega), a3 6 7 (by omega), ← hS0]; rfl
  · rw [b2, a2, ← hS0]; rfl
  · rw [b3 k j (by omega) (by omega), a3 k j (by omega), hk k j (by omega)]
