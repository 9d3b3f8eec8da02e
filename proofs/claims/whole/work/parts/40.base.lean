/-! ===== numbers ===== -/
theorem l_0 : (0 : Int32) = nI 0 := by decide
theorem l_1 : (1 : Int32) = nI 1 := by decide
theorem l_2 : (2 : Int32) = nI 2 := by decide
theorem l_3 : (3 : Int32) = nI 3 := by decide
theorem l_4 : (4 : Int32) = nI 4 := by decide
theorem l_5 : (5 : Int32) = nI 5 := by decide
theorem l_6 : (6 : Int32) = nI 6 := by decide
theorem l_7 : (7 : Int32) = nI 7 := by decide
theorem l_8 : (8 : Int32) = nI 8 := by decide
theorem l_9 : (9 : Int32) = nI 9 := by decide
theorem l_10 : (10 : Int32) = nI 10 := by decide
theorem l_11 : (11 : Int32) = nI 11 := by decide
theorem l_12 : (12 : Int32) = nI 12 := by decide
theorem l_13 : (13 : Int32) = nI 13 := by decide
theorem l_14 : (14 : Int32) = nI 14 := by decide
theorem l_15 : (15 : Int32) = nI 15 := by decide
theorem l_16 : (16 : Int32) = nI 16 := by decide
theorem l_17 : (17 : Int32) = nI 17 := by decide
theorem l_18 : (18 : Int32) = nI 18 := by decide
theorem l_19 : (19 : Int32) = nI 19 := by decide
theorem l_20 : (20 : Int32) = nI 20 := by decide
theorem l_21 : (21 : Int32) = nI 21 := by decide
theorem l_22 : (22 : Int32) = nI 22 := by decide
theorem l_23 : (23 : Int32) = nI 23 := by decide
theorem l_24 : (24 : Int32) = nI 24 := by decide
theorem l_25 : (25 : Int32) = nI 25 := by decide
theorem l_26 : (26 : Int32) = nI 26 := by decide
theorem l_27 : (27 : Int32) = nI 27 := by decide
theorem l_28 : (28 : Int32) = nI 28 := by decide
theorem l_29 : (29 : Int32) = nI 29 := by decide
theorem l_30 : (30 : Int32) = nI 30 := by decide
theorem l_31 : (31 : Int32) = nI 31 := by decide
theorem l_32 : (32 : Int32) = nI 32 := by decide
theorem l_33 : (33 : Int32) = nI 33 := by decide
theorem l_34 : (34 : Int32) = nI 34 := by decide
theorem l_35 : (35 : Int32) = nI 35 := by decide
theorem l_36 : (36 : Int32) = nI 36 := by decide
theorem l_37 : (37 : Int32) = nI 37 := by decide
theorem l_38 : (38 : Int32) = nI 38 := by decide
theorem l_39 : (39 : Int32) = nI 39 := by decide
theorem l_40 : (40 : Int32) = nI 40 := by decide
theorem l_41 : (41 : Int32) = nI 41 := by decide
theorem l_42 : (42 : Int32) = nI 42 := by decide
theorem l_43 : (43 : Int32) = nI 43 := by decide
theorem l_44 : (44 : Int32) = nI 44 := by decide
theorem l_45 : (45 : Int32) = nI 45 := by decide
theorem l_46 : (46 : Int32) = nI 46 := by decide
theorem l_47 : (47 : Int32) = nI 47 := by decide
theorem l_48 : (48 : Int32) = nI 48 := by decide
theorem l_49 : (49 : Int32) = nI 49 := by decide
theorem l_50 : (50 : Int32) = nI 50 := by decide
theorem l_51 : (51 : Int32) = nI 51 := by decide
theorem l_52 : (52 : Int32) = nI 52 := by decide
theorem l_53 : (53 : Int32) = nI 53 := by decide
theorem l_54 : (54 : Int32) = nI 54 := by decide
theorem l_55 : (55 : Int32) = nI 55 := by decide
theorem l_56 : (56 : Int32) = nI 56 := by decide
theorem l_57 : (57 : Int32) = nI 57 := by decide
theorem l_58 : (58 : Int32) = nI 58 := by decide
theorem l_59 : (59 : Int32) = nI 59 := by decide
theorem l_60 : (60 : Int32) = nI 60 := by decide
theorem l_61 : (61 : Int32) = nI 61 := by decide
theorem l_62 : (62 : Int32) = nI 62 := by decide
theorem l_63 : (63 : Int32) = nI 63 := by decide
theorem l_64 : (64 : Int32) = nI 64 := by decide
theorem l_65 : (65 : Int32) = nI 65 := by decide
theorem l_66 : (66 : Int32) = nI 66 := by decide
theorem l_67 : (67 : Int32) = nI 67 := by decide
theorem l_68 : (68 : Int32) = nI 68 := by decide
theorem l_69 : (69 : Int32) = nI 69 := by decide
theorem l_70 : (70 : Int32) = nI 70 := by decide
theorem l_71 : (71 : Int32) = nI 71 := by decide
theorem l_72 : (72 : Int32) = nI 72 := by decide
theorem l_73 : (73 : Int32) = nI 73 := by decide
theorem l_74 : (74 : Int32) = nI 74 := by decide
theorem l_75 : (75 : Int32) = nI 75 := by decide
theorem l_76 : (76 : Int32) = nI 76 := by decide
theorem l_77 : (77 : Int32) = nI 77 := by decide
theorem l_78 : (78 : Int32) = nI 78 := by decide
theorem l_79 : (79 : Int32) = nI 79 := by decide
theorem l_80 : (80 : Int32) = nI 80 := by decide
theorem l_81 : (81 : Int32) = nI 81 := by decide
theorem l_82 : (82 : Int32) = nI 82 := by decide
theorem l_83 : (83 : Int32) = nI 83 := by decide
theorem l_84 : (84 : Int32) = nI 84 := by decide
theorem l_85 : (85 : Int32) = nI 85 := by decide
theorem l_86 : (86 : Int32) = nI 86 := by decide
theorem l_87 : (87 : Int32) = nI 87 := by decide
theorem l_88 : (88 : Int32) = nI 88 := by decide
theorem l_89 : (89 : Int32) = nI 89 := by decide
theorem l_90 : (90 : Int32) = nI 90 := by decide
theorem l_91 : (91 : Int32) = nI 91 := by decide
theorem l_92 : (92 : Int32) = nI 92 := by decide
theorem l_93 : (93 : Int32) = nI 93 := by decide
theorem l_94 : (94 : Int32) = nI 94 := by decide
theorem l_95 : (95 : Int32) = nI 95 := by decide
theorem l_96 : (96 : Int32) = nI 96 := by decide
theorem l_97 : (97 : Int32) = nI 97 := by decide
theorem l_98 : (98 : Int32) = nI 98 := by decide
theorem l_99 : (99 : Int32) = nI 99 := by decide
theorem l_100 : (100 : Int32) = nI 100 := by decide
theorem l_123 : (123 : Int32) = nI 123 := by decide
theorem l_144 : (144 : Int32) = nI 144 := by decide
theorem l_160 : (160 : Int32) = nI 160 := by decide
theorem l_255 : (255 : Int32) = nI 255 := by decide
theorem l_256 : (256 : Int32) = nI 256 := by decide
theorem l_1000 : (1000 : Int32) = nI 1000 := by decide
theorem l_1462 : (1462 : Int32) = nI 1462 := by decide
theorem l_1634 : (1634 : Int32) = nI 1634 := by decide
theorem l_65536 : (65536 : Int32) = nI 65536 := by decide
theorem bnd {α β : Type} (a : α) (f : α → Option β) : (some a).bind f = f a := by rw [Option.bind_some]
theorem inb_nI {k n : Nat} (hk : k < 2 ^ 31) : inb (nI k) n ↔ k < n := by
  unfold inb
  rw [nI_clamp hk]
  constructor
  · intro h
    exact Nat.not_le.mp fun q => h (Or.inr q)
  · intro h q
    rcases q with q | q
    · exact nI_pos hk q
    · omega
theorem wr_s (S : Mm) (k j : Nat) (v : Int32) : (wr S k j v).1 k j = v := u2_s _ _ _ _
theorem wr_k (S : Mm) {k j a b : Nat} (v : Int32) (h : a ≠ k) : (wr S k j v).1 a b = S.1 a b := u2_k _ v h
theorem wr_j (S : Mm) {k j a b : Nat} (v : Int32) (h : b ≠ j) : (wr S k j v).1 a b = S.1 a b := u2_j _ v h
theorem wr_2 (S : Mm) (k j : Nat) (v : Int32) : (wr S k j v).2 = S.2 := rfl
theorem wr_at (S : Mm) (k j a b : Nat) (v : Int32) : (wr S k j v).1 a b = if a = k ∧ b = j then v else S.1 a b := rfl
/-- how many of m places from i on have p -/
def ct (p : Nat → Bool) (i : Nat) : Nat → Nat
  | 0 => 0
  | m + 1 => (if p i then 1 else 0) + ct p (i + 1) m
theorem ct_le (p : Nat → Bool) : ∀ (m i : Nat), ct p i m ≤ m
  | 0, i => Nat.le_refl _
  | m + 1, i => by
    have := ct_le p m (i + 1)
    unfold ct
    split <;> omega
/-- of a row: the pieces of day d that have the set s; those of all days -/
def cO (r : Nat → Int32) (s : Int32) (d : Nat) : Nat := ct (fun k => decide (r (6 + k) = nI d) && decide ((r (46 + k) &&& s) = s)) 0 (r 1).toNatClampNeg
def cA (r : Nat → Int32) (s : Int32) : Nat := ct (fun k => decide ((r (46 + k) &&& s) = s)) 0 (r 1).toNatClampNeg
/-- a News' cells hold a row -/
def Row (S : Mm) (o : Nat) (r : Nat → Int32) : Prop := S.1 o 3 = r 0 ∧ S.1 o 4 = r 1 ∧ (∀ j, j < 4 → S.1 (o + 1) j = r (2 + j)) ∧ (∀ j, j < 40 → S.1 (o + 2) j = r (6 + j)) ∧ (∀ j, j < 40 → S.1 (o + 3) j = r (46 + j))
/-- a row is one that can be: days, pieces, terms, and each piece within bounds -/
def Val (r : Nat → Int32) : Prop := (∃ n, r 0 = nI n ∧ 1 ≤ n ∧ n ≤ 12) ∧ (∃ n, r 1 = nI n ∧ n ≤ 40) ∧ (∃ n, r 2 = nI n ∧ 1 ≤ n ∧ n ≤ 3) ∧ (∃ n, r 3 = nI n ∧ 1 ≤ n ∧ n ≤ 9) ∧ (∃ n, r 4 = nI n ∧ 1 ≤ n ∧ n ≤ 9) ∧ (∃ n, r 5 = nI n ∧ n ≤ 99) ∧ ∀ k, k < (r 1).toNatClampNeg → (∃ d, r (6 + k) = nI d ∧ d < (r 0).toNatClampNeg) ∧ ∃ s, r (46 + k) = nI s ∧ s < 256
theorem c6_loop {S : Mm} {r : Nat → Int32} {n d : Nat} {s : Int32} {k : Int32 → Int32 → Option Int32} (hR : Row S 1 r) (hn : r 1 = nI n) (h40 : n ≤ 40) : ∀ (m i a fuel : Nat), i + m = n → m < fuel → lp_X6_countWithOn_5 k S s (nI d) fuel (nI a) (nI i) = k (nI (a + ct (fun k => decide (r (6 + k) = nI d) && decide ((r (46 + k) &&& s) = s)) i m)) (nI n) := by
  obtain ⟨-, h4, -, hd, hs⟩ := hR
  intro m
  induction m with
  | zero =>
    intro i a fuel h1 h2
    obtain ⟨f, rfl⟩ : ∃ f, fuel = f + 1 := ⟨fuel - 1, by omega⟩
    rw [lp_X6_countWithOn_5, h4, hn, show i = n by omega]
    simp (disch := omega) only [nI_add, nI_1, nI_leI, nI_ltI, nI_eq, inb_nI, nI_clamp, if_pos, if_neg, if_true, if_false, bnd, ct, Nat.add_zero]
  | succ m ih =>
    intro i a fuel h1 h2
    obtain ⟨f, rfl⟩ : ∃ f, fuel = f + 1 := ⟨fuel - 1, by omega⟩
    have ih1 := fun a => ih (i + 1) a f (by omega) (by omega)
    rw [lp_X6_countWithOn_5, h4, hn]
    simp (disch := omega) only [nI_add, nI_1, nI_leI, nI_ltI, nI_eq, inb_nI, nI_clamp, if_pos, if_neg, if_true, if_false, bnd]
    rw [hd i (by omega), hs i (by omega)]
    unfold ct
    by_cases e1 : r (6 + i) = nI d
    · by_cases e2 : (r (46 + i) &&& s) = s
      · simp only [e1, e2, if_pos, decide_true, Bool.and_true, ih1]
        congr 2; omega
      · simp only [e1, e2, if_pos, if_false, decide_true, decide_false, Bool.and_false, ih1]
        congr 2; simp
    · simp only [e1, if_false, decide_false, Bool.false_and, ih1]
      congr 2; simp
theorem x_on {S : Mm} {r : Nat → Int32} {n d : Nat} {s : Int32} (hR : Row S 1 r) (hn : r 1 = nI n) (h40 : n ≤ 40) : f_X6_countWithOn S s (nI d) = some (nI (cO r s d)) := by
  unfold f_X6_countWithOn cO
  rw [l_0, c6_loop hR hn h40 n 0 0 100000 (by omega) (by omega), hn, nI_clamp (by omega), Nat.zero_add]
theorem c6a_loop {S : Mm} {r : Nat → Int32} {n : Nat} {s : Int32} {k : Int32 → Int32 → Option Int32} (hR : Row S 1 r) (hn : r 1 = nI n) (h40 : n ≤ 40) : ∀ (m i a fuel : Nat), i + m = n → m < fuel → lp_X6_countWith_4 k S s fuel (nI a) (nI i) = k (nI (a + ct (fun k => decide ((r (46 + k) &&& s) = s)) i m)) (nI n) := by
  obtain ⟨-, h4, -, hd, hs⟩ := hR
  intro m
  induction m with
  | zero =>
    intro i a fuel h1 h2
    obtain ⟨f, rfl⟩ : ∃ f, fuel = f + 1 := ⟨fuel - 1, by omega⟩
    rw [lp_X6_countWith_4, h4, hn, show i = n by omega]
    simp (disch := omega) only [nI_add, nI_1, nI_leI, nI_ltI, nI_eq, inb_nI, nI_clamp, if_pos, if_neg, if_true, if_false, bnd, ct, Nat.add_zero]
  | succ m ih =>
    intro i a fuel h1 h2
    obtain ⟨f, rfl⟩ : ∃ f, fuel = f + 1 := ⟨fuel - 1, by omega⟩
    have ih1 := fun a => ih (i + 1) a f (by omega) (by omega)
    rw [lp_X6_countWith_4, h4, hn]
    simp (disch := omega) only [nI_add, nI_1, nI_leI, nI_ltI, nI_eq, inb_nI, nI_clamp, if_pos, if_neg, if_true, if_false, bnd]
    rw [hs i (by omega)]
    unfold ct
    by_cases e2 : (r (46 + i) &&& s) = s
    · simp only [e2, if_pos, decide_true, ih1]
      congr 2; omega
    · simp only [e2, if_false, decide_false, ih1]
      congr 2; simp
theorem x_all {S : Mm} {r : Nat → Int32} {n : Nat} {s : Int32} (hR : Row S 1 r) (hn : r 1 = nI n) (h40 : n ≤ 40) : f_X6_countWith S s = some (nI (cA r s)) := by
  unfold f_X6_countWith cA
  rw [l_0, c6a_loop hR hn h40 n 0 0 100000 (by omega) (by omega), hn, nI_clamp (by omega), Nat.zero_add]
theorem m_on_loop {S : Mm} {n d : Nat} {s : Int32} {k : Int32 → Int32 → Option Int32} (hn : S.1 154 1 = nI n) (h40 : n ≤ 40) (hd : d < 2 ^ 31) : ∀ (m i a fuel : Nat), i + m = n → m < fuel → lp_X11_count_5 k S (nI d) s fuel (nI a) (nI i) = k (nI (a + ct (fun k => decide (S.1 154 (6 + k) = nI d) && decide ((S.1 154 (46 + k) &&& s) = s)) i m)) (nI n) := by
  intro m
  induction m with
  | zero =>
    intro i a fuel h1 h2
    obtain ⟨f, rfl⟩ : ∃ f, fuel = f + 1 := ⟨fuel - 1, by omega⟩
    rw [lp_X11_count_5, hn, show i = n by omega]
    simp (disch := omega) only [nI_add, nI_1, nI_leI, nI_ltI, nI_eq, inb_nI, nI_clamp, if_pos, if_neg, if_true, if_false, bnd, ct, Nat.add_zero]
  | succ m ih =>
    intro i a fuel h1 h2
    obtain ⟨f, rfl⟩ : ∃ f, fuel = f + 1 := ⟨fuel - 1, by omega⟩
    have ih1 := fun a => ih (i + 1) a f (by omega) (by omega)
    rw [lp_X11_count_5, hn]
    simp (disch := omega) only [nI_add, nI_1, nI_leI, nI_ltI, nI_eq, inb_nI, nI_clamp, if_pos, if_neg, if_true, if_false, bnd, l_0, l_1, l_2, l_3, l_4, l_5, l_6, l_7, l_8, l_9, l_10, l_11, l_12, l_13, l_14, l_15, l_16, l_17, l_18, l_19, l_20, l_21, l_22, l_23, l_24, l_25, l_26, l_27, l_28, l_29, l_30, l_31, l_32, l_33, l_34, l_35, l_36, l_37, l_38, l_39, l_40, l_41, l_42, l_43, l_44, l_45, l_46, l_47, l_48, l_49, l_50, l_51, l_52, l_53, l_54, l_55, l_56, l_57, l_58, l_59, l_60, l_61, l_62, l_63, l_64, l_65, l_66, l_67, l_68, l_69, l_70, l_71, l_72, l_73, l_74, l_75, l_76, l_77, l_78, l_79, l_80, l_81, l_82, l_83, l_84, l_85, l_86, l_87, l_88, l_89, l_90, l_91, l_92, l_93, l_94, l_95, l_96, l_97, l_98, l_99, l_100, l_123, l_144, l_160, l_255, l_256, l_1000, l_1462, l_1634, l_65536]
    unfold ct
    by_cases e1 : S.1 154 (6 + i) = nI d
    · by_cases e2 : (S.1 154 (46 + i) &&& s) = s
      · simp only [e1, e2, if_pos, decide_true, Bool.and_true, ih1]
        congr 2; omega
      · simp only [e1, e2, if_pos, if_false, decide_true, decide_false, Bool.and_false, ih1]
        congr 2; simp
    · simp only [e1, if_false, decide_false, Bool.false_and, ih1]
      congr 2; simp
theorem m_on {S : Mm} {n d : Nat} {s : Int32} (hn : S.1 154 1 = nI n) (h40 : n ≤ 40) (hd : d < 2 ^ 31) : f_X11_count S (nI d) s = some (nI (cO (S.1 154) s d)) := by
  unfold f_X11_count cO
  rw [l_0, m_on_loop hn h40 hd n 0 0 100000 (by omega) (by omega), hn, nI_clamp (by omega), Nat.zero_add]
theorem m_all_loop {S : Mm} {n : Nat} {s c : Int32} {k : Int32 → Int32 → Option Int32} (hc : c < 0) (hn : S.1 154 1 = nI n) (h40 : n ≤ 40) : ∀ (m i a fuel : Nat), i + m = n → m < fuel → lp_X11_count_5 k S c s fuel (nI a) (nI i) = k (nI (a + ct (fun k => decide ((S.1 154 (46 + k) &&& s) = s)) i m)) (nI n) := by
  intro m
  induction m with
  | zero =>
    intro i a fuel h1 h2
    obtain ⟨f, rfl⟩ : ∃ f, fuel = f + 1 := ⟨fuel - 1, by omega⟩
    rw [lp_X11_count_5, hn, show i = n by omega]
    simp (disch := omega) only [nI_add, nI_1, nI_leI, nI_ltI, nI_eq, inb_nI, nI_clamp, if_pos, if_neg, if_true, if_false, bnd, ct, Nat.add_zero]
  | succ m ih =>
    intro i a fuel h1 h2
    obtain ⟨f, rfl⟩ : ∃ f, fuel = f + 1 := ⟨fuel - 1, by omega⟩
    have ih1 := fun a => ih (i + 1) a f (by omega) (by omega)
    rw [lp_X11_count_5, hn, if_pos hc]
    simp (disch := omega) only [nI_add, nI_1, nI_leI, nI_ltI, nI_eq, inb_nI, nI_clamp, if_pos, if_neg, if_true, if_false, bnd, l_0, l_1, l_2, l_3, l_4, l_5, l_6, l_7, l_8, l_9, l_10, l_11, l_12, l_13, l_14, l_15, l_16, l_17, l_18, l_19, l_20, l_21, l_22, l_23, l_24, l_25, l_26, l_27, l_28, l_29, l_30, l_31, l_32, l_33, l_34, l_35, l_36, l_37, l_38, l_39, l_40, l_41, l_42, l_43, l_44, l_45, l_46, l_47, l_48, l_49, l_50, l_51, l_52, l_53, l_54, l_55, l_56, l_57, l_58, l_59, l_60, l_61, l_62, l_63, l_64, l_65, l_66, l_67, l_68, l_69, l_70, l_71, l_72, l_73, l_74, l_75, l_76, l_77, l_78, l_79, l_80, l_81, l_82, l_83, l_84, l_85, l_86, l_87, l_88, l_89, l_90, l_91, l_92, l_93, l_94, l_95, l_96, l_97, l_98, l_99, l_100, l_123, l_144, l_160, l_255, l_256, l_1000, l_1462, l_1634, l_65536]
    unfold ct
    by_cases e2 : (S.1 154 (46 + i) &&& s) = s
    · simp only [e2, if_pos, decide_true, ih1]
      congr 2; omega
    · simp only [e2, if_false, decide_false, ih1]
      congr 2; simp
theorem m_all {S : Mm} {n : Nat} {s : Int32} (hn : S.1 154 1 = nI n) (h40 : n ≤ 40) : f_X11_count S (-1) s = some (nI (cA (S.1 154) s)) := by
  unfold f_X11_count cA
  rw [l_0, m_all_loop (by decide) hn h40 n 0 0 100000 (by omega) (by omega), hn, nI_clamp (by omega), Nat.zero_add]
theorem cO_le (r : Nat → Int32) (s : Int32) (d : Nat) : cO r s d ≤ (r 1).toNatClampNeg := ct_le _ _ _
theorem cA_le (r : Nat → Int32) (s : Int32) : cA r s ≤ (r 1).toNatClampNeg := ct_le _ _ _
