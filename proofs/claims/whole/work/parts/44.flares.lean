/-! ===== flares as a list ===== -/
abbrev Fq : Type := Nat × Nat × Nat × Nat
/-- the flares at l of a row of levels: m places from d on are to be seen, one may have begun -/
def sc (lev : Nat → Nat) (l D : Nat) : Nat → Nat → Option Nat → List (Nat × Nat)
  | 0, _, _ => []
  | m + 1, d, none => if d < D ∧ l ≤ lev d then sc lev l D m (d + 1) (some d) else sc lev l D m (d + 1) none
  | m + 1, d, some f => if d < D ∧ l ≤ lev d then sc lev l D m (d + 1) (some f) else (f, d - 1) :: sc lev l D m (d + 1) none
def flL (lev : Nat → Nat) (w D : Nat) : Nat → Nat → List Fq
  | 0, _ => []
  | m + 1, l => (sc lev l D (D + 1) 0 none).map (fun p => (w, l, p.1, p.2)) ++ flL lev w D m (l + 1)
def flW (r : Nat → Int32) (D L : Nat) : Nat → Nat → List Fq
  | 0, _ => []
  | m + 1, w => flL (lv r w D L) w D L 1 ++ flW r D L m (w + 1)
def fl (r : Nat → Int32) (D L : Nat) : List Fq := flW r D L 8 0
theorem sc_len (lev : Nat → Nat) (l D : Nat) : ∀ (m d : Nat), (2 * (sc lev l D m d none).length ≤ m) ∧ ∀ f, 2 * (sc lev l D m d (some f)).length ≤ m + 1 := by
  intro m
  induction m with
  | zero => intro d; exact ⟨Nat.le_refl _, fun f => Nat.zero_le _⟩
  | succ m ih =>
    intro d
    obtain ⟨h1, h2⟩ := ih (d + 1)
    refine ⟨?_, fun f => ?_⟩
    · rw [sc]
      split
      · have := h2 d; omega
      · omega
    · rw [sc]
      split
      · have := h2 f; omega
      · rw [List.length_cons]; omega
theorem flL_len (lev : Nat → Nat) (w D : Nat) (hD : D ≤ 12) : ∀ (m l : Nat), (flL lev w D m l).length ≤ 6 * m
  | 0, _ => Nat.zero_le _
  | m + 1, l => by
    have h1 := flL_len lev w D hD m (l + 1)
    have h2 := (sc_len lev l D (D + 1) 0).1
    rw [flL, List.length_append, List.length_map]
    omega
theorem flW_len (r : Nat → Int32) (D L : Nat) (hD : D ≤ 12) (hL : L ≤ 3) : ∀ (m w : Nat), (flW r D L m w).length ≤ 18 * m
  | 0, _ => Nat.zero_le _
  | m + 1, w => by
    have h1 := flW_len r D L hD hL m (w + 1)
    have h2 := flL_len (lv r w D L) w D hD L 1
    rw [flW, List.length_append]
    omega
theorem sc_in (lev : Nat → Nat) (l D : Nat) : ∀ (m d : Nat), d + m ≤ D + 1 → (∀ p ∈ sc lev l D m d none, d ≤ p.1 ∧ p.1 ≤ p.2 ∧ p.2 < D) ∧ ∀ f, f < d → d ≤ D → ∀ p ∈ sc lev l D m d (some f), f ≤ p.1 ∧ p.1 ≤ p.2 ∧ p.2 < D := by
  intro m
  induction m with
  | zero => intro d _; exact ⟨fun p hp => absurd hp List.not_mem_nil, fun f _ _ p hp => absurd hp List.not_mem_nil⟩
  | succ m ih =>
    intro d hd
    obtain ⟨h1, h2⟩ := ih (d + 1) (by omega)
    refine ⟨fun p hp => ?_, fun f hf hdD p hp => ?_⟩
    · rw [sc] at hp
      split at hp
      · rename_i hc
        have := h2 d (by omega) (by omega) p hp
        exact this
      · have := h1 p hp
        omega
    · rw [sc] at hp
      split at hp
      · rename_i hc
        exact h2 f (by omega) (by omega) p hp
      · rcases List.mem_cons.mp hp with rfl | hp
        · show f ≤ f ∧ f ≤ d - 1 ∧ d - 1 < D
          omega
        · have := h1 p hp
          omega
theorem sc_pw (lev : Nat → Nat) (l D : Nat) : ∀ (m d : Nat), d + m ≤ D + 1 → (sc lev l D m d none).Pairwise (fun p q => p.2 < q.1) ∧ ∀ f, (sc lev l D m d (some f)).Pairwise (fun p q => p.2 < q.1) := by
  intro m
  induction m with
  | zero => intro d _; exact ⟨List.Pairwise.nil, fun f => List.Pairwise.nil⟩
  | succ m ih =>
    intro d hd
    obtain ⟨h1, h2⟩ := ih (d + 1) (by omega)
    refine ⟨?_, fun f => ?_⟩
    · rw [sc]
      split
      · exact h2 d
      · exact h1
    · rw [sc]
      split
      · exact h2 f
      · refine List.Pairwise.cons (fun q hq => ?_) h1
        have := (sc_in lev l D m (d + 1) (by omega)).1 q hq
        show d - 1 < q.1
        omega
/-- the order of flares -/
def Fo (p q : Fq) : Prop := p.1 < q.1 ∨ (p.1 = q.1 ∧ (p.2.1 < q.2.1 ∨ (p.2.1 = q.2.1 ∧ p.2.2.2 < q.2.2.1)))
theorem flL_in (lev : Nat → Nat) (w D : Nat) : ∀ (m l : Nat), ∀ q ∈ flL lev w D m l, q.1 = w ∧ l ≤ q.2.1 ∧ q.2.1 < l + m ∧ q.2.2.1 ≤ q.2.2.2 ∧ q.2.2.2 < D
  | 0, _, q, hq => absurd hq List.not_mem_nil
  | m + 1, l, q, hq => by
    rw [flL] at hq
    rcases List.mem_append.mp hq with h | h
    · obtain ⟨p, hp, rfl⟩ := List.mem_map.mp h
      have := (sc_in lev l D (D + 1) 0 (by omega)).1 p hp
      exact ⟨rfl, Nat.le_refl _, by show l < l + (m + 1); omega, this.2⟩
    · have := flL_in lev w D m (l + 1) q h
      exact ⟨this.1, by omega, by omega, this.2.2.2⟩
theorem flL_pw (lev : Nat → Nat) (w D : Nat) : ∀ (m l : Nat), (flL lev w D m l).Pairwise Fo
  | 0, _ => List.Pairwise.nil
  | m + 1, l => by
    rw [flL, List.pairwise_append]
    refine ⟨?_, flL_pw lev w D m (l + 1), fun p hp q hq => ?_⟩
    · rw [List.pairwise_map]
      exact ((sc_pw lev l D (D + 1) 0 (by omega)).1).imp (fun h => Or.inr ⟨rfl, Or.inr ⟨rfl, h⟩⟩)
    · obtain ⟨p, hp, rfl⟩ := List.mem_map.mp hp
      have := flL_in lev w D m (l + 1) q hq
      exact Or.inr ⟨this.1.symm, Or.inl (by show l < q.2.1; omega)⟩
theorem flW_in (r : Nat → Int32) (D L : Nat) : ∀ (m w : Nat), ∀ q ∈ flW r D L m w, w ≤ q.1 ∧ q.1 < w + m ∧ 1 ≤ q.2.1 ∧ q.2.1 ≤ L ∧ q.2.2.1 ≤ q.2.2.2 ∧ q.2.2.2 < D
  | 0, _, q, hq => absurd hq List.not_mem_nil
  | m + 1, w, q, hq => by
    rw [flW] at hq
    rcases List.mem_append.mp hq with h | h
    · have := flL_in (lv r w D L) w D L 1 q h
      exact ⟨by omega, by omega, this.2.1, by omega, this.2.2.2⟩
    · have := flW_in r D L m (w + 1) q h
      exact ⟨by omega, by omega, this.2.2⟩
theorem flW_pw (r : Nat → Int32) (D L : Nat) : ∀ (m w : Nat), (flW r D L m w).Pairwise Fo
  | 0, _ => List.Pairwise.nil
  | m + 1, w => by
    rw [flW, List.pairwise_append]
    refine ⟨flL_pw _ _ _ _ _, flW_pw r D L m (w + 1), fun p hp q hq => ?_⟩
    have h1 := flL_in (lv r w D L) w D L 1 p hp
    have h2 := flW_in r D L m (w + 1) q hq
    exact Or.inl (by omega)
theorem fl_len {r : Nat → Int32} {D L : Nat} (hD : D ≤ 12) (hL : L ≤ 3) : (fl r D L).length ≤ 144 := flW_len r D L hD hL 8 0
theorem fl_in {r : Nat → Int32} {D L : Nat} {q : Fq} (h : q ∈ fl r D L) : q.1 < 8 ∧ 1 ≤ q.2.1 ∧ q.2.1 ≤ L ∧ q.2.2.1 ≤ q.2.2.2 ∧ q.2.2.2 < D := by
  have := flW_in r D L 8 0 q h
  exact ⟨by omega, this.2.2⟩
theorem fl_fo {r : Nat → Int32} {D L i j : Nat} {p q : Fq} (hi : (fl r D L)[i]? = some p) (hj : (fl r D L)[j]? = some q) (h : i < j) : Fo p q := by
  have := flW_pw r D L 8 0
  rw [List.pairwise_iff_getElem] at this
  obtain ⟨h1, e1⟩ := List.getElem?_eq_some_iff.mp hi
  obtain ⟨h2, e2⟩ := List.getElem?_eq_some_iff.mp hj
  rw [← e1, ← e2]
  exact this i j h1 h2 h
/-- cells c, c+1, c+2, c+3 hold the flares' words, levels, first and last days -/
def Hf (S : Mm) (c : Nat) (xs : List Fq) : Prop := ∀ (i : Nat) (q : Fq), xs[i]? = some q → S.1 c i = nI q.1 ∧ S.1 (c + 1) i = nI q.2.1 ∧ S.1 (c + 2) i = nI q.2.2.1 ∧ S.1 (c + 3) i = nI q.2.2.2
theorem Hf.keep {S S1 : Mm} {c : Nat} {xs : List Fq} (h : Hf S c xs) (hk : ∀ a j, c ≤ a → a < c + 4 → S1.1 a j = S.1 a j) : Hf S1 c xs := fun i q hq => by
  obtain ⟨a1, a2, a3, a4⟩ := h i q hq
  exact ⟨(hk _ _ (by omega) (by omega)).trans a1, (hk _ _ (by omega) (by omega)).trans a2, (hk _ _ (by omega) (by omega)).trans a3, (hk _ _ (by omega) (by omega)).trans a4⟩
/-- one flare more -/
def pf (S : Mm) (c n : Nat) (q : Fq) : Mm := wr (wr (wr (wr S c n (nI q.1)) (c + 1) n (nI q.2.1)) (c + 2) n (nI q.2.2.1)) (c + 3) n (nI q.2.2.2)
theorem pf_keep {S : Mm} {c n a j : Nat} {q : Fq} (h : ¬ (c ≤ a ∧ a < c + 4 ∧ j = n)) : (pf S c n q).1 a j = S.1 a j := by
  unfold pf
  simp only [wr_at]
  rw [if_neg (by omega), if_neg (by omega), if_neg (by omega), if_neg (by omega)]
theorem Hf.push {S : Mm} {c : Nat} {xs : List Fq} {q : Fq} (h : Hf S c xs) : Hf (pf S c xs.length q) c (xs ++ [q]) := by
  intro i p hp
  by_cases hi : i < xs.length
  · rw [List.getElem?_append_left hi] at hp
    obtain ⟨a1, a2, a3, a4⟩ := h i p hp
    rw [pf_keep (by omega), pf_keep (by omega), pf_keep (by omega), pf_keep (by omega)]
    exact ⟨a1, a2, a3, a4⟩
  · rw [List.getElem?_append_right (by omega)] at hp
    have hz : i - xs.length < 1 := (List.getElem?_eq_some_iff.mp hp).1
    have hi2 : i = xs.length := by omega
    subst hi2
    rw [Nat.sub_self] at hp
    cases hp
    unfold pf
    simp only [wr_at]
    simp
theorem x_add {S : Mm} {xs : List Fq} {q : Fq} (hn : S.1 50 1 = nI xs.length) (h : xs.length < 144) : f_X3_add S (nI q.1) (nI q.2.1) (nI q.2.2.1) (nI q.2.2.2) = some (wr (pf S 52 xs.length q) 50 1 (nI (xs.length + 1))) := by
  unfold f_X3_add pf
  simp (disch := omega) only [nI_add, nI_1, nI_leI, nI_ltI, nI_eq, inb_nI, nI_clamp, if_pos, if_neg, if_true, if_false, bnd, l_0, l_1, l_2, l_3, l_4, l_5, l_6, l_7, l_8, l_9, l_10, l_11, l_12, l_13, l_14, l_15, l_16, l_17, l_18, l_19, l_20, l_21, l_22, l_23, l_24, l_25, l_26, l_27, l_28, l_29, l_30, l_31, l_32, l_33, l_34, l_35, l_36, l_37, l_38, l_39, l_40, l_41, l_42, l_43, l_44, l_45, l_46, l_47, l_48, l_49, l_50, l_51, l_52, l_53, l_54, l_55, l_56, l_57, l_58, l_59, l_60, l_61, l_62, l_63, l_64, l_65, l_66, l_67, l_68, l_69, l_70, l_71, l_72, l_73, l_74, l_75, l_76, l_77, l_78, l_79, l_80, l_81, l_82, l_83, l_84, l_85, l_86, l_87, l_88, l_89, l_90, l_91, l_92, l_93, l_94, l_95, l_96, l_97, l_98, l_99, l_100, l_123, l_144, l_160, l_255, l_256, l_1000, l_1462, l_1634, l_65536, hn, wr_k]
def fi (st : Option Nat) : Int32 := match st with
  | none => -1
  | some f => nI f
theorem x_of {S : Mm} {w d v : Nat} (hw : w < 8) (hd : d < 12) (h : S.1 (28 + w) d = nI v) : f_X5_of S (nI w) (nI d) = some (nI v) := by
  unfold f_X5_of
  rw [isWord_y hw, isDay_y hd]
  simp (disch := omega) only [nI_add, nI_1, nI_leI, nI_ltI, nI_eq, inb_nI, nI_clamp, if_pos, if_neg, if_true, if_false, bnd, l_0, l_1, l_2, l_3, l_4, l_5, l_6, l_7, l_8, l_9, l_10, l_11, l_12, l_13, l_14, l_15, l_16, l_17, l_18, l_19, l_20, l_21, l_22, l_23, l_24, l_25, l_26, l_27, l_28, l_29, l_30, l_31, l_32, l_33, l_34, l_35, l_36, l_37, l_38, l_39, l_40, l_41, l_42, l_43, l_44, l_45, l_46, l_47, l_48, l_49, l_50, l_51, l_52, l_53, l_54, l_55, l_56, l_57, l_58, l_59, l_60, l_61, l_62, l_63, l_64, l_65, l_66, l_67, l_68, l_69, l_70, l_71, l_72, l_73, l_74, l_75, l_76, l_77, l_78, l_79, l_80, l_81, l_82, l_83, l_84, l_85, l_86, l_87, l_88, l_89, l_90, l_91, l_92, l_93, l_94, l_95, l_96, l_97, l_98, l_99, l_100, l_123, l_144, l_160, l_255, l_256, l_1000, l_1462, l_1634, l_65536]
  rw [h]
theorem x_at {lev : Nat → Nat} {w l D : Nat} {k : Int32 → Int32 → Mm → Option Mm} (hw : w < 8) (hD : D ≤ 12) (hl : l ≤ 3) (hlev : ∀ d, lev d ≤ 3) : ∀ (m d fuel : Nat) (st : Option Nat) (S : Mm) (xs : List Fq), d + m = D + 1 → m < fuel → (∀ f, st = some f → f < d) → (∀ a, a < D → S.1 (28 + w) a = nI (lev a)) → Hf S 52 xs → S.1 50 1 = nI xs.length → xs.length + (sc lev l D m d st).length ≤ 144 → ∃ (y z : Int32) (S' : Mm), lp_X3_findAt_6 k (nI w) (nI l) (nI D) fuel (fi st) (nI d) S = k y z S' ∧ S'.2 = S.2 ∧ (∀ a j, ¬ (52 ≤ a ∧ a < 56) → ¬ (a = 50 ∧ j = 1) → S'.1 a j = S.1 a j) ∧ Hf S' 52 (xs ++ (sc lev l D m d st).map (fun p => (w, l, p.1, p.2))) ∧ S'.1 50 1 = nI (xs.length + (sc lev l D m d st).length) := by
  intro m
  induction m with
  | zero =>
    intro d fuel st S xs h1 h2 hst hS hH hn hb
    obtain ⟨f, rfl⟩ : ∃ f, fuel = f + 1 := ⟨fuel - 1, by omega⟩
    refine ⟨fi st, nI d, S, ?_, rfl, fun _ _ _ _ => rfl, ?_, ?_⟩
    · rw [lp_X3_findAt_6, if_pos (nI_lt (by omega) (by omega))]
    · rw [sc, List.map_nil, List.append_nil]; exact hH
    · rw [sc]; exact hn
  | succ m ih =>
    intro d fuel st S xs h1 h2 hst hS hH hn hb
    obtain ⟨f, rfl⟩ : ∃ f, fuel = f + 1 := ⟨fuel - 1, by omega⟩
    have hm1 : ¬ nI D < nI d := nI_nlt (by omega) (by omega)
    -- what happens when the level is not reached, and when it is
    have hno : ∀ (st : Option Nat), (∀ f, st = some f → f < d) → xs.length + (sc lev l D (m + 1) d st).length ≤ 144 → ¬ (d < D ∧ l ≤ lev d) → ∃ (y z : Int32) (S' : Mm), (if fi st = (-1) then lp_X3_findAt_6 k (nI w) (nI l) (nI D) f (fi st) (nI d + 1) S else ((f_X3_add S (nI w) (nI l) (fi st) (nI d - 1)).bind fun r1 => lp_X3_findAt_6 k (nI w) (nI l) (nI D) f (-1) (nI d + 1) r1)) = k y z S' ∧ S'.2 = S.2 ∧ (∀ a j, ¬ (52 ≤ a ∧ a < 56) → ¬ (a = 50 ∧ j = 1) → S'.1 a j = S.1 a j) ∧ Hf S' 52 (xs ++ (sc lev l D (m + 1) d st).map (fun p => (w, l, p.1, p.2))) ∧ S'.1 50 1 = nI (xs.length + (sc lev l D (m + 1) d st).length) := by
      intro st hst hb hc
      cases st with
      | none =>
        rw [sc, if_neg hc] at hb ⊢
        obtain ⟨y, z, S', e1, e2, e3, e4, e5⟩ := ih (d + 1) f none S xs (by omega) (by omega) (fun f h => by cases h) hS hH hn hb
        refine ⟨y, z, S', ?_, e2, e3, e4, e5⟩
        rw [if_pos (show fi none = -1 from rfl), nI_1]
        exact e1
      | some f0 =>
        have hf0 := hst f0 rfl
        rw [sc, if_neg hc, List.length_cons] at hb
        rw [sc, if_neg hc]
        have hx := x_add (S := S) (xs := xs) (q := (w, l, f0, d - 1)) hn (by omega)
        have hk : ∀ a j, ¬ (52 ≤ a ∧ a < 56) → ¬ (a = 50 ∧ j = 1) → (wr (pf S 52 xs.length (w, l, f0, d - 1)) 50 1 (nI (xs.length + 1))).1 a j = S.1 a j := fun a j h3 h4 => (if_neg h4).trans (pf_keep (by omega))
        obtain ⟨y, z, S', e1, e2, e3, e4, e5⟩ := ih (d + 1) f none (wr (pf S 52 xs.length (w, l, f0, d - 1)) 50 1 (nI (xs.length + 1))) (xs ++ [(w, l, f0, d - 1)]) (by omega) (by omega) (fun f h => by cases h) (fun a ha => (hk _ _ (by omega) (by omega)).trans (hS a ha)) (hH.push.keep (fun a j h3 h4 => wr_k _ _ (by omega))) (by rw [List.length_append]; exact wr_s _ _ _ _) (by rw [List.length_append]; show _ + 1 + _ ≤ _; omega)
        refine ⟨y, z, S', ?_, e2, fun a j h3 h4 => (e3 a j h3 h4).trans (hk a j h3 h4), ?_, ?_⟩
        · rw [if_neg (show ¬ fi (some f0) = -1 from fun h => nI_pos (show f0 < 2 ^ 31 by omega) (by have h : nI f0 = -1 := h; rw [h]; decide)), l_1, pk_sub (by omega), nI_add]
          show ((f_X3_add S (nI w) (nI l) (nI f0) (nI (d - 1))).bind _) = _
          rw [hx, Option.bind_some]
          exact e1
        · rw [List.map_cons, ← List.singleton_append, ← List.append_assoc]; exact e4
        · rw [e5]
          simp only [List.length_append, List.length_cons, List.length_nil]
          congr 1
          omega
    by_cases hdD : d < D
    · by_cases hr : l ≤ lev d
      · have hyes : ∃ st', sc lev l D (m + 1) d st = sc lev l D m (d + 1) st' ∧ (∀ f, st' = some f → f < d + 1) ∧ (if fi st = (-1) then lp_X3_findAt_6 k (nI w) (nI l) (nI D) f (nI d) (nI d + 1) S else lp_X3_findAt_6 k (nI w) (nI l) (nI D) f (fi st) (nI d + 1) S) = lp_X3_findAt_6 k (nI w) (nI l) (nI D) f (fi st') (nI (d + 1)) S := by
          cases st with
          | none =>
            refine ⟨some d, by rw [sc, if_pos ⟨hdD, hr⟩], fun f h => by cases h; omega, ?_⟩
            rw [if_pos (show fi none = -1 from rfl), nI_1]; rfl
          | some f0 =>
            have hf0 := hst f0 rfl
            refine ⟨some f0, by rw [sc, if_pos ⟨hdD, hr⟩], fun f h => by cases h; omega, ?_⟩
            rw [if_neg (show ¬ fi (some f0) = -1 from fun h => nI_pos (show f0 < 2 ^ 31 by omega) (by have h : nI f0 = -1 := h; rw [h]; decide)), nI_1]
        obtain ⟨st', g1, g2, g3⟩ := hyes
        rw [g1] at hb ⊢
        obtain ⟨y, z, S', e1, e2, e3, e4, e5⟩ := ih (d + 1) f st' S xs (by omega) (by omega) g2 hS hH hn hb
        refine ⟨y, z, S', ?_, e2, e3, e4, e5⟩
        have h3 := hlev d
        rw [lp_X3_findAt_6, if_neg hm1, if_neg (nI_ge hdD (by omega)), x_of hw (by omega) (hS d hdD), Option.bind_some, if_neg (nI_nlt hr (by omega)), g3]
        exact e1
      · obtain ⟨y, z, S', e1, e2⟩ := hno st hst hb (fun h => hr h.2)
        refine ⟨y, z, S', ?_, e2⟩
        rw [lp_X3_findAt_6, if_neg hm1, if_neg (nI_ge hdD (by omega)), x_of hw (by omega) (hS d hdD), Option.bind_some, if_pos (nI_lt (by omega) (by omega))]
        exact e1
    · obtain ⟨y, z, S', e1, e2⟩ := hno st hst hb (fun h => hdD h.1)
      refine ⟨y, z, S', ?_, e2⟩
      rw [lp_X3_findAt_6, if_neg hm1, if_pos (nI_le (by omega) (by omega))]
      exact e1
theorem x_findAt {S : Mm} {lev : Nat → Nat} {w l D : Nat} {xs : List Fq} (hw : w < 8) (hD : D ≤ 12) (hl : l ≤ 3) (hlev : ∀ d, lev d ≤ 3) (hS : ∀ a, a < D → S.1 (28 + w) a = nI (lev a)) (hH : Hf S 52 xs) (hn : S.1 50 1 = nI xs.length) (hb : xs.length + (sc lev l D (D + 1) 0 none).length ≤ 144) : ∃ S', f_X3_findAt S (nI w) (nI l) (nI D) = some S' ∧ S'.2 = S.2 ∧ (∀ a j, ¬ (52 ≤ a ∧ a < 56) → ¬ (a = 50 ∧ j = 1) → S'.1 a j = S.1 a j) ∧ Hf S' 52 (xs ++ (sc lev l D (D + 1) 0 none).map (fun p => (w, l, p.1, p.2))) ∧ S'.1 50 1 = nI (xs.length + (sc lev l D (D + 1) 0 none).length) := by
  obtain ⟨F, hFu⟩ : ∃ F : Nat, 100000 = F := ⟨_, rfl⟩
  obtain ⟨y, z, S', e1, e2⟩ := x_at (k := fun _ _ S => some S) hw hD hl hlev (D + 1) 0 F none S xs (by omega) (by omega) (fun f h => by cases h) hS hH hn hb
  refine ⟨S', ?_, e2⟩
  unfold f_X3_findAt
  rw [hFu, l_0]
  exact e1
theorem x_lvls {r : Nat → Int32} {w D L : Nat} {k : Int32 → Mm → Option Mm} (hw : w < 8) (hD : D ≤ 12) (hrD : r 0 = nI D) (hL : L ≤ 3) (hrL : r 2 = nI L) : ∀ (m l fuel : Nat) (S : Mm) (xs : List Fq), l + m = L + 1 → m < fuel → FT S r → FL S r D L → Hf S 52 xs → S.1 50 1 = nI xs.length → xs.length + (flL (lv r w D L) w D m l).length ≤ 144 → ∃ S', lp_X3_findAll_16 k (nI w) fuel (nI l) S = k (nI (L + 1)) S' ∧ S'.2 = S.2 ∧ (∀ a j, ¬ (52 ≤ a ∧ a < 56) → ¬ (a = 50 ∧ j = 1) → S'.1 a j = S.1 a j) ∧ Hf S' 52 (xs ++ flL (lv r w D L) w D m l) ∧ S'.1 50 1 = nI (xs.length + (flL (lv r w D L) w D m l).length) := by
  intro m
  induction m with
  | zero =>
    intro l fuel S xs h1 h2 hF hG hH hn hb
    obtain ⟨f, rfl⟩ : ∃ f, fuel = f + 1 := ⟨fuel - 1, by omega⟩
    refine ⟨S, ?_, rfl, fun _ _ _ _ => rfl, by rw [flL, List.append_nil]; exact hH, by rw [flL]; exact hn⟩
    rw [lp_X3_findAll_16, f_X8_highest, hF.1.2.1, hrL, Option.bind_some, if_pos (nI_lt (by omega) (by omega)), show l = L + 1 by omega]
  | succ m ih =>
    intro l fuel S xs h1 h2 hF hG hH hn hb
    obtain ⟨f, rfl⟩ : ∃ f, fuel = f + 1 := ⟨fuel - 1, by omega⟩
    rw [flL] at hb ⊢
    rw [List.length_append, List.length_map] at hb
    obtain ⟨S1, a1, a2, a3, a4, a5⟩ := x_findAt (l := l) hw hD (by omega) (fun d => Nat.le_trans (lv_le r w D L d) hL) (hG w hw).2 hH hn (by omega)
    obtain ⟨S2, b1, b2, b3, b4, b5⟩ := ih (l + 1) f S1 _ (by omega) (by omega) (hF.keep (fun a j h3 h4 => a3 a j (by omega) (by omega))) (fun v hv => ⟨(a3 _ _ (by omega) (by omega)).trans (hG v hv).1, fun d hd => (a3 _ _ (by omega) (by omega)).trans ((hG v hv).2 d hd)⟩) a4 (by rw [a5, List.length_append, List.length_map]) (by rw [List.length_append, List.length_map]; omega)
    refine ⟨S2, ?_, b2.trans a2, fun a j h3 h4 => (b3 a j h3 h4).trans (a3 a j h3 h4), ?_, ?_⟩
    · rw [lp_X3_findAll_16, f_X8_highest, hF.1.2.1, hrL, Option.bind_some, if_neg (nI_nlt (by omega) (by omega)), f_X8_dayCount, Option.bind_some, hF.1.1, hrD, a1, Option.bind_some, nI_1, b1]
    · rw [← List.append_assoc]; exact b4
    · rw [b5]
      simp only [List.length_append, List.length_map]
      congr 1
      omega
theorem x_wrds {r : Nat → Int32} {D L : Nat} {k : Int32 → Mm → Option Mm} (hD : D ≤ 12) (hrD : r 0 = nI D) (hL : L ≤ 3) (hrL : r 2 = nI L) : ∀ (m w fuel : Nat) (S : Mm) (xs : List Fq), w + m = 8 → m < fuel → FT S r → FL S r D L → Hf S 52 xs → S.1 50 1 = nI xs.length → xs.length + (flW r D L m w).length ≤ 144 → ∃ S', lp_X3_findAll_7 k fuel (nI w) S = k (nI 8) S' ∧ S'.2 = S.2 ∧ (∀ a j, ¬ (52 ≤ a ∧ a < 56) → ¬ (a = 50 ∧ j = 1) → S'.1 a j = S.1 a j) ∧ Hf S' 52 (xs ++ flW r D L m w) ∧ S'.1 50 1 = nI (xs.length + (flW r D L m w).length) := by
  intro m
  induction m with
  | zero =>
    intro w fuel S xs h1 h2 hF hG hH hn hb
    obtain ⟨f, rfl⟩ : ∃ f, fuel = f + 1 := ⟨fuel - 1, by omega⟩
    refine ⟨S, ?_, rfl, fun _ _ _ _ => rfl, by rw [flW, List.append_nil]; exact hH, by rw [flW]; exact hn⟩
    rw [lp_X3_findAll_7, show w = 8 by omega]
    simp (disch := omega) only [nI_add, nI_1, nI_leI, nI_ltI, nI_eq, inb_nI, nI_clamp, if_pos, if_neg, if_true, if_false, bnd, l_0, l_1, l_2, l_3, l_4, l_5, l_6, l_7, l_8, l_9, l_10, l_11, l_12, l_13, l_14, l_15, l_16, l_17, l_18, l_19, l_20, l_21, l_22, l_23, l_24, l_25, l_26, l_27, l_28, l_29, l_30, l_31, l_32, l_33, l_34, l_35, l_36, l_37, l_38, l_39, l_40, l_41, l_42, l_43, l_44, l_45, l_46, l_47, l_48, l_49, l_50, l_51, l_52, l_53, l_54, l_55, l_56, l_57, l_58, l_59, l_60, l_61, l_62, l_63, l_64, l_65, l_66, l_67, l_68, l_69, l_70, l_71, l_72, l_73, l_74, l_75, l_76, l_77, l_78, l_79, l_80, l_81, l_82, l_83, l_84, l_85, l_86, l_87, l_88, l_89, l_90, l_91, l_92, l_93, l_94, l_95, l_96, l_97, l_98, l_99, l_100, l_123, l_144, l_160, l_255, l_256, l_1000, l_1462, l_1634, l_65536]
  | succ m ih =>
    intro w fuel S xs h1 h2 hF hG hH hn hb
    obtain ⟨f, rfl⟩ : ∃ f, fuel = f + 1 := ⟨fuel - 1, by omega⟩
    obtain ⟨F, hFu⟩ : ∃ F : Nat, 100000 = F := ⟨_, rfl⟩
    rw [flW] at hb ⊢
    rw [List.length_append] at hb
    obtain ⟨S1, a1, a2, a3, a4, a5⟩ := x_lvls (k := fun _ S8 => lp_X3_findAll_7 k f (nI w + 1) S8) (show w < 8 by omega) hD hrD hL hrL L 1 F S xs (by omega) (by omega) hF hG hH hn (by omega)
    obtain ⟨S2, b1, b2, b3, b4, b5⟩ := ih (w + 1) f S1 _ (by omega) (by omega) (hF.keep (fun a j h3 h4 => a3 a j (by omega) (by omega))) (fun v hv => ⟨(a3 _ _ (by omega) (by omega)).trans (hG v hv).1, fun d hd => (a3 _ _ (by omega) (by omega)).trans ((hG v hv).2 d hd)⟩) a4 (by rw [a5, List.length_append]) (by rw [List.length_append]; omega)
    refine ⟨S2, ?_, b2.trans a2, fun a j h3 h4 => (b3 a j h3 h4).trans (a3 a j h3 h4), ?_, ?_⟩
    · rw [lp_X3_findAll_7, if_neg (show ¬ (8 : Int32) ≤ nI w from nI_ge (show w < 8 by omega) (by decide)), hFu]
      refine Eq.trans (show _ = lp_X3_findAll_16 (fun _ S8 => lp_X3_findAll_7 k f (nI w + 1) S8) (nI w) F (nI 1) S from rfl) ?_
      rw [a1, nI_1, b1]
    · rw [← List.append_assoc]; exact b4
    · rw [b5]
      simp only [List.length_append]
      congr 1
      omega
