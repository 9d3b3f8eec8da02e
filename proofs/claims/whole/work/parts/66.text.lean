/-! ===== the text ===== -/
def wds (c : Nat → Nat) : Nat → Nat → Int32 → Nat × Int32
  | 0, p, a => (p, a)
  | m + 1, p, a => if 97 ≤ c p ∧ c p ≤ 104 then wds c m (p + 1) (a ||| bit (c p - 97)) else (p, a)
theorem bit_n : ∀ w, w < 8 → bit w = nI (2 ^ w) ∧ 2 ^ w < 256 := by decide
theorem or_n (a b : Nat) : nI a ||| nI b = nI (a ||| b) := Int32.toBitVec_inj.mp (by
  show BitVec.ofNat 32 a ||| BitVec.ofNat 32 b = BitVec.ofNat 32 (a ||| b)
  apply BitVec.eq_of_toNat_eq
  rw [BitVec.toNat_or, BitVec.toNat_ofNat, BitVec.toNat_ofNat, BitVec.toNat_ofNat, Nat.or_mod_two_pow])
theorem wds_in (c : Nat → Nat) : ∀ (m p : Nat) (a : Int32), (∃ s, s < 256 ∧ a = nI s) → p ≤ (wds c m p a).1 ∧ (wds c m p a).1 ≤ p + m ∧ ∃ s, s < 256 ∧ (wds c m p a).2 = nI s
  | 0, p, a, h => ⟨Nat.le_refl _, Nat.le_refl _, h⟩
  | m + 1, p, a, h => by
    rw [wds]
    by_cases hc : 97 ≤ c p ∧ c p ≤ 104
    · rw [if_pos hc]
      obtain ⟨s, hs, rfl⟩ := h
      obtain ⟨b1, b2⟩ := bit_n (c p - 97) (by omega)
      have := wds_in c m (p + 1) (nI s ||| bit (c p - 97)) ⟨s ||| 2 ^ (c p - 97), Nat.or_lt_two_pow (n := 8) hs b2, by rw [b1, or_n]⟩
      exact ⟨by omega, by omega, this.2.2⟩
    · rw [if_neg hc]; exact ⟨Nat.le_refl _, by show p ≤ _; omega, h⟩
def two (c : Nat → Nat) (z p : Nat) : Bool := decide (c p = 49 ∧ p + 1 < z ∧ (c (p + 1) = 48 ∨ c (p + 1) = 49))
def dy (c : Nat → Nat) (z p : Nat) : Nat := if two c z p then 10 + c (p + 1) - 48 else c p - 48
def p1 (c : Nat → Nat) (z p : Nat) : Nat := if two c z p then p + 2 else p + 1
def XT (S : Mm) (c : Nat → Nat) (z : Nat) : Prop := z ≤ 60 ∧ S.1 68 3 = nI z ∧ ∀ j, j < z → S.1 69 j = nI (c j) ∧ c j < 256
def MT (S : Mm) (c : Nat → Nat) (z : Nat) : Prop := z ≤ 60 ∧ S.1 153 6 = nI z ∧ ∀ j, j < z → S.1 156 j = nI (c j) ∧ c j < 256
theorem x_let {S : Mm} {c : Nat → Nat} {z p : Nat} (h : XT S c z) (hp : p < z) : f_X9_letterAt S (nI p) = some (nI (c p)) := by
  obtain ⟨h60, h3, hc⟩ := h
  unfold f_X9_letterAt
  rw [h3, if_neg (nI_pos (by omega)), if_neg (nI_ge hp (by omega)), if_pos ((inb_nI (by omega)).mpr (by omega)), nI_clamp (by omega), (hc p hp).1]
theorem x_let_n {S : Mm} {c : Nat → Nat} {z p : Nat} (h : XT S c z) (hp : z ≤ p) (hp2 : p < 2 ^ 31) : f_X9_letterAt S (nI p) = some (-1) := by
  obtain ⟨h60, h3, hc⟩ := h
  unfold f_X9_letterAt
  rw [h3, if_neg (nI_pos hp2), if_pos (nI_le hp hp2)]
theorem x_two {S : Mm} {c : Nat → Nat} {z p : Nat} (h : XT S c z) (hp : p < z) (h5 : S.1 68 5 = nI p) : f_X9_hasTwoFigures S = some (fg (two c z p)) := by
  have hcp := (h.2.2 p hp).2
  have h60 := h.1
  unfold f_X9_hasTwoFigures two
  rw [h5, nI_1, x_let h hp]
  by_cases hp1 : p + 1 < z
  · have hcq := (h.2.2 (p + 1) hp1).2
    rw [x_let h hp1, bnd, bnd]
    simp (disch := omega) only [nI_add, nI_1, nI_leI, nI_ltI, nI_eq, inb_nI, nI_clamp, if_pos, if_neg, if_true, if_false, bnd, l_0, l_1, l_2, l_3, l_4, l_5, l_6, l_7, l_8, l_9, l_10, l_11, l_12, l_13, l_14, l_15, l_16, l_17, l_18, l_19, l_20, l_21, l_22, l_23, l_24, l_25, l_26, l_27, l_28, l_29, l_30, l_31, l_32, l_33, l_34, l_35, l_36, l_37, l_38, l_39, l_40, l_41, l_42, l_43, l_44, l_45, l_46, l_47, l_48, l_49, l_50, l_51, l_52, l_53, l_54, l_55, l_56, l_57, l_58, l_59, l_60, l_61, l_62, l_63, l_64, l_65, l_66, l_67, l_68, l_69, l_70, l_71, l_72, l_73, l_74, l_75, l_76, l_77, l_78, l_79, l_80, l_81, l_82, l_83, l_84, l_85, l_86, l_87, l_88, l_89, l_90, l_91, l_92, l_93, l_94, l_95, l_96, l_97, l_98, l_99, l_100, l_123, l_144, l_160, l_255, l_256, l_1000, l_1462, l_1634, l_65536]
    by_cases e1 : c p = 49
    · rw [if_pos e1]
      by_cases e2 : c (p + 1) = 48
      · rw [if_pos e2, decide_eq_true ⟨e1, hp1, Or.inl e2⟩]; rfl
      · rw [if_neg e2]
        by_cases e3 : c (p + 1) = 49
        · rw [if_pos e3, decide_eq_true ⟨e1, hp1, Or.inr e3⟩]; rfl
        · rw [if_neg e3, decide_eq_false (by omega)]; rfl
    · rw [if_neg e1, decide_eq_false (by omega)]; rfl
  · rw [x_let_n h (by omega) (by omega), bnd, bnd, decide_eq_false (by omega)]
    by_cases e1 : nI (c p) = 49
    · rw [if_pos e1]; rfl
    · rw [if_neg e1]; rfl
theorem x_pass {S : Mm} {c : Nat → Nat} {z p a : Nat} (h : XT S c z) (hp : p ≤ z) (h5 : S.1 68 5 = nI p) (ha : a < 256) : f_X9_passes S (nI a) = some (if p < z ∧ c p = a then (1, wr S 68 5 (nI (p + 1))) else (0, S)) := by
  have h60 := h.1
  unfold f_X9_passes
  rw [h5]
  by_cases hpz : p < z
  · have hcp := (h.2.2 p hpz).2
    rw [x_let h hpz, bnd, nI_1]
    by_cases e : c p = a
    · rw [if_pos (by rw [e]), if_pos ⟨hpz, e⟩]
    · rw [if_neg (fun q => e ((nI_eq (by omega) (by omega)).mp q)), if_neg (fun q => e q.2)]
  · rw [x_let_n h (by omega) (by omega), bnd, if_neg (fun q => nI_pos (show a < 2 ^ 31 by omega) (by rw [← q]; decide)), if_neg (fun q => hpz q.1)]
theorem XT.w {S : Mm} {c : Nat → Nat} {z j : Nat} {v : Int32} (h : XT S c z) (hj : j ≠ 3) : XT (wr S 68 j v) c z := ⟨h.1, (wr_j _ _ (fun e => hj e.symm)).trans h.2.1, fun i hi => by
  rw [wr_k _ _ (by omega)]; exact h.2.2 i hi⟩
theorem x_words_loop {c : Nat → Nat} {z : Nat} {k : Int32 → Mm → Option (Int32 × Mm)} : ∀ (m p fuel : Nat) (a : Int32) (S : Mm), p + m = z → m < fuel → XT S c z → S.1 68 5 = nI p → ∃ S', lp_X9_readWords_2 k fuel a S = k (wds c m p a).2 S' ∧ S'.2 = S.2 ∧ (∀ x j, ¬ (x = 68 ∧ j = 5) → S'.1 x j = S.1 x j) ∧ S'.1 68 5 = nI (wds c m p a).1 := by
  intro m
  induction m with
  | zero =>
    intro p fuel a S h1 h2 hX h5
    obtain ⟨f, rfl⟩ : ∃ f, fuel = f + 1 := ⟨fuel - 1, by omega⟩
    have h60 := hX.1
    refine ⟨S, ?_, rfl, fun _ _ _ => rfl, h5⟩
    rw [lp_X9_readWords_2, hX.2.1, h5, if_pos (nI_le (by omega) (by omega)), wds]
  | succ m ih =>
    intro p fuel a S h1 h2 hX h5
    obtain ⟨f, rfl⟩ : ∃ f, fuel = f + 1 := ⟨fuel - 1, by omega⟩
    have h60 := hX.1
    have hcp := (hX.2.2 p (by omega)).2
    rw [lp_X9_readWords_2, hX.2.1, h5, if_neg (nI_ge (by omega) (by omega)), x_let hX (by omega), bnd, bnd, wds]
    by_cases hc : 97 ≤ c p ∧ c p ≤ 104
    · have e1 : nI (c p) - 97 = nI (c p - 97) := by rw [l_97, pk_sub hc.1]
      obtain ⟨S', g1, g2, g3, g4⟩ := ih (p + 1) f (a ||| bit (c p - 97)) (wr S 68 5 (nI (p + 1))) (by omega) (by omega) (hX.w (by omega)) (wr_s _ _ _ _)
      rw [if_pos hc]
      refine ⟨S', ?_, g2, fun x j h => (g3 x j h).trans (if_neg h), g4⟩
      rw [e1, isWord_y (by omega), bnd, if_neg (by decide), set_y, bnd, nI_1]
      exact g1
    · rw [if_neg hc]
      refine ⟨S, ?_, rfl, fun _ _ _ => rfl, h5⟩
      have : f_X10_isWord S (nI (c p) - 97) = some 0 := by
        unfold f_X10_isWord
        by_cases h : c p < 97
        · rw [if_pos]
          have : ∀ x : Nat, x < 97 → nI x - 97 < 0 := by decide
          exact this _ h
        · rw [l_97, pk_sub (by omega), if_neg (nI_pos (by omega)), if_pos (show (8 : Int32) ≤ nI (c p - 97) from nI_le (show 8 ≤ c p - 97 by omega) (by omega))]
      rw [this, bnd, if_pos rfl]
/-- one piece read: a fault and its place, or day, set and the place behind it -/
def pce (c : Nat → Nat) (z D rm q p : Nat) : (Nat × Nat) ⊕ (Nat × Int32 × Nat) :=
  if ¬ (48 ≤ c p ∧ c p ≤ 57) then .inl (1, p)
  else if D ≤ dy c z p then .inl (2, p)
  else if rm ≤ q then .inl (3, p)
  else if ¬ (p1 c z p < z ∧ c (p1 c z p) = 58) then .inl (1, p1 c z p)
  else if ¬ ((wds c (z - (p1 c z p + 1)) (p1 c z p + 1) 0).1 < z ∧ c (wds c (z - (p1 c z p + 1)) (p1 c z p + 1) 0).1 = 59) then .inl (1, (wds c (z - (p1 c z p + 1)) (p1 c z p + 1) 0).1)
  else .inr (dy c z p, (wds c (z - (p1 c z p + 1)) (p1 c z p + 1) 0).2, (wds c (z - (p1 c z p + 1)) (p1 c z p + 1) 0).1 + 1)
/-- the class's cells that reading may change -/
def Tf (S S' : Mm) (q : Nat) : Prop := S'.2 = S.2 ∧ ∀ x j, ¬ (x = 68 ∧ (j = 4 ∨ j = 5)) → ¬ ((x = 70 ∨ x = 71) ∧ q ≤ j) → S'.1 x j = S.1 x j
theorem x_tail {S : Mm} {c : Nat → Nat} {z p q d : Nat} (hX : XT S c z) (hp : p ≤ z) (h4 : S.1 68 4 = nI q) (hq : q < 20) : (if ¬ (p < z ∧ c p = 58) then ((f_X9_passes (wr S 68 5 (nI p)) 58).bind fun r9 => (if r9.1 = 0 then some (1, r9.2) else ((f_X9_readWords r9.2).bind fun r11 => ((f_X9_passes r11.2 59).bind fun r13 => (if r13.1 = 0 then some ((1 : Int32), r13.2) else (if inb (r13.2.1 68 4) 20 then (if inb ((wr r13.2 70 (r13.2.1 68 4).toNatClampNeg (nI d)).1 68 4) 20 then some (0, wr (wr (wr r13.2 70 (r13.2.1 68 4).toNatClampNeg (nI d)) 71 ((wr r13.2 70 (r13.2.1 68 4).toNatClampNeg (nI d)).1 68 4).toNatClampNeg r11.1) 68 4 (((wr (wr r13.2 70 (r13.2.1 68 4).toNatClampNeg (nI d)) 71 ((wr r13.2 70 (r13.2.1 68 4).toNatClampNeg (nI d)).1 68 4).toNatClampNeg r11.1).1 68 4) + 1)) else none) else none)))))) = some (1, wr S 68 5 (nI p)) else ∃ S', ((f_X9_passes (wr S 68 5 (nI p)) 58).bind fun r9 => (if r9.1 = 0 then some (1, r9.2) else ((f_X9_readWords r9.2).bind fun r11 => ((f_X9_passes r11.2 59).bind fun r13 => (if r13.1 = 0 then some ((1 : Int32), r13.2) else (if inb (r13.2.1 68 4) 20 then (if inb ((wr r13.2 70 (r13.2.1 68 4).toNatClampNeg (nI d)).1 68 4) 20 then some (0, wr (wr (wr r13.2 70 (r13.2.1 68 4).toNatClampNeg (nI d)) 71 ((wr r13.2 70 (r13.2.1 68 4).toNatClampNeg (nI d)).1 68 4).toNatClampNeg r11.1) 68 4 (((wr (wr r13.2 70 (r13.2.1 68 4).toNatClampNeg (nI d)) 71 ((wr r13.2 70 (r13.2.1 68 4).toNatClampNeg (nI d)).1 68 4).toNatClampNeg r11.1).1 68 4) + 1)) else none) else none)))))) = some (if ¬ ((wds c (z - (p + 1)) (p + 1) 0).1 < z ∧ c (wds c (z - (p + 1)) (p + 1) 0).1 = 59) then (1, S') else (0, S')) ∧ Tf S S' q ∧ (if ¬ ((wds c (z - (p + 1)) (p + 1) 0).1 < z ∧ c (wds c (z - (p + 1)) (p + 1) 0).1 = 59) then S'.1 68 5 = nI (wds c (z - (p + 1)) (p + 1) 0).1 ∧ S'.1 68 4 = nI q else S'.1 68 5 = nI ((wds c (z - (p + 1)) (p + 1) 0).1 + 1) ∧ S'.1 68 4 = nI (q + 1) ∧ S'.1 70 q = nI d ∧ S'.1 71 q = (wds c (z - (p + 1)) (p + 1) 0).2)) := by
  obtain ⟨F, hFu⟩ : ∃ F : Nat, 100000 = F := ⟨_, rfl⟩
  have h60 := hX.1
  have hps := x_pass (S := wr S 68 5 (nI p)) (p := p) (a := 58) (hX.w (by omega)) hp (wr_s _ _ _ _) (by decide)
  by_cases hc : p < z ∧ c p = 58
  · rw [if_neg (fun h => h hc)]
    rw [if_pos hc] at hps
    have hXa : XT (wr (wr S 68 5 (nI p)) 68 5 (nI (p + 1))) c z := (hX.w (by omega)).w (by omega)
    obtain ⟨S1, a1, a2, a3, a4⟩ := x_words_loop (k := fun y S10 => some (y, S10)) (z - (p + 1)) (p + 1) F 0 _ (by omega) (by omega) hXa (wr_s _ _ _ _)
    have hw : f_X9_readWords (wr (wr S 68 5 (nI p)) 68 5 (nI (p + 1))) = some ((wds c (z - (p + 1)) (p + 1) 0).2, S1) := by
      unfold f_X9_readWords
      rw [hFu]
      exact a1
    obtain ⟨w1, w2, -⟩ := wds_in c (z - (p + 1)) (p + 1) 0 ⟨0, by decide, rfl⟩
    have k1 : ∀ x j, ¬ (x = 68 ∧ j = 5) → S1.1 x j = S.1 x j := fun x j h => (a3 x j h).trans ((if_neg h).trans (if_neg h))
    have hX1 : XT S1 c z := ⟨h60, (k1 68 3 (by omega)).trans hX.2.1, fun j hj => by rw [k1 69 j (by omega)]; exact hX.2.2 j hj⟩
    have hp2 := x_pass (S := S1) (a := 59) hX1 (show (wds c (z - (p + 1)) (p + 1) 0).1 ≤ z by omega) a4 (by decide)
    generalize wds c (z - (p + 1)) (p + 1) 0 = e at *
    rw [show (58 : Int32) = nI 58 by decide, hps, bnd]
    by_cases he : e.1 < z ∧ c e.1 = 59
    · rw [if_pos he] at hp2
      have k4 : S1.1 68 4 = nI q := (k1 68 4 (by omega)).trans h4
      have i1 : inb (nI q) 20 := (inb_nI (by omega)).mpr hq
      have cl : (nI q).toNatClampNeg = q := nI_clamp (by omega)
      have y0 : (wr S1 68 5 (nI (e.1 + 1))).1 68 4 = nI q := (wr_j _ _ (by omega)).trans k4
      have y1 : (wr (wr S1 68 5 (nI (e.1 + 1))) 70 q (nI d)).1 68 4 = nI q := (wr_k _ _ (by omega)).trans y0
      have y2 : (wr (wr (wr S1 68 5 (nI (e.1 + 1))) 70 q (nI d)) 71 q e.2).1 68 4 = nI q := (wr_k _ _ (by omega)).trans y1
      refine ⟨wr (wr (wr (wr S1 68 5 (nI (e.1 + 1))) 70 q (nI d)) 71 q e.2) 68 4 (nI (q + 1)), ?_, ⟨a2, fun x j h h' => ?_⟩, ?_⟩
      · dsimp only
        rw [if_neg (show ¬ (1 : Int32) = 0 by decide), hw, bnd, show (59 : Int32) = nI 59 by decide, hp2, bnd]
        dsimp only
        rw [if_neg (show ¬ (1 : Int32) = 0 by decide)]
        simp only [y0, cl, y1, y2, if_pos i1, nI_1]
        rw [if_neg (fun h => h he)]
      · simp only [wr_at]
        rw [if_neg (by omega), if_neg (by omega), if_neg (by omega), if_neg (by omega)]
        exact k1 x j (by omega)
      · rw [if_neg (fun h => h he)]
        refine ⟨?_, wr_s _ _ _ _, ?_, ?_⟩
        · rw [wr_j _ _ (by omega), wr_k _ _ (by omega), wr_k _ _ (by omega), wr_s]
        · rw [wr_k _ _ (by omega), wr_k _ _ (by omega), wr_s]
        · rw [wr_k _ _ (by omega), wr_s]
    · rw [if_neg he] at hp2
      refine ⟨S1, ?_, ⟨a2, fun x j h h' => k1 x j (by omega)⟩, ?_⟩
      · dsimp only
        rw [if_neg (show ¬ (1 : Int32) = 0 by decide), hw, bnd, show (59 : Int32) = nI 59 by decide, hp2, bnd]
        dsimp only
        rw [if_pos rfl, if_pos he]
      · rw [if_pos he]
        exact ⟨a4, (k1 68 4 (by omega)).trans h4⟩
  · rw [if_pos hc]
    rw [if_neg hc] at hps
    rw [show (58 : Int32) = nI 58 by decide, hps, bnd, if_pos rfl]
