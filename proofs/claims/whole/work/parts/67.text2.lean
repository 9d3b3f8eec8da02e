/-! one piece, by the class -/
theorem x_fig {S : Mm} {n : Nat} (h : n < 256) : f_X9_isFigure S (nI n) = some (fg (decide (48 ≤ n ∧ n ≤ 57))) := by
  unfold f_X9_isFigure
  simp (disch := omega) only [nI_add, nI_1, nI_leI, nI_ltI, nI_eq, inb_nI, nI_clamp, if_pos, if_neg, if_true, if_false, bnd, l_0, l_1, l_2, l_3, l_4, l_5, l_6, l_7, l_8, l_9, l_10, l_11, l_12, l_13, l_14, l_15, l_16, l_17, l_18, l_19, l_20, l_21, l_22, l_23, l_24, l_25, l_26, l_27, l_28, l_29, l_30, l_31, l_32, l_33, l_34, l_35, l_36, l_37, l_38, l_39, l_40, l_41, l_42, l_43, l_44, l_45, l_46, l_47, l_48, l_49, l_50, l_51, l_52, l_53, l_54, l_55, l_56, l_57, l_58, l_59, l_60, l_61, l_62, l_63, l_64, l_65, l_66, l_67, l_68, l_69, l_70, l_71, l_72, l_73, l_74, l_75, l_76, l_77, l_78, l_79, l_80, l_81, l_82, l_83, l_84, l_85, l_86, l_87, l_88, l_89, l_90, l_91, l_92, l_93, l_94, l_95, l_96, l_97, l_98, l_99, l_100, l_123, l_144, l_160, l_255, l_256, l_1000, l_1462, l_1634, l_65536]
  by_cases h1 : n < 48
  · rw [if_pos h1, decide_eq_false (by omega)]; rfl
  · rw [if_neg h1]
    by_cases h2 : 57 < n
    · rw [if_pos h2, decide_eq_false (by omega)]; rfl
    · rw [if_neg h2, decide_eq_true (by omega)]; rfl
def PcX (c : Nat → Nat) (z D rm q p : Nat) (S S' : Mm) : Prop := match pce c z D rm q p with
  | .inl (w, p') => f_X9_readPiece S (nI D) (nI rm) = some (nI w, S') ∧ S'.1 68 5 = nI p' ∧ S'.1 68 4 = nI q
  | .inr (d, s, p') => f_X9_readPiece S (nI D) (nI rm) = some (0, S') ∧ S'.1 68 5 = nI p' ∧ S'.1 68 4 = nI (q + 1) ∧ S'.1 70 q = nI d ∧ S'.1 71 q = s
theorem x_piece {S : Mm} {c : Nat → Nat} {z D rm q p : Nat} (hX : XT S c z) (hp : p < z) (h5 : S.1 68 5 = nI p) (h4 : S.1 68 4 = nI q) (hq : q < 20) (hD : D ≤ 12) (hrm : rm ≤ 40) : ∃ S', Tf S S' q ∧ PcX c z D rm q p S S' := by
  have h60 := hX.1
  have hcp := (hX.2.2 p hp).2
  have hTf : Tf S S q := ⟨rfl, fun _ _ _ _ => rfl⟩
  have hfig := x_fig (S := S) hcp
  have htwo := x_two hX hp h5
  have hfn : fg false = 0 := rfl
  have hft : ¬ fg true = 0 := by decide
  by_cases f1 : 48 ≤ c p ∧ c p ≤ 57
  · rw [decide_eq_true f1] at hfig
    -- the day, and the place behind it
    have hday : ∃ y : Int32, y = nI (dy c z p) ∧ f_X9_readPiece S (nI D) (nI rm) = (if y < nI D then (if nI rm ≤ nI q then some (3, S) else ((f_X9_passes (wr S 68 5 (nI (p1 c z p))) 58).bind fun r9 => (if r9.1 = 0 then some (1, r9.2) else ((f_X9_readWords r9.2).bind fun r11 => ((f_X9_passes r11.2 59).bind fun r13 => (if r13.1 = 0 then some ((1 : Int32), r13.2) else (if inb (r13.2.1 68 4) 20 then (if inb ((wr r13.2 70 (r13.2.1 68 4).toNatClampNeg y).1 68 4) 20 then some (0, wr (wr (wr r13.2 70 (r13.2.1 68 4).toNatClampNeg y) 71 ((wr r13.2 70 (r13.2.1 68 4).toNatClampNeg y).1 68 4).toNatClampNeg r11.1) 68 4 (((wr (wr r13.2 70 (r13.2.1 68 4).toNatClampNeg y) 71 ((wr r13.2 70 (r13.2.1 68 4).toNatClampNeg y).1 68 4).toNatClampNeg r11.1).1 68 4) + 1)) else none) else none))))))) else some (2, S)) := by
      have h20 : nI q < 20 := nI_lt hq (by decide)
      cases ht : two c z p with
      | false =>
        refine ⟨nI (c p) - 48, ?_, ?_⟩
        · unfold dy
          rw [ht, if_neg (by decide), l_48, pk_sub f1.1]
        · unfold f_X9_readPiece p1
          rw [h5, x_let hX hp, bnd, hfig, bnd, if_neg hft, htwo, ht, bnd]
          simp only [hfn, if_true, bnd, h4, if_pos h20, nI_1, Bool.false_eq_true, if_false]
      | true =>
        have hp1 : p + 1 < z := by
          unfold two at ht
          exact (of_decide_eq_true ht).2.1
        have hc1 : c (p + 1) = 48 ∨ c (p + 1) = 49 := by
          unfold two at ht
          exact (of_decide_eq_true ht).2.2
        refine ⟨10 + nI (c (p + 1)) - 48, ?_, ?_⟩
        · unfold dy
          rw [ht, if_pos rfl, l_10, nI_add, l_48, pk_sub (by omega)]
        · have e2 : nI p + 2 = nI (p + 2) := by rw [l_2, nI_add]
          unfold f_X9_readPiece p1
          rw [h5, x_let hX hp, bnd, hfig, bnd, if_neg hft, htwo, ht, bnd, nI_1, x_let hX hp1]
          simp only [if_neg hft, bnd, h4, if_pos h20, e2, if_true]
    obtain ⟨y, hy, hrd⟩ := hday
    subst hy
    have hdy : dy c z p < 256 := by
      unfold dy
      cases ht : two c z p with
      | false => rw [if_neg (by decide)]; omega
      | true =>
        unfold two at ht
        have := (of_decide_eq_true ht).2.2
        rw [if_pos rfl]; omega
    by_cases f2 : D ≤ dy c z p
    · refine ⟨S, hTf, ?_⟩
      unfold PcX pce
      rw [if_neg (fun h => h f1), if_pos f2]
      refine ⟨?_, h5, h4⟩
      rw [hrd, if_neg (nI_nlt f2 (by omega))]
      rfl
    · by_cases f3 : rm ≤ q
      · refine ⟨S, hTf, ?_⟩
        unfold PcX pce
        rw [if_neg (fun h => h f1), if_neg f2, if_pos f3]
        refine ⟨?_, h5, h4⟩
        rw [hrd, if_pos (nI_lt (by omega) (by omega)), if_pos (nI_le f3 (by omega))]
        rfl
      · have hp1z : p1 c z p ≤ z := by
          unfold p1
          cases ht : two c z p with
          | false => rw [if_neg (by decide)]; omega
          | true =>
            unfold two at ht
            have := (of_decide_eq_true ht).2.1
            rw [if_pos rfl]; omega
        have htl := x_tail (d := dy c z p) hX hp1z h4 hq
        rw [if_pos (nI_lt (by omega) (by omega)), if_neg (nI_ge (by omega) (by omega))] at hrd
        unfold PcX pce
        rw [if_neg (fun h => h f1), if_neg f2, if_neg f3]
        by_cases f4 : p1 c z p < z ∧ c (p1 c z p) = 58
        · rw [if_neg (fun h => h f4)] at htl ⊢
          obtain ⟨S', t1, t2, t3⟩ := htl
          by_cases f5 : (wds c (z - (p1 c z p + 1)) (p1 c z p + 1) 0).1 < z ∧ c (wds c (z - (p1 c z p + 1)) (p1 c z p + 1) 0).1 = 59
          · rw [if_neg (fun h => h f5)] at t1 t3 ⊢
            exact ⟨S', t2, hrd.trans t1, t3⟩
          · rw [if_pos f5] at t1 t3 ⊢
            exact ⟨S', t2, hrd.trans t1, t3⟩
        · rw [if_pos f4] at htl ⊢
          refine ⟨wr S 68 5 (nI (p1 c z p)), ⟨rfl, fun x j h h' => if_neg (by omega)⟩, hrd.trans htl, wr_s _ _ _ _, (wr_j _ _ (by omega)).trans h4⟩
  · rw [decide_eq_false f1] at hfig
    refine ⟨S, hTf, ?_⟩
    unfold PcX pce
    rw [if_pos f1]
    refine ⟨?_, h5, h4⟩
    unfold f_X9_readPiece
    rw [h5, x_let hX hp, bnd, hfig, bnd, if_pos hfn]
    rfl
