/-! ===== stories: numbers and facts ===== -/
theorem ct_snoc (p : Nat → Bool) : ∀ (m i : Nat), ct p i (m + 1) = ct p i m + (if p (i + m) then 1 else 0)
  | 0, i => by rw [ct, ct, ct, Nat.zero_add]; rfl
  | m + 1, i => by
    rw [ct, ct_snoc p m (i + 1), ct, show i + 1 + m = i + (m + 1) by omega, Nat.add_assoc]
theorem ct_mono (p : Nat → Bool) {a : Nat} : ∀ {b : Nat}, a ≤ b → ct p 0 a ≤ ct p 0 b
  | 0, h => by rw [show a = 0 by omega]; exact Nat.le_refl _
  | b + 1, h => by
    by_cases e : a = b + 1
    · rw [e]; exact Nat.le_refl _
    · have := ct_mono p (a := a) (b := b) (by omega)
      rw [ct_snoc]
      omega
theorem ct_lt (p : Nat → Bool) {a b : Nat} (h : a < b) (hp : p a = true) : ct p 0 a < ct p 0 b := by
  have h1 := ct_mono p (show a + 1 ≤ b by omega)
  rw [ct_snoc, Nat.zero_add, hp, if_pos rfl] at h1
  omega
theorem ct_imp (p q : Nat → Bool) (h : ∀ k, p k = true → q k = true) : ∀ (m i : Nat), ct p i m ≤ ct q i m
  | 0, i => Nat.le_refl _
  | m + 1, i => by
    have := ct_imp p q h m (i + 1)
    rw [ct, ct]
    by_cases e : p i = true
    · rw [if_pos e, if_pos (h i e)]; omega
    · rw [if_neg e]; split <;> omega
def rt (xs : List Fq) (lab : Nat → Nat) (g : Nat) : Bool := l1 xs g && decide (lab g = g)
def sn (xs : List Fq) (lab : Nat → Nat) (f : Nat) : Nat := ct (rt xs lab) 0 (lab f)
def ps (xs : List Fq) (lab : Nat → Nat) (s f : Nat) : Bool := l1 xs f && decide (sn xs lab f = s)
abbrev Ag := Nat × Int32 × Nat × Nat
def ags (a : Ag) (q : Fq) : Ag := (a.1 + 1, a.2.1 ||| bit q.1, min a.2.2.1 q.2.2.1, max a.2.2.2 q.2.2.2)
def ag (xs : List Fq) (P : Nat → Bool) : Nat → Ag
  | 0 => (0, 0, 12, 0)
  | i + 1 => if P i then (match xs[i]? with
    | some q => ags (ag xs P i) q
    | none => ag xs P i) else ag xs P i
theorem ag_y {xs : List Fq} {P : Nat → Bool} {i : Nat} {q : Fq} (h : P i = true) (hq : xs[i]? = some q) : ag xs P (i + 1) = ags (ag xs P i) q := by rw [ag, if_pos h, hq]
theorem ag_n {xs : List Fq} {P : Nat → Bool} {i : Nat} (h : P i = false) : ag xs P (i + 1) = ag xs P i := by rw [ag, h]; rfl
theorem ag_0 {xs : List Fq} {P : Nat → Bool} : ∀ i, (∀ g, g < i → P g = false) → ag xs P i = (0, 0, 12, 0)
  | 0, _ => rfl
  | i + 1, h => by rw [ag_n (h i (by omega))]; exact ag_0 i (fun g hg => h g (by omega))
theorem ag_b {xs : List Fq} {P : Nat → Bool} (hB : Bq xs) : ∀ i, i ≤ xs.length → (ag xs P i).1 ≤ i ∧ (ag xs P i).2.2.1 ≤ 12 ∧ (ag xs P i).2.2.2 < 12
  | 0, _ => ⟨Nat.le_refl _, Nat.le_refl _, show 0 < 12 by decide⟩
  | i + 1, h => by
    obtain ⟨a1, a2, a3⟩ := ag_b (P := P) hB i (by omega)
    obtain ⟨q, hq⟩ : ∃ q, xs[i]? = some q := ⟨xs[i], List.getElem?_eq_getElem (by omega)⟩
    obtain ⟨b1, b2, b3, b4, b5⟩ := hB i q hq
    cases hP : P i with
    | false => rw [ag_n hP]; exact ⟨by omega, a2, a3⟩
    | true =>
      rw [ag_y hP hq]
      unfold ags
      exact ⟨by show _ + 1 ≤ _; omega, by show min _ _ ≤ _; omega, by show max _ _ < _; omega⟩
def Agc (S : Mm) (s : Nat) (a : Ag) : Prop := S.1 64 s = nI a.1 ∧ S.1 65 s = a.2.1 ∧ S.1 66 s = nI a.2.2.1 ∧ S.1 67 s = nI a.2.2.2
def SS (S : Mm) (xs : List Fq) (lab : Nat → Nat) (i : Nat) : Prop := S.1 61 2 = nI (ct (rt xs lab) 0 i) ∧ (∀ f, f < xs.length → S.1 60 f = if l1 xs f && decide (f < i) then nI (sn xs lab f) else -1) ∧ ∀ s, s < ct (rt xs lab) 0 i → Agc S s (ag xs (ps xs lab s) i)
theorem x_fact {S : Mm} {n f j : Nat} (hn : S.1 50 1 = nI n) (h144 : n ≤ 144) (hf : f < n) (hj : j < 9) : f_X3_fact S (nI f) (nI j) = some (S.1 (52 + j) f) := by
  unfold f_X3_fact f_X3_isFact
  rw [x_has hn h144 hf]
  simp (disch := omega) only [nI_add, nI_1, nI_leI, nI_ltI, nI_eq, inb_nI, nI_clamp, if_pos, if_neg, if_true, if_false, bnd, l_0, l_1, l_2, l_3, l_4, l_5, l_6, l_7, l_8, l_9, l_10, l_11, l_12, l_13, l_14, l_15, l_16, l_17, l_18, l_19, l_20, l_21, l_22, l_23, l_24, l_25, l_26, l_27, l_28, l_29, l_30, l_31, l_32, l_33, l_34, l_35, l_36, l_37, l_38, l_39, l_40, l_41, l_42, l_43, l_44, l_45, l_46, l_47, l_48, l_49, l_50, l_51, l_52, l_53, l_54, l_55, l_56, l_57, l_58, l_59, l_60, l_61, l_62, l_63, l_64, l_65, l_66, l_67, l_68, l_69, l_70, l_71, l_72, l_73, l_74, l_75, l_76, l_77, l_78, l_79, l_80, l_81, l_82, l_83, l_84, l_85, l_86, l_87, l_88, l_89, l_90, l_91, l_92, l_93, l_94, l_95, l_96, l_97, l_98, l_99, l_100, l_123, l_144, l_160, l_255, l_256, l_1000, l_1462, l_1634, l_65536]
def bg (S : Mm) (c f : Nat) : Mm := wr (wr (wr (wr (wr S 64 c (nI 0)) 65 c (nI 0)) 66 c (S.1 54 f)) 67 c (S.1 55 f)) 61 2 (nI (c + 1))
theorem x_begun {S : Mm} {n f c : Nat} (hn : S.1 50 1 = nI n) (h144 : n ≤ 144) (hf : f < n) (hc : S.1 61 2 = nI c) (h48 : c < 48) : f_X7_begun S (nI f) = some (nI c, bg S c f) := by
  unfold f_X7_begun bg
  simp (disch := omega) only [nI_add, nI_1, nI_leI, nI_ltI, nI_eq, inb_nI, nI_clamp, if_pos, if_neg, if_true, if_false, bnd, l_0, l_1, l_2, l_3, l_4, l_5, l_6, l_7, l_8, l_9, l_10, l_11, l_12, l_13, l_14, l_15, l_16, l_17, l_18, l_19, l_20, l_21, l_22, l_23, l_24, l_25, l_26, l_27, l_28, l_29, l_30, l_31, l_32, l_33, l_34, l_35, l_36, l_37, l_38, l_39, l_40, l_41, l_42, l_43, l_44, l_45, l_46, l_47, l_48, l_49, l_50, l_51, l_52, l_53, l_54, l_55, l_56, l_57, l_58, l_59, l_60, l_61, l_62, l_63, l_64, l_65, l_66, l_67, l_68, l_69, l_70, l_71, l_72, l_73, l_74, l_75, l_76, l_77, l_78, l_79, l_80, l_81, l_82, l_83, l_84, l_85, l_86, l_87, l_88, l_89, l_90, l_91, l_92, l_93, l_94, l_95, l_96, l_97, l_98, l_99, l_100, l_123, l_144, l_160, l_255, l_256, l_1000, l_1462, l_1634, l_65536, hc, wr_k]
  rw [x_fact (n := n) (j := 2) (by simp (disch := omega) only [nI_add, nI_1, nI_leI, nI_ltI, nI_eq, inb_nI, nI_clamp, if_pos, if_neg, if_true, if_false, bnd, wr_k]; exact hn) h144 hf (by decide)]
  simp (disch := omega) only [nI_add, nI_1, nI_leI, nI_ltI, nI_eq, inb_nI, nI_clamp, if_pos, if_neg, if_true, if_false, bnd, l_0, l_1, l_2, l_3, l_4, l_5, l_6, l_7, l_8, l_9, l_10, l_11, l_12, l_13, l_14, l_15, l_16, l_17, l_18, l_19, l_20, l_21, l_22, l_23, l_24, l_25, l_26, l_27, l_28, l_29, l_30, l_31, l_32, l_33, l_34, l_35, l_36, l_37, l_38, l_39, l_40, l_41, l_42, l_43, l_44, l_45, l_46, l_47, l_48, l_49, l_50, l_51, l_52, l_53, l_54, l_55, l_56, l_57, l_58, l_59, l_60, l_61, l_62, l_63, l_64, l_65, l_66, l_67, l_68, l_69, l_70, l_71, l_72, l_73, l_74, l_75, l_76, l_77, l_78, l_79, l_80, l_81, l_82, l_83, l_84, l_85, l_86, l_87, l_88, l_89, l_90, l_91, l_92, l_93, l_94, l_95, l_96, l_97, l_98, l_99, l_100, l_123, l_144, l_160, l_255, l_256, l_1000, l_1462, l_1634, l_65536, hc, wr_k]
  rw [x_fact (n := n) (j := 3) (by simp (disch := omega) only [nI_add, nI_1, nI_leI, nI_ltI, nI_eq, inb_nI, nI_clamp, if_pos, if_neg, if_true, if_false, bnd, wr_k]; exact hn) h144 hf (by decide)]
  simp (disch := omega) only [nI_add, nI_1, nI_leI, nI_ltI, nI_eq, inb_nI, nI_clamp, if_pos, if_neg, if_true, if_false, bnd, l_0, l_1, l_2, l_3, l_4, l_5, l_6, l_7, l_8, l_9, l_10, l_11, l_12, l_13, l_14, l_15, l_16, l_17, l_18, l_19, l_20, l_21, l_22, l_23, l_24, l_25, l_26, l_27, l_28, l_29, l_30, l_31, l_32, l_33, l_34, l_35, l_36, l_37, l_38, l_39, l_40, l_41, l_42, l_43, l_44, l_45, l_46, l_47, l_48, l_49, l_50, l_51, l_52, l_53, l_54, l_55, l_56, l_57, l_58, l_59, l_60, l_61, l_62, l_63, l_64, l_65, l_66, l_67, l_68, l_69, l_70, l_71, l_72, l_73, l_74, l_75, l_76, l_77, l_78, l_79, l_80, l_81, l_82, l_83, l_84, l_85, l_86, l_87, l_88, l_89, l_90, l_91, l_92, l_93, l_94, l_95, l_96, l_97, l_98, l_99, l_100, l_123, l_144, l_160, l_255, l_256, l_1000, l_1462, l_1634, l_65536, hc, wr_k, wr_s, pk_sub, Nat.add_sub_cancel]
def gr (S : Mm) (s f : Nat) (b : Int32) : Mm := wr (wr (wr (wr S 64 s (S.1 64 s + nI 1)) 65 s (S.1 65 s ||| b)) 66 s (if S.1 54 f < S.1 66 s then S.1 54 f else S.1 66 s)) 67 s (if S.1 67 s < S.1 55 f then S.1 55 f else S.1 67 s)
theorem x_grow {S : Mm} {xs : List Fq} {f s c : Nat} {q : Fq} (hH : Hf S 52 xs) (hn : S.1 50 1 = nI xs.length) (h144 : xs.length ≤ 144) (hf : xs[f]? = some q) (hc : S.1 61 2 = nI c) (h48 : c ≤ 48) (hs : s < c) : f_X7_grow S (nI s) (nI f) = some (gr S s f (bit q.1)) := by
  have hfl : f < xs.length := (List.getElem?_eq_some_iff.mp hf).1
  have h7 : f_X7_has S (nI s) = some 1 := by
    unfold f_X7_has
    simp (disch := omega) only [nI_add, nI_1, nI_leI, nI_ltI, nI_eq, inb_nI, nI_clamp, if_pos, if_neg, if_true, if_false, bnd, l_0, l_1, l_2, l_3, l_4, l_5, l_6, l_7, l_8, l_9, l_10, l_11, l_12, l_13, l_14, l_15, l_16, l_17, l_18, l_19, l_20, l_21, l_22, l_23, l_24, l_25, l_26, l_27, l_28, l_29, l_30, l_31, l_32, l_33, l_34, l_35, l_36, l_37, l_38, l_39, l_40, l_41, l_42, l_43, l_44, l_45, l_46, l_47, l_48, l_49, l_50, l_51, l_52, l_53, l_54, l_55, l_56, l_57, l_58, l_59, l_60, l_61, l_62, l_63, l_64, l_65, l_66, l_67, l_68, l_69, l_70, l_71, l_72, l_73, l_74, l_75, l_76, l_77, l_78, l_79, l_80, l_81, l_82, l_83, l_84, l_85, l_86, l_87, l_88, l_89, l_90, l_91, l_92, l_93, l_94, l_95, l_96, l_97, l_98, l_99, l_100, l_123, l_144, l_160, l_255, l_256, l_1000, l_1462, l_1634, l_65536, hc]
  unfold f_X7_grow gr
  rw [h7]
  simp (disch := omega) only [nI_add, nI_1, nI_leI, nI_ltI, nI_eq, inb_nI, nI_clamp, if_pos, if_neg, if_true, if_false, bnd, l_0, l_1, l_2, l_3, l_4, l_5, l_6, l_7, l_8, l_9, l_10, l_11, l_12, l_13, l_14, l_15, l_16, l_17, l_18, l_19, l_20, l_21, l_22, l_23, l_24, l_25, l_26, l_27, l_28, l_29, l_30, l_31, l_32, l_33, l_34, l_35, l_36, l_37, l_38, l_39, l_40, l_41, l_42, l_43, l_44, l_45, l_46, l_47, l_48, l_49, l_50, l_51, l_52, l_53, l_54, l_55, l_56, l_57, l_58, l_59, l_60, l_61, l_62, l_63, l_64, l_65, l_66, l_67, l_68, l_69, l_70, l_71, l_72, l_73, l_74, l_75, l_76, l_77, l_78, l_79, l_80, l_81, l_82, l_83, l_84, l_85, l_86, l_87, l_88, l_89, l_90, l_91, l_92, l_93, l_94, l_95, l_96, l_97, l_98, l_99, l_100, l_123, l_144, l_160, l_255, l_256, l_1000, l_1462, l_1634, l_65536, wr_k]
  rw [x_setOf (xs := xs) (q := q) (hH.keep (fun a j h3 h4 => wr_k _ _ (by omega))) (by simp (disch := omega) only [nI_add, nI_1, nI_leI, nI_ltI, nI_eq, inb_nI, nI_clamp, if_pos, if_neg, if_true, if_false, bnd, wr_k]; exact hn) h144 hf]
  simp (disch := omega) only [nI_add, nI_1, nI_leI, nI_ltI, nI_eq, inb_nI, nI_clamp, if_pos, if_neg, if_true, if_false, bnd, l_0, l_1, l_2, l_3, l_4, l_5, l_6, l_7, l_8, l_9, l_10, l_11, l_12, l_13, l_14, l_15, l_16, l_17, l_18, l_19, l_20, l_21, l_22, l_23, l_24, l_25, l_26, l_27, l_28, l_29, l_30, l_31, l_32, l_33, l_34, l_35, l_36, l_37, l_38, l_39, l_40, l_41, l_42, l_43, l_44, l_45, l_46, l_47, l_48, l_49, l_50, l_51, l_52, l_53, l_54, l_55, l_56, l_57, l_58, l_59, l_60, l_61, l_62, l_63, l_64, l_65, l_66, l_67, l_68, l_69, l_70, l_71, l_72, l_73, l_74, l_75, l_76, l_77, l_78, l_79, l_80, l_81, l_82, l_83, l_84, l_85, l_86, l_87, l_88, l_89, l_90, l_91, l_92, l_93, l_94, l_95, l_96, l_97, l_98, l_99, l_100, l_123, l_144, l_160, l_255, l_256, l_1000, l_1462, l_1634, l_65536, wr_k]
  rw [x_fact (n := xs.length) (j := 2) (by simp (disch := omega) only [nI_add, nI_1, nI_leI, nI_ltI, nI_eq, inb_nI, nI_clamp, if_pos, if_neg, if_true, if_false, bnd, wr_k]; exact hn) h144 hfl (by decide)]
  simp (disch := omega) only [nI_add, nI_1, nI_leI, nI_ltI, nI_eq, inb_nI, nI_clamp, if_pos, if_neg, if_true, if_false, bnd, l_0, l_1, l_2, l_3, l_4, l_5, l_6, l_7, l_8, l_9, l_10, l_11, l_12, l_13, l_14, l_15, l_16, l_17, l_18, l_19, l_20, l_21, l_22, l_23, l_24, l_25, l_26, l_27, l_28, l_29, l_30, l_31, l_32, l_33, l_34, l_35, l_36, l_37, l_38, l_39, l_40, l_41, l_42, l_43, l_44, l_45, l_46, l_47, l_48, l_49, l_50, l_51, l_52, l_53, l_54, l_55, l_56, l_57, l_58, l_59, l_60, l_61, l_62, l_63, l_64, l_65, l_66, l_67, l_68, l_69, l_70, l_71, l_72, l_73, l_74, l_75, l_76, l_77, l_78, l_79, l_80, l_81, l_82, l_83, l_84, l_85, l_86, l_87, l_88, l_89, l_90, l_91, l_92, l_93, l_94, l_95, l_96, l_97, l_98, l_99, l_100, l_123, l_144, l_160, l_255, l_256, l_1000, l_1462, l_1634, l_65536, wr_k]
  rw [x_fact (n := xs.length) (j := 3) (by simp (disch := omega) only [nI_add, nI_1, nI_leI, nI_ltI, nI_eq, inb_nI, nI_clamp, if_pos, if_neg, if_true, if_false, bnd, wr_k]; exact hn) h144 hfl (by decide)]
  simp (disch := omega) only [nI_add, nI_1, nI_leI, nI_ltI, nI_eq, inb_nI, nI_clamp, if_pos, if_neg, if_true, if_false, bnd, l_0, l_1, l_2, l_3, l_4, l_5, l_6, l_7, l_8, l_9, l_10, l_11, l_12, l_13, l_14, l_15, l_16, l_17, l_18, l_19, l_20, l_21, l_22, l_23, l_24, l_25, l_26, l_27, l_28, l_29, l_30, l_31, l_32, l_33, l_34, l_35, l_36, l_37, l_38, l_39, l_40, l_41, l_42, l_43, l_44, l_45, l_46, l_47, l_48, l_49, l_50, l_51, l_52, l_53, l_54, l_55, l_56, l_57, l_58, l_59, l_60, l_61, l_62, l_63, l_64, l_65, l_66, l_67, l_68, l_69, l_70, l_71, l_72, l_73, l_74, l_75, l_76, l_77, l_78, l_79, l_80, l_81, l_82, l_83, l_84, l_85, l_86, l_87, l_88, l_89, l_90, l_91, l_92, l_93, l_94, l_95, l_96, l_97, l_98, l_99, l_100, l_123, l_144, l_160, l_255, l_256, l_1000, l_1462, l_1634, l_65536, wr_k]

/-- cells but those of the stories' numbers and facts -/
def Fn (S S' : Mm) : Prop := S'.2 = S.2 ∧ ∀ a j, ¬ (a = 60 ∨ (61 ≤ a ∧ a < 68 ∧ a ≠ 62)) → S'.1 a j = S.1 a j
theorem rt_at {xs : List Fq} {lab : Nat → Nat} {g : Nat} (h1 : l1 xs g = true) (h2 : lab g = g) : rt xs lab g = true := by unfold rt; rw [h1, decide_eq_true h2]; rfl
theorem x_number_loop {r : Nat → Int32} {xs : List Fq} {N : Nat} {lab : Nat → Nat} {k : Int32 → Mm → Option Mm} (hB : Bq xs) (h144 : xs.length ≤ 144) (hG : Gx r xs N lab) (hC : Cc r xs N lab) (h48 : ct (rt xs lab) 0 xs.length ≤ 48) : ∀ (m i fuel : Nat) (S : Mm), i + m = xs.length → m < fuel → Hf S 52 xs → S.1 50 1 = nI xs.length → HX S xs lab → SS S xs lab i → ∃ S', lp_X7_numberHeaps_7 k fuel (nI i) S = k (nI xs.length) S' ∧ Fn S S' ∧ SS S' xs lab xs.length := by
  intro m
  induction m with
  | zero =>
    intro i fuel S h1 h2 hH hn hX hS
    obtain ⟨f, rfl⟩ : ∃ f, fuel = f + 1 := ⟨fuel - 1, by omega⟩
    obtain rfl : i = xs.length := by omega
    refine ⟨S, ?_, ⟨rfl, fun _ _ _ => rfl⟩, hS⟩
    rw [lp_X7_numberHeaps_7, f_X3_number, bnd, hn, if_pos (nI_le (Nat.le_refl _) (by omega))]
  | succ m ih =>
    intro i fuel S h1 h2 hH hn hX hS
    obtain ⟨f, rfl⟩ : ∃ f, fuel = f + 1 := ⟨fuel - 1, by omega⟩
    have hil : i < xs.length := by omega
    obtain ⟨q, hq⟩ : ∃ q, xs[i]? = some q := ⟨xs[i], List.getElem?_eq_getElem hil⟩
    obtain ⟨b1, b2, b3, b4, b5⟩ := hB i q hq
    obtain ⟨e1, e2, e3, e4⟩ := hH i q hq
    obtain ⟨s1, s2, s3⟩ := hS
    have hct : ct (rt xs lab) 0 (i + 1) = ct (rt xs lab) 0 i + (if rt xs lab i then 1 else 0) := by rw [ct_snoc, Nat.zero_add]
    have hle := Nat.le_trans (ct_mono (rt xs lab) (show i + 1 ≤ xs.length by omega)) h48
    rw [lp_X7_numberHeaps_7, f_X3_number, bnd, hn, if_neg (nI_ge hil (by omega)), x_isAtOne hH hB hn h144 hq, bnd]
    cases hl : l1 xs i with
    | false =>
      have hrt : rt xs lab i = false := by unfold rt; rw [hl]; rfl
      rw [hrt] at hct
      obtain ⟨S', a1, a2, a3⟩ := ih (i + 1) f S (by omega) (by omega) hH hn hX ⟨by rw [hct]; exact s1, fun g hg => by
          rw [s2 g hg]
          by_cases e : g = i
          · rw [e, hl]; rfl
          · rw [show decide (g < i + 1) = decide (g < i) from decide_eq_decide.mpr (by omega)], fun s hs => by
          rw [ag_n (show ps xs lab s i = false by unfold ps; rw [hl]; rfl)]
          exact s3 s (by rw [hct] at hs; exact hs)⟩
      refine ⟨S', ?_, a2, a3⟩
      rw [if_neg (show ¬ (false = true) by decide), if_pos rfl, nI_1]
      exact a1
    | true =>
      have hi2 : inb (nI i) 144 := (inb_nI (by omega)).mpr (by omega)
      have hXi : S.1 62 i = nI (lab i) := by rw [hX i hil, hl]; rfl
      have hli := hG.1 i hl
      have hlt : ∀ g, g < i → l1 xs g = true → sn xs lab g < ct (rt xs lab) 0 i := fun g hg hg1 => by
        have h3 := hG.1 g hg1
        exact ct_lt _ (by omega) (rt_at h3.2 (hG.idem hC g hg1))
      rw [if_pos rfl, if_neg (by decide), if_pos hi2]
      -- one flare more in story s, whose cells hold what the flares before it make
      have step : ∀ (S1 : Mm) (s c : Nat), S1.1 61 2 = nI c → c ≤ 48 → s < c → s = sn xs lab i → c = ct (rt xs lab) 0 (i + 1) → Fn S S1 → (∀ f, f < xs.length → S1.1 60 f = S.1 60 f) → (∀ t, t < c → t ≠ s → Agc S1 t (ag xs (ps xs lab t) i)) → (S1.1 64 s = nI (ag xs (ps xs lab s) i).1 ∧ S1.1 65 s = (ag xs (ps xs lab s) i).2.1 ∧ (if nI q.2.2.1 < S1.1 66 s then nI q.2.2.1 else S1.1 66 s) = nI (min (ag xs (ps xs lab s) i).2.2.1 q.2.2.1) ∧ (if S1.1 67 s < nI q.2.2.2 then nI q.2.2.2 else S1.1 67 s) = nI (max (ag xs (ps xs lab s) i).2.2.2 q.2.2.2)) → ∃ S', ((f_X3_putStory S1 (nI i) (nI s)).bind fun r15 => ((f_X7_grow r15 (nI s) (nI i)).bind fun r17 => lp_X7_numberHeaps_7 k f (nI i + 1) r17)) = k (nI xs.length) S' ∧ Fn S S' ∧ SS S' xs lab xs.length := by
        intro S1 s c hc hc48 hsc hsn hcc hF h60 hoth hthis
        have hn1 : S1.1 50 1 = nI xs.length := (hF.2 50 1 (by omega)).trans hn
        have hH1 : Hf S1 52 xs := hH.keep (fun a j h3 h4 => hF.2 a j (by omega))
        have hput : f_X3_putStory S1 (nI i) (nI s) = some (wr S1 60 i (nI s)) := by
          unfold f_X3_putStory
          rw [x_has hn1 h144 hil]
          simp (disch := omega) only [nI_add, nI_1, nI_leI, nI_ltI, nI_eq, inb_nI, nI_clamp, if_pos, if_neg, if_true, if_false, bnd, l_0, l_1, l_2, l_3, l_4, l_5, l_6, l_7, l_8, l_9, l_10, l_11, l_12, l_13, l_14, l_15, l_16, l_17, l_18, l_19, l_20, l_21, l_22, l_23, l_24, l_25, l_26, l_27, l_28, l_29, l_30, l_31, l_32, l_33, l_34, l_35, l_36, l_37, l_38, l_39, l_40, l_41, l_42, l_43, l_44, l_45, l_46, l_47, l_48, l_49, l_50, l_51, l_52, l_53, l_54, l_55, l_56, l_57, l_58, l_59, l_60, l_61, l_62, l_63, l_64, l_65, l_66, l_67, l_68, l_69, l_70, l_71, l_72, l_73, l_74, l_75, l_76, l_77, l_78, l_79, l_80, l_81, l_82, l_83, l_84, l_85, l_86, l_87, l_88, l_89, l_90, l_91, l_92, l_93, l_94, l_95, l_96, l_97, l_98, l_99, l_100, l_123, l_144, l_160, l_255, l_256, l_1000, l_1462, l_1634, l_65536]
        have hgrow := x_grow (S := wr S1 60 i (nI s)) (f := i) (s := s) (c := c) (hH1.keep (fun a j h3 h4 => wr_k _ _ (by omega))) ((wr_k _ _ (by omega)).trans hn1) h144 hq ((wr_k _ _ (by omega)).trans hc) hc48 hsc
        have hk : ∀ a j, ¬ (a = 60 ∧ j = i) → ¬ (64 ≤ a ∧ a < 68 ∧ j = s) → (gr (wr S1 60 i (nI s)) s i (bit q.1)).1 a j = S1.1 a j := fun a j h3 h4 => by
          unfold gr
          simp only [wr_at]
          rw [if_neg (by omega), if_neg (by omega), if_neg (by omega), if_neg (by omega), if_neg (by omega)]
        have hFn : Fn S (gr (wr S1 60 i (nI s)) s i (bit q.1)) := ⟨hF.1, fun a j h => (hk a j (by omega) (by omega)).trans (hF.2 a j h)⟩
        have hnew : Agc (gr (wr S1 60 i (nI s)) s i (bit q.1)) s (ag xs (ps xs lab s) (i + 1)) := by
          rw [ag_y (show ps xs lab s i = true by unfold ps; rw [hl, decide_eq_true hsn.symm]; rfl) hq]
          obtain ⟨t1, t2, t3, t4⟩ := hthis
          have z1 : (gr (wr S1 60 i (nI s)) s i (bit q.1)).1 64 s = S1.1 64 s + nI 1 := by
            unfold gr
            rw [wr_k _ _ (by omega), wr_k _ _ (by omega), wr_k _ _ (by omega), wr_s, wr_k _ _ (by omega)]
          have z2 : (gr (wr S1 60 i (nI s)) s i (bit q.1)).1 65 s = (S1.1 65 s ||| bit q.1) := by
            unfold gr
            rw [wr_k _ _ (by omega), wr_k _ _ (by omega), wr_s, wr_k _ _ (by omega)]
          have z3 : (gr (wr S1 60 i (nI s)) s i (bit q.1)).1 66 s = (if nI q.2.2.1 < S1.1 66 s then nI q.2.2.1 else S1.1 66 s) := by
            unfold gr
            rw [wr_k _ _ (by omega), wr_s, wr_k _ _ (show (54 : Nat) ≠ 60 by omega), wr_k _ _ (show (66 : Nat) ≠ 60 by omega), (hH1 i q hq).2.2.1]
          have z4 : (gr (wr S1 60 i (nI s)) s i (bit q.1)).1 67 s = (if S1.1 67 s < nI q.2.2.2 then nI q.2.2.2 else S1.1 67 s) := by
            unfold gr
            rw [wr_s, wr_k _ _ (show (55 : Nat) ≠ 60 by omega), wr_k _ _ (show (67 : Nat) ≠ 60 by omega), (hH1 i q hq).2.2.2]
          exact ⟨by rw [z1, t1, nI_add]; rfl, by rw [z2, t2]; rfl, by rw [z3, t3]; rfl, by rw [z4, t4]; rfl⟩
        obtain ⟨S', a1, a2, a3⟩ := ih (i + 1) f _ (by omega) (by omega) (hH.keep (fun a j h3 h4 => hFn.2 a j (by omega))) ((hFn.2 50 1 (by omega)).trans hn) (fun g hg => (hFn.2 62 g (by omega)).trans (hX g hg)) ⟨(hk 61 2 (by omega) (by omega)).trans (by rw [hc, hcc]), fun g hg => by
          by_cases e : g = i
          · subst e
            have : (gr (wr S1 60 g (nI s)) s g (bit q.1)).1 60 g = nI s := by
              unfold gr
              rw [wr_k _ _ (by omega), wr_k _ _ (by omega), wr_k _ _ (by omega), wr_k _ _ (by omega), wr_s]
            rw [this, hl, decide_eq_true (show g < g + 1 by omega), hsn]; rfl
          · rw [hk 60 g (by omega) (by omega), h60 g hg, s2 g hg, show decide (g < i + 1) = decide (g < i) from decide_eq_decide.mpr (by omega)], fun t ht => by
          by_cases e : t = s
          · rw [e]; exact hnew
          · rw [ag_n (show ps xs lab t i = false by unfold ps; rw [decide_eq_false (by rw [← hsn]; exact fun h => e h.symm), Bool.and_false])]
            obtain ⟨t1, t2, t3, t4⟩ := hoth t (by omega) e
            exact ⟨(hk 64 t (by omega) (by omega)).trans t1, (hk 65 t (by omega) (by omega)).trans t2, (hk 66 t (by omega) (by omega)).trans t3, (hk 67 t (by omega) (by omega)).trans t4⟩⟩
        refine ⟨S', ?_, ⟨a2.1.trans hFn.1, fun a j h => (a2.2 a j h).trans (hFn.2 a j h)⟩, a3⟩
        rw [hput, bnd, hgrow, bnd, nI_1]
        exact a1
      have cl : (nI i).toNatClampNeg = i := nI_clamp (by omega)
      simp only [cl, hXi]
      by_cases hroot : lab i = i
      · have hrt : rt xs lab i = true := rt_at hl hroot
        have hsn : sn xs lab i = ct (rt xs lab) 0 i := by unfold sn; rw [hroot]
        rw [hrt, if_pos rfl] at hct
        rw [if_pos (by rw [hroot]), x_begun hn h144 hil s1 (by omega), bnd]
        have kb : ∀ a j, ¬ (64 ≤ a ∧ a < 68 ∧ j = ct (rt xs lab) 0 i) → ¬ (a = 61 ∧ j = 2) → (bg S (ct (rt xs lab) 0 i) i).1 a j = S.1 a j := fun a j h3 h4 => by
          unfold bg
          simp only [wr_at]
          rw [if_neg (by omega), if_neg (by omega), if_neg (by omega), if_neg (by omega), if_neg (by omega)]
        have hag : ag xs (ps xs lab (ct (rt xs lab) 0 i)) i = (0, 0, 12, 0) := ag_0 i (fun g hg => by
          unfold ps
          cases hg1 : l1 xs g with
          | false => rfl
          | true =>
            have := hlt g hg hg1
            rw [decide_eq_false (by omega)]; rfl)
        refine step (bg S (ct (rt xs lab) 0 i) i) (ct (rt xs lab) 0 i) (ct (rt xs lab) 0 i + 1) ?_ (by omega) (by omega) hsn.symm hct.symm ⟨rfl, fun a j h => kb a j (by omega) (by omega)⟩ (fun g hg => kb 60 g (by omega) (by omega)) (fun t ht hne => ?_) ?_
        · unfold bg; exact wr_s _ _ _ _
        · obtain ⟨t1, t2, t3, t4⟩ := s3 t (by omega)
          exact ⟨(kb 64 t (by omega) (by omega)).trans t1, (kb 65 t (by omega) (by omega)).trans t2, (kb 66 t (by omega) (by omega)).trans t3, (kb 67 t (by omega) (by omega)).trans t4⟩
        · rw [hag]
          have y1 : (bg S (ct (rt xs lab) 0 i) i).1 64 (ct (rt xs lab) 0 i) = nI 0 := by
            unfold bg
            rw [wr_k _ _ (by omega), wr_k _ _ (by omega), wr_k _ _ (by omega), wr_k _ _ (by omega), wr_s]
          have y2 : (bg S (ct (rt xs lab) 0 i) i).1 65 (ct (rt xs lab) 0 i) = nI 0 := by
            unfold bg
            rw [wr_k _ _ (by omega), wr_k _ _ (by omega), wr_k _ _ (by omega), wr_s]
          have y3 : (bg S (ct (rt xs lab) 0 i) i).1 66 (ct (rt xs lab) 0 i) = nI q.2.2.1 := by
            unfold bg
            rw [wr_k _ _ (by omega), wr_k _ _ (by omega), wr_s]; exact e3
          have y4 : (bg S (ct (rt xs lab) 0 i) i).1 67 (ct (rt xs lab) 0 i) = nI q.2.2.2 := by
            unfold bg
            rw [wr_k _ _ (by omega), wr_s]; exact e4
          rw [y1, y2, y3, y4]
          refine ⟨rfl, rfl, ?_, ?_⟩
          · rw [if_neg (nI_nlt (Nat.le_refl _) (by omega))]
            show _ = nI (min 12 _)
            rw [Nat.min_eq_right (by omega)]
          · rw [if_neg (nI_nlt (Nat.le_refl _) (by omega))]
            show _ = nI (max 0 _)
            rw [Nat.max_eq_right (by omega)]
      · have hrt : rt xs lab i = false := by unfold rt; rw [decide_eq_false hroot, Bool.and_false]
        rw [hrt] at hct
        have hlr : lab (lab i) = lab i := hG.idem hC i hl
        have hsn : sn xs lab (lab i) = sn xs lab i := by unfold sn; rw [hlr]
        have hs := hlt (lab i) (by omega) hli.2
        rw [hsn] at hs
        have e60 : S.1 60 (lab i) = nI (sn xs lab i) := by
          rw [s2 (lab i) (by omega), hli.2, decide_eq_true (show lab i < i by omega), hsn]; rfl
        have ef : f_X3_fact S (nI (lab i)) 8 = some (nI (sn xs lab i)) := by
          rw [← e60]
          exact x_fact (j := 8) hn h144 (show lab i < xs.length by omega) (by decide)
        rw [if_neg (fun h => hroot ((nI_eq (by omega) (by omega)).mp h)), if_pos hi2, ef, bnd]
        obtain ⟨t1, t2, t3, t4⟩ := s3 (sn xs lab i) hs
        obtain ⟨v1, v2, v3⟩ := ag_b (P := ps xs lab (sn xs lab i)) hB i (by omega)
        refine step S (sn xs lab i) (ct (rt xs lab) 0 i) s1 (by omega) hs rfl hct.symm ⟨rfl, fun _ _ _ => rfl⟩ (fun _ _ => rfl) (fun t ht hne => s3 t ht) ⟨t1, t2, ?_, ?_⟩
        · rw [t3]
          by_cases h : q.2.2.1 < (ag xs (ps xs lab (sn xs lab i)) i).2.2.1
          · rw [if_pos (nI_lt h (by omega)), Nat.min_eq_right (by omega)]
          · rw [if_neg (nI_nlt (by omega) (by omega)), Nat.min_eq_left (by omega)]
        · rw [t4]
          by_cases h : (ag xs (ps xs lab (sn xs lab i)) i).2.2.2 < q.2.2.2
          · rw [if_pos (nI_lt h (by omega)), Nat.max_eq_right (by omega)]
          · rw [if_neg (nI_nlt (by omega) (by omega)), Nat.max_eq_left (by omega)]
