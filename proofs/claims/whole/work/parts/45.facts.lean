/-! ===== what is told of a flare ===== -/
def Bq (xs : List Fq) : Prop := ∀ (i : Nat) (q : Fq), xs[i]? = some q → q.1 < 8 ∧ 1 ≤ q.2.1 ∧ q.2.1 ≤ 3 ∧ q.2.2.1 ≤ q.2.2.2 ∧ q.2.2.2 < 12
theorem fl_Bq {r : Nat → Int32} {D L : Nat} (hD : D ≤ 12) (hL : L ≤ 3) : Bq (fl r D L) := fun i q h => by
  have := fl_in (List.mem_of_getElem? h)
  omega
/-- g is the flare below f, of f's word, that has f's first day -/
def inn (p q : Fq) : Bool := decide (q.1 = p.1 ∧ q.2.1 + 1 = p.2.1 ∧ q.2.2.1 ≤ p.2.2.1 ∧ p.2.2.1 ≤ q.2.2.2)
def srch (xs : List Fq) (p : Fq) : Nat → Nat → Option Nat
  | 0, _ => none
  | m + 1, g => if (xs[g]?).any (inn p) then some g else srch xs p m (g + 1)
def wsum (r : Nat → Int32) (w l a : Nat) (m : Nat) : Int32 := Nat.rec 0 (fun q x => x + (unl r w (a + q) (l - 1) - unl r w (a + q) l)) m
def pks (r : Nat → Int32) (w : Nat) : Nat → Nat → Nat → Nat
  | 0, _, p => p
  | m + 1, d, p => pks r w m (d + 1) (if cO r (bit w) d ≤ cO r (bit w) p then p else d)
theorem pks_in (r : Nat → Int32) (w : Nat) : ∀ (m d p B : Nat), d + m ≤ B → p < B → pks r w m d p < B
  | 0, _, p, B, _, h => h
  | m + 1, d, p, B, h1, h2 => by
    rw [pks]
    refine pks_in r w m (d + 1) _ B (by omega) ?_
    split <;> omega
def pk (r : Nat → Int32) (q : Fq) : Nat := pks r q.1 (q.2.2.2 - q.2.2.1) (q.2.2.1 + 1) q.2.2.1
theorem pkq_in {r : Nat → Int32} {q : Fq} {B : Nat} (h1 : q.2.2.1 ≤ q.2.2.2) (h2 : q.2.2.2 < B) : pk r q < B := pks_in r q.1 _ _ _ B (by omega) (by omega)
theorem x_hasDay {S : Mm} {xs : List Fq} {g a : Nat} {q : Fq} (hH : Hf S 52 xs) (hB : Bq xs) (hn : S.1 50 1 = nI xs.length) (h144 : xs.length ≤ 144) (hg : xs[g]? = some q) (ha : a < 2 ^ 31) : f_X3_hasDay S (nI g) (nI a) = some (if q.2.2.1 ≤ a ∧ a ≤ q.2.2.2 then 1 else 0) := by
  have hl : g < xs.length := (List.getElem?_eq_some_iff.mp hg).1
  obtain ⟨-, -, e3, e4⟩ := hH g q hg
  obtain ⟨b1, b2, b3, b4, b5⟩ := hB g q hg
  unfold f_X3_hasDay f_X3_has
  rw [hn]
  by_cases h1 : a < q.2.2.1
  · simp (disch := omega) only [nI_add, nI_1, nI_leI, nI_ltI, nI_eq, inb_nI, nI_clamp, if_pos, if_neg, if_true, if_false, bnd, l_0, l_1, l_2, l_3, l_4, l_5, l_6, l_7, l_8, l_9, l_10, l_11, l_12, l_13, l_14, l_15, l_16, l_17, l_18, l_19, l_20, l_21, l_22, l_23, l_24, l_25, l_26, l_27, l_28, l_29, l_30, l_31, l_32, l_33, l_34, l_35, l_36, l_37, l_38, l_39, l_40, l_41, l_42, l_43, l_44, l_45, l_46, l_47, l_48, l_49, l_50, l_51, l_52, l_53, l_54, l_55, l_56, l_57, l_58, l_59, l_60, l_61, l_62, l_63, l_64, l_65, l_66, l_67, l_68, l_69, l_70, l_71, l_72, l_73, l_74, l_75, l_76, l_77, l_78, l_79, l_80, l_81, l_82, l_83, l_84, l_85, l_86, l_87, l_88, l_89, l_90, l_91, l_92, l_93, l_94, l_95, l_96, l_97, l_98, l_99, l_100, l_123, l_144, l_160, l_255, l_256, l_1000, l_1462, l_1634, l_65536, e3, e4]
  · by_cases h2 : q.2.2.2 < a
    · simp (disch := omega) only [nI_add, nI_1, nI_leI, nI_ltI, nI_eq, inb_nI, nI_clamp, if_pos, if_neg, if_true, if_false, bnd, l_0, l_1, l_2, l_3, l_4, l_5, l_6, l_7, l_8, l_9, l_10, l_11, l_12, l_13, l_14, l_15, l_16, l_17, l_18, l_19, l_20, l_21, l_22, l_23, l_24, l_25, l_26, l_27, l_28, l_29, l_30, l_31, l_32, l_33, l_34, l_35, l_36, l_37, l_38, l_39, l_40, l_41, l_42, l_43, l_44, l_45, l_46, l_47, l_48, l_49, l_50, l_51, l_52, l_53, l_54, l_55, l_56, l_57, l_58, l_59, l_60, l_61, l_62, l_63, l_64, l_65, l_66, l_67, l_68, l_69, l_70, l_71, l_72, l_73, l_74, l_75, l_76, l_77, l_78, l_79, l_80, l_81, l_82, l_83, l_84, l_85, l_86, l_87, l_88, l_89, l_90, l_91, l_92, l_93, l_94, l_95, l_96, l_97, l_98, l_99, l_100, l_123, l_144, l_160, l_255, l_256, l_1000, l_1462, l_1634, l_65536, e3, e4]
    · simp (disch := omega) only [nI_add, nI_1, nI_leI, nI_ltI, nI_eq, inb_nI, nI_clamp, if_pos, if_neg, if_true, if_false, bnd, l_0, l_1, l_2, l_3, l_4, l_5, l_6, l_7, l_8, l_9, l_10, l_11, l_12, l_13, l_14, l_15, l_16, l_17, l_18, l_19, l_20, l_21, l_22, l_23, l_24, l_25, l_26, l_27, l_28, l_29, l_30, l_31, l_32, l_33, l_34, l_35, l_36, l_37, l_38, l_39, l_40, l_41, l_42, l_43, l_44, l_45, l_46, l_47, l_48, l_49, l_50, l_51, l_52, l_53, l_54, l_55, l_56, l_57, l_58, l_59, l_60, l_61, l_62, l_63, l_64, l_65, l_66, l_67, l_68, l_69, l_70, l_71, l_72, l_73, l_74, l_75, l_76, l_77, l_78, l_79, l_80, l_81, l_82, l_83, l_84, l_85, l_86, l_87, l_88, l_89, l_90, l_91, l_92, l_93, l_94, l_95, l_96, l_97, l_98, l_99, l_100, l_123, l_144, l_160, l_255, l_256, l_1000, l_1462, l_1634, l_65536, e3, e4]
theorem x_around_loop {S : Mm} {xs : List Fq} {f : Nat} {p : Fq} {k : Int32 → Option Int32} (hH : Hf S 52 xs) (hB : Bq xs) (hn : S.1 50 1 = nI xs.length) (h144 : xs.length ≤ 144) (hf : xs[f]? = some p) : ∀ (m g fuel : Nat), g + m = f → m < fuel → lp_X3_around_2 k S (nI f) fuel (nI g) = match srch xs p m g with
    | none => k (nI f)
    | some g => some (nI g) := by
  have hl : f < xs.length := (List.getElem?_eq_some_iff.mp hf).1
  obtain ⟨p1, p2, p3, p4⟩ := hH f p hf
  obtain ⟨b1, b2, b3, b4, b5⟩ := hB f p hf
  intro m
  induction m with
  | zero =>
    intro g fuel h1 h2
    obtain ⟨f', rfl⟩ : ∃ f, fuel = f + 1 := ⟨fuel - 1, by omega⟩
    rw [lp_X3_around_2, srch, show g = f by omega, if_pos (nI_le (Nat.le_refl f) (by omega))]
  | succ m ih =>
    intro g fuel h1 h2
    obtain ⟨f', rfl⟩ : ∃ f, fuel = f + 1 := ⟨fuel - 1, by omega⟩
    have hg : g < xs.length := by omega
    obtain ⟨q, hq⟩ : ∃ q, xs[g]? = some q := ⟨_, List.getElem?_eq_getElem hg⟩
    obtain ⟨e1, e2, e3, e4⟩ := hH g q hq
    obtain ⟨c1, c2, c3, c4, c5⟩ := hB g q hq
    have ih1 := ih (g + 1) f' (by omega) (by omega)
    rw [lp_X3_around_2, srch, hq, Option.any_some]
    have hday : f_X3_hasDay S (nI g) (S.1 54 f) = some (if q.2.2.1 ≤ p.2.2.1 ∧ p.2.2.1 ≤ q.2.2.2 then 1 else 0) := by
      rw [show S.1 54 f = nI p.2.2.1 from p3]; exact x_hasDay hH hB hn h144 hq (by omega)
    simp (disch := omega) only [nI_add, nI_1, nI_leI, nI_ltI, nI_eq, inb_nI, nI_clamp, if_pos, if_neg, if_true, if_false, bnd, l_0, l_1, l_2, l_3, l_4, l_5, l_6, l_7, l_8, l_9, l_10, l_11, l_12, l_13, l_14, l_15, l_16, l_17, l_18, l_19, l_20, l_21, l_22, l_23, l_24, l_25, l_26, l_27, l_28, l_29, l_30, l_31, l_32, l_33, l_34, l_35, l_36, l_37, l_38, l_39, l_40, l_41, l_42, l_43, l_44, l_45, l_46, l_47, l_48, l_49, l_50, l_51, l_52, l_53, l_54, l_55, l_56, l_57, l_58, l_59, l_60, l_61, l_62, l_63, l_64, l_65, l_66, l_67, l_68, l_69, l_70, l_71, l_72, l_73, l_74, l_75, l_76, l_77, l_78, l_79, l_80, l_81, l_82, l_83, l_84, l_85, l_86, l_87, l_88, l_89, l_90, l_91, l_92, l_93, l_94, l_95, l_96, l_97, l_98, l_99, l_100, l_123, l_144, l_160, l_255, l_256, l_1000, l_1462, l_1634, l_65536, e1, p1]
    by_cases hw : q.1 = p.1
    · rw [if_pos hw]
      simp (disch := omega) only [nI_add, nI_1, nI_leI, nI_ltI, nI_eq, inb_nI, nI_clamp, if_pos, if_neg, if_true, if_false, bnd, l_0, l_1, l_2, l_3, l_4, l_5, l_6, l_7, l_8, l_9, l_10, l_11, l_12, l_13, l_14, l_15, l_16, l_17, l_18, l_19, l_20, l_21, l_22, l_23, l_24, l_25, l_26, l_27, l_28, l_29, l_30, l_31, l_32, l_33, l_34, l_35, l_36, l_37, l_38, l_39, l_40, l_41, l_42, l_43, l_44, l_45, l_46, l_47, l_48, l_49, l_50, l_51, l_52, l_53, l_54, l_55, l_56, l_57, l_58, l_59, l_60, l_61, l_62, l_63, l_64, l_65, l_66, l_67, l_68, l_69, l_70, l_71, l_72, l_73, l_74, l_75, l_76, l_77, l_78, l_79, l_80, l_81, l_82, l_83, l_84, l_85, l_86, l_87, l_88, l_89, l_90, l_91, l_92, l_93, l_94, l_95, l_96, l_97, l_98, l_99, l_100, l_123, l_144, l_160, l_255, l_256, l_1000, l_1462, l_1634, l_65536, e2, p2, pk_sub]
      by_cases hlv : q.2.1 = p.2.1 - 1
      · rw [if_pos hlv, hday, Option.bind_some]
        by_cases hd : q.2.2.1 ≤ p.2.2.1 ∧ p.2.2.1 ≤ q.2.2.2
        · rw [if_pos hd, if_neg (by decide), if_pos (show inn p q = true from decide_eq_true ⟨hw, by omega, hd⟩)]
        · rw [if_neg hd, if_pos (by decide), if_neg (show ¬ inn p q = true from fun h => hd ((of_decide_eq_true h).2.2)), ih1]
      · rw [if_neg hlv, if_neg (show ¬ inn p q = true from fun h => hlv (by have := (of_decide_eq_true h).2.1; omega)), ih1]
    · rw [if_neg hw, if_neg (show ¬ inn p q = true from fun h => hw (of_decide_eq_true h).1), ih1]
theorem x_around {S : Mm} {xs : List Fq} {f : Nat} {p : Fq} (hH : Hf S 52 xs) (hB : Bq xs) (hn : S.1 50 1 = nI xs.length) (h144 : xs.length ≤ 144) (hf : xs[f]? = some p) : f_X3_around S (nI f) = some (fi (srch xs p f 0)) := by
  have hl : f < xs.length := (List.getElem?_eq_some_iff.mp hf).1
  obtain ⟨F, hFu⟩ : ∃ F : Nat, 100000 = F := ⟨_, rfl⟩
  unfold f_X3_around
  rw [hFu, l_0, x_around_loop hH hB hn h144 hf f 0 F (by omega) (by omega)]
  cases srch xs p f 0 <;> rfl
theorem x_weight_loop {S : Mm} {r : Nat → Int32} {f w l b : Nat} {k : Int32 → Int32 → Option Int32} (hF : FT S r) (hf : f < 144) (hw : w < 8) (hl : 1 ≤ l) (hl3 : l ≤ 3) (hb : b < 12) (h5 : S.1 55 f = nI b) : ∀ (m d fuel : Nat) (a : Int32), d + m = b + 1 → m < fuel → lp_X3_weightOf_32 k S (nI f) (nI w) (nI l) fuel a (nI d) = k (Nat.rec a (fun q x => x + (unl r w (d + q) (l - 1) - unl r w (d + q) l)) m) (nI (b + 1)) := by
  intro m
  induction m with
  | zero =>
    intro d fuel a h1 h2
    obtain ⟨f', rfl⟩ : ∃ f, fuel = f + 1 := ⟨fuel - 1, by omega⟩
    rw [lp_X3_weightOf_32, show d = b + 1 by omega]
    simp (disch := omega) only [nI_add, nI_1, nI_leI, nI_ltI, nI_eq, inb_nI, nI_clamp, if_pos, if_neg, if_true, if_false, bnd, h5]
    rfl
  | succ m ih =>
    intro d fuel a h1 h2
    obtain ⟨f', rfl⟩ : ∃ f, fuel = f + 1 := ⟨fuel - 1, by omega⟩
    rw [lp_X3_weightOf_32, l_1, pk_sub hl, x_unl hF hw (by omega), x_unl hF hw (by omega)]
    simp (disch := omega) only [nI_add, nI_1, nI_leI, nI_ltI, nI_eq, inb_nI, nI_clamp, if_pos, if_neg, if_true, if_false, bnd, h5]
    rw [ih (d + 1) f' _ (by omega) (by omega)]
    congr 1
    clear ih h1 h2
    induction m with
    | zero => rfl
    | succ m ihm =>
      show _ + (unl r w (d + 1 + m) (l - 1) - unl r w (d + 1 + m) l) = _ + (unl r w (d + (m + 1)) (l - 1) - unl r w (d + (m + 1)) l)
      rw [ihm, show d + 1 + m = d + (m + 1) by omega]
theorem x_weight {S : Mm} {r : Nat → Int32} {xs : List Fq} {f : Nat} {q : Fq} (hF : FT S r) (hH : Hf S 52 xs) (hB : Bq xs) (h144 : xs.length ≤ 144) (hf : xs[f]? = some q) : f_X3_weightOf S (nI f) = some (wsum r q.1 q.2.1 q.2.2.1 (q.2.2.2 + 1 - q.2.2.1)) := by
  have hl : f < xs.length := (List.getElem?_eq_some_iff.mp hf).1
  obtain ⟨e1, e2, e3, e4⟩ := hH f q hf
  obtain ⟨b1, b2, b3, b4, b5⟩ := hB f q hf
  obtain ⟨F, hFu⟩ : ∃ F : Nat, 100000 = F := ⟨_, rfl⟩
  have hx := x_weight_loop (k := fun y _ => some y) hF (show f < 144 by omega) b1 b2 b3 b5 e4 (q.2.2.2 + 1 - q.2.2.1) q.2.2.1 F (nI 0) (by omega) (by omega)
  unfold f_X3_weightOf
  rw [hFu]
  simp (disch := omega) only [nI_add, nI_1, nI_leI, nI_ltI, nI_eq, inb_nI, nI_clamp, if_pos, if_neg, if_true, if_false, bnd, l_0, l_1, l_2, l_3, l_4, l_5, l_6, l_7, l_8, l_9, l_10, l_11, l_12, l_13, l_14, l_15, l_16, l_17, l_18, l_19, l_20, l_21, l_22, l_23, l_24, l_25, l_26, l_27, l_28, l_29, l_30, l_31, l_32, l_33, l_34, l_35, l_36, l_37, l_38, l_39, l_40, l_41, l_42, l_43, l_44, l_45, l_46, l_47, l_48, l_49, l_50, l_51, l_52, l_53, l_54, l_55, l_56, l_57, l_58, l_59, l_60, l_61, l_62, l_63, l_64, l_65, l_66, l_67, l_68, l_69, l_70, l_71, l_72, l_73, l_74, l_75, l_76, l_77, l_78, l_79, l_80, l_81, l_82, l_83, l_84, l_85, l_86, l_87, l_88, l_89, l_90, l_91, l_92, l_93, l_94, l_95, l_96, l_97, l_98, l_99, l_100, l_123, l_144, l_160, l_255, l_256, l_1000, l_1462, l_1634, l_65536, e1, e2, e3]
  rw [hx]
  rfl
theorem x_peak_loop {S : Mm} {r : Nat → Int32} {f w b : Nat} {k : Int32 → Int32 → Option Int32} (hF : FT S r) (hr1 : (r 1).toNatClampNeg ≤ 40) (hf : f < 144) (hw : w < 8) (hb : b < 12) (h5 : S.1 55 f = nI b) : ∀ (m d p fuel : Nat), d + m = b + 1 → p < 12 → m < fuel → lp_X3_peakOf_25 k S (nI f) (nI w) fuel (nI p) (nI d) = k (nI (pks r w m d p)) (nI (b + 1)) := by
  intro m
  induction m with
  | zero =>
    intro d p fuel h1 hp h2
    obtain ⟨f', rfl⟩ : ∃ f, fuel = f + 1 := ⟨fuel - 1, by omega⟩
    rw [lp_X3_peakOf_25, show d = b + 1 by omega, pks]
    simp (disch := omega) only [nI_add, nI_1, nI_leI, nI_ltI, nI_eq, inb_nI, nI_clamp, if_pos, if_neg, if_true, if_false, bnd, h5]
  | succ m ih =>
    intro d p fuel h1 hp h2
    obtain ⟨f', rfl⟩ : ∃ f, fuel = f + 1 := ⟨fuel - 1, by omega⟩
    have i1 := cO_le r (bit w) d
    have i2 := cO_le r (bit w) p
    rw [lp_X3_peakOf_25, x_count hF hw (by omega), x_count hF hw hp, pks]
    simp (disch := omega) only [nI_add, nI_1, nI_leI, nI_ltI, nI_eq, inb_nI, nI_clamp, if_pos, if_neg, if_true, if_false, bnd, h5]
    by_cases hc : cO r (bit w) d ≤ cO r (bit w) p
    · rw [if_pos hc, if_pos hc]
      exact ih (d + 1) p f' (by omega) hp (by omega)
    · rw [if_neg hc, if_neg hc]
      exact ih (d + 1) d f' (by omega) (by omega) (by omega)
theorem x_peak {S : Mm} {r : Nat → Int32} {xs : List Fq} {f : Nat} {q : Fq} (hF : FT S r) (hr1 : (r 1).toNatClampNeg ≤ 40) (hH : Hf S 52 xs) (hB : Bq xs) (h144 : xs.length ≤ 144) (hf : xs[f]? = some q) : f_X3_peakOf S (nI f) = some (nI (pk r q)) := by
  have hl : f < xs.length := (List.getElem?_eq_some_iff.mp hf).1
  obtain ⟨e1, e2, e3, e4⟩ := hH f q hf
  obtain ⟨b1, b2, b3, b4, b5⟩ := hB f q hf
  obtain ⟨F, hFu⟩ : ∃ F : Nat, 100000 = F := ⟨_, rfl⟩
  have hx := x_peak_loop (k := fun y _ => some y) hF hr1 (show f < 144 by omega) b1 b5 e4 (q.2.2.2 - q.2.2.1) (q.2.2.1 + 1) q.2.2.1 F (by omega) (by omega) (by omega)
  unfold f_X3_peakOf
  rw [hFu]
  simp (disch := omega) only [nI_add, nI_1, nI_leI, nI_ltI, nI_eq, inb_nI, nI_clamp, if_pos, if_neg, if_true, if_false, bnd, e1, e3]
  rw [hx]
  rfl
theorem x_fade {S : Mm} {r : Nat → Int32} {xs : List Fq} {f p : Nat} {q : Fq} (hF : FT S r) (hH : Hf S 52 xs) (hB : Bq xs) (h144 : xs.length ≤ 144) (hf : xs[f]? = some q) (hp : p < 12) (h8 : S.1 58 f = nI p) : f_X3_fadeOf S (nI f) = some (nI (cO r (bit q.1) p) - nI (cO r (bit q.1) q.2.2.2)) := by
  have hl : f < xs.length := (List.getElem?_eq_some_iff.mp hf).1
  obtain ⟨e1, e2, e3, e4⟩ := hH f q hf
  obtain ⟨b1, b2, b3, b4, b5⟩ := hB f q hf
  have e4' : S.1 55 f = nI q.2.2.2 := e4
  unfold f_X3_fadeOf
  simp (disch := omega) only [nI_add, nI_1, nI_leI, nI_ltI, nI_eq, inb_nI, nI_clamp, if_pos, if_neg, if_true, if_false, bnd]
  rw [e1, h8, e4', x_count hF b1 hp, x_count hF b1 b5, Option.bind_some, Option.bind_some]
/-- the facts' cells -/
def Ffa (S : Mm) (r : Nat → Int32) (xs : List Fq) (i : Nat) (q : Fq) : Prop := S.1 56 i = fi (srch xs q i 0) ∧ S.1 57 i = wsum r q.1 q.2.1 q.2.2.1 (q.2.2.2 + 1 - q.2.2.1) + 1000 ∧ S.1 58 i = nI (pk r q) ∧ S.1 59 i = nI (cO r (bit q.1) (pk r q)) - nI (cO r (bit q.1) q.2.2.2)
theorem x_facts_loop {r : Nat → Int32} {xs : List Fq} {k : Int32 → Mm → Option Mm} (hr1 : (r 1).toNatClampNeg ≤ 40) (hB : Bq xs) (h144 : xs.length ≤ 144) : ∀ (m i fuel : Nat) (S : Mm), i + m = xs.length → m < fuel → FT S r → Hf S 52 xs → S.1 50 1 = nI xs.length → ∃ S', lp_X3_findAll_51 k fuel (nI i) S = k (nI xs.length) S' ∧ S'.2 = S.2 ∧ (∀ a j, ¬ (56 ≤ a ∧ a < 61) ∨ j < i → S'.1 a j = S.1 a j) ∧ ∀ j q, i ≤ j → xs[j]? = some q → Ffa S' r xs j q ∧ S'.1 60 j = -1 := by
  intro m
  induction m with
  | zero =>
    intro i fuel S h1 h2 hF hH hn
    obtain ⟨f, rfl⟩ : ∃ f, fuel = f + 1 := ⟨fuel - 1, by omega⟩
    refine ⟨S, ?_, rfl, fun _ _ _ => rfl, fun j q h3 h4 => absurd (List.getElem?_eq_some_iff.mp h4).1 (by omega)⟩
    rw [lp_X3_findAll_51, hn, if_pos (nI_le (by omega) (by omega)), show i = xs.length by omega]
  | succ m ih =>
    intro i fuel S h1 h2 hF hH hn
    obtain ⟨f, rfl⟩ : ∃ f, fuel = f + 1 := ⟨fuel - 1, by omega⟩
    obtain ⟨q, hq⟩ : ∃ q, xs[i]? = some q := ⟨_, List.getElem?_eq_getElem (show i < xs.length by omega)⟩
    obtain ⟨b1, b2, b3, b4, b5⟩ := hB i q hq
    have hpk : pk r q < 12 := pkq_in b4 b5
    have g1 := x_around hH hB hn h144 hq
    generalize hS1 : wr S 56 i (fi (srch xs q i 0)) = S1
    have k1 : ∀ a j, a ≠ 56 → S1.1 a j = S.1 a j := fun a j h => by rw [← hS1]; exact wr_k _ _ h
    have hF1 := hF.keep (S1 := S1) (fun a j h3 h4 => k1 a j (by omega))
    have hH1 := hH.keep (S1 := S1) (fun a j h3 h4 => k1 a j (by omega))
    have g2 := x_weight hF1 hH1 hB h144 hq
    generalize hS2 : wr S1 57 i (wsum r q.1 q.2.1 q.2.2.1 (q.2.2.2 + 1 - q.2.2.1) + 1000) = S2
    have k2 : ∀ a j, a ≠ 57 → S2.1 a j = S1.1 a j := fun a j h => by rw [← hS2]; exact wr_k _ _ h
    have hF2 := hF1.keep (S1 := S2) (fun a j h3 h4 => k2 a j (by omega))
    have hH2 := hH1.keep (S1 := S2) (fun a j h3 h4 => k2 a j (by omega))
    have g3 := x_peak hF2 hr1 hH2 hB h144 hq
    generalize hS3 : wr S2 58 i (nI (pk r q)) = S3
    have k3 : ∀ a j, a ≠ 58 → S3.1 a j = S2.1 a j := fun a j h => by rw [← hS3]; exact wr_k _ _ h
    have hF3 := hF2.keep (S1 := S3) (fun a j h3 h4 => k3 a j (by omega))
    have hH3 := hH2.keep (S1 := S3) (fun a j h3 h4 => k3 a j (by omega))
    have g4 := x_fade hF3 hH3 hB h144 hq hpk (by rw [← hS3]; exact wr_s _ _ _ _)
    generalize hS4 : wr S3 59 i (nI (cO r (bit q.1) (pk r q)) - nI (cO r (bit q.1) q.2.2.2)) = S4
    have k4 : ∀ a j, a ≠ 59 → S4.1 a j = S3.1 a j := fun a j h => by rw [← hS4]; exact wr_k _ _ h
    generalize hS5 : wr S4 60 i (-1) = S5
    have k5 : ∀ a j, a ≠ 60 → S5.1 a j = S4.1 a j := fun a j h => by rw [← hS5]; exact wr_k _ _ h
    have kk : ∀ a j, ¬ (56 ≤ a ∧ a < 61) → S5.1 a j = S.1 a j := fun a j h => by
      rw [k5 a j (by omega), k4 a j (by omega), k3 a j (by omega), k2 a j (by omega), k1 a j (by omega)]
    have kj : ∀ a j, j ≠ i → S5.1 a j = S.1 a j := fun a j h => by
      rw [← hS5, wr_j _ _ h, ← hS4, wr_j _ _ h, ← hS3, wr_j _ _ h, ← hS2, wr_j _ _ h, ← hS1, wr_j _ _ h]
    obtain ⟨S', e1, e2, e3, e4⟩ := ih (i + 1) f S5 (by omega) (by omega) (hF.keep (fun a j h3 h4 => kk a j (by omega))) (hH.keep (fun a j h3 h4 => kk a j (by omega))) ((kk 50 1 (by omega)).trans hn)
    refine ⟨S', ?_, ?_, fun a j h => ?_, fun j p h3 h4 => ?_⟩
    · rw [lp_X3_findAll_51, hn, if_neg (nI_ge (by omega) (by omega)), g1]
      simp (disch := omega) only [nI_add, nI_1, nI_leI, nI_ltI, nI_eq, inb_nI, nI_clamp, if_pos, if_neg, if_true, if_false, bnd, hS1, g2, hS2, g3, hS3, g4, hS4, hS5]
      exact e1
    · rw [e2, ← hS5, ← hS4, ← hS3, ← hS2, ← hS1]; rfl
    · rcases h with h | h
      · exact (e3 a j (Or.inl h)).trans (kk a j h)
      · exact (e3 a j (Or.inr (by omega))).trans (kj a j (by omega))
    · by_cases hj : j = i
      · subst hj
        cases hq.symm.trans h4
        refine ⟨⟨?_, ?_, ?_, ?_⟩, ?_⟩
        · rw [e3 56 j (Or.inr (by omega)), k5 _ _ (by omega), k4 _ _ (by omega), k3 _ _ (by omega), k2 _ _ (by omega), ← hS1]; exact wr_s _ _ _ _
        · rw [e3 57 j (Or.inr (by omega)), k5 _ _ (by omega), k4 _ _ (by omega), k3 _ _ (by omega), ← hS2]; exact wr_s _ _ _ _
        · rw [e3 58 j (Or.inr (by omega)), k5 _ _ (by omega), k4 _ _ (by omega), ← hS3]; exact wr_s _ _ _ _
        · rw [e3 59 j (Or.inr (by omega)), k5 _ _ (by omega), ← hS4]; exact wr_s _ _ _ _
        · rw [e3 60 j (Or.inr (by omega)), ← hS5]; exact wr_s _ _ _ _
      · exact e4 j p (by omega) h4
/-- the flares' cells -/
def FF (S : Mm) (r : Nat → Int32) (xs : List Fq) : Prop := Hf S 52 xs ∧ S.1 50 1 = nI xs.length ∧ ∀ j q, xs[j]? = some q → Ffa S r xs j q
theorem x_flares {S : Mm} {r : Nat → Int32} {D L : Nat} (hr1 : (r 1).toNatClampNeg ≤ 40) (hD : D ≤ 12) (hrD : r 0 = nI D) (hL : L ≤ 3) (hrL : r 2 = nI L) (hF : FT S r) (hG : FL S r D L) : ∃ S', f_X3_findAll S = some S' ∧ S'.2 = S.2 ∧ (∀ a j, ¬ (50 ≤ a ∧ a < 61) → S'.1 a j = S.1 a j) ∧ FF S' r (fl r D L) ∧ ∀ j, j < (fl r D L).length → S'.1 60 j = -1 := by
  obtain ⟨F, hFu⟩ : ∃ F : Nat, 100000 = F := ⟨_, rfl⟩
  have h144 := fl_len (r := r) hD hL
  have hB := fl_Bq (r := r) hD hL
  have k0 : ∀ a j, a ≠ 50 → (wr S 50 1 (nI 0)).1 a j = S.1 a j := fun a j h => wr_k _ _ h
  obtain ⟨S1, a1, a2, a3, a4, a5⟩ := x_wrds (r := r) (k := fun _ S11 => lp_X3_findAll_51 (fun _ S27 => some S27) F (nI 0) S11) hD hrD hL hrL 8 0 F (wr S 50 1 (nI 0)) [] (by omega) (by omega) (hF.keep (fun a j h3 h4 => k0 a j (by omega))) (fun v hv => ⟨(k0 _ _ (by omega)).trans (hG v hv).1, fun d hd => (k0 _ _ (by omega)).trans ((hG v hv).2 d hd)⟩) (fun i q h => by simp at h) (wr_s _ _ _ _) (by rw [List.length_nil, Nat.zero_add]; exact h144)
  rw [List.nil_append] at a4
  rw [List.length_nil, Nat.zero_add] at a5
  obtain ⟨S2, b1, b2, b3, b4⟩ := x_facts_loop (k := fun _ S27 => some S27) hr1 hB h144 (fl r D L).length 0 F S1 (by omega) (by omega) (hF.keep (fun a j h3 h4 => (a3 a j (by omega) (by omega)).trans (k0 a j (by omega)))) a4 a5
  refine ⟨S2, ?_, b2.trans a2, fun a j h => ?_, ⟨a4.keep (fun a j h3 h4 => b3 a j (Or.inl (by omega))), (b3 50 1 (Or.inl (by omega))).trans a5, fun j q h => (b4 j q (Nat.zero_le j) h).1⟩, fun j hj => (b4 j _ (Nat.zero_le j) (List.getElem?_eq_getElem hj)).2⟩
  · unfold f_X3_findAll
    rw [hFu]
    simp only [l_0]
    rw [a1, b1]
  · rw [b3 a j (Or.inl (by omega)), a3 a j (by omega) (by omega), k0 a j (by omega)]
