/-! ===== the reference's facts of flares and stories ===== -/
def lst (xs : List Fq) (p : Fq) : Nat → Nat → Option Nat → Option Nat
  | 0, _, st => st
  | m + 1, g, st => lst xs p m (g + 1) (if (xs[g]?).any (inn p) then some g else st)
theorem lst_none {xs : List Fq} {p : Fq} : ∀ (m g : Nat) (st : Option Nat), (∀ x, g ≤ x → x < g + m → (xs[x]?).any (inn p) = false) → lst xs p m g st = st
  | 0, _, _, _ => rfl
  | m + 1, g, st, h => by
    rw [lst, h g (by omega) (by omega)]
    exact lst_none m (g + 1) st (fun x h1 h2 => h x (by omega) (by omega))
theorem lst_uniq {xs : List Fq} {p : Fq} {g0 : Nat} (h0 : (xs[g0]?).any (inn p) = true) : ∀ (m g : Nat) (st : Option Nat), g ≤ g0 → g0 < g + m → (∀ x, g ≤ x → x < g + m → (xs[x]?).any (inn p) = true → x = g0) → lst xs p m g st = some g0
  | 0, g, _, h1, h2, _ => absurd h2 (by omega)
  | m + 1, g, st, h1, h2, h => by
    rw [lst]
    by_cases e : g = g0
    · subst e
      rw [if_pos h0]
      refine lst_none m (g + 1) _ (fun x h3 h4 => ?_)
      cases hx : (xs[x]?).any (inn p) with
      | false => rfl
      | true => have := h x (by omega) (by omega) hx; omega
    · exact lst_uniq h0 m (g + 1) _ (by omega) (by omega) (fun x h3 h4 => h x (by omega) (by omega))
theorem srch_none {xs : List Fq} {p : Fq} : ∀ (m g : Nat), (∀ x, g ≤ x → x < g + m → (xs[x]?).any (inn p) = false) → srch xs p m g = none
  | 0, _, _ => rfl
  | m + 1, g, h => by
    rw [srch, h g (by omega) (by omega)]
    exact srch_none m (g + 1) (fun x h1 h2 => h x (by omega) (by omega))
theorem srch_uniq {xs : List Fq} {p : Fq} {g0 : Nat} (h0 : (xs[g0]?).any (inn p) = true) : ∀ (m g : Nat), g ≤ g0 → g0 < g + m → (∀ x, g ≤ x → x < g + m → (xs[x]?).any (inn p) = true → x = g0) → srch xs p m g = some g0
  | 0, g, h1, h2, _ => absurd h2 (by omega)
  | m + 1, g, h1, h2, h => by
    rw [srch]
    by_cases e : g = g0
    · subst e
      rw [if_pos h0]
    · rw [if_neg (fun hx => e (h g (by omega) (by omega) hx))]
      exact srch_uniq h0 m (g + 1) (by omega) (by omega) (fun x h3 h4 => h x (by omega) (by omega))
theorem inn_at {xs : List Fq} {p : Fq} {x : Nat} (h : (xs[x]?).any (inn p) = true) : ∃ q, xs[x]? = some q ∧ q.1 = p.1 ∧ q.2.1 + 1 = p.2.1 ∧ q.2.2.1 ≤ p.2.2.1 ∧ p.2.2.1 ≤ q.2.2.2 := by
  cases hx : xs[x]? with
  | none => rw [hx] at h; cases h
  | some q =>
    rw [hx, Option.any_some] at h
    exact ⟨q, rfl, of_decide_eq_true h⟩
theorem lst_srch {xs : List Fq} {f : Nat} {p : Fq} (hF : Fos xs) (hf : xs[f]? = some p) : lst xs p xs.length 0 none = srch xs p f 0 := by
  have hfl : f < xs.length := (List.getElem?_eq_some_iff.mp hf).1
  have hlow : ∀ x, (xs[x]?).any (inn p) = true → x < f := fun x hx => by
    obtain ⟨q, q1, q2, q3, q4, q5⟩ := inn_at hx
    refine Nat.not_le.mp fun h => ?_
    by_cases e : x = f
    · subst e
      have := Option.some.inj (hf.symm.trans q1)
      rw [this] at q3
      omega
    · have := hF f x p q hf q1 (by omega)
      unfold Fo at this
      omega
  have huni : ∀ x y, (xs[x]?).any (inn p) = true → (xs[y]?).any (inn p) = true → x = y := fun x y hx hy => by
    obtain ⟨q, q1, q2, q3, q4, q5⟩ := inn_at hx
    obtain ⟨t, t1, t2, t3, t4, t5⟩ := inn_at hy
    rcases Nat.lt_trichotomy x y with h | h | h
    · have := hF x y q t q1 t1 h
      unfold Fo at this
      omega
    · exact h
    · have := hF y x t q t1 q1 h
      unfold Fo at this
      omega
  by_cases hex : ∃ g0 : Nat, (xs[g0]?).any (inn p) = true
  · obtain ⟨g0, h0⟩ := hex
    have := hlow g0 h0
    rw [lst_uniq h0 xs.length 0 none (Nat.zero_le _) (by omega) (fun x _ _ hx => huni x g0 hx h0), srch_uniq h0 f 0 (Nat.zero_le _) (by omega) (fun x _ _ hx => huni x g0 hx h0)]
  · have hno : ∀ x : Nat, (xs[x]?).any (inn p) = false := fun x => by
      cases hx : (xs[x]?).any (inn p) with
      | false => rfl
      | true => exact absurd ⟨x, hx⟩ hex
    rw [lst_none _ _ _ (fun x _ _ => hno x), srch_none _ _ (fun x _ _ => hno x)]
theorem m_within_loop {S : Mm} {xs : List Fq} {f : Nat} {p : Fq} {k : Int32 → Int32 → Option Int32} (hH : Hf S 162 xs) (hB : Bq xs) (hn : S.1 153 19 = nI xs.length) (h144 : xs.length ≤ 144) (hf : xs[f]? = some p) : ∀ (m g fuel : Nat) (st : Option Nat), g + m = xs.length → m < fuel → lp_X11_within_4 k S (nI f) fuel (fi st) (nI g) = k (fi (lst xs p m g st)) (nI xs.length) := by
  have hl : f < xs.length := (List.getElem?_eq_some_iff.mp hf).1
  obtain ⟨p1, p2, p3, p4⟩ := hH f p hf
  obtain ⟨b1, b2, b3, b4, b5⟩ := hB f p hf
  intro m
  induction m with
  | zero =>
    intro g fuel st h1 h2
    obtain ⟨f', rfl⟩ : ∃ f, fuel = f + 1 := ⟨fuel - 1, by omega⟩
    rw [lp_X11_within_4, lst, hn, show g = xs.length by omega, if_pos (nI_le (Nat.le_refl _) (by omega))]
  | succ m ih =>
    intro g fuel st h1 h2
    obtain ⟨f', rfl⟩ : ∃ f, fuel = f + 1 := ⟨fuel - 1, by omega⟩
    have hg : g < xs.length := by omega
    obtain ⟨q, hq⟩ : ∃ q, xs[g]? = some q := ⟨_, List.getElem?_eq_getElem hg⟩
    obtain ⟨e1, e2, e3, e4⟩ := hH g q hq
    obtain ⟨c1, c2, c3, c4, c5⟩ := hB g q hq
    have ih1 := ih (g + 1) f' st (by omega) (by omega)
    have ih2 : lp_X11_within_4 k S (nI f) f' (nI g) (nI (g + 1)) = k (fi (lst xs p m (g + 1) (some g))) (nI xs.length) := ih (g + 1) f' (some g) (by omega) (by omega)
    rw [lp_X11_within_4, lst, hq, Option.any_some, hn]
    have hday : f_X11_isIn S (nI g) (S.1 164 f) = some (if q.2.2.1 ≤ p.2.2.1 ∧ p.2.2.1 ≤ q.2.2.2 then 1 else 0) := by
      rw [show S.1 164 f = nI p.2.2.1 from p3]; exact m_isIn hH hB h144 hq (by omega)
    simp (disch := omega) only [nI_add, nI_1, nI_leI, nI_ltI, nI_eq, inb_nI, nI_clamp, if_pos, if_neg, if_true, if_false, bnd, l_0, l_1, l_2, l_3, l_4, l_5, l_6, l_7, l_8, l_9, l_10, l_11, l_12, l_13, l_14, l_15, l_16, l_17, l_18, l_19, l_20, l_21, l_22, l_23, l_24, l_25, l_26, l_27, l_28, l_29, l_30, l_31, l_32, l_33, l_34, l_35, l_36, l_37, l_38, l_39, l_40, l_41, l_42, l_43, l_44, l_45, l_46, l_47, l_48, l_49, l_50, l_51, l_52, l_53, l_54, l_55, l_56, l_57, l_58, l_59, l_60, l_61, l_62, l_63, l_64, l_65, l_66, l_67, l_68, l_69, l_70, l_71, l_72, l_73, l_74, l_75, l_76, l_77, l_78, l_79, l_80, l_81, l_82, l_83, l_84, l_85, l_86, l_87, l_88, l_89, l_90, l_91, l_92, l_93, l_94, l_95, l_96, l_97, l_98, l_99, l_100, l_123, l_144, l_160, l_255, l_256, l_1000, l_1462, l_1634, l_65536, e1, p1]
    by_cases hw : q.1 = p.1
    · rw [if_pos hw]
      simp (disch := omega) only [nI_add, nI_1, nI_leI, nI_ltI, nI_eq, inb_nI, nI_clamp, if_pos, if_neg, if_true, if_false, bnd, l_0, l_1, l_2, l_3, l_4, l_5, l_6, l_7, l_8, l_9, l_10, l_11, l_12, l_13, l_14, l_15, l_16, l_17, l_18, l_19, l_20, l_21, l_22, l_23, l_24, l_25, l_26, l_27, l_28, l_29, l_30, l_31, l_32, l_33, l_34, l_35, l_36, l_37, l_38, l_39, l_40, l_41, l_42, l_43, l_44, l_45, l_46, l_47, l_48, l_49, l_50, l_51, l_52, l_53, l_54, l_55, l_56, l_57, l_58, l_59, l_60, l_61, l_62, l_63, l_64, l_65, l_66, l_67, l_68, l_69, l_70, l_71, l_72, l_73, l_74, l_75, l_76, l_77, l_78, l_79, l_80, l_81, l_82, l_83, l_84, l_85, l_86, l_87, l_88, l_89, l_90, l_91, l_92, l_93, l_94, l_95, l_96, l_97, l_98, l_99, l_100, l_123, l_144, l_160, l_255, l_256, l_1000, l_1462, l_1634, l_65536, e2, p2, pk_sub]
      by_cases hlv : q.2.1 = p.2.1 - 1
      · rw [if_pos hlv, hday, bnd]
        by_cases hd : q.2.2.1 ≤ p.2.2.1 ∧ p.2.2.1 ≤ q.2.2.2
        · rw [if_pos hd, if_neg (by decide), if_pos (show inn p q = true from decide_eq_true ⟨hw, by omega, hd⟩), ih2]
        · rw [if_neg hd, if_pos (by decide), if_neg (show ¬ inn p q = true from fun h => hd ((of_decide_eq_true h).2.2)), ih1]
      · rw [if_neg hlv, if_neg (show ¬ inn p q = true from fun h => hlv (by have := (of_decide_eq_true h).2.1; omega)), ih1]
    · rw [if_neg hw, if_neg (show ¬ inn p q = true from fun h => hw (of_decide_eq_true h).1), ih1]
theorem m_within {S : Mm} {xs : List Fq} {f : Nat} {p : Fq} (hH : Hf S 162 xs) (hB : Bq xs) (hF : Fos xs) (hn : S.1 153 19 = nI xs.length) (h144 : xs.length ≤ 144) (hf : xs[f]? = some p) : f_X11_within S (nI f) = some (fi (srch xs p f 0)) := by
  obtain ⟨F, hFu⟩ : ∃ F : Nat, 100000 = F := ⟨_, rfl⟩
  unfold f_X11_within
  rw [hFu, l_0]
  refine (m_within_loop hH hB hn h144 hf xs.length 0 F none (by omega) (by omega)).trans ?_
  rw [lst_srch hF hf]
theorem m_weight_loop {S : Mm} {r : Nat → Int32} {f w l b n : Nat} {k : Int32 → Int32 → Option Int32} (hr : S.1 154 = r) (hn1 : r 1 = nI n) (h40 : n ≤ 40) (hf : f < 144) (hl : 1 ≤ l) (hb : b < 12) (h2' : S.1 162 f = nI w) (h3' : S.1 163 f = nI l) (h5 : S.1 165 f = nI b) : ∀ (m d fuel : Nat) (a : Int32), d + m = b + 1 → m < fuel → lp_X11_weight_9 k S (nI f) fuel a (nI d) = k (Nat.rec a (fun q x => x + (unl r w (d + q) (l - 1) - unl r w (d + q) l)) m) (nI (b + 1)) := by
  have hu : ∀ d l, d < 2 ^ 31 → f_X11_unlikely S (nI w) (nI d) (nI l) = some (unl r w d l) := fun d l hd => (m_unl (by rw [hr]; exact hn1) h40 hd).trans (by rw [hr])
  intro m
  induction m with
  | zero =>
    intro d fuel a h1 h2
    obtain ⟨f', rfl⟩ : ∃ f, fuel = f + 1 := ⟨fuel - 1, by omega⟩
    rw [lp_X11_weight_9, show d = b + 1 by omega]
    simp (disch := omega) only [nI_add, nI_1, nI_leI, nI_ltI, nI_eq, inb_nI, nI_clamp, if_pos, if_neg, if_true, if_false, bnd, h5]
    rfl
  | succ m ih =>
    intro d fuel a h1 h2
    obtain ⟨f', rfl⟩ : ∃ f, fuel = f + 1 := ⟨fuel - 1, by omega⟩
    rw [lp_X11_weight_9]
    simp (disch := omega) only [nI_add, nI_1, nI_leI, nI_ltI, nI_eq, inb_nI, nI_clamp, if_pos, if_neg, if_true, if_false, bnd, l_0, l_1, l_2, l_3, l_4, l_5, l_6, l_7, l_8, l_9, l_10, l_11, l_12, l_13, l_14, l_15, l_16, l_17, l_18, l_19, l_20, l_21, l_22, l_23, l_24, l_25, l_26, l_27, l_28, l_29, l_30, l_31, l_32, l_33, l_34, l_35, l_36, l_37, l_38, l_39, l_40, l_41, l_42, l_43, l_44, l_45, l_46, l_47, l_48, l_49, l_50, l_51, l_52, l_53, l_54, l_55, l_56, l_57, l_58, l_59, l_60, l_61, l_62, l_63, l_64, l_65, l_66, l_67, l_68, l_69, l_70, l_71, l_72, l_73, l_74, l_75, l_76, l_77, l_78, l_79, l_80, l_81, l_82, l_83, l_84, l_85, l_86, l_87, l_88, l_89, l_90, l_91, l_92, l_93, l_94, l_95, l_96, l_97, l_98, l_99, l_100, l_123, l_144, l_160, l_255, l_256, l_1000, l_1462, l_1634, l_65536, h5, h2', h3', pk_sub]
    rw [hu d (l - 1) (by omega), bnd, hu d l (by omega), bnd, ih (d + 1) f' _ (by omega) (by omega)]
    congr 1
    clear ih h1 h2
    induction m with
    | zero => rfl
    | succ m ihm =>
      show _ + (unl r w (d + 1 + m) (l - 1) - unl r w (d + 1 + m) l) = _ + (unl r w (d + (m + 1)) (l - 1) - unl r w (d + (m + 1)) l)
      rw [ihm, show d + 1 + m = d + (m + 1) by omega]
theorem m_weight {S : Mm} {r : Nat → Int32} {xs : List Fq} {f n : Nat} {q : Fq} (hr : S.1 154 = r) (hn1 : r 1 = nI n) (h40 : n ≤ 40) (hH : Hf S 162 xs) (hB : Bq xs) (h144 : xs.length ≤ 144) (hf : xs[f]? = some q) : f_X11_weight S (nI f) = some (wsum r q.1 q.2.1 q.2.2.1 (q.2.2.2 + 1 - q.2.2.1)) := by
  have hl : f < xs.length := (List.getElem?_eq_some_iff.mp hf).1
  obtain ⟨e1, e2, e3, e4⟩ := hH f q hf
  obtain ⟨b1, b2, b3, b4, b5⟩ := hB f q hf
  obtain ⟨F, hFu⟩ : ∃ F : Nat, 100000 = F := ⟨_, rfl⟩
  have hx := m_weight_loop (k := fun y _ => some y) hr hn1 h40 (show f < 144 by omega) b2 b5 e1 e2 e4 (q.2.2.2 + 1 - q.2.2.1) q.2.2.1 F (nI 0) (by omega) (by omega)
  unfold f_X11_weight
  rw [hFu]
  simp (disch := omega) only [nI_add, nI_1, nI_leI, nI_ltI, nI_eq, inb_nI, nI_clamp, if_pos, if_neg, if_true, if_false, bnd, l_0, l_1, l_2, l_3, l_4, l_5, l_6, l_7, l_8, l_9, l_10, l_11, l_12, l_13, l_14, l_15, l_16, l_17, l_18, l_19, l_20, l_21, l_22, l_23, l_24, l_25, l_26, l_27, l_28, l_29, l_30, l_31, l_32, l_33, l_34, l_35, l_36, l_37, l_38, l_39, l_40, l_41, l_42, l_43, l_44, l_45, l_46, l_47, l_48, l_49, l_50, l_51, l_52, l_53, l_54, l_55, l_56, l_57, l_58, l_59, l_60, l_61, l_62, l_63, l_64, l_65, l_66, l_67, l_68, l_69, l_70, l_71, l_72, l_73, l_74, l_75, l_76, l_77, l_78, l_79, l_80, l_81, l_82, l_83, l_84, l_85, l_86, l_87, l_88, l_89, l_90, l_91, l_92, l_93, l_94, l_95, l_96, l_97, l_98, l_99, l_100, l_123, l_144, l_160, l_255, l_256, l_1000, l_1462, l_1634, l_65536, e3]
  rw [hx]
  rfl
theorem m_peak_loop {S : Mm} {r : Nat → Int32} {f w b n : Nat} {k : Int32 → Int32 → Option Int32} (hr : S.1 154 = r) (hn1 : r 1 = nI n) (h40 : n ≤ 40) (hf : f < 144) (hb : b < 12) (h2' : S.1 162 f = nI w) (h5 : S.1 165 f = nI b) : ∀ (m d p fuel : Nat), d + m = b + 1 → p < 12 → m < fuel → lp_X11_peak_14 k S (nI f) fuel (nI p) (nI d) = k (nI (pks r w m d p)) (nI (b + 1)) := by
  have hu : ∀ d, d < 2 ^ 31 → f_X11_count S (nI d) (1 <<< (nI w &&& 31)) = some (nI (cO r (bit w) d)) := fun d hd => (m_on (s := bit w) (by rw [hr]; exact hn1) h40 hd).trans (by rw [hr])
  intro m
  induction m with
  | zero =>
    intro d p fuel h1 hp h2
    obtain ⟨f', rfl⟩ : ∃ f, fuel = f + 1 := ⟨fuel - 1, by omega⟩
    rw [lp_X11_peak_14, show d = b + 1 by omega, pks]
    simp (disch := omega) only [nI_add, nI_1, nI_leI, nI_ltI, nI_eq, inb_nI, nI_clamp, if_pos, if_neg, if_true, if_false, bnd, h5]
  | succ m ih =>
    intro d p fuel h1 hp h2
    obtain ⟨f', rfl⟩ : ∃ f, fuel = f + 1 := ⟨fuel - 1, by omega⟩
    have i1 := cO_le r (bit w) d
    have i2 := cO_le r (bit w) p
    rw [hn1, nI_clamp (by omega)] at i1 i2
    rw [lp_X11_peak_14, pks]
    simp (disch := omega) only [nI_add, nI_1, nI_leI, nI_ltI, nI_eq, inb_nI, nI_clamp, if_pos, if_neg, if_true, if_false, bnd, h5, h2', hu]
    by_cases hc : cO r (bit w) d ≤ cO r (bit w) p
    · rw [if_pos hc, if_pos hc]
      exact ih (d + 1) p f' (by omega) hp (by omega)
    · rw [if_neg hc, if_neg hc]
      exact ih (d + 1) d f' (by omega) (by omega) (by omega)
theorem m_peak {S : Mm} {r : Nat → Int32} {xs : List Fq} {f n : Nat} {q : Fq} (hr : S.1 154 = r) (hn1 : r 1 = nI n) (h40 : n ≤ 40) (hH : Hf S 162 xs) (hB : Bq xs) (h144 : xs.length ≤ 144) (hf : xs[f]? = some q) : f_X11_peak S (nI f) = some (nI (pk r q)) := by
  have hl : f < xs.length := (List.getElem?_eq_some_iff.mp hf).1
  obtain ⟨e1, e2, e3, e4⟩ := hH f q hf
  obtain ⟨b1, b2, b3, b4, b5⟩ := hB f q hf
  obtain ⟨F, hFu⟩ : ∃ F : Nat, 100000 = F := ⟨_, rfl⟩
  have hx := m_peak_loop (k := fun y _ => some y) hr hn1 h40 (show f < 144 by omega) b5 e1 e4 (q.2.2.2 + 1 - q.2.2.1) q.2.2.1 q.2.2.1 F (by omega) (by omega) (by omega)
  unfold f_X11_peak
  rw [hFu]
  simp (disch := omega) only [nI_add, nI_1, nI_leI, nI_ltI, nI_eq, inb_nI, nI_clamp, if_pos, if_neg, if_true, if_false, bnd, e3]
  rw [hx]
  unfold pk
  rw [show q.2.2.2 + 1 - q.2.2.1 = (q.2.2.2 - q.2.2.1) + 1 by omega, pks, if_pos (Nat.le_refl _)]
/-! stories -/
theorem m_begins {S : Mm} {xs : List Fq} {h : Nat → Nat} {g : Nat} (hH : Hf S 162 xs) (hB : Bq xs) (h144 : xs.length ≤ 144) (hh : HM S xs.length h) (hle : ∀ f, f < xs.length → h f ≤ f) (hg : g < xs.length) : f_X11_begins S (nI g) = some (fg (rt xs h g)) := by
  obtain ⟨q, hq⟩ : ∃ q, xs[g]? = some q := ⟨_, List.getElem?_eq_getElem hg⟩
  obtain ⟨e1, e2, e3, e4⟩ := hH g q hq
  obtain ⟨c1, c2, c3, c4, c5⟩ := hB g q hq
  have := hle g hg
  unfold f_X11_begins rt
  simp (disch := omega) only [nI_add, nI_1, nI_leI, nI_ltI, nI_eq, inb_nI, nI_clamp, if_pos, if_neg, if_true, if_false, bnd, l_0, l_1, l_2, l_3, l_4, l_5, l_6, l_7, l_8, l_9, l_10, l_11, l_12, l_13, l_14, l_15, l_16, l_17, l_18, l_19, l_20, l_21, l_22, l_23, l_24, l_25, l_26, l_27, l_28, l_29, l_30, l_31, l_32, l_33, l_34, l_35, l_36, l_37, l_38, l_39, l_40, l_41, l_42, l_43, l_44, l_45, l_46, l_47, l_48, l_49, l_50, l_51, l_52, l_53, l_54, l_55, l_56, l_57, l_58, l_59, l_60, l_61, l_62, l_63, l_64, l_65, l_66, l_67, l_68, l_69, l_70, l_71, l_72, l_73, l_74, l_75, l_76, l_77, l_78, l_79, l_80, l_81, l_82, l_83, l_84, l_85, l_86, l_87, l_88, l_89, l_90, l_91, l_92, l_93, l_94, l_95, l_96, l_97, l_98, l_99, l_100, l_123, l_144, l_160, l_255, l_256, l_1000, l_1462, l_1634, l_65536, e2, hh g hg]
  rw [l1_at hq]
  by_cases h1 : q.2.1 = 1
  · by_cases h2 : h g = g
    · rw [if_pos h1, if_pos h2, decide_eq_true h1, decide_eq_true h2]; rfl
    · rw [if_pos h1, if_neg h2, decide_eq_true h1, decide_eq_false h2]; rfl
  · rw [if_neg h1, decide_eq_false h1]; rfl
theorem m_stories_loop {S : Mm} {xs : List Fq} {h : Nat → Nat} {k : Int32 → Int32 → Option (Int32 × Mm)} (hH : Hf S 162 xs) (hB : Bq xs) (hn : S.1 153 19 = nI xs.length) (h144 : xs.length ≤ 144) (hh : HM S xs.length h) (hle : ∀ f, f < xs.length → h f ≤ f) : ∀ (m g fuel : Nat), g + m = xs.length → m < fuel → lp_X11_stories_8 k S fuel (nI (ct (rt xs h) 0 g)) (nI g) = k (nI (ct (rt xs h) 0 xs.length)) (nI xs.length) := by
  intro m
  induction m with
  | zero =>
    intro g fuel h1 h2
    obtain ⟨f', rfl⟩ : ∃ f, fuel = f + 1 := ⟨fuel - 1, by omega⟩
    rw [lp_X11_stories_8, hn, show g = xs.length by omega, if_pos (nI_le (Nat.le_refl _) (by omega))]
  | succ m ih =>
    intro g fuel h1 h2
    obtain ⟨f', rfl⟩ : ∃ f, fuel = f + 1 := ⟨fuel - 1, by omega⟩
    have ih1 := ih (g + 1) f' (by omega) (by omega)
    rw [ct_snoc, Nat.zero_add] at ih1
    rw [lp_X11_stories_8, hn, if_neg (nI_ge (by omega) (by omega)), m_begins hH hB h144 hh hle (by omega), bnd]
    cases hr : rt xs h g with
    | false =>
      rw [hr] at ih1
      rw [if_pos (show fg false = 0 by decide), l_0, nI_add, nI_1]
      exact ih1
    | true =>
      rw [hr] at ih1
      rw [if_neg (show ¬ fg true = 0 by decide), nI_1, nI_1]
      exact ih1
theorem m_storyOf_loop {S : Mm} {xs : List Fq} {h : Nat → Nat} {f : Nat} {k : Int32 → Int32 → Option Int32} (hH : Hf S 162 xs) (hB : Bq xs) (h144 : xs.length ≤ 144) (hh : HM S xs.length h) (hle : ∀ f, f < xs.length → h f ≤ f) (hf : f < xs.length) : ∀ (m g fuel : Nat), g + m = h f + 1 → m < fuel → lp_X11_storyOf_4 k S (nI f) fuel (nI (ct (rt xs h) 0 g) + (-1)) (nI g) = k (nI (ct (rt xs h) 0 (h f + 1)) + (-1)) (nI (h f + 1)) := by
  have hfh := hle f hf
  intro m
  induction m with
  | zero =>
    intro g fuel h1 h2
    obtain ⟨f', rfl⟩ : ∃ f, fuel = f + 1 := ⟨fuel - 1, by omega⟩
    rw [lp_X11_storyOf_4, show g = h f + 1 by omega]
    simp (disch := omega) only [nI_add, nI_1, nI_leI, nI_ltI, nI_eq, inb_nI, nI_clamp, if_pos, if_neg, if_true, if_false, bnd, hh f hf]
  | succ m ih =>
    intro g fuel h1 h2
    obtain ⟨f', rfl⟩ : ∃ f, fuel = f + 1 := ⟨fuel - 1, by omega⟩
    have ih1 := ih (g + 1) f' (by omega) (by omega)
    rw [ct_snoc, Nat.zero_add] at ih1
    rw [lp_X11_storyOf_4, m_begins hH hB h144 hh hle (show g < xs.length by omega)]
    simp (disch := omega) only [nI_add, nI_1, nI_leI, nI_ltI, nI_eq, inb_nI, nI_clamp, if_pos, if_neg, if_true, if_false, bnd, hh f hf]
    cases hr : rt xs h g with
    | false =>
      rw [hr] at ih1
      rw [if_pos (show fg false = 0 by decide), Int32.add_zero]
      exact ih1
    | true =>
      rw [hr] at ih1
      rw [if_neg (show ¬ fg true = 0 by decide), Int32.add_assoc, Int32.add_comm (-1) 1, ← Int32.add_assoc, nI_1]
      exact ih1
theorem m_storyOf {S : Mm} {r : Nat → Int32} {xs : List Fq} {h : Nat → Nat} {f N : Nat} (hM : MH S r xs) (hB : Bq xs) (h144 : xs.length ≤ 144) (hh : HM S xs.length h) (hJ : Jh r xs N h) (hC : Cc r xs N h) (hf : f < xs.length) : f_X11_storyOf S (nI f) = some (if l1 xs f then nI (sn xs h f) else -1) := by
  obtain ⟨F, hFu⟩ : ∃ F : Nat, 100000 = F := ⟨_, rfl⟩
  obtain ⟨q, hq⟩ : ∃ q, xs[f]? = some q := ⟨_, List.getElem?_eq_getElem hf⟩
  obtain ⟨e1, e2, e3, e4⟩ := hM.2.1 f q hq
  obtain ⟨c1, c2, c3, c4, c5⟩ := hB f q hq
  have hfh := hJ.2 f hf
  unfold f_X11_storyOf
  rw [hFu]
  have em : (-1 : Int32) = nI (ct (rt xs h) 0 0) + (-1) := by
    rw [ct]; decide
  have e0 : ∀ k, lp_X11_storyOf_4 k S (nI f) F (-1) 0 = lp_X11_storyOf_4 k S (nI f) F (nI (ct (rt xs h) 0 0) + (-1)) (nI 0) := fun k => by rw [← em, ← l_0]
  rw [e0]
  refine (m_storyOf_loop hM.2.1 hB h144 hh hJ.2 hf (h f + 1) 0 F (by omega) (by omega)).trans ?_
  simp (disch := omega) only [nI_add, nI_1, nI_leI, nI_ltI, nI_eq, inb_nI, nI_clamp, if_pos, if_neg, if_true, if_false, bnd, l_0, l_1, l_2, l_3, l_4, l_5, l_6, l_7, l_8, l_9, l_10, l_11, l_12, l_13, l_14, l_15, l_16, l_17, l_18, l_19, l_20, l_21, l_22, l_23, l_24, l_25, l_26, l_27, l_28, l_29, l_30, l_31, l_32, l_33, l_34, l_35, l_36, l_37, l_38, l_39, l_40, l_41, l_42, l_43, l_44, l_45, l_46, l_47, l_48, l_49, l_50, l_51, l_52, l_53, l_54, l_55, l_56, l_57, l_58, l_59, l_60, l_61, l_62, l_63, l_64, l_65, l_66, l_67, l_68, l_69, l_70, l_71, l_72, l_73, l_74, l_75, l_76, l_77, l_78, l_79, l_80, l_81, l_82, l_83, l_84, l_85, l_86, l_87, l_88, l_89, l_90, l_91, l_92, l_93, l_94, l_95, l_96, l_97, l_98, l_99, l_100, l_123, l_144, l_160, l_255, l_256, l_1000, l_1462, l_1634, l_65536, e2]
  rw [l1_at hq]
  by_cases h1 : q.2.1 = 1
  · have hl : l1 xs f = true := by rw [l1_at hq]; exact decide_eq_true h1
    rw [if_pos (by omega), decide_eq_true h1, if_pos rfl, ct_snoc, Nat.zero_add, rt_at (hJ.1.1 f hl).2 (hJ.1.idem hC f hl), if_pos rfl, ← nI_1, Int32.add_assoc]
    unfold sn
    rw [show (1 : Int32) + -nI 1 = 0 by decide, Int32.add_zero]
  · rw [if_neg (by omega), decide_eq_false h1, if_neg (show ¬ (false = true) by decide)]
theorem rt_congr {xs : List Fq} {a b : Nat → Nat} (h : ∀ f, l1 xs f = true → a f = b f) : rt xs a = rt xs b := funext fun g => by
  unfold rt
  cases hg : l1 xs g with
  | false => rfl
  | true => rw [h g hg]
theorem sn_congr {xs : List Fq} {a b : Nat → Nat} (h : ∀ f, l1 xs f = true → a f = b f) (f : Nat) (hf : l1 xs f = true) : sn xs a f = sn xs b f := by
  unfold sn
  rw [rt_congr h, h f hf]
theorem ps_congr {xs : List Fq} {a b : Nat → Nat} (h : ∀ f, l1 xs f = true → a f = b f) (s : Nat) : ps xs a s = ps xs b s := funext fun f => by
  unfold ps
  cases hg : l1 xs f with
  | false => rfl
  | true => rw [sn_congr h f hg]
theorem m_stories {S : Mm} {r : Nat → Int32} {N D L : Nat} (hr : S.1 154 = r) (hn1 : r 1 = nI N) (h40 : N ≤ 40) (h0 : 1 ≤ D) (hD : D ≤ 12) (hrD : r 0 = nI D) (hL : L ≤ 3) (hrL : r 2 = nI L) (hV : ∀ k, k < N → ∃ d, r (6 + k) = nI d ∧ d < D) : ∃ (S' : Mm) (h : Nat → Nat), f_X11_stories S = some (nI (ct (rt (fl r D L) h) 0 (fl r D L).length), S') ∧ MS S S' ∧ MH S' r (fl r D L) ∧ HM S' (fl r D L).length h ∧ Jh r (fl r D L) N h ∧ Cc r (fl r D L) N h := by
  obtain ⟨F, hFu⟩ : ∃ F : Nat, 100000 = F := ⟨_, rfl⟩
  have h144 := fl_len (r := r) hD hL
  have hB := fl_Bq (r := r) hD hL
  obtain ⟨S1, h, a1, a2, a3, a4, a5, a6⟩ := m_heaps hr hn1 h40 h0 hD hrD hL hrL hV
  refine ⟨S1, h, ?_, a2, a3, a4, a5, a6⟩
  unfold f_X11_stories
  rw [a1, bnd, hFu, l_0]
  exact m_stories_loop (k := fun y _ => some (y, S1)) a3.2.1 hB a3.2.2 h144 a4 a5.2 (fl r D L).length 0 F (by omega) (by omega)
theorem m_story_loop {S : Mm} {r : Nat → Int32} {xs : List Fq} {h : Nat → Nat} {s N : Nat} {c2 : Int32} {k : Int32 → Int32 → Int32 → Int32 → Int32 → Option (Int32 × Mm)} (hM : MH S r xs) (hB : Bq xs) (h144 : xs.length ≤ 144) (hh : HM S xs.length h) (hJ : Jh r xs N h) (hC : Cc r xs N h) (hs : s < 2 ^ 31) : ∀ (m f fuel : Nat), f + m = xs.length → m < fuel → lp_X11_story_34 k S (nI s) c2 fuel (nI (ag xs (ps xs h s) f).1) ((ag xs (ps xs h s) f).2.1) (nI (ag xs (ps xs h s) f).2.2.1) (nI (ag xs (ps xs h s) f).2.2.2) (nI f) = k (nI (ag xs (ps xs h s) xs.length).1) ((ag xs (ps xs h s) xs.length).2.1) (nI (ag xs (ps xs h s) xs.length).2.2.1) (nI (ag xs (ps xs h s) xs.length).2.2.2) (nI xs.length) := by
  intro m
  induction m with
  | zero =>
    intro f fuel h1 h2
    obtain ⟨f', rfl⟩ : ∃ f, fuel = f + 1 := ⟨fuel - 1, by omega⟩
    obtain rfl : f = xs.length := by omega
    rw [lp_X11_story_34, hM.2.2, if_pos (nI_le (Nat.le_refl _) (by omega))]
  | succ m ih =>
    intro f fuel h1 h2
    obtain ⟨f', rfl⟩ : ∃ f, fuel = f + 1 := ⟨fuel - 1, by omega⟩
    have hfl : f < xs.length := by omega
    obtain ⟨q, hq⟩ : ∃ q, xs[f]? = some q := ⟨_, List.getElem?_eq_getElem hfl⟩
    obtain ⟨e1, e2, e3, e4⟩ := hM.2.1 f q hq
    obtain ⟨c1, c2', c3, c4, c5⟩ := hB f q hq
    obtain ⟨v1, v2, v3⟩ := ag_b (P := ps xs h s) hB f (by omega)
    have ih1 := ih (f + 1) f' (by omega) (by omega)
    have hsn : sn xs h f < 2 ^ 31 := by
      have := ct_le (rt xs h) (h f) 0
      have := hJ.2 f hfl
      unfold sn
      omega
    have e3' : S.1 164 f = nI q.2.2.1 := e3
    have e4' : S.1 165 f = nI q.2.2.2 := e4
    have cl : (nI f).toNatClampNeg = f := nI_clamp (by omega)
    have i1 : inb (nI f) 160 := (inb_nI (by omega)).mpr (by omega)
    rw [lp_X11_story_34, hM.2.2, if_neg (nI_ge hfl (by omega)), m_storyOf hM hB h144 hh hJ hC hfl, bnd]
    cases hp : ps xs h s f with
    | false =>
      rw [ag_n hp] at ih1
      rw [if_neg, nI_1]
      · exact ih1
      · unfold ps at hp
        intro he
        cases hl : l1 xs f with
        | false =>
          rw [hl, if_neg (show ¬ (false = true) by decide)] at he
          exact nI_pos hs (by rw [← he]; decide)
        | true =>
          rw [hl] at he hp
          rw [if_pos rfl] at he
          rw [Bool.true_and] at hp
          exact absurd ((nI_eq hsn hs).mp he) (of_decide_eq_false hp)
    | true =>
      rw [ag_y hp hq] at ih1
      unfold ps at hp
      rw [Bool.and_eq_true] at hp
      have hse : sn xs h f = s := of_decide_eq_true hp.2
      rw [hp.1, if_pos rfl, hse, if_pos rfl]
      simp only [if_pos i1, cl, e1, e3', e4', nI_1]
      unfold ags at ih1
      by_cases g1 : (ag xs (ps xs h s) f).2.2.1 ≤ q.2.2.1
      · rw [if_pos (nI_le g1 (by omega))]
        rw [Nat.min_eq_left g1] at ih1
        by_cases g2 : q.2.2.2 ≤ (ag xs (ps xs h s) f).2.2.2
        · rw [if_pos (nI_le g2 (by omega))]
          rw [Nat.max_eq_left g2] at ih1
          exact ih1
        · rw [if_neg (nI_ge (by omega) (by omega))]
          rw [Nat.max_eq_right (by omega)] at ih1
          exact ih1
      · rw [if_neg (nI_ge (by omega) (by omega))]
        rw [Nat.min_eq_right (by omega)] at ih1
        by_cases g2 : q.2.2.2 ≤ (ag xs (ps xs h s) f).2.2.2
        · rw [if_pos (nI_le g2 (by omega))]
          rw [Nat.max_eq_left g2] at ih1
          exact ih1
        · rw [if_neg (nI_ge (by omega) (by omega))]
          rw [Nat.max_eq_right (by omega)] at ih1
          exact ih1
