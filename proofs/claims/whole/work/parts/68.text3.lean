/-! one piece, by the reference -/
theorem wds_stop (c : Nat → Nat) : ∀ (m p : Nat) (a : Int32), (wds c m p a).1 < p + m → ¬ (97 ≤ c (wds c m p a).1 ∧ c (wds c m p a).1 ≤ 104)
  | 0, p, a, h => absurd h (by show ¬ p < p + 0; omega)
  | m + 1, p, a, h => by
    rw [wds] at h ⊢
    by_cases hc : 97 ≤ c p ∧ c p ≤ 104
    · rw [if_pos hc] at h ⊢
      exact wds_stop c m (p + 1) _ (by omega)
    · rw [if_neg hc]
      exact hc
theorem m_dayAt {S : Mm} {c : Nat → Nat} {z p : Nat} (hM : MT S c z) (hp : p < z) (h48 : 48 ≤ c p) : f_X11_dayAt S (nI p) = some (nI (dy c z p)) := by
  obtain ⟨h60, h6, hc⟩ := hM
  obtain ⟨e0, e0'⟩ := hc p hp
  have i0 : inb (nI p) 60 := (inb_nI (by omega)).mpr (by omega)
  have cl0 : (nI p).toNatClampNeg = p := nI_clamp (by omega)
  unfold f_X11_dayAt dy
  simp only [h6, nI_1, if_pos i0, cl0, e0]
  by_cases hp1 : p + 1 < z
  · obtain ⟨e1, e1'⟩ := hc (p + 1) hp1
    have i1 : inb (nI (p + 1)) 60 := (inb_nI (by omega)).mpr (by omega)
    have cl1 : (nI (p + 1)).toNatClampNeg = p + 1 := nI_clamp (by omega)
    rw [if_neg (nI_ge hp1 (by omega)), if_pos i1]
    simp only [cl1, e1]
    unfold two
    by_cases g1 : c p = 49
    · rw [if_pos (show nI (c p) = 49 by rw [g1]; rfl)]
      by_cases g2 : c (p + 1) = 48
      · rw [if_pos (show nI (c (p + 1)) = 48 by rw [g2]; rfl), decide_eq_true ⟨g1, hp1, Or.inl g2⟩, if_pos rfl, l_10, nI_add, l_48, pk_sub (by omega)]
      · rw [if_neg (show ¬ nI (c (p + 1)) = 48 from fun h => g2 ((nI_eq (by omega) (by decide)).mp h))]
        by_cases g3 : c (p + 1) = 49
        · rw [if_pos (show nI (c (p + 1)) = 49 by rw [g3]; rfl), decide_eq_true ⟨g1, hp1, Or.inr g3⟩, if_pos rfl, l_10, nI_add, l_48, pk_sub (by omega)]
        · rw [if_neg (show ¬ nI (c (p + 1)) = 49 from fun h => g3 ((nI_eq (by omega) (by decide)).mp h)), decide_eq_false (by omega), if_neg (by decide), l_48, pk_sub h48]
    · rw [if_neg (show ¬ nI (c p) = 49 from fun h => g1 ((nI_eq (by omega) (by decide)).mp h)), decide_eq_false (by omega), if_neg (by decide), l_48, pk_sub h48]
  · rw [if_pos (nI_le (by omega) (by omega))]
    unfold two
    rw [decide_eq_false (by omega), l_48, pk_sub h48]
    simp only [Bool.false_eq_true, if_false]
    split <;> rfl
/-- the reference's cells that reading may change -/
def Tm (S S' : Mm) (q : Nat) : Prop := S'.2 = S.2 ∧ ∀ x j, ¬ (x = 153 ∧ (j = 7 ∨ j = 20 ∨ j = 23)) → ¬ ((x = 167 ∨ x = 168) ∧ q ≤ j) → S'.1 x j = S.1 x j
theorem Tm.mt {S S' : Mm} {c : Nat → Nat} {z q : Nat} (h : Tm S S' q) (hM : MT S c z) : MT S' c z := ⟨hM.1, (h.2 153 6 (by omega) (by omega)).trans hM.2.1, fun j hj => by rw [h.2 156 j (by omega) (by omega)]; exact hM.2.2 j hj⟩
theorem Tm.tr {S S1 S2 : Mm} {q : Nat} (h1 : Tm S S1 q) (h2 : Tm S1 S2 q) : Tm S S2 q := ⟨h2.1.trans h1.1, fun x j h h' => (h2.2 x j h h').trans (h1.2 x j h h')⟩
theorem m_words {c : Nat → Nat} {z q E : Nat} {k : Int32 → Mm → Option (Int32 × Mm)} (hq : q < 40) : ∀ (m p : Nat) (a : Int32) (S : Mm), p + m = z → MT S c z → S.1 153 20 = 3 → S.1 153 23 = nI q → S.1 168 q = a → ∃ S', S'.2 = S.2 ∧ (∀ x j, ¬ (x = 168 ∧ j = q) → S'.1 x j = S.1 x j) ∧ lp_X11_readText_12 k (E + m) (nI p) S = lp_X11_readText_12 k (E + (z - (wds c m p a).1)) (nI (wds c m p a).1) S' ∧ S'.1 168 q = (wds c m p a).2 := by
  intro m
  induction m with
  | zero =>
    intro p a S h1 hM h20 h23 ha
    refine ⟨S, rfl, fun _ _ _ => rfl, ?_, ha⟩
    rw [wds]
    show _ = lp_X11_readText_12 k (E + (z - p)) (nI p) S
    rw [show z - p = 0 by omega]
  | succ m ih =>
    intro p a S h1 hM h20 h23 ha
    obtain ⟨h60, h6, hc⟩ := id hM
    obtain ⟨e0, e0'⟩ := hc p (by omega)
    have i0 : inb (nI p) 60 := (inb_nI (by omega)).mpr (by omega)
    have cl0 : (nI p).toNatClampNeg = p := nI_clamp (by omega)
    rw [wds]
    by_cases hcp : 97 ≤ c p ∧ c p ≤ 104
    · rw [if_pos hcp]
      have hk : ∀ x j, ¬ (x = 168 ∧ j = q) → (wr S 168 q (a ||| bit (c p - 97))).1 x j = S.1 x j := fun x j h => if_neg h
      obtain ⟨S', g1, g2, g3, g4⟩ := ih (p + 1) (a ||| bit (c p - 97)) (wr S 168 q (a ||| bit (c p - 97))) (by omega) ⟨h60, (hk 153 6 (by omega)).trans h6, fun j hj => by rw [hk 156 j (by omega)]; exact hc j hj⟩ ((hk 153 20 (by omega)).trans h20) ((hk 153 23 (by omega)).trans h23) (wr_s _ _ _ _)
      refine ⟨S', g1, fun x j h => (g2 x j h).trans (hk x j h), ?_, g4⟩
      rw [← g3, show E + (m + 1) = (E + m) + 1 by omega, lp_X11_readText_12, h6, if_neg (nI_ge (by omega) (by omega))]
      have hf : f_X11_faultOf S (nI p) = some 0 := by
        unfold f_X11_faultOf
        simp only [if_pos i0, cl0, e0, h20]
        rw [if_neg (by decide), if_neg (by decide), if_neg (by decide), in_c (nI (c p)) 97 104 (by decide) (by decide), if_pos ⟨nI_le hcp.1 (by omega), nI_le hcp.2 (by decide)⟩, bnd, if_neg (by decide)]
      have hg : f_X11_goOn S (nI p) = some (wr S 168 q (a ||| bit (c p - 97))) := by
        have i1 : inb (nI q) 40 := (inb_nI (by omega)).mpr hq
        unfold f_X11_goOn
        simp only [if_pos i0, cl0, e0, h20, h23, nI_clamp (show q < 2 ^ 31 by omega), if_pos i1, ha]
        rw [if_neg (by decide), if_pos (by decide), if_neg (show ¬ nI (c p) = 59 from fun h => by
          have := (nI_eq (show c p < 2 ^ 31 by omega) (show 59 < 2 ^ 31 by decide)).mp h
          omega), l_97, pk_sub hcp.1]
        rfl
      rw [hf, bnd, if_pos (by decide), hg, bnd, nI_1]
    · rw [if_neg hcp]
      refine ⟨S, rfl, fun _ _ _ => rfl, ?_, ha⟩
      rw [show z - p = m + 1 by omega]
/-- the colon is looked for at p, in state 1 or 2 -/
theorem m_colon {S : Mm} {c : Nat → Nat} {z p q E : Nat} {k : Int32 → Mm → Option (Int32 × Mm)} (hM : MT S c z) (hp : p ≤ z) (hE : 1 ≤ E) (hst : (S.1 153 20 = 1 ∧ (p < z → c p ≠ 48 ∧ c p ≠ 49)) ∨ S.1 153 20 = 2) : (p = z → lp_X11_readText_12 k (E + (z - p)) (nI p) S = k (nI z) S) ∧ (p < z ∧ c p = 58 → lp_X11_readText_12 k (E + (z - p)) (nI p) S = lp_X11_readText_12 k (E + (z - (p + 1))) (nI (p + 1)) (wr S 153 20 3)) ∧ (p < z ∧ c p ≠ 58 → lp_X11_readText_12 k (E + (z - p)) (nI p) S = some (1, wr S 153 7 (nI p))) := by
  obtain ⟨h60, h6, hc⟩ := id hM
  refine ⟨fun h => ?_, fun ⟨h, h58⟩ => ?_, fun ⟨h, h58⟩ => ?_⟩
  · subst h
    obtain ⟨f, hf⟩ : ∃ f, E + (p - p) = f + 1 := ⟨E - 1, by omega⟩
    rw [hf, lp_X11_readText_12, h6, if_pos (nI_le (Nat.le_refl p) (by omega))]
  · obtain ⟨e0, e0'⟩ := hc p h
    have i0 : inb (nI p) 60 := (inb_nI (by omega)).mpr (by omega)
    have cl0 : (nI p).toNatClampNeg = p := nI_clamp (by omega)
    have h58' : nI (c p) = 58 := by rw [h58]; rfl
    have hf : f_X11_faultOf S (nI p) = some 0 := by
      unfold f_X11_faultOf
      simp only [if_pos i0, cl0, e0, h58']
      rcases hst with ⟨h1, -⟩ | h2
      · rw [h1]; rfl
      · rw [h2]; rfl
    have hg : f_X11_goOn S (nI p) = some (wr S 153 20 3) := by
      unfold f_X11_goOn
      simp only [if_pos i0, cl0, e0, h58']
      rcases hst with ⟨h1, -⟩ | h2
      · rw [h1]; rfl
      · rw [h2]; rfl
    rw [show E + (z - p) = (E + (z - (p + 1))) + 1 by omega, lp_X11_readText_12, h6, if_neg (nI_ge h (by omega)), hf, bnd, if_pos (by decide), hg, bnd, nI_1]
  · obtain ⟨e0, e0'⟩ := hc p h
    have i0 : inb (nI p) 60 := (inb_nI (by omega)).mpr (by omega)
    have cl0 : (nI p).toNatClampNeg = p := nI_clamp (by omega)
    have h58' : ¬ nI (c p) = 58 := fun h' => h58 ((nI_eq (by omega) (by decide)).mp h')
    have hf : f_X11_faultOf S (nI p) = some 1 := by
      unfold f_X11_faultOf
      simp only [if_pos i0, cl0, e0]
      rcases hst with ⟨h1, h1'⟩ | h2
      · obtain ⟨q1, q2⟩ := h1' h
        rw [h1, if_neg (by decide), if_pos (by decide), if_neg (show ¬ nI (c p) = 48 from fun h' => q1 ((nI_eq (by omega) (by decide)).mp h')), if_neg (show ¬ nI (c p) = 49 from fun h' => q2 ((nI_eq (by omega) (by decide)).mp h')), if_neg h58']
      · rw [h2, if_neg (by decide), if_neg (by decide), if_pos (by decide), if_neg h58']
    obtain ⟨f, hf'⟩ : ∃ f, E + (z - p) = f + 1 := ⟨E + (z - p) - 1, by omega⟩
    rw [hf', lp_X11_readText_12, h6, if_neg (nI_ge h (by omega)), hf, bnd, if_neg (by decide)]
def PcM (c : Nat → Nat) (z D rm q p E : Nat) (k : Int32 → Mm → Option (Int32 × Mm)) (S S' : Mm) : Prop := match pce c z D rm q p with
  | .inl (w, p') => p' ≤ z ∧ 1 ≤ w ∧ w ≤ 3 ∧ ((p' < z ∧ lp_X11_readText_12 k (E + (z - p)) (nI p) S = some (nI w, wr S' 153 7 (nI p'))) ∨ (w = 1 ∧ p' = z ∧ lp_X11_readText_12 k (E + (z - p)) (nI p) S = k (nI z) S' ∧ S'.1 153 20 ≠ 0))
  | .inr (d, s, p') => p + 3 ≤ p' ∧ p' ≤ z ∧ d < D ∧ q < rm ∧ (∃ s', s' < 256 ∧ s = nI s') ∧ lp_X11_readText_12 k (E + (z - p)) (nI p) S = lp_X11_readText_12 k (E + (z - p')) (nI p') S' ∧ S'.1 153 20 = 0 ∧ S'.1 153 23 = nI (q + 1) ∧ S'.1 167 q = nI d ∧ S'.1 168 q = s
theorem m_piece {S : Mm} {c : Nat → Nat} {z D N q p E : Nat} {k : Int32 → Mm → Option (Int32 × Mm)} (hM : MT S c z) (hp : p < z) (hE : 1 ≤ E) (h20 : S.1 153 20 = 0) (h23 : S.1 153 23 = nI q) (hD0 : S.1 154 0 = nI D) (hD : D ≤ 12) (hN : S.1 154 1 = nI N) (hNq : N + q ≤ 40) : ∃ S', Tm S S' q ∧ PcM c z D (40 - N) q p E k S S' := by
  obtain ⟨h60, h6, hc⟩ := id hM
  obtain ⟨e0, e0'⟩ := hc p hp
  have i0 : inb (nI p) 60 := (inb_nI (by omega)).mpr (by omega)
  have cl0 : (nI p).toNatClampNeg = p := nI_clamp (by omega)
  have hTm : Tm S S q := ⟨rfl, fun _ _ _ _ => rfl⟩
  obtain ⟨f, hf⟩ : ∃ f, E + (z - p) = f + 1 := ⟨E + (z - p) - 1, by omega⟩
  have hff : f = E + (z - (p + 1)) := by omega
  have hfig : f_X11_isFigure S (nI (c p)) = some (if 48 ≤ c p ∧ c p ≤ 57 then 1 else 0) := by
    unfold f_X11_isFigure
    rw [in_c (nI (c p)) 48 57 (by decide) (by decide), bnd]
    by_cases h : 48 ≤ c p ∧ c p ≤ 57
    · have g1 : (48 : Int32) ≤ nI (c p) ∧ nI (c p) ≤ 57 := ⟨nI_le h.1 (by omega), nI_le h.2 (by decide)⟩
      rw [if_pos g1, if_pos h]; rfl
    · have g1 : ¬ ((48 : Int32) ≤ nI (c p) ∧ nI (c p) ≤ 57) := fun h' => h ⟨Nat.not_lt.mp fun g => nI_ge g (by decide) h'.1, Nat.not_lt.mp fun g => nI_ge g (by omega) h'.2⟩
      rw [if_neg g1, if_neg h]; rfl
  -- a fault at this letter
  have hfault : ∀ w : Nat, 1 ≤ w → w ≤ 3 → f_X11_faultOf S (nI p) = some (nI w) → lp_X11_readText_12 k (E + (z - p)) (nI p) S = some (nI w, wr S 153 7 (nI p)) := fun w w1 w3 hw => by
    rw [hf, lp_X11_readText_12, h6, if_neg (nI_ge hp (by omega)), hw, bnd, if_neg (show ¬ nI w ≤ 0 from nI_ge (show 0 < w by omega) (by omega))]
  by_cases f1 : 48 ≤ c p ∧ c p ≤ 57
  · have hda := m_dayAt hM hp f1.1
    have hdy : dy c z p < 256 := by
      unfold dy
      cases ht : two c z p with
      | false => rw [if_neg (by decide)]; omega
      | true =>
        unfold two at ht
        have := (of_decide_eq_true ht).2.2
        rw [if_pos rfl]; omega
    by_cases f2 : D ≤ dy c z p
    · refine ⟨S, hTm, ?_⟩
      unfold PcM pce
      rw [if_neg (fun h => h f1), if_pos f2]
      refine ⟨by omega, by omega, by omega, Or.inl ⟨hp, hfault 2 (by omega) (by omega) ?_⟩⟩
      unfold f_X11_faultOf
      simp only [if_pos i0, cl0, e0, h20]
      rw [if_pos trivial, hfig, if_pos f1, bnd, if_neg (by decide), hda, bnd, hD0, if_neg (nI_nlt f2 (by omega))]
      rfl
    · by_cases f3 : 40 - N ≤ q
      · refine ⟨S, hTm, ?_⟩
        unfold PcM pce
        rw [if_neg (fun h => h f1), if_neg f2, if_pos f3]
        refine ⟨by omega, by omega, by omega, Or.inl ⟨hp, hfault 3 (by omega) (by omega) ?_⟩⟩
        unfold f_X11_faultOf
        simp only [if_pos i0, cl0, e0, h20]
        rw [if_pos trivial, hfig, if_pos f1, bnd, if_neg (by decide), hda, bnd, hD0, if_pos (nI_lt (by omega) (by omega)), hN, h23, nI_add, show N + q = 40 by omega]
        rfl
      · have hq40 : q < 40 := by omega
        have hfo : f_X11_faultOf S (nI p) = some 0 := by
          unfold f_X11_faultOf
          simp only [if_pos i0, cl0, e0, h20]
          rw [if_pos trivial, hfig, if_pos f1, bnd, if_neg (by decide), hda, bnd, hD0, if_pos (nI_lt (by omega) (by omega)), hN, h23, nI_add, if_neg (show ¬ nI (N + q) = 40 from fun h => by
            have := (nI_eq (show N + q < 2 ^ 31 by omega) (show 40 < 2 ^ 31 by decide)).mp h
            omega)]
        obtain ⟨st, hst, hgo⟩ : ∃ st : Int32, ((c p = 49 ∧ st = 1) ∨ (c p ≠ 49 ∧ st = 2)) ∧ f_X11_goOn S (nI p) = some (wr (wr (wr S 167 q (nI (dy c z p))) 168 q 0) 153 20 st) := by
          have i1 : inb (nI q) 40 := (inb_nI (by omega)).mpr hq40
          have y1 : (wr S 167 q (nI (dy c z p))).1 153 23 = nI q := (wr_k _ _ (by omega)).trans h23
          by_cases g : c p = 49
          · refine ⟨1, Or.inl ⟨g, rfl⟩, ?_⟩
            unfold f_X11_goOn
            simp only [if_pos i0, cl0, e0, h20, hda, bnd, h23, nI_clamp (show q < 2 ^ 31 by omega), y1, if_pos i1]
            rw [if_pos trivial, if_pos (show nI (c p) = 49 by rw [g]; rfl)]
          · refine ⟨2, Or.inr ⟨g, rfl⟩, ?_⟩
            unfold f_X11_goOn
            simp only [if_pos i0, cl0, e0, h20, hda, bnd, h23, nI_clamp (show q < 2 ^ 31 by omega), y1, if_pos i1]
            rw [if_pos trivial, if_neg (show ¬ nI (c p) = 49 from fun h => g ((nI_eq (by omega) (by decide)).mp h))]
        have hstep : lp_X11_readText_12 k (E + (z - p)) (nI p) S = lp_X11_readText_12 k (E + (z - (p + 1))) (nI (p + 1)) (wr (wr (wr S 167 q (nI (dy c z p))) 168 q 0) 153 20 st) := by
          rw [hf, lp_X11_readText_12, h6, if_neg (nI_ge hp (by omega)), hfo, bnd, if_pos (by decide), hgo, bnd, nI_1, hff]
        have kk : ∀ x j, ¬ (x = 153 ∧ j = 20) → ¬ ((x = 167 ∨ x = 168) ∧ j = q) → (wr (wr (wr S 167 q (nI (dy c z p))) 168 q 0) 153 20 st).1 x j = S.1 x j := fun x j h h' => by
          simp only [wr_at]
          rw [if_neg (by omega), if_neg (by omega), if_neg (by omega)]
        have k20 : (wr (wr (wr S 167 q (nI (dy c z p))) 168 q 0) 153 20 st).1 153 20 = st := wr_s _ _ _ _
        have k167 : (wr (wr (wr S 167 q (nI (dy c z p))) 168 q 0) 153 20 st).1 167 q = nI (dy c z p) := by rw [wr_k _ _ (by omega), wr_k _ _ (by omega), wr_s]
        have k168 : (wr (wr (wr S 167 q (nI (dy c z p))) 168 q 0) 153 20 st).1 168 q = 0 := by rw [wr_k _ _ (by omega), wr_s]
        have k2 : (wr (wr (wr S 167 q (nI (dy c z p))) 168 q 0) 153 20 st).2 = S.2 := rfl
        generalize wr (wr (wr S 167 q (nI (dy c z p))) 168 q 0) 153 20 st = S1 at *
        have hT1 : Tm S S1 q := ⟨k2, fun x j h h' => kk x j (by omega) (by omega)⟩
        have hM1 := hT1.mt hM
        -- at the place where the colon must stand
        obtain ⟨S2, hT2, hst2, l1', l2', l3'⟩ : ∃ S2, Tm S S2 q ∧ ((S2.1 153 20 = 1 ∧ (p1 c z p < z → c (p1 c z p) ≠ 48 ∧ c (p1 c z p) ≠ 49)) ∨ S2.1 153 20 = 2) ∧ (lp_X11_readText_12 k (E + (z - p)) (nI p) S = lp_X11_readText_12 k (E + (z - p1 c z p)) (nI (p1 c z p)) S2) ∧ (S2.1 167 q = nI (dy c z p) ∧ S2.1 168 q = 0) ∧ (S2.1 153 23 = nI q ∧ p1 c z p ≤ z ∧ p + 1 ≤ p1 c z p) := by
          have h23' : S1.1 153 23 = nI q := (kk 153 23 (by omega) (by omega)).trans h23
          unfold p1
          cases ht : two c z p with
          | false =>
            rw [if_neg (by decide)]
            refine ⟨S1, hT1, ?_, hstep, ⟨k167, k168⟩, h23', by omega, by omega⟩
            rcases hst with ⟨g, rfl⟩ | ⟨g, rfl⟩
            · refine Or.inl ⟨k20, fun h => ?_⟩
              unfold two at ht
              have := of_decide_eq_false ht
              omega
            · exact Or.inr k20
          | true =>
            rw [if_pos rfl]
            unfold two at ht
            obtain ⟨g1, g2, g3⟩ := of_decide_eq_true ht
            obtain ⟨x0, x0'⟩ := hM1.2.2 (p + 1) g2
            have i1 : inb (nI (p + 1)) 60 := (inb_nI (by omega)).mpr (by omega)
            have cl1 : (nI (p + 1)).toNatClampNeg = p + 1 := nI_clamp (by omega)
            have hst1 : S1.1 153 20 = 1 := by
              rcases hst with ⟨g, rfl⟩ | ⟨g, -⟩
              · exact k20
              · exact absurd g1 g
            have hf1 : f_X11_faultOf S1 (nI (p + 1)) = some 0 := by
              unfold f_X11_faultOf
              simp only [if_pos i1, cl1, x0, hst1]
              rcases g3 with g3 | g3 <;> rw [g3] <;> rfl
            have hg1 : f_X11_goOn S1 (nI (p + 1)) = some (wr S1 153 20 2) := by
              unfold f_X11_goOn
              simp only [if_pos i1, cl1, x0, hst1]
              rcases g3 with g3 | g3 <;> rw [g3] <;> rfl
            refine ⟨wr S1 153 20 2, hT1.tr ⟨rfl, fun x j h h' => if_neg (by omega)⟩, Or.inr (wr_s _ _ _ _), ?_, ⟨(wr_k _ _ (by omega)).trans k167, (wr_k _ _ (by omega)).trans k168⟩, (wr_j _ _ (by omega)).trans h23', by omega, by omega⟩
            rw [hstep, show E + (z - (p + 1)) = (E + (z - (p + 2))) + 1 by omega, lp_X11_readText_12, hM1.2.1, if_neg (nI_ge g2 (by omega)), hf1, bnd, if_pos (by decide), hg1, bnd, nI_1]
        obtain ⟨l3', hp1z, hp1p⟩ := l3'
        obtain ⟨m1, m2, m3⟩ := m_colon (k := k) (E := E) (q := q) (hT2.mt hM) hp1z hE hst2
        unfold PcM pce
        rw [if_neg (fun h => h f1), if_neg f2, if_neg f3]
        by_cases f4 : p1 c z p < z ∧ c (p1 c z p) = 58
        · rw [if_neg (fun h => h f4)]
          have kw : ∀ x j, ¬ (x = 153 ∧ j = 20) → (wr S2 153 20 3).1 x j = S2.1 x j := fun x j h => if_neg h
          have hT3 : Tm S (wr S2 153 20 3) q := hT2.tr ⟨rfl, fun x j h h' => kw x j (by omega)⟩
          obtain ⟨S3, n1, n2, n3, n4⟩ := m_words (k := k) (E := E) hq40 (z - (p1 c z p + 1)) (p1 c z p + 1) 0 (wr S2 153 20 3) (by omega) (hT3.mt hM) (wr_s _ _ _ _) ((kw 153 23 (by omega)).trans l3') ((kw 168 q (by omega)).trans l2'.2)
          have hT4 : Tm S S3 q := hT3.tr ⟨n1, fun x j h h' => n2 x j (by omega)⟩
          obtain ⟨w1, w2, w3⟩ := wds_in c (z - (p1 c z p + 1)) (p1 c z p + 1) 0 ⟨0, by decide, rfl⟩
          have hM3 := hT4.mt hM
          have s20 : S3.1 153 20 = 3 := (n2 153 20 (by omega)).trans (wr_s _ _ _ _)
          have s23 : S3.1 153 23 = nI q := (n2 153 23 (by omega)).trans ((kw 153 23 (by omega)).trans l3')
          have s167 : S3.1 167 q = nI (dy c z p) := (n2 167 q (by omega)).trans ((kw 167 q (by omega)).trans l2'.1)
          have hall := l1'.trans ((m2 f4).trans n3)
          generalize hee : wds c (z - (p1 c z p + 1)) (p1 c z p + 1) 0 = e at *
          by_cases hez : e.1 < z
          · obtain ⟨x0, x0'⟩ := hM3.2.2 e.1 hez
            have i1 : inb (nI e.1) 60 := (inb_nI (by omega)).mpr (by omega)
            have cl1 : (nI e.1).toNatClampNeg = e.1 := nI_clamp (by omega)
            have hno : ¬ (97 ≤ c e.1 ∧ c e.1 ≤ 104) := by
              have := wds_stop c (z - (p1 c z p + 1)) (p1 c z p + 1) 0
              rw [hee] at this
              exact this (by omega)
            have hinn : f_X11_in S3 ((nI (c e.1)).toInt64) 97 104 = some 0 := by
              rw [in_c (nI (c e.1)) 97 104 (by decide) (by decide), if_neg (fun h' => hno ⟨Nat.not_lt.mp fun g => nI_ge g (by decide) h'.1, Nat.not_lt.mp fun g => nI_ge g (by omega) h'.2⟩)]
            by_cases f5 : c e.1 = 59
            · rw [if_neg (fun h => h ⟨hez, f5⟩)]
              have h59 : nI (c e.1) = 59 := by rw [f5]; rfl
              have hf1 : f_X11_faultOf S3 (nI e.1) = some 0 := by
                unfold f_X11_faultOf
                simp only [if_pos i1, cl1, x0, s20, hinn, bnd, h59]
                rfl
              have hg1 : f_X11_goOn S3 (nI e.1) = some (wr (wr S3 153 23 (nI (q + 1))) 153 20 0) := by
                unfold f_X11_goOn
                simp only [if_pos i1, cl1, x0, s20, h59, s23, nI_1]
                rfl
              refine ⟨wr (wr S3 153 23 (nI (q + 1))) 153 20 0, hT4.tr ⟨rfl, fun x j h h' => (if_neg (by omega)).trans (if_neg (by omega))⟩, by omega, by omega, by omega, by omega, w3, ?_, wr_s _ _ _ _, (wr_j _ _ (by omega)).trans (wr_s _ _ _ _), ?_, ?_⟩
              · rw [hall, show E + (z - e.1) = (E + (z - (e.1 + 1))) + 1 by omega, lp_X11_readText_12, hM3.2.1, if_neg (nI_ge hez (by omega)), hf1, bnd, if_pos (by decide), hg1, bnd, nI_1]
              · rw [wr_k _ _ (by omega), wr_k _ _ (by omega)]; exact s167
              · rw [wr_k _ _ (by omega), wr_k _ _ (by omega)]; exact n4
            · rw [if_pos (fun h => f5 h.2)]
              have hf1 : f_X11_faultOf S3 (nI e.1) = some 1 := by
                unfold f_X11_faultOf
                simp only [if_pos i1, cl1, x0, s20, hinn, bnd]
                rw [if_neg (by decide), if_neg (by decide), if_neg (by decide), if_pos trivial, if_neg (show ¬ nI (c e.1) = 59 from fun h => f5 ((nI_eq (by omega) (by decide)).mp h))]
              refine ⟨S3, hT4, by omega, by omega, by omega, Or.inl ⟨hez, ?_⟩⟩
              rw [hall, show E + (z - e.1) = (E + (z - (e.1 + 1))) + 1 by omega, lp_X11_readText_12, hM3.2.1, if_neg (nI_ge hez (by omega)), hf1, bnd, if_neg (by decide)]
              rfl
          · rw [if_pos (fun h => hez h.1)]
            refine ⟨S3, hT4, by omega, by omega, by omega, Or.inr ⟨rfl, by omega, ?_, by rw [s20]; decide⟩⟩
            have hz2 : e.1 = z := by omega
            rw [hall, hz2]
            obtain ⟨f', hf'⟩ : ∃ f, E + (z - z) = f + 1 := ⟨E - 1, by omega⟩
            rw [hf', lp_X11_readText_12, hM3.2.1, if_pos (nI_le (Nat.le_refl z) (by omega))]
        · rw [if_pos f4]
          by_cases hpz : p1 c z p < z
          · refine ⟨S2, hT2, by omega, by omega, by omega, Or.inl ⟨hpz, ?_⟩⟩
            rw [l1', m3 ⟨hpz, fun h => f4 ⟨hpz, h⟩⟩]
            rfl
          · refine ⟨S2, hT2, by omega, by omega, by omega, Or.inr ⟨rfl, by omega, ?_, ?_⟩⟩
            · rw [l1', m1 (by omega)]
            · rcases hst2 with ⟨h, -⟩ | h <;> rw [h] <;> decide
  · refine ⟨S, hTm, ?_⟩
    unfold PcM pce
    rw [if_pos f1]
    refine ⟨by omega, by omega, by omega, Or.inl ⟨hp, hfault 1 (by omega) (by omega) ?_⟩⟩
    unfold f_X11_faultOf
    simp only [if_pos i0, cl0, e0, h20]
    rw [if_pos trivial, hfig, if_neg f1, bnd, if_pos rfl]
    rfl
