/-! hot and top -/
def hts (r : Nat → Int32) (D L d : Nat) : Nat → Nat → Int32 → Int32
  | 0, _, a => a
  | m + 1, w, a => hts r D L d m (w + 1) (if lv r w D L d = 0 then a else a ||| bit w)
theorem x_hot_loop {S : Mm} {r : Nat → Int32} {D L d : Nat} {k : Int32 → Int32 → Option Int32} (hG : FL S r D L) (hD : D ≤ 12) (hL : L ≤ 3) (hd : d < D) : ∀ (m w fuel : Nat) (a : Int32), w + m = 8 → m < fuel → lp_X2_hot_4 k S (nI d) fuel a (nI w) = k (hts r D L d m w a) (nI 8) := by
  intro m
  induction m with
  | zero =>
    intro w fuel a h1 h2
    obtain ⟨f, rfl⟩ : ∃ f, fuel = f + 1 := ⟨fuel - 1, by omega⟩
    rw [lp_X2_hot_4, show w = 8 by omega]
    rfl
  | succ m ih =>
    intro w fuel a h1 h2
    obtain ⟨f, rfl⟩ : ∃ f, fuel = f + 1 := ⟨fuel - 1, by omega⟩
    have hw : w < 8 := by omega
    have := lv_le r w D L d
    rw [lp_X2_hot_4, if_neg (show ¬ (8 : Int32) ≤ nI w from nI_ge hw (by decide)), x_of hw (by omega) ((hG w hw).2 d hd), bnd, hts, set_y, bnd, nI_1]
    by_cases h0 : lv r w D L d = 0
    · rw [if_pos h0, h0, if_pos (by decide)]; exact ih (w + 1) f a (by omega) (by omega)
    · rw [if_neg h0, if_neg (show ¬ nI (lv r w D L d) ≤ 0 from nI_ge (show 0 < lv r w D L d by omega) (by omega))]; exact ih (w + 1) f _ (by omega) (by omega)
theorem m_hot_loop {r : Nat → Int32} {n D L d : Nat} {k : Int32 → Int32 → Mm → Option (Int32 × Mm)} (hn : r 1 = nI n) (h40 : n ≤ 40) (h0 : 1 ≤ D) (hD : D ≤ 12) (hrD : r 0 = nI D) (hL : L ≤ 3) (hrL : r 2 = nI L) (hd : d < D) : ∀ (m w fuel : Nat) (a : Int32) (S : Mm), w + m = 8 → m < fuel → S.1 154 = r → ∃ S', lp_X11_hot_4 k (nI d) fuel a (nI w) S = k (hts r D L d m w a) (nI 8) S' ∧ MS S S' := by
  intro m
  induction m with
  | zero =>
    intro w fuel a S h1 h2 hr
    obtain ⟨f, rfl⟩ : ∃ f, fuel = f + 1 := ⟨fuel - 1, by omega⟩
    refine ⟨S, ?_, MS.rf S⟩
    rw [lp_X11_hot_4, show w = 8 by omega]
    rfl
  | succ m ih =>
    intro w fuel a S h1 h2 hr
    obtain ⟨f, rfl⟩ : ∃ f, fuel = f + 1 := ⟨fuel - 1, by omega⟩
    have hw : w < 8 := by omega
    have := lv_le r w D L d
    obtain ⟨S1, a1, a2⟩ := m_levelOf (w := w) hr hn h40 h0 hD hrD hL hrL hd
    obtain ⟨S2, b1, b2⟩ := ih (w + 1) f (if lv r w D L d = 0 then a else a ||| bit w) S1 (by omega) (by omega) ((a2.qf.w).trans hr)
    refine ⟨S2, ?_, a2.tr b2⟩
    rw [lp_X11_hot_4, if_neg (show ¬ (8 : Int32) ≤ nI w from nI_ge hw (by decide)), a1, bnd, hts, nI_1]
    by_cases hz : lv r w D L d = 0
    · rw [if_pos hz] at b1 ⊢
      rw [hz, if_pos (show nI 0 ≤ 0 by decide), Int32.or_zero]
      exact b1
    · rw [if_neg hz] at b1 ⊢
      rw [if_neg (show ¬ nI (lv r w D L d) ≤ 0 from nI_ge (show 0 < lv r w D L d by omega) (by omega))]
      exact b1
def abv (r : Nat → Int32) (D L d : Nat) (w b : Nat) : Bool := decide (lv r b D L d < lv r w D L d ∨ (lv r b D L d = lv r w D L d ∧ cO r (bit b) d < cO r (bit w) d))
def tst (r : Nat → Int32) (D L d w : Nat) (st : Option Nat) : Option Nat := if lv r w D L d = 0 then st else match st with
  | none => some w
  | some b => if abv r D L d w b then some w else some b
def tps (r : Nat → Int32) (D L d : Nat) : Nat → Nat → Option Nat → Option Nat
  | 0, _, st => st
  | m + 1, w, st => tps r D L d m (w + 1) (tst r D L d w st)
theorem tst_lt {r : Nat → Int32} {D L d w : Nat} {st : Option Nat} (hw : w < 8) (h : ∀ b, st = some b → b < 8) : ∀ b, tst r D L d w st = some b → b < 8 := by
  intro b hb
  unfold tst at hb
  by_cases h0 : lv r w D L d = 0
  · rw [if_pos h0] at hb; exact h b hb
  · rw [if_neg h0] at hb
    cases st with
    | none => cases hb; exact hw
    | some c =>
      simp only at hb
      by_cases hc : abv r D L d w c
      · rw [if_pos hc] at hb; cases hb; exact hw
      · rw [if_neg hc] at hb; cases hb; exact h _ rfl
theorem x_top_loop {S : Mm} {r : Nat → Int32} {N D L d : Nat} {k : Int32 → Int32 → Option Int32} (hF : FT S r) (hn1 : r 1 = nI N) (h40 : N ≤ 40) (hG : FL S r D L) (hD : D ≤ 12) (hL : L ≤ 3) (hd : d < D) : ∀ (m w fuel : Nat) (st : Option Nat), w + m = 8 → m < fuel → (∀ b, st = some b → b < 8) → lp_X2_top_4 k S (nI d) fuel (fi st) (nI w) = k (fi (tps r D L d m w st)) (nI 8) := by
  intro m
  induction m with
  | zero =>
    intro w fuel st h1 h2 h3
    obtain ⟨f, rfl⟩ : ∃ f, fuel = f + 1 := ⟨fuel - 1, by omega⟩
    rw [lp_X2_top_4, show w = 8 by omega]
    rfl
  | succ m ih =>
    intro w fuel st h1 h2 h3
    obtain ⟨f, rfl⟩ : ∃ f, fuel = f + 1 := ⟨fuel - 1, by omega⟩
    have hw : w < 8 := by omega
    have hlw := lv_le r w D L d
    have hcw := cO_le r (bit w) d
    rw [hn1, nI_clamp (by omega)] at hcw
    have ih1 := ih (w + 1) f (tst r D L d w st) (by omega) (by omega) (tst_lt hw h3)
    rw [lp_X2_top_4, if_neg (show ¬ (8 : Int32) ≤ nI w from nI_ge hw (by decide)), x_of hw (by omega) ((hG w hw).2 d hd), bnd, tps, nI_1]
    unfold tst at ih1 ⊢
    by_cases h0 : lv r w D L d = 0
    · rw [if_pos h0] at ih1 ⊢
      rw [h0, if_pos (by decide)]; exact ih1
    · rw [if_neg h0] at ih1 ⊢
      rw [if_neg (show ¬ nI (lv r w D L d) ≤ 0 from nI_ge (show 0 < lv r w D L d by omega) (by omega))]
      cases st with
      | none => rw [if_pos (show fi none = -1 from rfl)]; exact ih1
      | some b =>
        have hb := h3 b rfl
        have hlb := lv_le r b D L d
        have hcb := cO_le r (bit b) d
        rw [hn1, nI_clamp (by omega)] at hcb
        rw [if_neg (fi_ne (by omega))]
        simp only at ih1 ⊢
        have hab : f_X2_isAbove S (nI w) (fi (some b)) (nI d) = some (if abv r D L d w b then 1 else 0) := by
          show f_X2_isAbove S (nI w) (nI b) (nI d) = _
          unfold f_X2_isAbove abv
          simp only [decide_eq_true_eq]
          rw [x_of hw (by omega) ((hG w hw).2 d hd), x_of hb (by omega) ((hG b hb).2 d hd), x_count hF hw (by omega), x_count hF hb (by omega)]
          simp (disch := omega) only [nI_add, nI_1, nI_leI, nI_ltI, nI_eq, inb_nI, nI_clamp, if_pos, if_neg, if_true, if_false, bnd]
          by_cases e1 : lv r w D L d = lv r b D L d
          · rw [if_pos e1]
            by_cases e2 : cO r (bit w) d ≤ cO r (bit b) d
            · rw [if_pos e2, if_neg (by omega)]
            · rw [if_neg e2, if_pos (by omega)]
          · rw [if_neg e1]
            by_cases e2 : lv r w D L d ≤ lv r b D L d
            · rw [if_pos e2, if_neg (by omega)]
            · rw [if_neg e2, if_pos (by omega)]
        rw [hab, bnd]
        by_cases hc : abv r D L d w b
        · rw [if_pos hc] at ih1 ⊢
          rw [if_neg (by decide), if_pos hc]
          exact ih1
        · rw [if_neg hc] at ih1 ⊢
          rw [if_pos rfl, if_neg hc]
          exact ih1
def wth (r : Nat → Int32) (D L d : Nat) (st : Option Nat) : Nat := match st with
  | none => 0
  | some b => 100 * lv r b D L d + cO r (bit b) d
theorem m_top_loop {r : Nat → Int32} {n D L d : Nat} {k : Int32 → Int32 → Int32 → Mm → Option (Int32 × Mm)} (hn : r 1 = nI n) (h40 : n ≤ 40) (h0 : 1 ≤ D) (hD : D ≤ 12) (hrD : r 0 = nI D) (hL : L ≤ 3) (hrL : r 2 = nI L) (hd : d < D) : ∀ (m w fuel : Nat) (st : Option Nat) (S : Mm), w + m = 8 → m < fuel → S.1 154 = r → (∀ b, st = some b → b < 8) → ∃ (y : Int32) (S' : Mm), lp_X11_topOf_7 k (nI d) fuel (fi st) (nI (wth r D L d st)) (nI w) S = k (fi (tps r D L d m w st)) y (nI 8) S' ∧ MS S S' := by
  intro m
  induction m with
  | zero =>
    intro w fuel st S h1 h2 hr h3
    obtain ⟨f, rfl⟩ : ∃ f, fuel = f + 1 := ⟨fuel - 1, by omega⟩
    refine ⟨nI (wth r D L d st), S, ?_, MS.rf S⟩
    rw [lp_X11_topOf_7, show w = 8 by omega]
    rfl
  | succ m ih =>
    intro w fuel st S h1 h2 hr h3
    obtain ⟨f, rfl⟩ : ∃ f, fuel = f + 1 := ⟨fuel - 1, by omega⟩
    have hw : w < 8 := by omega
    have hlw := lv_le r w D L d
    have hcw := cO_le r (bit w) d
    rw [hn, nI_clamp (by omega)] at hcw
    obtain ⟨S1, a1, a2⟩ := m_levelOf (w := w) hr hn h40 h0 hD hrD hL hrL hd
    have hr1 : S1.1 154 = r := (a2.qf.w).trans hr
    obtain ⟨y, S2, b1, b2⟩ := ih (w + 1) f (tst r D L d w st) S1 (by omega) (by omega) hr1 (tst_lt hw h3)
    have hwt : wth r D L d st < 2 ^ 31 := by
      cases st with
      | none => exact (by decide : 0 < 2 ^ 31)
      | some b =>
        have hlb := lv_le r b D L d
        have hcb := cO_le r (bit b) d
        rw [hn, nI_clamp (by omega)] at hcb
        show 100 * lv r b D L d + cO r (bit b) d < _
        omega
    have hc : f_X11_count S1 (nI d) (1 <<< (nI w &&& 31)) = some (nI (cO r (bit w) d)) := (m_on (s := bit w) (by rw [hr1]; exact hn) h40 (by omega)).trans (by rw [hr1])
    refine ⟨y, S2, ?_, a2.tr b2⟩
    rw [lp_X11_topOf_7, if_neg (show ¬ (8 : Int32) ≤ nI w from nI_ge hw (by decide)), a1, bnd, tps, nI_1]
    unfold tst at b1 ⊢
    by_cases hz : lv r w D L d = 0
    · rw [if_pos hz] at b1 ⊢
      rw [hz, if_pos (show nI 0 = 0 by decide), if_pos (nI_pos' hwt), if_pos (nI_pos' hwt)]
      exact b1
    · rw [if_neg hz] at b1 ⊢
      have e100 : (100 : Int32) * nI (lv r w D L d) + nI (cO r (bit w) d) = nI (100 * lv r w D L d + cO r (bit w) d) := by
        rw [l_100, pk_mul, nI_add]
      rw [if_neg (show ¬ nI (lv r w D L d) = 0 from fun h => hz ((nI_eq (by omega) (by decide)).mp h)), hc, bnd, e100]
      cases st with
      | none =>
        rw [if_neg (show ¬ nI (100 * lv r w D L d + cO r (bit w) d) ≤ nI (wth r D L d none) from nI_ge (show 0 < _ by omega) (by omega)), if_neg (show ¬ nI (100 * lv r w D L d + cO r (bit w) d) ≤ nI (wth r D L d none) from nI_ge (show 0 < _ by omega) (by omega))]
        exact b1
      | some b =>
        have hlb := lv_le r b D L d
        have hcb := cO_le r (bit b) d
        rw [hn, nI_clamp (by omega)] at hcb
        have hwe : wth r D L d (some b) = 100 * lv r b D L d + cO r (bit b) d := rfl
        simp only at b1 ⊢
        by_cases hc : abv r D L d w b
        · have hq : ¬ nI (100 * lv r w D L d + cO r (bit w) d) ≤ nI (wth r D L d (some b)) := by
            simp only [abv, decide_eq_true_eq] at hc
            rw [hwe]; exact nI_ge (by omega) (by omega)
          rw [if_pos hc] at b1 ⊢
          rw [if_neg hq, if_neg hq]
          exact b1
        · have hq : nI (100 * lv r w D L d + cO r (bit w) d) ≤ nI (wth r D L d (some b)) := by
            simp only [abv, decide_eq_true_eq] at hc
            rw [hwe]; exact nI_le (by omega) (by omega)
          rw [if_neg hc] at b1 ⊢
          rw [if_pos hq, if_pos hq]
          exact b1
