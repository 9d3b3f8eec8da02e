/-! the whole text, on two halves -/
def Ark (D q : Nat) (X M : Mm) : Prop := ∀ j, j < q → ∃ d s, d < D ∧ s < 256 ∧ X.1 70 j = nI d ∧ M.1 167 j = nI d ∧ X.1 71 j = nI s ∧ M.1 168 j = nI s
def KT (S6 : Mm) : Option (Int32 × Mm) := (if (S6.1 153 20) = 0 then (if ((wr S6 153 7 (-1)).1 153 20) = 0 then some (0, wr S6 153 7 (-1)) else some (1, wr S6 153 7 (-1))) else (if ((wr S6 153 7 (S6.1 153 6)).1 153 20) = 0 then some (0, wr S6 153 7 (S6.1 153 6)) else some (1, wr S6 153 7 (S6.1 153 6))))
theorem Tf.lo {S S' : Mm} {q q' : Nat} (h : Tf S S' q) (hq : q' ≤ q) : Tf S S' q' := ⟨h.1, fun x j h1 h2 => h.2 x j h1 (by omega)⟩
theorem Tm.lo {S S' : Mm} {q q' : Nat} (h : Tm S S' q) (hq : q' ≤ q) : Tm S S' q' := ⟨h.1, fun x j h1 h2 => h.2 x j h1 (by omega)⟩
theorem Tf.tr {S S1 S2 : Mm} {q : Nat} (h1 : Tf S S1 q) (h2 : Tf S1 S2 q) : Tf S S2 q := ⟨h2.1.trans h1.1, fun x j h h' => (h2.2 x j h h').trans (h1.2 x j h h')⟩
theorem Tf.xt {S S' : Mm} {c : Nat → Nat} {z q : Nat} (h : Tf S S' q) (hX : XT S c z) : XT S' c z := ⟨hX.1, (h.2 68 3 (by omega) (by omega)).trans hX.2.1, fun j hj => by rw [h.2 69 j (by omega) (by omega)]; exact hX.2.2 j hj⟩
theorem read_pair {c : Nat → Nat} {z D N E : Nat} (hE : 1 ≤ E) (hD : D ≤ 12) : ∀ (m p q fx : Nat) (X M : Mm), z - p ≤ m → p ≤ z → 3 * q ≤ p → N + q ≤ 40 → 22 ≤ fx + q → XT X c z → MT M c z → X.1 68 5 = nI p → X.1 68 4 = nI q → M.1 153 20 = 0 → M.1 153 23 = nI q → M.1 154 0 = nI D → M.1 154 1 = nI N → Ark D q X M → ∃ (w q' : Nat) (X' M' : Mm), w ≤ 3 ∧ lp_X9_read_15 (fun y3_3 _ S5 => some (y3_3, S5)) (nI D) (nI (40 - N)) fx 0 (nI q) X = some (nI w, X') ∧ Tf X X' 0 ∧ lp_X11_readText_12 (fun _ S6 => KT S6) (E + (z - p)) (nI p) M = some (nI w, M') ∧ Tm M M' 0 ∧ ((1 ≤ w ∧ M'.1 153 7 = X'.1 68 5) ∨ (w = 0 ∧ M'.1 153 7 = -1 ∧ X'.1 68 4 = nI q' ∧ M'.1 153 23 = nI q' ∧ N + q' ≤ 40 ∧ q' ≤ 20 ∧ Ark D q' X' M')) := by
  intro m
  induction m with
  | zero =>
    intro p q fx X M h1 h2 h3 h4 h5 hX hM g1 g2 g3 g4 g5 g6 hA
    have h60 := hX.1
    obtain rfl : p = z := by omega
    obtain ⟨f, rfl⟩ : ∃ f, fx = f + 1 := ⟨fx - 1, by omega⟩
    refine ⟨0, q, X, wr M 153 7 (-1), by omega, ?_, ⟨rfl, fun _ _ _ _ => rfl⟩, ?_, ⟨rfl, fun x j h h' => if_neg (by omega)⟩, Or.inr ⟨rfl, wr_s _ _ _ _, g2, (wr_j _ _ (by omega)).trans g4, h4, by omega, fun j hj => ?_⟩⟩
    · rw [lp_X9_read_15, hX.2.1, g1, if_pos (nI_le (Nat.le_refl p) (by omega))]
      split <;> rfl
    · obtain ⟨f', hf'⟩ : ∃ f, E + (p - p) = f + 1 := ⟨E - 1, by omega⟩
      rw [hf', lp_X11_readText_12, hM.2.1, if_pos (nI_le (Nat.le_refl p) (by omega))]
      unfold KT
      rw [if_pos g3, wr_j _ _ (by omega), if_pos g3]
      rfl
    · obtain ⟨d, s, a1, a2, a3, a4, a5, a6⟩ := hA j hj
      exact ⟨d, s, a1, a2, a3, (wr_k _ _ (by omega)).trans a4, a5, (wr_k _ _ (by omega)).trans a6⟩
  | succ m ih =>
    intro p q fx X M h1 h2 h3 h4 h5 hX hM g1 g2 g3 g4 g5 g6 hA
    have h60 := hX.1
    by_cases hpz : p < z
    · obtain ⟨f, rfl⟩ : ∃ f, fx = f + 1 + 1 := ⟨fx - 2, by omega⟩
      have hq : q < 20 := by omega
      obtain ⟨X1, a1, a2⟩ := x_piece (D := D) (rm := 40 - N) hX hpz g1 g2 hq hD (by omega)
      obtain ⟨M1, b1, b2⟩ := m_piece (k := fun _ S6 => KT S6) (E := E) hM hpz hE g3 g4 g5 hD g6 h4
      have hlp : ∀ (r : Int32 × Mm), f_X9_readPiece X (nI D) (nI (40 - N)) = some r → lp_X9_read_15 (fun y3_3 _ S5 => some (y3_3, S5)) (nI D) (nI (40 - N)) (f + 1 + 1) 0 (nI q) X = lp_X9_read_15 (fun y3_3 _ S5 => some (y3_3, S5)) (nI D) (nI (40 - N)) (f + 1) r.1 (nI (q + 1)) r.2 := fun r hr => by
        rw [lp_X9_read_15, if_neg (show ¬ (20 : Int32) ≤ nI q from nI_ge hq (by decide)), hX.2.1, g1, if_neg (nI_ge hpz (by omega)), if_pos rfl, hr, bnd, nI_1]
      unfold PcX at a2
      unfold PcM at b2
      cases hpc : pce c z D (40 - N) q p with
      | inl wp =>
        obtain ⟨w, p'⟩ := wp
        rw [hpc] at a2 b2
        obtain ⟨c1, c2, c3⟩ := a2
        obtain ⟨d1, d2, d3, d4⟩ := b2
        have hx : lp_X9_read_15 (fun y3_3 _ S5 => some (y3_3, S5)) (nI D) (nI (40 - N)) (f + 1 + 1) 0 (nI q) X = some (nI w, X1) := by
          rw [hlp _ c1, lp_X9_read_15]
          dsimp only
          have hw0 : ¬ nI w = 0 := fun h => by
            have := (nI_eq (show w < 2 ^ 31 by omega) (show 0 < 2 ^ 31 by decide)).mp h
            omega
          rw [if_neg hw0]
          split
          · rfl
          · split <;> rfl
        have hw7 : Tm M (wr M1 153 7 (nI p')) 0 := ⟨b1.1, fun x j h h' => (show (wr M1 153 7 (nI p')).1 x j = M1.1 x j from if_neg (by omega)).trans (b1.2 x j h (by omega))⟩
        rcases d4 with ⟨e1, e2⟩ | ⟨rfl, rfl, e3, e4⟩
        · exact ⟨w, q, X1, wr M1 153 7 (nI p'), d3, hx, a1.lo (by omega), e2, hw7, Or.inl ⟨d2, (wr_s _ _ _ _).trans c2.symm⟩⟩
        · refine ⟨1, q, X1, wr M1 153 7 (nI p'), by omega, hx, a1.lo (by omega), ?_, hw7, Or.inl ⟨by omega, (wr_s _ _ _ _).trans c2.symm⟩⟩
          rw [e3]
          show KT M1 = _
          unfold KT
          rw [if_neg e4, wr_j _ _ (by omega), if_neg e4, (b1.mt hM).2.1]
          rfl
      | inr dsp =>
        obtain ⟨d, s, p'⟩ := dsp
        rw [hpc] at a2 b2
        obtain ⟨c1, c2, c3, c4, c5⟩ := a2
        obtain ⟨d1, d2, d3, d4, ⟨s', d5, d6⟩, d7, d8, d9, d10, d11⟩ := b2
        obtain ⟨w, q', X', M', i1, i2, i3, i4, i5, i6⟩ := ih p' (q + 1) (f + 1) X1 M1 (by omega) d2 (by omega) (by omega) (by omega) (a1.xt hX) (b1.mt hM) c2 c3 d8 d9 ((b1.2 154 0 (by omega) (by omega)).trans g5) ((b1.2 154 1 (by omega) (by omega)).trans g6) (fun j hj => by
          by_cases hjq : j = q
          · subst hjq
            exact ⟨d, s', d3, d5, c4, d10, c5.trans d6, d11.trans d6⟩
          · obtain ⟨d0, s0, y1, y2, y3, y4, y5, y6⟩ := hA j (by omega)
            exact ⟨d0, s0, y1, y2, (a1.2 70 j (by omega) (by omega)).trans y3, (b1.2 167 j (by omega) (by omega)).trans y4, (a1.2 71 j (by omega) (by omega)).trans y5, (b1.2 168 j (by omega) (by omega)).trans y6⟩)
        exact ⟨w, q', X', M', i1, (hlp _ c1).trans i2, (a1.lo (by omega)).tr i3, d7.trans i4, (b1.lo (by omega)).tr i5, i6⟩
    · exact ih p q fx X M (by omega) h2 h3 h4 h5 hX hM g1 g2 g3 g4 g5 g6 hA
