/-! ===== all ops, and the first memory ===== -/
theorem all_ops : AllOps Inv := ⟨o_feed, o_pieces, o_fault, o_told, o_at, o_day, o_word, o_cost, o_steady, o_flare, o_story, o_together, o_piece, o_take, o_move, o_days, o_term, o_drift, o_undo, o_write, o_tear, o_seed, o_keep, o_goBack⟩
theorem s0_1 : S0.1 1 3 = S0.1 154 0 ∧ S0.1 1 4 = S0.1 154 1 ∧ (∀ j, j < 4 → S0.1 (1 + 1) j = S0.1 154 (2 + j)) ∧ (∀ j, j < 40 → S0.1 (1 + 2) j = S0.1 154 (6 + j)) ∧ (∀ j, j < 40 → S0.1 (1 + 3) j = S0.1 154 (46 + j)) := by decide +kernel
theorem s0_2 : S0.1 154 0 = nI 6 ∧ S0.1 154 1 = nI 0 ∧ S0.1 154 2 = nI 2 ∧ S0.1 154 3 = nI 2 ∧ S0.1 154 4 = nI 2 ∧ S0.1 154 5 = nI 6 := by decide +kernel
theorem s0_ahead : (∀ i, i < 16 → S0.2 i = 74 + 4 * i) := by decide +kernel
theorem s0_3 : ¬ S0.1 0 8 = 0 := by decide +kernel
theorem s0_4 : S0.1 72 1 = nI 0 ∧ S0.1 153 1 = nI 0 ∧ S0.1 143 2 = fg false ∧ S0.1 148 2 = fg false ∧ S0.1 153 2 = (fg false ||| (fg false <<< 1)) ∧ S0.1 68 3 = nI 0 ∧ S0.1 153 6 = nI 0 ∧ S0.1 138 3 = nI 0 ∧ S0.1 153 11 = nI 0 ∧ S0.1 0 6 = S0.1 153 3 ∧ 0 ≤ S0.1 153 3 ∧ S0.1 0 7 = S0.1 153 7 := by decide +kernel
theorem inv_0 : Inv S0 := by
  obtain ⟨v0, v1, v2, v3, v4, v5⟩ := s0_2
  obtain ⟨w1, w2, w3, w4, w5, w6, w7, w8, w9, w10, w11, w12⟩ := s0_4
  refine ⟨s0_1, ⟨⟨6, v0, by decide, by decide⟩, ⟨0, v1, by decide⟩, ⟨2, v2, by decide, by decide⟩, ⟨2, v3, by decide, by decide⟩, ⟨2, v4, by decide, by decide⟩, ⟨6, v5, by decide⟩, fun k hk => ?_⟩, fun h => absurd h s0_3, ⟨0, by decide, w1, w2, fun i hi => absurd hi (by omega), fun i hi => ⟨i, hi, s0_ahead i hi⟩, fun i j hi hj h => ?_⟩, ⟨false, false, w3, w4, w5, fun h => (by cases h), fun h => (by cases h)⟩, ⟨0, by decide, w6, w7, fun j hj => absurd hj (by omega)⟩, ⟨0, by decide, w8, w9, fun j hj => absurd hj (by omega)⟩, w10, w11, w12⟩
  · rw [v1, nI_clamp (by decide)] at hk
    omega
  · rw [s0_ahead i hi, s0_ahead j hj] at h
    omega
