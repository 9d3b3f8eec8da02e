/-! ===== what stays true ===== -/
def rwi (S : Mm) (i : Nat) : Nat → Int32 := fun j => S.1 154 (i + j)
def IvU (S : Mm) : Prop := ∃ kn, kn ≤ 16 ∧ S.1 72 1 = nI kn ∧ S.1 153 1 = nI kn ∧ (∀ i, i < kn → Row S (S.2 (kn - 1 - i)) (rwi S (86 * (i + 1))) ∧ Val (rwi S (86 * (i + 1)))) ∧ (∀ i, i < 16 → ∃ t, t < 16 ∧ S.2 i = 74 + 4 * t) ∧ ∀ i j, i < 16 → j < 16 → S.2 i = S.2 j → i = j
def IvI (S : Mm) : Prop := ∃ h0 h1 : Bool, S.1 143 2 = fg h0 ∧ S.1 148 2 = fg h1 ∧ S.1 153 2 = (fg h0 ||| (fg h1 <<< 1)) ∧ (h0 = true → Row S 144 (rwi S 1462) ∧ Val (rwi S 1462) ∧ S.1 143 1 = S.1 155 0 ∧ 0 ≤ S.1 155 0) ∧ (h1 = true → Row S 149 (rwi S 1548) ∧ Val (rwi S 1548) ∧ S.1 148 1 = S.1 155 1 ∧ 0 ≤ S.1 155 1)
def IvT (S : Mm) : Prop := ∃ z, z ≤ 60 ∧ S.1 68 3 = nI z ∧ S.1 153 6 = nI z ∧ ∀ j, j < z → S.1 69 j = S.1 156 j ∧ ∃ c, c < 256 ∧ S.1 156 j = nI c
def IvB (S : Mm) : Prop := ∃ e, e ≤ 20 ∧ S.1 138 3 = nI e ∧ S.1 153 11 = nI e ∧ ∀ j, j < e → (∃ w, w < 8 ∧ S.1 139 j = nI w ∧ S.1 157 j = nI w) ∧ (∃ d, d < 12 ∧ S.1 140 j = nI d ∧ S.1 158 j = nI d) ∧ S.1 141 j = S.1 159 j
def IvS (S : Mm) : Prop := S.1 0 6 = S.1 153 3 ∧ 0 ≤ S.1 153 3 ∧ S.1 0 7 = S.1 153 7
def Ivr (S : Mm) : Prop := IvU S ∧ IvI S ∧ IvT S ∧ IvB S ∧ IvS S
def Inv (S : Mm) : Prop := Row S 1 (S.1 154) ∧ Val (S.1 154) ∧ (S.1 0 8 = 0 → Fnd S (S.1 154)) ∧ Ivr S
/-- a question's frame: all but what is found and the reference's scratch -/
def Qf (S S' : Mm) : Prop := S'.2 = S.2 ∧ ∀ k j, (k < 5 ∧ ¬ (k = 0 ∧ j = 8)) ∨ (68 ≤ k ∧ k < 160 ∧ ¬ (k = 153 ∧ (j = 19 ∨ j = 20 ∨ j = 23))) → S'.1 k j = S.1 k j
theorem Fr.qf {S S' : Mm} (h : Fr S S') : Qf S S' := ⟨h.1, fun k j h1 => h.2 k j (by omega)⟩
theorem MS.qf {S S' : Mm} (h : MS S S') : Qf S S' := ⟨h.1, fun k j h1 => h.2 k j (by omega) (by omega)⟩
theorem Qf.tr {S S1 S2 : Mm} (h1 : Qf S S1) (h2 : Qf S1 S2) : Qf S S2 := ⟨h2.1.trans h1.1, fun k j h => (h2.2 k j h).trans (h1.2 k j h)⟩
theorem Qf.w {S S' : Mm} (h : Qf S S') : S'.1 154 = S.1 154 := funext fun j => h.2 154 j (by omega)
theorem Qf.rw {S S' : Mm} (h : Qf S S') (i : Nat) : rwi S' i = rwi S i := funext fun j => h.2 154 (i + j) (by omega)
theorem Ivr.q {S S' : Mm} (hI : Ivr S) (h : Qf S S') : Ivr S' := by
  obtain ⟨⟨kn, u1, u2, u3, u4, u5, u6⟩, ⟨h0, h1, i1, i2, i3, i4, i5⟩, ⟨z, t1, t2, t3, t4⟩, ⟨e, b1, b2, b3, b4⟩, s1, s2, s3⟩ := hI
  refine ⟨⟨kn, u1, (h.2 72 1 (by omega)).trans u2, (h.2 153 1 (by omega)).trans u3, fun i hi => ?_, fun i hi => by rw [h.1]; exact u5 i hi, fun i j hi hj => by rw [h.1]; exact u6 i j hi hj⟩, ⟨h0, h1, (h.2 143 2 (by omega)).trans i1, (h.2 148 2 (by omega)).trans i2, (h.2 153 2 (by omega)).trans i3, fun hh => ?_, fun hh => ?_⟩, ⟨z, t1, (h.2 68 3 (by omega)).trans t2, (h.2 153 6 (by omega)).trans t3, fun j hj => ?_⟩, ⟨e, b1, (h.2 138 3 (by omega)).trans b2, (h.2 153 11 (by omega)).trans b3, fun j hj => ?_⟩, ?_, ?_, ?_⟩
  · obtain ⟨t, ht, e1⟩ := u5 (kn - 1 - i) (by omega)
    rw [h.rw, h.1]
    exact ⟨(u4 i hi).1.mv (fun a j h3 h4 => h.2 a j (by omega)), (u4 i hi).2⟩
  · obtain ⟨j1, j2, j3, j4⟩ := i4 hh
    rw [h.rw, h.2 143 1 (by omega), h.2 155 0 (by omega)]
    exact ⟨j1.mv (fun a j h3 h4 => h.2 a j (by omega)), j2, j3, j4⟩
  · obtain ⟨j1, j2, j3, j4⟩ := i5 hh
    rw [h.rw, h.2 148 1 (by omega), h.2 155 1 (by omega)]
    exact ⟨j1.mv (fun a j h3 h4 => h.2 a j (by omega)), j2, j3, j4⟩
  · rw [h.2 69 j (by omega), h.2 156 j (by omega)]; exact t4 j hj
  · rw [h.2 139 j (by omega), h.2 157 j (by omega), h.2 140 j (by omega), h.2 158 j (by omega), h.2 141 j (by omega), h.2 159 j (by omega)]; exact b4 j hj
  · rw [h.2 0 6 (by omega), h.2 153 3 (by omega)]; exact s1
  · rw [h.2 153 3 (by omega)]; exact s2
  · rw [h.2 0 7 (by omega), h.2 153 7 (by omega)]; exact s3
theorem Inv.q {S S' : Mm} (hI : Inv S) (h : Qf S S') (hF : S'.1 0 8 = 0 → Fnd S' (S.1 154)) : Inv S' := by
  obtain ⟨a1, a2, -, a4⟩ := hI
  refine ⟨?_, ?_, ?_, a4.q h⟩
  · rw [h.w]; exact a1.mv (fun a j h3 h4 => h.2 a j (by omega))
  · rw [h.w]; exact a2
  · rw [h.w]; exact hF
/-- the reference asks after the class found -/
theorem Inv.ask {S S1 S2 : Mm} (hI : Inv S) (h1 : Fr S S1) (hF : S1.1 0 8 = 0 → Fnd S1 (S.1 154)) (h2 : MS S1 S2) : Inv S2 := hI.q (h1.qf.tr h2.qf) (fun h => by
  rw [h2.2 0 8 (by omega) (by omega)] at h
  exact (hF h).keep (fun a j h3 h4 => h2.2 a j (by omega) (by omega)))
theorem Fr.w {S S' : Mm} (h : Fr S S') : S'.1 154 = S.1 154 := h.qf.w
theorem Inv.found {S : Mm} (hI : Inv S) : ∃ S', f_X10_found S = some S' ∧ S'.1 0 8 = 0 ∧ Fnd S' (S.1 154) ∧ Fr S S' := x_found hI.1 hI.2.1 hI.2.2.1
/-! arguments -/
theorem in_c {S : Mm} (x y z : Int32) {y' z' : Int64} (hy : y' = y.toInt64) (hz : z' = z.toInt64) : f_X11_in S x.toInt64 y' z' = some (if y ≤ x ∧ x ≤ z then 1 else 0) := by
  rw [hy, hz]; exact in_gen x y z
theorem rng {n : Nat} (hn : n < 2 ^ 31) (a : Int32) : (¬ (0 ≤ a ∧ a ≤ nI n - 1) ∧ (a < 0 ∨ nI n ≤ a)) ∨ ∃ d, d < n ∧ a = nI d := by
  by_cases h : a < 0
  · exact Or.inl ⟨fun h' => Int32.not_le.mpr h h'.1, Or.inl h⟩
  · obtain ⟨d, hd, rfl⟩ := nI_of h
    by_cases hdn : d < n
    · exact Or.inr ⟨d, hdn, rfl⟩
    · refine Or.inl ⟨fun h' => ?_, Or.inr (nI_le (by omega) hd)⟩
      cases n with
      | zero => exact absurd h'.1 (fun q => by
          have := Int32.le_trans h'.1 h'.2
          revert this
          decide)
      | succ n =>
        have h2 := h'.2
        rw [l_1, pk_sub (by omega)] at h2
        exact nI_ge (by omega) hd h2
theorem rng_y {n d : Nat} (hn : n < 2 ^ 31) (hd : d < n) : 0 ≤ nI d ∧ nI d ≤ nI n - 1 := by
  refine ⟨nI_pos' (by omega), ?_⟩
  rw [l_1, pk_sub (by omega)]
  exact nI_le (by omega) (by omega)
theorem day3 {S S' : Mm} {D : Nat} (hD : D ≤ 12) (h1 : S.1 1 3 = nI D) (h2 : S'.1 154 0 = nI D) (a : Int32) : (f_X6_hasDay S a = some 0 ∧ f_X11_isDay S' a = some 0) ∨ ∃ d, d < D ∧ a = nI d ∧ f_X6_hasDay S a = some 1 ∧ f_X11_isDay S' a = some 1 := by
  unfold f_X6_hasDay f_X11_isDay
  rw [h1, h2, in_c a 0 (nI D - 1) (by decide) rfl, bnd]
  rcases rng (show D < 2 ^ 31 by omega) a with ⟨g1, g2⟩ | ⟨d, hd, rfl⟩
  · refine Or.inl ⟨?_, by rw [if_neg g1]; rfl⟩
    by_cases h : a < 0
    · rw [if_pos h]
    · rw [if_neg h, if_pos (g2.resolve_left h)]
  · refine Or.inr ⟨d, hd, rfl, ?_, by rw [if_pos (rng_y (by omega) hd)]; rfl⟩
    rw [if_neg (nI_pos (by omega)), if_neg (nI_ge hd (by omega))]
theorem pce3 {S S' : Mm} {N : Nat} (hN : N ≤ 40) (h1 : S.1 1 4 = nI N) (h2 : S'.1 154 1 = nI N) (a : Int32) : (f_X6_hasPiece S a = some 0 ∧ f_X11_isPiece S' a = some 0) ∨ ∃ d, d < N ∧ a = nI d ∧ f_X6_hasPiece S a = some 1 ∧ f_X11_isPiece S' a = some 1 := by
  unfold f_X6_hasPiece f_X11_isPiece
  rw [h1, h2, in_c a 0 (nI N - 1) (by decide) rfl, bnd]
  rcases rng (show N < 2 ^ 31 by omega) a with ⟨g1, g2⟩ | ⟨d, hd, rfl⟩
  · refine Or.inl ⟨?_, by rw [if_neg g1]; rfl⟩
    by_cases h : a < 0
    · rw [if_pos h]
    · rw [if_neg h, if_pos (g2.resolve_left h)]
  · refine Or.inr ⟨d, hd, rfl, ?_, by rw [if_pos (rng_y (by omega) hd)]; rfl⟩
    rw [if_neg (nI_pos (by omega)), if_neg (nI_ge hd (by omega))]
theorem wrd3 {S S' : Mm} (a : Int32) : (f_X10_isWord S a = some 0 ∧ f_X11_isWord S' a = some 0) ∨ ∃ d, d < 8 ∧ a = nI d ∧ f_X10_isWord S a = some 1 ∧ f_X11_isWord S' a = some 1 := by
  unfold f_X10_isWord f_X11_isWord
  rw [in_c a 0 (nI 8 - 1) (by decide) (by decide), bnd]
  rcases rng (show 8 < 2 ^ 31 by decide) a with ⟨g1, g2⟩ | ⟨d, hd, rfl⟩
  · refine Or.inl ⟨?_, by rw [if_neg g1]; rfl⟩
    by_cases h : a < 0
    · rw [if_pos h]
    · rw [if_neg h, if_pos (show (8 : Int32) ≤ a from g2.resolve_left h)]
  · refine Or.inr ⟨d, hd, rfl, ?_, by rw [if_pos (rng_y (by omega) hd)]; rfl⟩
    rw [if_neg (nI_pos (by omega)), if_neg (show ¬ (8 : Int32) ≤ nI d from nI_ge hd (by decide))]
