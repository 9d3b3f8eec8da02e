/-! ===== two halves: the class's cells and the reference's ===== -/
def cmb (X M : Mm) : Mm := (fun k j => if k < 153 then X.1 k j else M.1 k j, X.2)
theorem cmb_x {X M : Mm} {k j : Nat} (h : k < 153) : (cmb X M).1 k j = X.1 k j := if_pos h
theorem cmb_m {X M : Mm} {k j : Nat} (h : 153 ≤ k) : (cmb X M).1 k j = M.1 k j := if_neg (by omega)
theorem cmb_w {X M : Mm} : (cmb X M).1 154 = M.1 154 := funext fun j => cmb_m (by omega)
theorem cmb_s (S : Mm) : cmb S S = S := by
  refine Prod.ext (funext fun k => funext fun j => ?_) rfl
  by_cases h : k < 153
  · exact cmb_x h
  · exact cmb_m (by omega)
/-- the class's half as before; the reference's half as before -/
def Xh (S S' : Mm) : Prop := S'.2 = S.2 ∧ ∀ k j, k < 153 → S'.1 k j = S.1 k j
def Mh (S S' : Mm) : Prop := ∀ k j, 153 ≤ k → S'.1 k j = S.1 k j
theorem cmb_eq {X X' M M' : Mm} (h1 : Xh X X') (h2 : Mh M M') : cmb X' M' = cmb X M := by
  refine Prod.ext (funext fun k => funext fun j => ?_) h1.1
  by_cases h : k < 153
  · rw [cmb_x h, cmb_x h, h1.2 k j h]
  · rw [cmb_m (by omega), cmb_m (by omega), h2 k j (by omega)]
theorem Xh.rf (S : Mm) : Xh S S := ⟨rfl, fun _ _ _ => rfl⟩
theorem Mh.rf (S : Mm) : Mh S S := fun _ _ _ => rfl
/-- an op: the class goes over, then the reference -/
theorem op_of {fx fm : Mm → Option (Int32 × Mm)} (h : ∀ S, Inv S → ∃ r X M, fx S = some (r, X) ∧ Mh S X ∧ fm X = some (r, M) ∧ Xh X M ∧ Inv (cmb X M)) : Op Inv fx fm := fun S hI => by
  obtain ⟨r, X, M, h1, h2, h3, h4, h5⟩ := h S hI
  refine ⟨r, X, M, h1, h3, ?_⟩
  have : cmb X M = M := (cmb_eq h4 (Mh.rf M)).symm.trans (cmb_s M)
  rw [← this]; exact h5
def Ivt (S : Mm) : Prop := IvT S ∧ IvB S ∧ IvS S
theorem deed {X M X2 M2 : Mm} {kn : Nat} (hI : Inv (cmb X M)) (hk16 : kn ≤ 16) (hkn : X.1 72 1 = nI kn) (hRem : Rem X X2 (M.1 154) kn) (hX : ∀ k j, 142 ≤ k → k < 153 → X2.1 k j = X.1 k j) (h1 : M2.1 153 1 = nI (min (kn + 1) 16)) (h2 : M2.1 153 2 = M.1 153 2) (h155 : ∀ j, M2.1 155 j = M.1 155 j) (hM : ∀ j, 86 ≤ j → M2.1 154 j = if j < 1462 then M.1 154 (j - 86) else M.1 154 j) (h8 : X2.1 0 8 = 1) (hR : Row X2 1 (M2.1 154)) (hV : Val (M2.1 154)) (hT : Ivt (cmb X2 M2)) : Inv (cmb X2 M2) := by
  obtain ⟨a1, a2, a3, ⟨kn', u1, u2, u3, u4, u5, u6⟩, ⟨h0, h1', i1, i2, i3, i4, i5⟩, -, -, -⟩ := hI
  obtain rfl : kn' = kn := by
    rw [cmb_x (by omega), hkn] at u2
    exact ((nI_eq (by omega) (by omega)).mp u2).symm
  obtain ⟨r1, r2, r3, r4⟩ := hRem
  rw [cmb_w] at a2
  have hw : ∀ i, i < 16 → rwi (cmb X2 M2) (86 * (i + 1)) = (fun j => if 86 * (i + 1) + j < 1462 then M.1 154 (86 * i + j) else M.1 154 (86 * (i + 1) + j)) := fun i hi => funext fun j => by
    unfold rwi
    rw [cmb_m (by omega), hM _ (by omega)]
    by_cases h : 86 * (i + 1) + j < 1462
    · rw [if_pos h, if_pos h, show 86 * (i + 1) + j - 86 = 86 * i + j by omega]
    · rw [if_neg h, if_neg h]
  have hRv : ∀ {Y : Mm} {p q : Nat → Int32} {o : Nat}, (∀ j, j < 86 → p j = q j) → Row Y o p → Row Y o q := fun hpq h => ⟨h.1.trans (hpq 0 (by omega)), h.2.1.trans (hpq 1 (by omega)), fun j hj => (h.2.2.1 j hj).trans (hpq _ (by omega)), fun j hj => (h.2.2.2.1 j hj).trans (hpq _ (by omega)), fun j hj => (h.2.2.2.2 j hj).trans (hpq _ (by omega))⟩
  have hVv : ∀ {p q : Nat → Int32}, (∀ j, j < 86 → p j = q j) → Val p → Val q := fun {p q} hpq h => by
    obtain ⟨v1, ⟨n, v2, v2'⟩, v3, v4, v5, v6, v7⟩ := h
    have e1 := hpq 1 (by omega)
    have e0 := hpq 0 (by omega)
    refine ⟨by rw [← e0]; exact v1, ⟨n, by rw [← e1]; exact v2, v2'⟩, by rw [← hpq 2 (by omega)]; exact v3, by rw [← hpq 3 (by omega)]; exact v4, by rw [← hpq 4 (by omega)]; exact v5, by rw [← hpq 5 (by omega)]; exact v6, fun k hk => ?_⟩
    rw [← e1] at hk
    have hk' := hk
    rw [v2, nI_clamp (by omega)] at hk'
    rw [← hpq (6 + k) (by omega), ← hpq (46 + k) (by omega), ← e0]
    exact v7 k hk
  refine ⟨?_, by rw [cmb_w]; exact hV, fun h => absurd (show (1 : Int32) = 0 from h8.symm.trans ((cmb_x (by omega)).symm.trans h)) (by decide), ⟨min (kn' + 1) 16, by omega, (cmb_x (by omega)).trans r1, (cmb_m (by omega)).trans h1, fun i hi => ?_, r4.1, r4.2⟩, ⟨h0, h1', ?_, ?_, ?_, fun hh => ?_, fun hh => ?_⟩, hT⟩
  · rw [cmb_w]; exact hR.mv (fun a j h3 h4 => cmb_x (by omega))
  · show Row (cmb X2 M2) (X2.2 (min (kn' + 1) 16 - 1 - i)) _ ∧ _
    obtain ⟨t, ht, hyt⟩ := r4.1 (min (kn' + 1) 16 - 1 - i) (by omega)
    rw [hw i (by omega)]
    cases i with
    | zero =>
      have hyt : X2.2 (min (kn' + 1) 16 - 1) = 74 + 4 * t := hyt
      have hpq : ∀ j, j < 86 → M.1 154 j = (fun j => if 86 * (0 + 1) + j < 1462 then M.1 154 (86 * 0 + j) else M.1 154 (86 * (0 + 1) + j)) j := fun j hj => by
        show _ = if _ then _ else _
        rw [if_pos (by omega), show 86 * 0 + j = j by omega]
      refine ⟨?_, hVv hpq a2⟩
      exact hRv hpq (r2.mv (fun a j h3 h4 => cmb_x (by omega)))
    | succ i =>
      obtain ⟨p1, p2⟩ := u4 i (by omega)
      have hpq : ∀ j, j < 86 → rwi (cmb X M) (86 * (i + 1)) j = (fun j => if 86 * (i + 1 + 1) + j < 1462 then M.1 154 (86 * (i + 1) + j) else M.1 154 (86 * (i + 1 + 1) + j)) j := fun j hj => by
        show (cmb X M).1 154 _ = if _ then _ else _
        rw [if_pos (by omega), cmb_m (by omega)]
      refine ⟨?_, hVv hpq p2⟩
      obtain ⟨t', ht', hyt'⟩ := u5 (kn' - 1 - i) (by omega)
      have hyt' : X.2 (kn' - 1 - i) = 74 + 4 * t' := hyt'
      have p1' : Row X (X.2 (kn' - 1 - i)) (rwi (cmb X M) (86 * (i + 1))) := Row.mv (S := cmb X M) p1 (fun a j h3 h4 => (cmb_x (M := M) (by
        have h4 : a < X.2 (kn' - 1 - i) + 4 := h4
        omega)).symm)
      exact hRv hpq ((r3 i (by omega) _ p1').mv (fun a j h3 h4 => cmb_x (by omega)))
  · rw [cmb_x (by omega), hX 143 2 (by omega) (by omega), ← cmb_x (M := M) (by omega)]; exact i1
  · rw [cmb_x (by omega), hX 148 2 (by omega) (by omega), ← cmb_x (M := M) (by omega)]; exact i2
  · rw [cmb_m (by omega), h2, ← cmb_m (X := X) (by omega)]; exact i3
  · obtain ⟨j1, j2, j3, j4⟩ := i4 hh
    have e : rwi (cmb X2 M2) 1462 = rwi (cmb X M) 1462 := funext fun j => by
      unfold rwi
      rw [cmb_m (by omega), hM _ (by omega), if_neg (by omega), cmb_m (by omega)]
    rw [e, cmb_x (by omega), hX 143 1 (by omega) (by omega), cmb_m (by omega), h155, ← cmb_x (M := M) (k := 143) (by omega), ← cmb_m (X := X) (k := 155) (by omega)]
    exact ⟨j1.mv (fun a j h3 h4 => by rw [cmb_x (by omega), cmb_x (by omega), hX a j (by omega) (by omega)]), j2, j3, j4⟩
  · obtain ⟨j1, j2, j3, j4⟩ := i5 hh
    have e : rwi (cmb X2 M2) 1548 = rwi (cmb X M) 1548 := funext fun j => by
      unfold rwi
      rw [cmb_m (by omega), hM _ (by omega), if_neg (by omega), cmb_m (by omega)]
    rw [e, cmb_x (by omega), hX 148 1 (by omega) (by omega), cmb_m (by omega), h155, ← cmb_x (M := M) (k := 148) (by omega), ← cmb_m (X := X) (k := 155) (by omega)]
    exact ⟨j1.mv (fun a j h3 h4 => by rw [cmb_x (by omega), cmb_x (by omega), hX a j (by omega) (by omega)]), j2, j3, j4⟩
theorem Ivt.keep {S S' : Mm} (h : Ivt S) (hk : ∀ k j, (k = 68 ∧ j = 3) ∨ k = 69 ∨ (138 ≤ k ∧ k < 142) ∨ (k = 0 ∧ (j = 6 ∨ j = 7)) ∨ (k = 153 ∧ (j = 3 ∨ j = 6 ∨ j = 7 ∨ j = 11)) ∨ (156 ≤ k ∧ k < 160) → S'.1 k j = S.1 k j) : Ivt S' := by
  obtain ⟨⟨z, t1, t2, t3, t4⟩, ⟨e, b1, b2, b3, b4⟩, s1, s2, s3⟩ := h
  refine ⟨⟨z, t1, (hk 68 3 (by omega)).trans t2, (hk 153 6 (by omega)).trans t3, fun j hj => ?_⟩, ⟨e, b1, (hk 138 3 (by omega)).trans b2, (hk 153 11 (by omega)).trans b3, fun j hj => ?_⟩, ?_, ?_, ?_⟩
  · rw [hk 69 j (by omega), hk 156 j (by omega)]; exact t4 j hj
  · rw [hk 139 j (by omega), hk 157 j (by omega), hk 140 j (by omega), hk 158 j (by omega), hk 141 j (by omega), hk 159 j (by omega)]; exact b4 j hj
  · rw [hk 0 6 (by omega), hk 153 3 (by omega)]; exact s1
  · rw [hk 153 3 (by omega)]; exact s2
  · rw [hk 0 7 (by omega), hk 153 7 (by omega)]; exact s3
/-- what both sides do ahead of a deed -/
theorem ahead {X M : Mm} (hI : Inv (cmb X M)) : ∃ kn X1 M1, kn ≤ 16 ∧ X.1 72 1 = nI kn ∧ M.1 153 1 = nI kn ∧ f_X10_aheadOfDeed X = some X1 ∧ f_X11_remember M = some M1 ∧ Rem X X1 (M.1 154) kn ∧ X1.1 0 8 = 1 ∧ (∀ k j, ¬ (74 ≤ k ∧ k < 138) → ¬ (k = 72 ∧ j = 1) → ¬ (k = 0 ∧ j = 8) → X1.1 k j = X.1 k j) ∧ M1.2 = M.2 ∧ (∀ k j, k ≠ 154 → ¬ (k = 153 ∧ j = 1) → M1.1 k j = M.1 k j) ∧ M1.1 153 1 = nI (min (kn + 1) 16) ∧ ∀ j, M1.1 154 j = if 86 ≤ j ∧ j < 1462 then M.1 154 (j - 86) else M.1 154 j := by
  obtain ⟨a1, a2, a3, ⟨kn, u1, u2, u3, u4, u5, u6⟩, -⟩ := hI
  rw [cmb_w] at a1
  have hkn : X.1 72 1 = nI kn := (cmb_x (by omega)).symm.trans u2
  obtain ⟨X1, b1, b2, b3⟩ := x_rem u1 hkn ⟨u5, u6⟩ (Row.mv (S := cmb X M) a1 (fun a j h3 h4 => (cmb_x (by omega)).symm))
  obtain ⟨M1, c1, c2, c3, c4, c5⟩ := m_rem u1 ((cmb_m (by omega)).symm.trans u3)
  have k1 : ∀ k j, ¬ (k = 0 ∧ j = 8) → (wr X1 0 8 1).1 k j = X1.1 k j := fun k j h => if_neg h
  refine ⟨kn, wr X1 0 8 1, M1, u1, hkn, (cmb_m (by omega)).symm.trans u3, ?_, c1, ?_, wr_s _ _ _ _, fun k j h3 h4 h5 => (k1 k j h5).trans (b3 k j h3 h4), c2, c3, c4, c5⟩
  · unfold f_X10_aheadOfDeed
    rw [b1, bnd]
  · obtain ⟨r1, r2, r3, r4⟩ := b2
    have hr4 : ∀ i, i < 16 → ∃ t, t < 16 ∧ X1.2 i = 74 + 4 * t := r4.1
    refine ⟨(k1 72 1 (by omega)).trans r1, ?_, fun i hi q hq => ?_, r4⟩
    · obtain ⟨t, ht, hyt⟩ := hr4 (min (kn + 1) 16 - 1) (by omega)
      show Row (wr X1 0 8 1) (X1.2 _) _
      exact r2.mv (fun a j h3 h4 => k1 a j (by omega))
    · obtain ⟨t, ht, hyt⟩ := hr4 (min (kn + 1) 16 - 1 - (i + 1)) (by omega)
      show Row (wr X1 0 8 1) (X1.2 _) _
      exact (r3 i hi q hq).mv (fun a j h3 h4 => k1 a j (by omega))
