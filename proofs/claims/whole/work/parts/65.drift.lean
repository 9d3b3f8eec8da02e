/-! drift -/
def sd (x : Int32) : Int32 := ((((x.toInt64) * 1103515245) + 12345) - (((x.toInt64) * 1103515245) + 12345) / 2147483648 * 2147483648).toInt32
def dr (x a : Int32) : Int32 := (sd x / 65536) - (sd x / 65536) / a * a
theorem sd_n {m : Nat} (hm : m < 2 ^ 31) : sd (nI m) = nI ((m * 1103515245 + 12345) % 2147483648) := by
  unfold sd
  rw [nI_l hm, show (1103515245 : Int64) = lN 1103515245 by decide, show (12345 : Int64) = lN 12345 by decide, show (2147483648 : Int64) = lN 2147483648 by decide, lN_mul, lN_add, pk_lRem (by omega) (by decide) (by decide), lN_i]
theorem dr_n {m n : Nat} (hm : m < 2 ^ 31) (h0 : 0 < n) (hn : n < 2 ^ 31) : dr (nI m) (nI n) = nI ((m * 1103515245 + 12345) % 2147483648 / 65536 % n) := by
  unfold dr
  rw [sd_n hm, show (65536 : Int32) = nI 65536 by decide, pk_div (by omega) (by decide) (by decide), pk_rem (by omega) h0 hn]
theorem x_draw {X : Mm} {n : Nat} (h1 : 1 ≤ n) (hn : n < 2 ^ 31) : f_X10_draw X (nI n) = some (dr (X.1 0 6) (nI n), wr X 0 6 (sd (X.1 0 6))) := by
  unfold f_X10_draw
  rw [if_pos (show (1 : Int32) ≤ nI n from nI_le h1 hn), if_pos (show ¬ nI n = 0 from fun h => by
    have := (nI_eq hn (show 0 < 2 ^ 31 by decide)).mp h
    omega), wr_s]
  rfl
theorem m_draw {M : Mm} {n : Nat} (h1 : 1 ≤ n) (hn : n < 2 ^ 31) : f_X11_draw M (nI n) = some (dr (M.1 153 3) (nI n), wr M 153 3 (sd (M.1 153 3))) := by
  unfold f_X11_draw
  rw [if_pos (show ¬ nI n = 0 from fun h => by
    have := (nI_eq hn (show 0 < 2 ^ 31 by decide)).mp h
    omega), wr_s]
  rfl
/-- one piece comes, on two halves; the seeds may have changed before it -/
theorem comes_pair {X M M1 : Mm} {N D d s : Nat} (hI : Inv (cmb X M)) (hn1 : M.1 154 1 = nI N) (h40 : N < 40) (hrD : M.1 154 0 = nI D) (hD : D ≤ 12) (hd : d < D) (hs : s < 256) (hM1 : f_X11_remember M = some M1) (M2 : Mm) (hM2 : M2.2 = M1.2) (hM2' : ∀ k j, ¬ (k = 153 ∧ j = 3) → M2.1 k j = M1.1 k j) (X' : Mm) (hX' : X'.2 = X.2) (hX'' : ∀ k j, ¬ (k = 0 ∧ j = 6) → X'.1 k j = X.1 k j) (hse : X'.1 0 6 = M2.1 153 3) (hse0 : 0 ≤ M2.1 153 3) : ∃ X4 M4, f_X10_comes X' (nI d) (nI s) = some X4 ∧ f_X11_add M2 (nI d) (nI s) = some M4 ∧ Mh X X4 ∧ Xh M M4 ∧ Inv (cmb X4 M4) ∧ X4.1 1 4 = nI (N + 1) := by
  -- the memory with the new seeds
  have hI2 : Inv (cmb X' (wr M 153 3 (M2.1 153 3))) := by
    have hk : ∀ k j, ¬ (k = 0 ∧ j = 6) → ¬ (k = 153 ∧ j = 3) → (cmb X' (wr M 153 3 (M2.1 153 3))).1 k j = (cmb X M).1 k j := fun k j h1 h2 => by
      by_cases h : k < 153
      · rw [cmb_x h, cmb_x h, hX'' k j h1]
      · rw [cmb_m (by omega), cmb_m (by omega)]
        exact if_neg h2
    obtain ⟨⟨z, t1, t2, t3, t4⟩, ⟨e, b1, b2, b3, b4⟩, s1, s2, s3⟩ := hI.2.2.2.2.2
    refine hI.upd hX' (fun k j h1 h2 h3 h4 h5 h6 => hk k j (by omega) (by omega)) ⟨⟨z, t1, (hk 68 3 (by omega) (by omega)).trans t2, (hk 153 6 (by omega) (by omega)).trans t3, fun j hj => ?_⟩, ⟨e, b1, (hk 138 3 (by omega) (by omega)).trans b2, (hk 153 11 (by omega) (by omega)).trans b3, fun j hj => ?_⟩, ?_, ?_, ?_⟩
    · rw [hk 69 j (by omega) (by omega), hk 156 j (by omega) (by omega)]; exact t4 j hj
    · rw [hk 139 j (by omega) (by omega), hk 157 j (by omega) (by omega), hk 140 j (by omega) (by omega), hk 158 j (by omega) (by omega), hk 141 j (by omega) (by omega), hk 159 j (by omega) (by omega)]; exact b4 j hj
    · rw [cmb_x (by omega), cmb_m (by omega), wr_s]; exact hse
    · rw [cmb_m (by omega), wr_s]; exact hse0
    · rw [hk 0 7 (by omega) (by omega), hk 153 7 (by omega) (by omega)]; exact s3
  obtain ⟨kn, X3, -, k1, k2, k3, a1, -, a3, a4, a5, -⟩ := ahead hI2
  have hw : (wr M 153 3 (M2.1 153 3)).1 154 = M.1 154 := funext fun j => wr_k _ _ (by omega)
  rw [hw] at a3
  have hk1 : M.1 153 1 = nI kn := (wr_j _ _ (by omega)).symm.trans k3
  obtain ⟨M1', c1, c2, c3, c4, c5⟩ := m_rem (M := M) k1 hk1
  obtain rfl : M1' = M1 := Option.some.inj (c1.symm.trans hM1)
  have hRX : Row X' 1 (M.1 154) := by
    have := hI2.1
    rw [cmb_w, hw] at this
    exact this.mv (fun a j h3 h4 => (cmb_x (by omega)).symm)
  have hVM : Val (M.1 154) := by
    have := hI2.2.1
    rw [cmb_w, hw] at this
    exact this
  have hR3 : Row X3 1 (M.1 154) := hRX.mv (fun a j h3 h4 => a5 a j (by omega) (by omega) (by omega))
  have h2r : ∀ j, j < 86 → M.1 154 j = M2.1 154 j := fun j hj => by rw [hM2' 154 j (by omega), c5 j, if_neg (by omega)]
  have hM21 : M2.1 154 1 = nI N := (h2r 1 (by omega)).symm.trans hn1
  obtain ⟨g1, g2⟩ := add_row (X := X3) (M := M2) (n := N) (d := d) (s := s) (D := D) (hR3.ext h2r) (hVM.ext h2r) hM21 h40 ((h2r 0 (by omega)).symm.trans hrD) hD hd hs
  have hx : f_X10_comes X' (nI d) (nI s) = some (wr (wr (wr X3 3 N (nI d)) 4 N (nI s)) 1 4 (nI (N + 1))) := by
    unfold f_X10_comes
    rw [a1, bnd, x_addn (hR3.2.1.trans hn1) h40, bnd]
  have hm := m_addn (a := nI d) (b := nI s) hM21 h40
  have x4 : (wr (wr (wr X3 3 N (nI d)) 4 N (nI s)) 1 4 (nI (N + 1))).1 1 4 = nI (N + 1) := wr_s _ _ _ _
  have kX : ∀ k j, ¬ (1 ≤ k ∧ k < 5) → (wr (wr (wr X3 3 N (nI d)) 4 N (nI s)) 1 4 (nI (N + 1))).1 k j = X3.1 k j := fun k j h => by
    rw [wr_k _ _ (by omega), wr_k _ _ (by omega), wr_k _ _ (by omega)]
  have kX2 : (wr (wr (wr X3 3 N (nI d)) 4 N (nI s)) 1 4 (nI (N + 1))).2 = X3.2 := rfl
  have kM : ∀ k j, ¬ (k = 154 ∧ j < 86) → (wr (wr (wr M2 154 (6 + N) (nI d)) 154 (46 + N) (nI s)) 154 1 (nI (N + 1))).1 k j = M2.1 k j := fun k j h => by
    simp only [wr_at]
    rw [if_neg (by omega), if_neg (by omega), if_neg (by omega)]
  have kM2 : (wr (wr (wr M2 154 (6 + N) (nI d)) 154 (46 + N) (nI s)) 154 1 (nI (N + 1))).2 = M2.2 := rfl
  generalize wr (wr (wr X3 3 N (nI d)) 4 N (nI s)) 1 4 (nI (N + 1)) = X4 at hx g1 x4 kX kX2
  generalize wr (wr (wr M2 154 (6 + N) (nI d)) 154 (46 + N) (nI s)) 154 1 (nI (N + 1)) = M4 at hm g1 g2 kM kM2
  have hMh : Mh X X4 := fun k j h => (kX k j (by omega)).trans ((a5 k j (by omega) (by omega) (by omega)).trans (hX'' k j (by omega)))
  have kM1 : ∀ k j, k ≠ 154 → ¬ (k = 153 ∧ (j = 1 ∨ j = 3)) → M4.1 k j = M.1 k j := fun k j h h' => (kM k j (by omega)).trans ((hM2' k j (by omega)).trans (c3 k j h (by omega)))
  obtain ⟨p1, p2, p3, p4⟩ := a3
  have hA1 : ∀ i, i < 16 → ∃ t, t < 16 ∧ X3.2 i = 74 + 4 * t := p4.1
  refine ⟨X4, M4, hx, hm, hMh, ⟨kM2.trans (hM2.trans c2), fun k j h => kM1 k j (by omega) (by omega)⟩, deed (X := X') (M := wr M 153 3 (M2.1 153 3)) hI2 k1 k2 ⟨(kX 72 1 (by omega)).trans p1, ?_, fun i hi q hq => ?_, by unfold Aw; rw [kX2]; exact p4⟩ (fun k j h h' => (kX k j (by omega)).trans (a5 k j (by omega) (by omega) (by omega))) ?_ ?_ (fun j => ?_) (fun j h => ?_) ((kX 0 8 (by omega)).trans a4) g1 g2 (Ivt.keep hI2.2.2.2.2.2 (fun k j h => ?_)), x4⟩
  · obtain ⟨t, ht, hyt⟩ := hA1 (min (kn + 1) 16 - 1) (by omega)
    rw [kX2, hw]
    exact p2.mv (fun a j h3 h4 => kX a j (by omega))
  · obtain ⟨t, ht, hyt⟩ := hA1 (min (kn + 1) 16 - 1 - (i + 1)) (by omega)
    rw [kX2]
    exact (p3 i hi q hq).mv (fun a j h3 h4 => kX a j (by omega))
  · rw [kM 153 1 (by omega), hM2' 153 1 (by omega)]; exact c4
  · rw [kM1 153 2 (by omega) (by omega), wr_j _ _ (by omega)]
  · rw [kM1 155 j (by omega) (by omega), wr_k _ _ (by omega)]
  · rw [kM 154 j (by omega), hM2' 154 j (by omega), c5 j, hw]
    by_cases h' : j < 1462
    · rw [if_pos ⟨h, h'⟩, if_pos h']
    · rw [if_neg (by omega), if_neg h']
  · by_cases hk : k < 153
    · rw [cmb_x hk, cmb_x hk, kX k j (by omega), a5 k j (by omega) (by omega) (by omega)]
    · rw [cmb_m (by omega), cmb_m (by omega)]
      by_cases h3 : k = 153 ∧ j = 3
      · obtain ⟨rfl, rfl⟩ := h3
        rw [wr_s, kM 153 3 (by omega)]
      · rw [kM1 k j (by omega) (by omega)]
        exact (if_neg h3).symm
theorem drift_loop {n : Nat} {kx km : Int32 → Mm → Option (Int32 × Mm)} (hn : n ≤ 12) : ∀ (m i fx fm : Nat) (X M : Mm), i + m = n → m < fx → m < fm → Inv (cmb X M) → ∃ (y y' : Int32) (X' M' : Mm), lp_X10_drift_16 kx (nI n) fx (nI i) X = kx y X' ∧ lp_X11_drift_17 km (nI n) fm (nI i) M = km y' M' ∧ Mh X X' ∧ Xh M M' ∧ Inv (cmb X' M') := by
  intro m
  induction m with
  | zero =>
    intro i fx fm X M h1 h2 h3 hI
    obtain ⟨f, rfl⟩ : ∃ f, fx = f + 1 := ⟨fx - 1, by omega⟩
    obtain ⟨f', rfl⟩ : ∃ f, fm = f + 1 := ⟨fm - 1, by omega⟩
    refine ⟨nI i, nI i, X, M, ?_, ?_, Mh.rf X, Xh.rf M, hI⟩
    · rw [lp_X10_drift_16, if_pos (nI_le (by omega) (by omega))]
    · rw [lp_X11_drift_17, if_pos (nI_le (by omega) (by omega))]
  | succ m ih =>
    intro i fx fm X M h1 h2 h3 hI
    obtain ⟨f, rfl⟩ : ∃ f, fx = f + 1 := ⟨fx - 1, by omega⟩
    obtain ⟨f', rfl⟩ : ∃ f, fm = f + 1 := ⟨fm - 1, by omega⟩
    obtain ⟨D, N, L, hrD, hD1, hD, hn1, h40, hrL, hL1, hL, hV⟩ := hI.v
    rw [cmb_w] at hrD hn1
    have hR := hI.1
    rw [cmb_w] at hR
    have hX4 : X.1 1 4 = nI N := ((cmb_x (by omega)).symm.trans hR.2.1).trans hn1
    have hX3 : X.1 1 3 = nI D := ((cmb_x (by omega)).symm.trans hR.1).trans hrD
    rw [lp_X10_drift_16, if_neg (nI_ge (by omega) (by omega)), lp_X11_drift_17, if_neg (nI_ge (by omega) (by omega)), hn1]
    unfold f_X6_hasRoom f_X6_dayCount
    rw [hX4, hX3]
    by_cases hroom : N < 40
    · obtain ⟨s1, s2, s3⟩ := hI.2.2.2.2.2.2.2
      rw [cmb_x (by omega), cmb_m (by omega)] at s1
      rw [cmb_m (by omega)] at s2
      obtain ⟨x, hx31, hx⟩ := nI_of (Int32.not_lt.mpr s2)
      obtain ⟨kn, X0, M1, k1, k2, k3, a1, a2, a3, a4, a5, a6, a7, -⟩ := ahead hI
      have hM10 : M1.1 154 0 = nI D := by
        obtain ⟨Mq, q1, q2, q3, q4, q5⟩ := m_rem (M := M) k1 k3
        obtain rfl : Mq = M1 := Option.some.inj (q1.symm.trans a2)
        rw [q5 0, if_neg (by omega)]; exact hrD
      have hM13 : M1.1 153 3 = nI x := (a7 153 3 (by omega) (by omega)).trans hx
      obtain ⟨x2, hxe⟩ : ∃ x2, (x * 1103515245 + 12345) % 2147483648 = x2 := ⟨_, rfl⟩
      have hx2 : x2 < 2 ^ 31 := by rw [← hxe]; exact Nat.mod_lt _ (by decide)
      obtain ⟨x3, hxe3⟩ : ∃ x3, (x2 * 1103515245 + 12345) % 2147483648 = x3 := ⟨_, rfl⟩
      have hx3 : x3 < 2 ^ 31 := by rw [← hxe3]; exact Nat.mod_lt _ (by decide)
      have e1 := dr_n (n := D) hx31 (by omega) (by omega)
      have e2 := dr_n (n := 256) hx2 (by decide) (by decide)
      have e3 := sd_n hx31
      have e4 := sd_n hx2
      rw [hxe] at e1 e3
      rw [hxe3] at e2 e4
      have hd : x2 / 65536 % D < D := Nat.mod_lt _ (by omega)
      have hs : x3 / 65536 % 256 < 256 := Nat.mod_lt _ (by decide)
      have hse : (wr (wr X 0 6 (nI x2)) 0 6 (nI x3)).1 0 6 = (wr (wr M1 153 3 (nI x2)) 153 3 (nI x3)).1 153 3 := by rw [wr_s, wr_s]
      have hse0 : 0 ≤ (wr (wr M1 153 3 (nI x2)) 153 3 (nI x3)).1 153 3 := by rw [wr_s]; exact nI_pos' hx3
      obtain ⟨X4, M4, c1, c2, c3, c4, c5, c6⟩ := comes_pair hI hn1 hroom hrD hD hd hs a2 (wr (wr M1 153 3 (nI x2)) 153 3 (nI x3)) rfl (fun k j h => (if_neg h).trans (if_neg h)) (wr (wr X 0 6 (nI x2)) 0 6 (nI x3)) rfl (fun k j h => (if_neg h).trans (if_neg h)) hse hse0
      obtain ⟨y, y', X', M', d1, d2, d3, d4, d5⟩ := ih (i + 1) f f' X4 M4 (by omega) (by omega) (by omega) c5
      refine ⟨y, y', X', M', ?_, ?_, fun k j h => (d3 k j h).trans (c3 k j h), ⟨d4.1.trans c4.1, fun k j h => (d4.2 k j h).trans (c4.2 k j h)⟩, d5⟩
      · rw [if_neg (show ¬ (40 : Int32) ≤ nI N from nI_ge hroom (by decide)), bnd, if_neg (by decide), bnd, x_draw hD1 (by omega), bnd, s1, hx, e1, e3]
        rw [show (256 : Int32) = nI 256 by decide, x_draw (by decide) (by decide), bnd, wr_s, e2, e4, c1, bnd, nI_1]
        exact d1
      · rw [if_neg (show ¬ (40 : Int32) ≤ nI N from nI_ge hroom (by decide)), a2, bnd, hM10, m_draw hD1 (by omega), bnd, hM13, e1, e3]
        rw [show (256 : Int32) = nI 256 by decide, m_draw (by decide) (by decide), bnd, wr_s, e2, e4, c2, bnd, nI_1]
        exact d2
    · obtain rfl : N = 40 := by omega
      refine ⟨nI i, nI i, X, M, ?_, ?_, Mh.rf X, Xh.rf M, hI⟩
      · rw [if_pos (by decide), bnd, if_pos rfl]
      · rw [if_pos (by decide)]
theorem o_drift (a1 : Int32) : Op Inv (fun S => f_X10_drift S a1) (fun S => f_X11_drift S a1) := op_of fun S hI => by
  obtain ⟨F, hFu⟩ : ∃ F : Nat, 100000 = F := ⟨_, rfl⟩
  have hsame : ∀ r, f_X10_drift S a1 = some (r, S) → f_X11_drift S a1 = some (r, S) → ∃ r X M, f_X10_drift S a1 = some (r, X) ∧ Mh S X ∧ f_X11_drift X a1 = some (r, M) ∧ Xh X M ∧ Inv (cmb X M) := fun r h1 h2 => ⟨r, S, S, h1, Mh.rf S, h2, Xh.rf S, by rw [cmb_s]; exact hI⟩
  show ∃ r X M, f_X10_drift S a1 = some (r, X) ∧ Mh S X ∧ f_X11_drift X a1 = some (r, M) ∧ Xh X M ∧ Inv (cmb X M)
  have hin : ∀ Y : Mm, f_X11_in Y a1.toInt64 1 12 = some (if 1 ≤ a1 ∧ a1 ≤ 12 then 1 else 0) := fun Y => in_c a1 1 12 (by decide) (by decide)
  by_cases hlo : a1 < 1
  · refine hsame (-1000000002) (by unfold f_X10_drift; rw [if_pos hlo]) (by unfold f_X11_drift; rw [hin, if_neg (fun h => Int32.not_le.mpr hlo h.1), bnd, if_pos rfl])
  · by_cases hhi : a1 ≤ 12
    · have hin1 : (1 : Int32) ≤ a1 ∧ a1 ≤ 12 := ⟨Int32.not_lt.mp hlo, hhi⟩
      have h0' : ¬ a1 < 0 := fun h => hlo (Int32.lt_trans h (by decide))
      obtain ⟨n, hn31, rfl⟩ := nI_of h0'
      have hn12 : n ≤ 12 := Nat.not_lt.mp fun h => nI_ge h hn31 hhi
      -- the class goes over first: its end does not rest on the reference's half
      obtain ⟨y, y', X', -, d1, -, d3, -, -⟩ := drift_loop (kx := fun _ S12 => ((f_X6_count S12).bind fun r14 => some (r14, S12))) (km := fun _ S12 => some (S12.1 154 1, S12)) hn12 n 0 F F S S (by omega) (by omega) (by omega) (by rw [cmb_s]; exact hI)
      obtain ⟨y2, y3, X2, M2, g1, g2, g3, g4, g5⟩ := drift_loop (kx := fun _ S12 => ((f_X6_count S12).bind fun r14 => some (r14, S12))) (km := fun _ S12 => some (S12.1 154 1, S12)) hn12 n 0 F F S X' (by omega) (by omega) (by omega) (by rw [cmb_eq (Xh.rf S) d3, cmb_s]; exact hI)
      have hXX : X2 = X' := by
        have := d1.symm.trans g1
        unfold f_X6_count at this
        rw [bnd, bnd] at this
        exact (congrArg Prod.snd (Option.some.inj this)).symm
      subst hXX
      refine ⟨X2.1 1 4, X2, M2, ?_, d3, ?_, g4, g5⟩
      · unfold f_X10_drift
        rw [if_neg hlo, if_pos hhi, hFu, l_0]
        refine Eq.trans g1 ?_
        rfl
      · unfold f_X11_drift
        rw [hin, if_pos hin1, bnd, if_neg (by decide), hFu, l_0]
        refine Eq.trans g2 ?_
        have hR := g5.1
        rw [cmb_w] at hR
        have : X2.1 1 4 = M2.1 154 1 := (cmb_x (by omega)).symm.trans hR.2.1
        rw [this]
    · refine hsame (-1000000002) (by unfold f_X10_drift; rw [if_neg hlo, if_neg hhi]) (by unfold f_X11_drift; rw [hin, if_neg (fun h => hhi h.2), bnd, if_pos rfl])
