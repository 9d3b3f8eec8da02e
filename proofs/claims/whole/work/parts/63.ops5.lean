/-! what is found rests on the first 86 numbers of the row -/
theorem ct_ext {p q : Nat → Bool} : ∀ (m i : Nat), (∀ k, i ≤ k → k < i + m → p k = q k) → ct p i m = ct q i m
  | 0, _, _ => rfl
  | m + 1, i, h => by
    rw [ct, ct, h i (by omega) (by omega), ct_ext m (i + 1) (fun k h1 h2 => h k (by omega) (by omega))]
theorem cO_ext {r q : Nat → Int32} {N : Nat} (he : ∀ j, j < 86 → r j = q j) (hN : r 1 = nI N) (h40 : N ≤ 40) (s : Int32) (d : Nat) : cO r s d = cO q s d := by
  unfold cO
  rw [← he 1 (by omega), hN, nI_clamp (by omega)]
  exact ct_ext N 0 (fun k h1 h2 => by rw [he (6 + k) (by omega), he (46 + k) (by omega)])
theorem cA_ext {r q : Nat → Int32} {N : Nat} (he : ∀ j, j < 86 → r j = q j) (hN : r 1 = nI N) (h40 : N ≤ 40) (s : Int32) : cA r s = cA q s := by
  unfold cA
  rw [← he 1 (by omega), hN, nI_clamp (by omega)]
  exact ct_ext N 0 (fun k h1 h2 => by rw [he (46 + k) (by omega)])
theorem us_ext {r q : Nat → Int32} {N : Nat} (he : ∀ j, j < 86 → r j = q j) (hN : r 1 = nI N) (h40 : N ≤ 40) (w d : Nat) : us r w d = us q w d := by
  unfold us
  rw [cO_ext he hN h40, cA_ext he hN h40, he 1 (by omega)]
theorem unl_ext {r q : Nat → Int32} {N : Nat} (he : ∀ j, j < 86 → r j = q j) (hN : r 1 = nI N) (h40 : N ≤ 40) : unl r = unl q := funext fun w => funext fun d => funext fun l => by
  unfold unl wan
  rw [cO_ext he hN h40, us_ext he hN h40, he 3 (by omega), he 4 (by omega)]
theorem lef_ext {r q : Nat → Int32} (hu : unl r = unl q) (h5 : r 5 = q 5) (w D L : Nat) : ∀ e, lef r w D L e = lef q w D L e
  | 0 => funext fun b => rfl
  | e + 1 => funext fun b => by
    have ih := lef_ext hu h5 w D L e
    simp only [lef, hu, h5, ih]
theorem thr_ext {r q : Nat → Int32} (hu : unl r = unl q) (h5 : r 5 = q 5) (w D L d b : Nat) : thr r w D L d b = thr q w D L d b := funext fun l => by
  unfold thr
  rw [hu, h5, lef_ext hu h5]
theorem lv_ext {r q : Nat → Int32} (hu : unl r = unl q) (h5 : r 5 = q 5) (w D L : Nat) : ∀ d, lv r w D L d = lv q w D L d
  | 0 => by rw [lv, lv, thr_ext hu h5]
  | d + 1 => by rw [lv, lv, lv_ext hu h5 w D L d, thr_ext hu h5]
theorem flW_ext {r q : Nat → Int32} (hu : unl r = unl q) (h5 : r 5 = q 5) (D L : Nat) : ∀ m w, flW r D L m w = flW q D L m w
  | 0, _ => rfl
  | m + 1, w => by rw [flW, flW, flW_ext hu h5 D L m (w + 1), show lv r w D L = lv q w D L from funext (lv_ext hu h5 w D L)]
theorem pks_ext {r q : Nat → Int32} {w : Nat} (hc : ∀ d, cO r (bit w) d = cO q (bit w) d) : ∀ m d p, pks r w m d p = pks q w m d p
  | 0, _, _ => rfl
  | m + 1, d, p => by rw [pks, pks, hc d, hc p, pks_ext hc m (d + 1)]
theorem tch_ext {r q : Nat → Int32} {N : Nat} (he : ∀ j, j < 86 → r j = q j) (h40 : N ≤ 40) (xs : List Fq) {k : Nat} (hk : k < N) (f : Nat) : tch r xs k f = tch q xs k f := by
  unfold tch dk
  rw [he (6 + k) (by omega), he (46 + k) (by omega)]
theorem Cc_ext {r q : Nat → Int32} {N : Nat} (he : ∀ j, j < 86 → r j = q j) (h40 : N ≤ 40) {xs : List Fq} {lab : Nat → Nat} (h : Cc r xs N lab) : Cc q xs N lab := fun k hk f g h1 h2 => h k hk f g ((tch_ext he h40 xs hk f).trans h1) ((tch_ext he h40 xs hk g).trans h2)
theorem Fnd.ext {S : Mm} {r q : Nat → Int32} (he : ∀ j, j < 86 → r j = q j) (h : Fnd S r) : Fnd S q := by
  intro D L N h1 h2 h3 h4 h5 h6
  have hN : r 1 = nI N := (he 1 (by omega)).trans h2
  obtain ⟨lab, a1, a2, a3, a4, a5, a6⟩ := h D L N ((he 0 (by omega)).trans h1) hN ((he 2 (by omega)).trans h3) h4 h5 h6
  have hu := unl_ext he hN h5
  have e5 := he 5 (by omega)
  have hfl : fl r D L = fl q D L := flW_ext hu e5 D L 8 0
  rw [hfl] at a3 a4 a5 a6
  refine ⟨lab, ⟨?_, fun d hd => ?_, fun w d hw hd => ?_, fun w d hw hd => ?_⟩, fun w hw => ⟨?_, fun d hd => ?_⟩, ⟨a3.1, a3.2.1, fun j p hp => ?_⟩, a4, ⟨a5.1, fun lab' hl f hf => a5.2 lab' (Cc_ext (fun j hj => (he j hj).symm) h5 hl) f hf⟩, Cc_ext he h5 a6⟩
  · rw [← he 0 (by omega), ← he 2 (by omega), ← he 3 (by omega), ← he 4 (by omega), ← he 5 (by omega)]; exact a1.1
  · rw [← cO_ext he hN h5]; exact a1.2.1 d hd
  · rw [← cO_ext he hN h5]; exact a1.2.2.1 w d hw hd
  · rw [← us_ext he hN h5]; exact a1.2.2.2 w d hw hd
  · rw [← lef_ext hu e5]; exact (a2 w hw).1
  · rw [← lv_ext hu e5]; exact (a2 w hw).2 d hd
  · obtain ⟨q1, q2, q3, q4⟩ := a3.2.2 j p hp
    have hpk : pk r p = pk q p := pks_ext (fun d => cO_ext he hN h5 _ d) _ _ _
    refine ⟨q1, ?_, by rw [← hpk]; exact q3, by rw [← hpk, ← cO_ext he hN h5, ← cO_ext he hN h5]; exact q4⟩
    have : wsum r p.1 p.2.1 p.2.2.1 (p.2.2.2 + 1 - p.2.2.1) = wsum q p.1 p.2.1 p.2.2.1 (p.2.2.2 + 1 - p.2.2.1) := by
      unfold wsum
      rw [hu]
    rw [← this]; exact q2
/-! undo -/
theorem m_undo_loop {o : Nat → Int32} {n : Nat} {k : Int32 → Mm → Option (Int32 × Mm)} (hn : 1 ≤ n) (hn16 : n ≤ 16) : ∀ (m x fuel : Nat) (S : Mm), x + m = 17 - n → m < fuel → (∀ j, S.1 154 j = if j < 86 * x then o (j + 86 * n) else o j) → ∃ S', lp_X11_undo_28 k (nI n) fuel (nI x) S = k (nI (17 - n)) S' ∧ S'.2 = S.2 ∧ (∀ a j, a ≠ 154 → S'.1 a j = S.1 a j) ∧ ∀ j, S'.1 154 j = if j < 86 * (17 - n) then o (j + 86 * n) else o j := by
  intro m
  induction m with
  | zero =>
    intro x fuel S h1 h2 hS
    obtain ⟨f, rfl⟩ : ∃ f, fuel = f + 1 := ⟨fuel - 1, by omega⟩
    obtain rfl : x = 17 - n := by omega
    refine ⟨S, ?_, rfl, fun _ _ _ => rfl, hS⟩
    rw [lp_X11_undo_28, nI_add, if_pos (show (16 : Int32) < nI (17 - n + n) from nI_lt (show 16 < 17 - n + n by omega) (by omega))]
  | succ m ih =>
    intro x fuel S h1 h2 hS
    obtain ⟨f, rfl⟩ : ∃ f, fuel = f + 1 := ⟨fuel - 1, by omega⟩
    obtain ⟨S1, a1, a2, a3, a4⟩ := m_copy (S := S) (a := 86 * (x + n)) (b := 86 * x) (by omega) (by omega) (Or.inr (by omega))
    obtain ⟨S2, b1, b2, b3, b4⟩ := ih (x + 1) f S1 (by omega) (by omega) (fun j => by
      rw [a4 j]
      by_cases h : 86 * x ≤ j ∧ j < 86 * x + 86
      · rw [if_pos h, if_pos (by omega), hS, if_neg (by omega), show 86 * (x + n) + (j - 86 * x) = j + 86 * n by omega]
      · rw [if_neg h, hS]
        by_cases h2 : j < 86 * x
        · rw [if_pos h2, if_pos (by omega)]
        · rw [if_neg h2, if_neg (by omega)])
    refine ⟨S2, ?_, b2.trans a2, fun a j h => (b3 a j h).trans (a3 a j h), b4⟩
    have e1 : (86 : Int32) * (nI x + nI n) = nI (86 * (x + n)) := by rw [nI_add, l_86, pk_mul]
    have e2 : (86 : Int32) * nI x = nI (86 * x) := by rw [l_86, pk_mul]
    rw [lp_X11_undo_28, e1, e2, nI_add, if_neg (show ¬ (16 : Int32) < nI (x + n) from nI_nlt (show x + n ≤ 16 by omega) (by decide)), a1, bnd, nI_1, b1]
theorem o_undo (a1 : Int32) : Op Inv (fun S => f_X10_undo S a1) (fun S => f_X11_undo S a1) := op_of fun S hI => by
  obtain ⟨F, hFu⟩ : ∃ F : Nat, 100000 = F := ⟨_, rfl⟩
  obtain ⟨r1, r2, r3, ⟨kn, u1, u2, u3, u4, u5, u6⟩, ⟨h0, h1', i1, i2, i3, i4, i5⟩, hT⟩ := id hI
  have hsame : ∀ r, f_X10_undo S a1 = some (r, S) → f_X11_undo S a1 = some (r, S) → ∃ r X M, f_X10_undo S a1 = some (r, X) ∧ Mh S X ∧ f_X11_undo X a1 = some (r, M) ∧ Xh X M ∧ Inv (cmb X M) := fun r h1 h2 => ⟨r, S, S, h1, Mh.rf S, h2, Xh.rf S, by rw [cmb_s]; exact hI⟩
  show ∃ r X M, f_X10_undo S a1 = some (r, X) ∧ Mh S X ∧ f_X11_undo X a1 = some (r, M) ∧ Xh X M ∧ Inv (cmb X M)
  have hin : ∀ Y : Mm, f_X11_in Y a1.toInt64 1 16 = some (if 1 ≤ a1 ∧ a1 ≤ 16 then 1 else 0) := fun Y => in_c a1 1 16 (by decide) (by decide)
  by_cases hlo : a1 < 1
  · refine hsame (-1000000002) (by unfold f_X10_undo; rw [if_pos hlo]) (by unfold f_X11_undo; rw [hin, if_neg (fun h => Int32.not_le.mpr hlo h.1), bnd, if_pos rfl])
  · by_cases hhi : a1 ≤ 16
    · have hin1 : (1 : Int32) ≤ a1 ∧ a1 ≤ 16 := ⟨Int32.not_lt.mp hlo, hhi⟩
      have h0' : ¬ a1 < 0 := fun h => hlo (Int32.lt_trans h (by decide))
      obtain ⟨n, hn31, rfl⟩ := nI_of h0'
      have hn1 : 1 ≤ n := Nat.not_lt.mp fun h => hlo (nI_lt h (by decide))
      have hn16 : n ≤ 16 := Nat.not_lt.mp fun h => nI_ge h hn31 hhi
      by_cases hnk : n ≤ kn
      · obtain ⟨t, ht, hyt⟩ := u5 (kn - n) (by omega)
        have hrow := u4 (n - 1) (by omega)
        rw [show kn - 1 - (n - 1) = kn - n by omega, show n - 1 + 1 = n by omega] at hrow
        have kA : ∀ k j, ¬ (k = 72 ∧ j = 1) → (wr S 72 1 (nI (kn - n))).1 k j = S.1 k j := fun k j h => if_neg h
        have hbr : Row (bc5 (wr S 72 1 (nI (kn - n))) 1 (S.2 (kn - n))) 1 (rwi S (86 * n)) := bc_row (Or.inr (by omega)) (hrow.1.mv (fun a j h3 h4 => kA a j (by omega)))
        have kB : ∀ k j, ¬ (1 ≤ k ∧ k < 5) → ¬ (k = 0 ∧ j = 8) → ¬ (k = 72 ∧ j = 1) → (wr (bc5 (wr S 72 1 (nI (kn - n))) 1 (S.2 (kn - n))) 0 8 1).1 k j = S.1 k j := fun k j h3 h4 h5 => (if_neg h4).trans ((bc_frame (by omega)).trans (kA k j h5))
        have kC : (wr (bc5 (wr S 72 1 (nI (kn - n))) 1 (S.2 (kn - n))) 0 8 1).1 72 1 = nI (kn - n) := by rw [wr_k _ _ (by omega), bc_frame (by omega), wr_s]
        have kD : Row (wr (bc5 (wr S 72 1 (nI (kn - n))) 1 (S.2 (kn - n))) 0 8 1) 1 (rwi S (86 * n)) := hbr.mv (fun a j h3 h4 => if_neg (by omega))
        have kE : (wr (bc5 (wr S 72 1 (nI (kn - n))) 1 (S.2 (kn - n))) 0 8 1).1 0 8 = 1 := wr_s _ _ _ _
        have kF : (wr (bc5 (wr S 72 1 (nI (kn - n))) 1 (S.2 (kn - n))) 0 8 1).2 = S.2 := rfl
        have hx : f_X10_undo S (nI n) = some ((wr (bc5 (wr S 72 1 (nI (kn - n))) 1 (S.2 (kn - n))) 0 8 1).1 1 4, wr (bc5 (wr S 72 1 (nI (kn - n))) 1 (S.2 (kn - n))) 0 8 1) := by
          have htb : f_X1_takeBack S (nI n) = some (bc5 (wr S 72 1 (nI (kn - n))) 1 (S.2 (kn - n))) := by
            have e1 : S.1 72 1 - nI n = nI (kn - n) := by rw [u2, pk_sub hnk]
            have i1 : inb (nI (kn - n)) 16 := (inb_nI (by omega)).mpr (by omega)
            unfold f_X1_takeBack
            have hcl : (nI (kn - n)).toNatClampNeg = kn - n := nI_clamp (by omega)
            have hbe : f_X6_become (wr S 72 1 (nI (kn - n))) 1 (S.2 (kn - n)) = some (bc5 (wr S 72 1 (nI (kn - n))) 1 (S.2 (kn - n))) := become_y (by decide) (by rw [hyt]; exact NW_a t ht) (by omega)
            rw [if_neg hlo, if_neg (show ¬ S.1 72 1 < nI n by rw [u2]; exact nI_nlt hnk (by omega))]
            simp only [e1, wr_s, hcl, if_pos i1, wr_2, hbe, bnd]
          unfold f_X10_undo f_X1_number f_X6_count
          rw [if_neg hlo, if_pos hhi, bnd, u2, if_pos (nI_le hnk (by omega)), htb, bnd, bnd]
        generalize wr (bc5 (wr S 72 1 (nI (kn - n))) 1 (S.2 (kn - n))) 0 8 1 = X at kB kC kD kE kF hx
        have hMh : Mh S X := fun k j h => kB k j (by omega) (by omega) (by omega)
        obtain ⟨M, d1, d2, d3, d4⟩ := m_undo_loop (o := S.1 154) (k := fun _ S6 => some ((wr S6 153 1 ((S6.1 153 1) - nI n)).1 154 1, wr S6 153 1 ((S6.1 153 1) - nI n))) hn1 hn16 (17 - n) 0 F X (by omega) (by omega) (fun j => by rw [if_neg (by omega)]; exact hMh 154 j (by omega))
        have hM1 : M.1 153 1 = nI kn := (d3 153 1 (by omega)).trans ((hMh 153 1 (by omega)).trans u3)
        have hMk : ∀ k j, 153 ≤ k → k ≠ 154 → ¬ (k = 153 ∧ j = 1) → (wr M 153 1 (nI (kn - n))).1 k j = S.1 k j := fun k j h h' h'' => (if_neg h'').trans ((d3 k j h').trans (hMh k j h))
        have hMw : ∀ j, (wr M 153 1 (nI (kn - n))).1 154 j = if j < 86 * (17 - n) then S.1 154 (j + 86 * n) else S.1 154 j := fun j => (wr_k _ _ (by omega)).trans (d4 j)
        have hrr : ∀ i, i + n ≤ 16 → ∀ j, j < 86 → rwi S (86 * (i + n)) j = rwi (cmb X (wr M 153 1 (nI (kn - n)))) (86 * i) j := fun i hi j hj => by
          unfold rwi
          rw [cmb_m (by omega), hMw, if_pos (by omega), show 86 * i + j + 86 * n = 86 * (i + n) + j by omega]
        have h0r : ∀ j, j < 86 → rwi S (86 * n) j = (cmb X (wr M 153 1 (nI (kn - n)))).1 154 j := fun j hj => by
          have := hrr 0 (by omega) j hj
          rw [show 86 * (0 + n) = 86 * n by omega] at this
          rw [this]
          unfold rwi
          rw [show 86 * 0 + j = j by omega]
        refine ⟨X.1 1 4, X, wr M 153 1 (nI (kn - n)), hx, hMh, ?_, ⟨d2, fun k j h => (if_neg (by omega)).trans (d3 k j (by omega))⟩, ?_⟩
        · have hX1 : X.1 153 1 = nI kn := (hMh 153 1 (by omega)).trans u3
          unfold f_X11_undo
          rw [hin, if_pos hin1, bnd, if_neg (by decide), hX1, if_pos (nI_le hnk (by omega)), hFu, l_0]
          refine Eq.trans d1 ?_
          simp only [hM1, pk_sub hnk]
          have e4 : (wr M 153 1 (nI (kn - n))).1 154 1 = X.1 1 4 := by
            rw [kD.2.1, h0r 1 (by omega), cmb_m (by omega)]
          rw [e4]
        · refine ⟨(kD.ext h0r).mv (fun a j h3 h4 => cmb_x (by omega)), hrow.2.ext h0r, fun h => absurd (show (1 : Int32) = 0 from kE.symm.trans ((cmb_x (by omega)).symm.trans h)) (by decide), ⟨kn - n, by omega, (cmb_x (by omega)).trans kC, (cmb_m (by omega)).trans (wr_s _ _ _ _), fun i hi => ?_, fun i hi => ?_, fun i j hi hj h => ?_⟩, ⟨h0, h1', ?_, ?_, ?_, fun hh => ?_, fun hh => ?_⟩, Ivt.keep (S := S) hT (fun k j h => ?_)⟩
          · show Row (cmb X _) (X.2 _) _ ∧ _
            rw [kF]
            obtain ⟨p1, p2⟩ := u4 (i + n) (by omega)
            have hpq : ∀ j, j < 86 → rwi S (86 * (i + n + 1)) j = rwi (cmb X (wr M 153 1 (nI (kn - n)))) (86 * (i + 1)) j := fun j hj => by
              have := hrr (i + 1) (by omega) j hj
              rw [← this, show i + 1 + n = i + n + 1 by omega]
            rw [show kn - 1 - (i + n) = kn - n - 1 - i by omega] at p1
            obtain ⟨t', ht', hyt'⟩ := u5 (kn - n - 1 - i) (by omega)
            exact ⟨(p1.ext hpq).mv (fun a j h3 h4 => (cmb_x (by omega)).trans (kB a j (by omega) (by omega) (by omega))), p2.ext hpq⟩
          · show ∃ t, t < 16 ∧ X.2 i = _
            rw [kF]; exact u5 i hi
          · have h : X.2 i = X.2 j := h
            rw [kF] at h; exact u6 i j hi hj h
          · exact (cmb_x (by omega)).trans ((kB 143 2 (by omega) (by omega) (by omega)).trans i1)
          · exact (cmb_x (by omega)).trans ((kB 148 2 (by omega) (by omega) (by omega)).trans i2)
          · exact (cmb_m (by omega)).trans ((hMk 153 2 (by omega) (by omega) (by omega)).trans i3)
          · obtain ⟨j1, j2, j3, j4⟩ := i4 hh
            have e : rwi (cmb X (wr M 153 1 (nI (kn - n)))) 1462 = rwi S 1462 := funext fun j => by
              unfold rwi
              rw [cmb_m (by omega), hMw, if_neg (by omega)]
            rw [e, cmb_x (by omega), kB 143 1 (by omega) (by omega) (by omega), cmb_m (by omega), hMk 155 0 (by omega) (by omega) (by omega)]
            exact ⟨j1.mv (fun a j h3 h4 => (cmb_x (by omega)).trans (kB a j (by omega) (by omega) (by omega))), j2, j3, j4⟩
          · obtain ⟨j1, j2, j3, j4⟩ := i5 hh
            have e : rwi (cmb X (wr M 153 1 (nI (kn - n)))) 1548 = rwi S 1548 := funext fun j => by
              unfold rwi
              rw [cmb_m (by omega), hMw, if_neg (by omega)]
            rw [e, cmb_x (by omega), kB 148 1 (by omega) (by omega) (by omega), cmb_m (by omega), hMk 155 1 (by omega) (by omega) (by omega)]
            exact ⟨j1.mv (fun a j h3 h4 => (cmb_x (by omega)).trans (kB a j (by omega) (by omega) (by omega))), j2, j3, j4⟩
          · by_cases hk : k < 153
            · exact (cmb_x hk).trans (kB k j (by omega) (by omega) (by omega))
            · exact (cmb_m (by omega)).trans (hMk k j (by omega) (by omega) (by omega))
      · refine hsame (-1000000003) ?_ ?_
        · unfold f_X10_undo f_X1_number
          rw [if_neg hlo, if_pos hhi, bnd, u2, if_neg (nI_ge (by omega) (by omega))]
        · unfold f_X11_undo
          rw [hin, if_pos hin1, bnd, if_neg (by decide), u3, if_neg (nI_ge (by omega) (by omega))]
    · refine hsame (-1000000002) (by unfold f_X10_undo; rw [if_neg hlo, if_neg hhi]) (by unfold f_X11_undo; rw [hin, if_neg (fun h => hhi h.2), bnd, if_pos rfl])
