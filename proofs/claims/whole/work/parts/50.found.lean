/-! ===== all that is found ===== -/
theorem ct_shift (p : Nat → Bool) : ∀ (m i : Nat), ct p (i + 1) m = ct (fun k => p (k + 1)) i m
  | 0, i => rfl
  | m + 1, i => by rw [ct, ct, ct_shift p m (i + 1)]
theorem ct_list (P : Fq → Bool) : ∀ xs : List Fq, ct (fun k => (xs[k]?).any P) 0 xs.length = xs.countP P
  | [] => rfl
  | x :: xs => by
    rw [List.length_cons, ct, ct_shift, List.countP_cons]
    have := ct_list P xs
    simp only [List.getElem?_cons_zero, List.getElem?_cons_succ, Option.any_some]
    rw [this, Nat.add_comm]
theorem fl_48 {r : Nat → Int32} {D L : Nat} (hD : D ≤ 12) : ∀ (m w : Nat), (flW r D L m w).countP (fun q => decide (q.2.1 = 1)) ≤ 6 * m
  | 0, w => Nat.zero_le _
  | m + 1, w => by
    have h1 := fl_48 (r := r) (L := L) hD m (w + 1)
    rw [flW, List.countP_append]
    have h2 : (flL (lv r w D L) w D L 1).countP (fun q => decide (q.2.1 = 1)) ≤ 6 := by
      cases L with
      | zero => exact Nat.zero_le _
      | succ L' =>
        rw [flL, List.countP_append]
        have h3 : (flL (lv r w D (L' + 1)) w D L' (1 + 1)).countP (fun q => decide (q.2.1 = 1)) = 0 := by
          rw [List.countP_eq_zero]
          intro q hq
          have := flL_in (lv r w D (L' + 1)) w D L' (1 + 1) q hq
          simp only [decide_eq_true_eq]
          omega
        have h4 := List.countP_le_length (p := fun q : Fq => decide (q.2.1 = 1)) (l := (sc (lv r w D (L' + 1)) 1 D (D + 1) 0 none).map (fun p => (w, 1, p.1, p.2)))
        rw [List.length_map] at h4
        have h5 := (sc_len (lv r w D (L' + 1)) 1 D (D + 1) 0).1
        omega
    omega
theorem rt_48 {r : Nat → Int32} {D L : Nat} {lab : Nat → Nat} (hD : D ≤ 12) : ct (rt (fl r D L) lab) 0 (fl r D L).length ≤ 48 := by
  refine Nat.le_trans (ct_imp _ (l1 (fl r D L)) (fun k h => ?_) _ _) ?_
  · unfold rt at h
    rw [Bool.and_eq_true] at h
    exact h.1
  · have h1 := ct_list (fun q => decide (q.2.1 = 1)) (fl r D L)
    have h2 := fl_48 (r := r) (L := L) hD 8 0
    exact Nat.le_trans (Nat.le_of_eq h1) h2
theorem fl_Fos (r : Nat → Int32) (D L : Nat) : Fos (fl r D L) := fun _ _ _ _ hi hj h => fl_fo hi hj h
theorem m_heaps {S : Mm} {r : Nat → Int32} {N D L : Nat} (hr : S.1 154 = r) (hn1 : r 1 = nI N) (h40 : N ≤ 40) (h0 : 1 ≤ D) (hD : D ≤ 12) (hrD : r 0 = nI D) (hL : L ≤ 3) (hrL : r 2 = nI L) (hV : ∀ k, k < N → ∃ d, r (6 + k) = nI d ∧ d < D) : ∃ (S' : Mm) (h : Nat → Nat), f_X11_layHeaps S = some S' ∧ MS S S' ∧ MH S' r (fl r D L) ∧ HM S' (fl r D L).length h ∧ Jh r (fl r D L) N h ∧ Cc r (fl r D L) N h := by
  obtain ⟨F, hFu⟩ : ∃ F : Nat, 100000 = F := ⟨_, rfl⟩
  have h144 := fl_len (r := r) hD hL
  have hB := fl_Bq (r := r) hD hL
  obtain ⟨S1, a1, a2, a3, a4⟩ := m_flares hr hn1 h40 h0 hD hrD hL hrL
  have hM1 : MH S1 r (fl r D L) := ⟨(funext fun j => a2.2 154 j (by omega) (by omega)).trans hr, a3, a4⟩
  obtain ⟨S2, b1, b2, -, b4⟩ := m_own (k := fun _ S5 => lp_X11_layHeaps_29 (fun _ S22 => some S22) F 1 S5) h144 (fl r D L).length 0 F S1 (by omega) (by omega) a4
  have hJ : Jh r (fl r D L) N (fun f => f) := ⟨⟨fun f hf => ⟨Nat.le_refl f, hf⟩, fun _ _ _ _ => rfl⟩, fun f _ => Nat.le_refl f⟩
  have hsm := sm_le (fun f => f) 144 (fl r D L).length (fun f hf => by show f ≤ 144; omega)
  obtain ⟨h, S3, c1, c2, c3, c4, c5⟩ := m_while hn1 h40 hD hV hB h144 (k := fun _ S22 => some S22) (fl_Fos r D L) 20800 F (fun f => f) S2 (by omega) (by omega) (b2.mh hM1) (fun f hf => b4 f (Nat.zero_le f) hf) hJ
  refine ⟨S3, h, ?_, ⟨c2.1.trans (b2.1.trans a2.1), fun k j h1 h2 => ?_⟩, c2.mh (b2.mh hM1), c3, c4, c5⟩
  · unfold f_X11_layHeaps
    rw [a1, bnd, hFu, l_0]
    refine Eq.trans b1 ?_
    exact c1
  · rw [c2.2 k j (by omega), b2.2 k j (by omega), a2.2 k j h1 h2]
theorem x_stories {S : Mm} {r : Nat → Int32} {N D L : Nat} (hR : Row S 1 r) (hn1 : r 1 = nI N) (h40 : N ≤ 40) (hD : D ≤ 12) (hL : L ≤ 3) (hV : ∀ k, k < N → ∃ d, r (6 + k) = nI d ∧ d < D) (hH : Hf S 52 (fl r D L)) (hn : S.1 50 1 = nI (fl r D L).length) (h60 : ∀ j, j < (fl r D L).length → S.1 60 j = -1) : ∃ (S' : Mm) (lab : Nat → Nat), f_X7_findAll S = some S' ∧ S'.2 = S.2 ∧ (∀ a j, ¬ (60 ≤ a ∧ a < 68) → S'.1 a j = S.1 a j) ∧ SS S' (fl r D L) lab (fl r D L).length ∧ Gx r (fl r D L) N lab ∧ Cc r (fl r D L) N lab := by
  obtain ⟨F, hFu⟩ : ∃ F : Nat, 100000 = F := ⟨_, rfl⟩
  have h144 := fl_len (r := r) hD hL
  have hB := fl_Bq (r := r) hD hL
  obtain ⟨S1, a1, a2, -, a4⟩ := x_lay_loop (k := fun _ S8 => lp_X7_findAll_37 (fun _ S19 => ((f_X7_numberHeaps S19).bind fun r21 => some r21)) F (nI 0) S8) hB h144 (fl r D L).length 0 F S (by omega) (by omega) hH hn
  obtain ⟨lab, S2, b1, b2, b3, b4, b5⟩ := x_heaps_loop (k := fun _ S19 => ((f_X7_numberHeaps S19).bind fun r21 => some r21)) hB h144 hn1 h40 hD hV N 0 F (fun f => f) S1 (by omega) (by omega) (hR.keep (fun a j h => a2.2 a j (by omega))) (a2.hf hH) ((a2.2 50 1 (by omega)).trans hn) (fun f hf => a4 f (Nat.zero_le f) hf) ⟨fun f hf => ⟨Nat.le_refl f, hf⟩, fun _ _ _ _ => rfl⟩ (fun k hk => absurd hk (by omega))
  have k2 : ∀ a j, a ≠ 62 → S2.1 a j = S.1 a j := fun a j h => (b2.2 a j h).trans (a2.2 a j h)
  have k3 : ∀ a j, a ≠ 62 → a ≠ 61 → (wr S2 61 2 (nI 0)).1 a j = S.1 a j := fun a j h h' => (wr_k _ _ h').trans (k2 a j h)
  obtain ⟨S3, c1, c2, c3⟩ := x_number_loop (k := fun _ S20 => some S20) hB h144 b4 b5 (rt_48 hD) (fl r D L).length 0 F (wr S2 61 2 (nI 0)) (by omega) (by omega) (hH.keep (fun a j h3 h4 => k3 a j (by omega) (by omega))) ((k3 50 1 (by omega) (by omega)).trans hn) (fun f hf => (wr_k _ _ (by omega)).trans (b3 f hf)) ⟨wr_s _ _ _ _, fun f hf => by
      rw [k3 60 f (by omega) (by omega), h60 f hf, decide_eq_false (show ¬ f < 0 by omega), Bool.and_false]; rfl, fun s hs => absurd hs (Nat.not_lt_zero s)⟩
  refine ⟨S3, lab, ?_, c2.1.trans (b2.1.trans a2.1), fun a j h => ?_, c3, b4, b5⟩
  · unfold f_X7_findAll
    rw [hFu, l_0]
    refine Eq.trans a1 ?_
    refine Eq.trans b1 ?_
    unfold f_X7_numberHeaps
    rw [hFu, l_0, c1]
    rfl
  · rw [c2.2 a j (by omega), k3 a j (by omega) (by omega)]
def Fnd (S : Mm) (r : Nat → Int32) : Prop := ∀ D L N, r 0 = nI D → r 1 = nI N → r 2 = nI L → D ≤ 12 → N ≤ 40 → L ≤ 3 → ∃ lab : Nat → Nat, FT S r ∧ FL S r D L ∧ FF S r (fl r D L) ∧ SS S (fl r D L) lab (fl r D L).length ∧ Gx r (fl r D L) N lab ∧ Cc r (fl r D L) N lab
theorem Fnd.keep {S S1 : Mm} {r : Nat → Int32} (h : Fnd S r) (hk : ∀ a j, 5 < a → a < 68 → S1.1 a j = S.1 a j) : Fnd S1 r := by
  intro D L N h1 h2 h3 h4 h5 h6
  obtain ⟨lab, a1, a2, a3, a4, a5⟩ := h D L N h1 h2 h3 h4 h5 h6
  refine ⟨lab, a1.keep (fun a j h h' => hk a j (by omega) (by omega)), fun w hw => ⟨(hk _ _ (by omega) (by omega)).trans (a2 w hw).1, fun d hd => (hk _ _ (by omega) (by omega)).trans ((a2 w hw).2 d hd)⟩, ⟨a3.1.keep (fun a j h h' => hk a j (by omega) (by omega)), (hk _ _ (by omega) (by omega)).trans a3.2.1, fun j q hq => ?_⟩, ⟨(hk _ _ (by omega) (by omega)).trans a4.1, fun f hf => (hk _ _ (by omega) (by omega)).trans (a4.2.1 f hf), fun s hs => ?_⟩, a5⟩
  · obtain ⟨q1, q2, q3, q4⟩ := a3.2.2 j q hq
    exact ⟨(hk _ _ (by omega) (by omega)).trans q1, (hk _ _ (by omega) (by omega)).trans q2, (hk _ _ (by omega) (by omega)).trans q3, (hk _ _ (by omega) (by omega)).trans q4⟩
  · obtain ⟨q1, q2, q3, q4⟩ := a4.2.2 s hs
    exact ⟨(hk _ _ (by omega) (by omega)).trans q1, (hk _ _ (by omega) (by omega)).trans q2, (hk _ _ (by omega) (by omega)).trans q3, (hk _ _ (by omega) (by omega)).trans q4⟩
theorem Row.mv {S S1 : Mm} {o : Nat} {r : Nat → Int32} (h : Row S o r) (hk : ∀ a j, o ≤ a → a < o + 4 → S1.1 a j = S.1 a j) : Row S1 o r := by
  obtain ⟨h1, h2, h3, h4, h5⟩ := h
  exact ⟨(hk _ _ (by omega) (by omega)).trans h1, (hk _ _ (by omega) (by omega)).trans h2, fun j hj => (hk _ _ (by omega) (by omega)).trans (h3 j hj), fun j hj => (hk _ _ (by omega) (by omega)).trans (h4 j hj), fun j hj => (hk _ _ (by omega) (by omega)).trans (h5 j hj)⟩
theorem x_found {S : Mm} {r : Nat → Int32} (hR : Row S 1 r) (hval : Val r) (hst : S.1 0 8 = 0 → Fnd S r) : ∃ S', f_X10_found S = some S' ∧ S'.1 0 8 = 0 ∧ Fnd S' r ∧ Fr S S' := by
  unfold f_X10_found
  by_cases h8 : S.1 0 8 = 0
  · rw [if_pos h8]
    exact ⟨S, rfl, h8, hst h8, rfl, fun _ _ _ => rfl⟩
  · rw [if_neg h8]
    obtain ⟨⟨D, hrD, hD1, hD⟩, ⟨N, hn1, h40⟩, ⟨L, hrL, hL1, hL⟩, -, -, -, hV⟩ := hval
    rw [hn1, hrD, nI_clamp (by omega), nI_clamp (by omega)] at hV
    obtain ⟨S1, a1, a2, a3⟩ := x_tally hn1 h40 hR
    obtain ⟨S2, b1, b2, b3, b4⟩ := x_levels hD1 hD hrD hL hrL a2
    obtain ⟨S3, c1, c2, c3, c4, c5⟩ := x_flares (by rw [hn1, nI_clamp (by omega)]; exact h40) hD hrD hL hrL (a2.keep (fun a j h h' => b3 a j (by omega))) b4
    have hR3 : Row S3 1 r := hR.mv (fun a j h h' => (c3 a j (by omega)).trans ((b3 a j (by omega)).trans (a3.2 a j (by omega))))
    obtain ⟨S4, lab, d1, d2, d3, d4, d5, d6⟩ := x_stories hR3 hn1 h40 hD hL (fun k hk => (hV k hk).1) c4.1 c4.2.1 c5
    rw [a1, bnd, b1, bnd, c1, bnd, d1, bnd]
    have k4 : ∀ a j, ¬ (a = 0 ∧ j = 8) → (wr S4 0 8 0).1 a j = S4.1 a j := fun a j h => if_neg h
    refine ⟨_, rfl, wr_s _ _ _ _, Fnd.keep (S := S4) ?_ (fun a j h h' => k4 a j (by omega)), ?_, fun a j h => ?_⟩
    · intro D' L' N' h1 h2 h3 h4 h5 h6
      obtain rfl : D = D' := (nI_eq (by omega) (by omega)).mp (hrD.symm.trans h1)
      obtain rfl : N = N' := (nI_eq (by omega) (by omega)).mp (hn1.symm.trans h2)
      obtain rfl : L = L' := (nI_eq (by omega) (by omega)).mp (hrL.symm.trans h3)
      have kd : ∀ a j, a < 60 → 50 ≤ a → S4.1 a j = S3.1 a j := fun a j h h' => d3 a j (by omega)
      refine ⟨lab, a2.keep (fun a j h h' => (d3 a j (by omega)).trans ((c3 a j (by omega)).trans (b3 a j (by omega)))), fun w hw => ⟨((d3 _ _ (by omega)).trans (c3 _ _ (by omega))).trans (b4 w hw).1, fun d hd => ((d3 _ _ (by omega)).trans (c3 _ _ (by omega))).trans ((b4 w hw).2 d hd)⟩, ⟨c4.1.keep (fun a j h h' => kd a j (by omega) (by omega)), (kd _ _ (by omega) (by omega)).trans c4.2.1, fun j q hq => ?_⟩, d4, d5, d6⟩
      obtain ⟨q1, q2, q3, q4⟩ := c4.2.2 j q hq
      exact ⟨(kd _ _ (by omega) (by omega)).trans q1, (kd _ _ (by omega) (by omega)).trans q2, (kd _ _ (by omega) (by omega)).trans q3, (kd _ _ (by omega) (by omega)).trans q4⟩
    · exact d2.trans (c2.trans (b2.trans a3.1))
    · rw [k4 a j (by omega), d3 a j (by omega), c3 a j (by omega), b3 a j (by omega), a3.2 a j h]
