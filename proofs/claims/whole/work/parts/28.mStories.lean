def lp_X7_joined_17 (k : Int32 → Mm → Option (Int32 × Mm)) (c1 : Int32) (c2 : Int32) (c3 : Int32) (c4 : Int32) (c5 : Int32) : Nat → Int32 → Mm → Option (Int32 × Mm)
  | 0, _, _ => none
  | fuel + 1, x6, S => (if c3 ≤ x6 then k x6 S else (if inb x6 144 then (if (S.1 62 x6.toNatClampNeg) = c5 then (if inb x6 144 then lp_X7_joined_17 k c1 c2 c3 c4 c5 fuel (x6 + 1) (wr S 62 x6.toNatClampNeg c4) else none) else lp_X7_joined_17 k c1 c2 c3 c4 c5 fuel (x6 + 1) S) else none))
def f_X7_joined (S : Mm) (a1 : Int32) (a2 : Int32) (a3 : Int32) : Option (Int32 × Mm) :=
  lp_X7_joined_17 (fun y6_3 S4 => some (if a2 < a1 then a2 else a1, S4)) a1 a2 a3 (if a2 < a1 then a2 else a1) (if a1 < a2 then a2 else a1) 100000 0 S
set_option maxRecDepth 100000 in
set_option maxHeartbeats 4000000 in
theorem tlp_X7_joined_17 {k : Int32 → Mm → Option (Int32 × Mm)} {c1 : Int32} {c2 : Int32} {c3 : Int32} {c4 : Int32} {c5 : Int32} (hk : ∀ (x6 : Int32) (S : Mm) (out : Int32 × Mm), k x6 S = some out → Ok D_X7_joined (0, 0) (0, 0) 50 [(0, .ref 61), (1, .int c1), (2, .int c2), (3, .int c3), (4, .int c4), (5, .int c5), (6, .int x6)] [] (St S) (An (some (.int out.1)) out.2)) : ∀ (fuel : Nat) (x6 : Int32) (S : Mm) (out : Int32 × Mm), lp_X7_joined_17 k c1 c2 c3 c4 c5 fuel x6 S = some out → Ok D_X7_joined (0, 0) (0, 0) 17 [(0, .ref 61), (1, .int c1), (2, .int c2), (3, .int c3), (4, .int c4), (5, .int c5), (6, .int x6)] [] (St S) (An (some (.int out.1)) out.2) := by
  intro fuel
  induction fuel with
  | zero => intro x6 S out h; cases h
  | succ fuel ih =>
    intro x6 S out h
    rw [lp_X7_joined_17] at h
    refine ok_iload dX7_joined_17 6 rfl ?_
    refine ok_iload_n dX7_joined_19 3 rfl ?_
    refine ok_icmp_ge (tgt := 50) dX7_joined_20 (by decide) (fun hc => ?_) (fun hc => ?_)
    · replace h := it_pos hc h
      refine ok_perm [0, 1, 2, 3, 4, 5, 6] rfl ?_
      exact hk _ _ _ h
    · replace h := it_neg hc h
      refine ok_aload_n dX7_joined_23 0 rfl ?_
      refine okS_getR dX7_joined_24 fl_X7_11 pr_61_0 ?_
      refine ok_iload dX7_joined_27 6 rfl ?_
      obtain ⟨hi1, h⟩ := it_some h
      refine okS_iaload dX7_joined_29 pa_62 hi1 ?_
      refine ok_iload dX7_joined_30 5 rfl ?_
      refine ok_icmp_ne (tgt := 44) dX7_joined_32 (by decide) (fun hc => ?_) (fun hc => ?_)
      · replace h := it_neg hc h
        refine ok_iinc (v := x6 + 1) (L' := [(6, .int (x6 + 1)), (0, .ref 61), (1, .int c1), (2, .int c2), (3, .int c3), (4, .int c4), (5, .int c5)]) dX7_joined_44 6 rfl (ii_1 _) (by decide) rfl ?_
        refine ok_goto (tgt := 17) dX7_joined_47 (by decide) ?_
        refine ok_perm [1, 2, 3, 4, 5, 6, 0] rfl ?_
        exact ih _ _ _ h
      · replace h := it_pos hc h
        refine ok_aload_n dX7_joined_35 0 rfl ?_
        refine okS_getR dX7_joined_36 fl_X7_11 pr_61_0 ?_
        refine ok_iload dX7_joined_39 6 rfl ?_
        refine ok_iload dX7_joined_41 4 rfl ?_
        obtain ⟨hi2, h⟩ := it_some h
        refine okS_iastore dX7_joined_43 pa_62 hi2 ?_
        refine ok_iinc (v := x6 + 1) (L' := [(6, .int (x6 + 1)), (0, .ref 61), (1, .int c1), (2, .int c2), (3, .int c3), (4, .int c4), (5, .int c5)]) dX7_joined_44 6 rfl (ii_1 _) (by decide) rfl ?_
        refine ok_goto (tgt := 17) dX7_joined_47 (by decide) ?_
        refine ok_perm [1, 2, 3, 4, 5, 6, 0] rfl ?_
        exact ih _ _ _ h
set_option maxRecDepth 100000 in
set_option maxHeartbeats 4000000 in
theorem t_X7_joined {S : Mm} {a1 : Int32} {a2 : Int32} {a3 : Int32} {out : Int32 × Mm} (h : f_X7_joined S a1 a2 a3 = some out) : Rs D_X7_joined [.ref 61, .int a1, .int a2, .int a3] S (some (.int out.1)) out.2 := by
  refine rs_of (by decide) rfl (Nat.le_of_ble_eq_true rfl) ?_
  unfold f_X7_joined at h
  show Ok D_X7_joined (0, 0) (0, 0) 0 [(0, .ref 61), (1, .int a1), (2, .int a2), (3, .int a3)] [] (St S) _
  refine ok_iload_n dX7_joined_0 1 rfl ?_
  refine ok_iload_n dX7_joined_1 2 rfl ?_
  refine ok_min dX7_joined_2 cv_X7_68 ⟨by decide, Nat.le_of_ble_eq_true rfl, by decide, by decide⟩ ?_
  refine ok_istore (L' := [(4, .int (if a2 < a1 then a2 else a1)), (0, .ref 61), (1, .int a1), (2, .int a2), (3, .int a3)]) dX7_joined_5 (by decide) rfl ?_
  refine ok_iload_n dX7_joined_7 2 rfl ?_
  refine ok_iload_n dX7_joined_8 3 rfl ?_
  refine ok_max dX7_joined_9 cv_X7_74 ⟨by decide, Nat.le_of_ble_eq_true rfl, by decide, by decide⟩ ?_
  refine ok_istore (L' := [(5, .int (if a1 < a2 then a2 else a1)), (4, .int (if a2 < a1 then a2 else a1)), (0, .ref 61), (1, .int a1), (2, .int a2), (3, .int a3)]) dX7_joined_12 (by decide) rfl ?_
  refine ok_iconst (v := 0) dX7_joined_14 ic_0 ?_
  refine ok_istore (L' := [(6, .int 0), (5, .int (if a1 < a2 then a2 else a1)), (4, .int (if a2 < a1 then a2 else a1)), (0, .ref 61), (1, .int a1), (2, .int a2), (3, .int a3)]) dX7_joined_15 (by decide) rfl ?_
  refine ok_perm [3, 4, 5, 6, 2, 1, 0] rfl ?_
  refine tlp_X7_joined_17 (fun y6_3 S4 out5 h => ?_) _ _ _ _ h
  refine ok_iload dX7_joined_50 4 rfl ?_
  exact okS_ret dX7_joined_52 rfl rfl (by have e := Option.some.inj h; subst e; exact ⟨rfl, rfl⟩)
def lp_X7_tieBy_6 (k : Int32 → Int32 → Mm → Option (Mm)) (c2 : Int32) (c3 : Int32) : Nat → Int32 → Int32 → Mm → Option (Mm)
  | 0, _, _, _ => none
  | fuel + 1, x4, x5, S => ((f_X3_number S).bind fun r1 => (if r1 ≤ x5 then k x4 x5 S else ((f_X3_isAtOne S x5).bind fun r3 => (if r3 = 0 then lp_X7_tieBy_6 k c2 c3 fuel x4 (x5 + 1) S else ((f_X3_hasDay S x5 c2).bind fun r5 => (if r5 = 0 then lp_X7_tieBy_6 k c2 c3 fuel x4 (x5 + 1) S else ((f_X3_setOf S x5).bind fun r7 => (if (c3 &&& r7) = 0 then lp_X7_tieBy_6 k c2 c3 fuel x4 (x5 + 1) S else (if x4 = (-1) then (if inb x5 144 then lp_X7_tieBy_6 k c2 c3 fuel (S.1 62 x5.toNatClampNeg) (x5 + 1) S else none) else (if inb x5 144 then ((f_X3_number S).bind fun r10 => ((f_X7_joined S x4 (S.1 62 x5.toNatClampNeg) r10).bind fun r12 => lp_X7_tieBy_6 k c2 c3 fuel r12.1 (x5 + 1) r12.2)) else none))))))))))
def f_X7_tieBy (S : Mm) (a2 : Int32) (a3 : Int32) : Option (Mm) :=
  lp_X7_tieBy_6 (fun y4_15 y5_16 S17 => some S17) a2 a3 100000 (-1) 0 S
set_option maxRecDepth 100000 in
set_option maxHeartbeats 4000000 in
theorem tlp_X7_tieBy_6 {k : Int32 → Int32 → Mm → Option (Mm)} {c2 : Int32} {c3 : Int32} (hk : ∀ (x4 x5 : Int32) (S : Mm) (out : Mm), k x4 x5 S = some out → Ok D_X7_tieBy (0, 0) (0, 0) 98 [(0, .ref 61), (1, .ref 50), (2, .int c2), (3, .int c3), (4, .int x4), (5, .int x5)] [] (St S) (An none out)) : ∀ (fuel : Nat) (x4 x5 : Int32) (S : Mm) (out : Mm), lp_X7_tieBy_6 k c2 c3 fuel x4 x5 S = some out → Ok D_X7_tieBy (0, 0) (0, 0) 6 [(0, .ref 61), (1, .ref 50), (2, .int c2), (3, .int c3), (4, .int x4), (5, .int x5)] [] (St S) (An none out) := by
  intro fuel
  induction fuel with
  | zero => intro x4 x5 S out h; cases h
  | succ fuel ih =>
    intro x4 x5 S out h
    rw [lp_X7_tieBy_6] at h
    refine ok_iload dX7_tieBy_6 5 rfl ?_
    refine ok_aload_n dX7_tieBy_8 1 rfl ?_
    obtain ⟨r1, e2, h⟩ := it_bind h
    refine okS_V (as := []) (st := [.int x5]) (r := some (.int r1)) (S' := S) dX7_tieBy_9 cv_X7_33 rfl po_50 (Nat.le_of_ble_eq_true rfl) ⟨⟨by decide, by decide⟩, rfl, rfl⟩ (t_X3_number e2) ?_
    show Ok D_X7_tieBy (0, 0) (0, 0) 12 [(0, .ref 61), (1, .ref 50), (2, .int c2), (3, .int c3), (4, .int x4), (5, .int x5)] [.int r1, .int x5] (St S) _
    refine ok_icmp_ge (tgt := 98) dX7_tieBy_12 (by decide) (fun hc => ?_) (fun hc => ?_)
    · replace h := it_pos hc h
      refine ok_perm [0, 1, 2, 3, 4, 5] rfl ?_
      exact hk _ _ _ _ h
    · replace h := it_neg hc h
      refine ok_aload_n dX7_tieBy_15 1 rfl ?_
      refine ok_iload dX7_tieBy_16 5 rfl ?_
      obtain ⟨r3, e4, h⟩ := it_bind h
      refine okS_V (as := [.int x5]) (st := []) (r := some (.int r3)) (S' := S) dX7_tieBy_18 cv_X7_36 rfl po_50 (Nat.le_of_ble_eq_true rfl) ⟨⟨by decide, by decide⟩, rfl, rfl⟩ (t_X3_isAtOne e4) ?_
      show Ok D_X7_tieBy (0, 0) (0, 0) 21 [(0, .ref 61), (1, .ref 50), (2, .int c2), (3, .int c3), (4, .int x4), (5, .int x5)] [.int r3] (St S) _
      refine ok_if_eq (tgt := 49) dX7_tieBy_21 (by decide) (fun hc => ?_) (fun hc => ?_)
      · replace h := it_pos hc h
        refine ok_iconst (v := 0) dX7_tieBy_49 ic_0 ?_
        refine ok_istore (L' := [(6, .int 0), (0, .ref 61), (1, .ref 50), (2, .int c2), (3, .int c3), (4, .int x4), (5, .int x5)]) dX7_tieBy_50 (by decide) rfl ?_
        refine ok_iload dX7_tieBy_52 0 rfl ?_
        refine ok_if_eq (tgt := 92) dX7_tieBy_54 (by decide) (fun hc => ?_) (fun hc => absurd hc (by decide))
        refine ok_iinc (v := x5 + 1) (L' := [(5, .int (x5 + 1)), (6, .int 0), (0, .ref 61), (1, .ref 50), (2, .int c2), (3, .int c3), (4, .int x4)]) dX7_tieBy_92 6 rfl (ii_1 _) (by decide) rfl ?_
        refine ok_goto (tgt := 6) dX7_tieBy_95 (by decide) ?_
        refine ok_perm [2, 3, 4, 5, 6, 0] rfl ?_
        exact ih _ _ _ _ h
      · replace h := it_neg hc h
        refine ok_aload_n dX7_tieBy_24 1 rfl ?_
        refine ok_iload dX7_tieBy_25 5 rfl ?_
        refine ok_iload_n dX7_tieBy_27 2 rfl ?_
        obtain ⟨r5, e6, h⟩ := it_bind h
        refine okS_V (as := [.int x5, .int c2]) (st := []) (r := some (.int r5)) (S' := S) dX7_tieBy_28 cv_X7_59 rfl po_50 (Nat.le_of_ble_eq_true rfl) ⟨⟨by decide, by decide⟩, rfl, rfl⟩ (t_X3_hasDay e6) ?_
        show Ok D_X7_tieBy (0, 0) (0, 0) 31 [(0, .ref 61), (1, .ref 50), (2, .int c2), (3, .int c3), (4, .int x4), (5, .int x5)] [.int r5] (St S) _
        refine ok_if_eq (tgt := 49) dX7_tieBy_31 (by decide) (fun hc => ?_) (fun hc => ?_)
        · replace h := it_pos hc h
          refine ok_iconst (v := 0) dX7_tieBy_49 ic_0 ?_
          refine ok_istore (L' := [(6, .int 0), (0, .ref 61), (1, .ref 50), (2, .int c2), (3, .int c3), (4, .int x4), (5, .int x5)]) dX7_tieBy_50 (by decide) rfl ?_
          refine ok_iload dX7_tieBy_52 0 rfl ?_
          refine ok_if_eq (tgt := 92) dX7_tieBy_54 (by decide) (fun hc => ?_) (fun hc => absurd hc (by decide))
          refine ok_iinc (v := x5 + 1) (L' := [(5, .int (x5 + 1)), (6, .int 0), (0, .ref 61), (1, .ref 50), (2, .int c2), (3, .int c3), (4, .int x4)]) dX7_tieBy_92 6 rfl (ii_1 _) (by decide) rfl ?_
          refine ok_goto (tgt := 6) dX7_tieBy_95 (by decide) ?_
          refine ok_perm [2, 3, 4, 5, 6, 0] rfl ?_
          exact ih _ _ _ _ h
        · replace h := it_neg hc h
          refine ok_iload_n dX7_tieBy_34 3 rfl ?_
          refine ok_aload_n dX7_tieBy_35 1 rfl ?_
          refine ok_iload dX7_tieBy_36 5 rfl ?_
          obtain ⟨r7, e8, h⟩ := it_bind h
          refine okS_V (as := [.int x5]) (st := [.int c3]) (r := some (.int r7)) (S' := S) dX7_tieBy_38 cv_X7_63 rfl po_50 (Nat.le_of_ble_eq_true rfl) ⟨⟨by decide, by decide⟩, rfl, rfl⟩ (t_X3_setOf e8) ?_
          show Ok D_X7_tieBy (0, 0) (0, 0) 41 [(0, .ref 61), (1, .ref 50), (2, .int c2), (3, .int c3), (4, .int x4), (5, .int x5)] [.int r7, .int c3] (St S) _
          refine ok_iand dX7_tieBy_41 ?_
          refine ok_if_eq (tgt := 49) dX7_tieBy_42 (by decide) (fun hc => ?_) (fun hc => ?_)
          · replace h := it_pos hc h
            refine ok_iconst (v := 0) dX7_tieBy_49 ic_0 ?_
            refine ok_istore (L' := [(6, .int 0), (0, .ref 61), (1, .ref 50), (2, .int c2), (3, .int c3), (4, .int x4), (5, .int x5)]) dX7_tieBy_50 (by decide) rfl ?_
            refine ok_iload dX7_tieBy_52 0 rfl ?_
            refine ok_if_eq (tgt := 92) dX7_tieBy_54 (by decide) (fun hc => ?_) (fun hc => absurd hc (by decide))
            refine ok_iinc (v := x5 + 1) (L' := [(5, .int (x5 + 1)), (6, .int 0), (0, .ref 61), (1, .ref 50), (2, .int c2), (3, .int c3), (4, .int x4)]) dX7_tieBy_92 6 rfl (ii_1 _) (by decide) rfl ?_
            refine ok_goto (tgt := 6) dX7_tieBy_95 (by decide) ?_
            refine ok_perm [2, 3, 4, 5, 6, 0] rfl ?_
            exact ih _ _ _ _ h
          · replace h := it_neg hc h
            refine ok_iconst (v := 1) dX7_tieBy_45 ic_1 ?_
            refine ok_goto (tgt := 50) dX7_tieBy_46 (by decide) ?_
            refine ok_istore (L' := [(6, .int 1), (0, .ref 61), (1, .ref 50), (2, .int c2), (3, .int c3), (4, .int x4), (5, .int x5)]) dX7_tieBy_50 (by decide) rfl ?_
            refine ok_iload dX7_tieBy_52 0 rfl ?_
            refine ok_if_eq (tgt := 92) dX7_tieBy_54 (by decide) (fun hc => absurd hc (by decide)) (fun hc => ?_)
            refine ok_iload dX7_tieBy_57 5 rfl ?_
            refine ok_iconst (v := (-1)) dX7_tieBy_59 ic_m1 ?_
            refine ok_icmp_ne (tgt := 73) dX7_tieBy_60 (by decide) (fun hc => ?_) (fun hc => ?_)
            · replace h := it_neg hc h
              refine ok_aload_n dX7_tieBy_73 1 rfl ?_
              refine ok_iload dX7_tieBy_74 5 rfl ?_
              refine ok_aload_n dX7_tieBy_76 1 rfl ?_
              refine okS_getR dX7_tieBy_77 fl_X7_11 pr_61_0 ?_
              refine ok_iload dX7_tieBy_80 6 rfl ?_
              obtain ⟨hi9, h⟩ := it_some h
              refine okS_iaload dX7_tieBy_82 pa_62 hi9 ?_
              refine ok_aload_n dX7_tieBy_83 2 rfl ?_
              obtain ⟨r10, e11, h⟩ := it_bind h
              refine okS_V (as := []) (st := [.int (S.1 62 x5.toNatClampNeg), .int x4, .ref 61]) (r := some (.int r10)) (S' := S) dX7_tieBy_84 cv_X7_33 rfl po_50 (Nat.le_of_ble_eq_true rfl) ⟨⟨by decide, by decide⟩, rfl, rfl⟩ (t_X3_number e11) ?_
              show Ok D_X7_tieBy (0, 0) (0, 0) 87 [(6, .int 1), (0, .ref 61), (1, .ref 50), (2, .int c2), (3, .int c3), (4, .int x4), (5, .int x5)] [.int r10, .int (S.1 62 x5.toNatClampNeg), .int x4, .ref 61] (St S) _
              obtain ⟨r12, e13, h⟩ := it_bind h
              refine okS_V (as := [.int x4, .int (S.1 62 x5.toNatClampNeg), .int r10]) (st := []) (r := some (.int r12.1)) (S' := r12.2) dX7_tieBy_87 cv_X7_64 rfl po_61 (Nat.le_of_ble_eq_true rfl) ⟨⟨by decide, by decide⟩, rfl, rfl⟩ (t_X7_joined e13) ?_
              show Ok D_X7_tieBy (0, 0) (0, 0) 90 [(6, .int 1), (0, .ref 61), (1, .ref 50), (2, .int c2), (3, .int c3), (4, .int x4), (5, .int x5)] [.int r12.1] (St r12.2) _
              refine ok_istore (L' := [(4, .int r12.1), (6, .int 1), (0, .ref 61), (1, .ref 50), (2, .int c2), (3, .int c3), (5, .int x5)]) dX7_tieBy_90 (by decide) rfl ?_
              refine ok_iinc (v := x5 + 1) (L' := [(5, .int (x5 + 1)), (4, .int r12.1), (6, .int 1), (0, .ref 61), (1, .ref 50), (2, .int c2), (3, .int c3)]) dX7_tieBy_92 6 rfl (ii_1 _) (by decide) rfl ?_
              refine ok_goto (tgt := 6) dX7_tieBy_95 (by decide) ?_
              refine ok_perm [3, 4, 5, 6, 1, 0] rfl ?_
              exact ih _ _ _ _ h
            · replace h := it_pos hc h
              refine ok_aload_n dX7_tieBy_63 1 rfl ?_
              refine okS_getR dX7_tieBy_64 fl_X7_11 pr_61_0 ?_
              refine ok_iload dX7_tieBy_67 6 rfl ?_
              obtain ⟨hi14, h⟩ := it_some h
              refine okS_iaload dX7_tieBy_69 pa_62 hi14 ?_
              refine ok_goto (tgt := 90) dX7_tieBy_70 (by decide) ?_
              refine ok_istore (L' := [(4, .int (S.1 62 x5.toNatClampNeg)), (6, .int 1), (0, .ref 61), (1, .ref 50), (2, .int c2), (3, .int c3), (5, .int x5)]) dX7_tieBy_90 (by decide) rfl ?_
              refine ok_iinc (v := x5 + 1) (L' := [(5, .int (x5 + 1)), (4, .int (S.1 62 x5.toNatClampNeg)), (6, .int 1), (0, .ref 61), (1, .ref 50), (2, .int c2), (3, .int c3)]) dX7_tieBy_92 6 rfl (ii_1 _) (by decide) rfl ?_
              refine ok_goto (tgt := 6) dX7_tieBy_95 (by decide) ?_
              refine ok_perm [3, 4, 5, 6, 1, 0] rfl ?_
              exact ih _ _ _ _ h
set_option maxRecDepth 100000 in
set_option maxHeartbeats 4000000 in
theorem t_X7_tieBy {S : Mm} {a2 : Int32} {a3 : Int32} {out : Mm} (h : f_X7_tieBy S a2 a3 = some out) : Rs D_X7_tieBy [.ref 61, .ref 50, .int a2, .int a3] S none out := by
  refine rs_of (by decide) rfl (Nat.le_of_ble_eq_true rfl) ?_
  unfold f_X7_tieBy at h
  show Ok D_X7_tieBy (0, 0) (0, 0) 0 [(0, .ref 61), (1, .ref 50), (2, .int a2), (3, .int a3)] [] (St S) _
  refine ok_iconst (v := (-1)) dX7_tieBy_0 ic_m1 ?_
  refine ok_istore (L' := [(4, .int (-1)), (0, .ref 61), (1, .ref 50), (2, .int a2), (3, .int a3)]) dX7_tieBy_1 (by decide) rfl ?_
  refine ok_iconst (v := 0) dX7_tieBy_3 ic_0 ?_
  refine ok_istore (L' := [(5, .int 0), (4, .int (-1)), (0, .ref 61), (1, .ref 50), (2, .int a2), (3, .int a3)]) dX7_tieBy_4 (by decide) rfl ?_
  refine ok_perm [2, 3, 4, 5, 1, 0] rfl ?_
  refine tlp_X7_tieBy_6 (fun y4_15 y5_16 S17 out18 h => ?_) _ _ _ _ _ h
  exact okS_retv dX7_tieBy_98 rfl (by have e := Option.some.inj h; subst e; exact ⟨rfl, rfl⟩)
def f_X7_begun (S : Mm) (a2 : Int32) : Option (Int32 × Mm) :=
  (if (S.1 61 2) < 48 then (if inb (S.1 61 2) 48 then (if inb ((wr S 64 (S.1 61 2).toNatClampNeg 0).1 61 2) 48 then ((f_X3_fact (wr (wr S 64 (S.1 61 2).toNatClampNeg 0) 65 ((wr S 64 (S.1 61 2).toNatClampNeg 0).1 61 2).toNatClampNeg 0) a2 2).bind fun r3 => (if inb ((wr (wr S 64 (S.1 61 2).toNatClampNeg 0) 65 ((wr S 64 (S.1 61 2).toNatClampNeg 0).1 61 2).toNatClampNeg 0).1 61 2) 48 then ((f_X3_fact (wr (wr (wr S 64 (S.1 61 2).toNatClampNeg 0) 65 ((wr S 64 (S.1 61 2).toNatClampNeg 0).1 61 2).toNatClampNeg 0) 66 ((wr (wr S 64 (S.1 61 2).toNatClampNeg 0) 65 ((wr S 64 (S.1 61 2).toNatClampNeg 0).1 61 2).toNatClampNeg 0).1 61 2).toNatClampNeg r3) a2 3).bind fun r6 => (if inb ((wr (wr (wr S 64 (S.1 61 2).toNatClampNeg 0) 65 ((wr S 64 (S.1 61 2).toNatClampNeg 0).1 61 2).toNatClampNeg 0) 66 ((wr (wr S 64 (S.1 61 2).toNatClampNeg 0) 65 ((wr S 64 (S.1 61 2).toNatClampNeg 0).1 61 2).toNatClampNeg 0).1 61 2).toNatClampNeg r3).1 61 2) 48 then some (((wr (wr (wr (wr (wr S 64 (S.1 61 2).toNatClampNeg 0) 65 ((wr S 64 (S.1 61 2).toNatClampNeg 0).1 61 2).toNatClampNeg 0) 66 ((wr (wr S 64 (S.1 61 2).toNatClampNeg 0) 65 ((wr S 64 (S.1 61 2).toNatClampNeg 0).1 61 2).toNatClampNeg 0).1 61 2).toNatClampNeg r3) 67 ((wr (wr (wr S 64 (S.1 61 2).toNatClampNeg 0) 65 ((wr S 64 (S.1 61 2).toNatClampNeg 0).1 61 2).toNatClampNeg 0) 66 ((wr (wr S 64 (S.1 61 2).toNatClampNeg 0) 65 ((wr S 64 (S.1 61 2).toNatClampNeg 0).1 61 2).toNatClampNeg 0).1 61 2).toNatClampNeg r3).1 61 2).toNatClampNeg r6) 61 2 (((wr (wr (wr (wr S 64 (S.1 61 2).toNatClampNeg 0) 65 ((wr S 64 (S.1 61 2).toNatClampNeg 0).1 61 2).toNatClampNeg 0) 66 ((wr (wr S 64 (S.1 61 2).toNatClampNeg 0) 65 ((wr S 64 (S.1 61 2).toNatClampNeg 0).1 61 2).toNatClampNeg 0).1 61 2).toNatClampNeg r3) 67 ((wr (wr (wr S 64 (S.1 61 2).toNatClampNeg 0) 65 ((wr S 64 (S.1 61 2).toNatClampNeg 0).1 61 2).toNatClampNeg 0) 66 ((wr (wr S 64 (S.1 61 2).toNatClampNeg 0) 65 ((wr S 64 (S.1 61 2).toNatClampNeg 0).1 61 2).toNatClampNeg 0).1 61 2).toNatClampNeg r3).1 61 2).toNatClampNeg r6).1 61 2) + 1)).1 61 2) - 1, wr (wr (wr (wr (wr S 64 (S.1 61 2).toNatClampNeg 0) 65 ((wr S 64 (S.1 61 2).toNatClampNeg 0).1 61 2).toNatClampNeg 0) 66 ((wr (wr S 64 (S.1 61 2).toNatClampNeg 0) 65 ((wr S 64 (S.1 61 2).toNatClampNeg 0).1 61 2).toNatClampNeg 0).1 61 2).toNatClampNeg r3) 67 ((wr (wr (wr S 64 (S.1 61 2).toNatClampNeg 0) 65 ((wr S 64 (S.1 61 2).toNatClampNeg 0).1 61 2).toNatClampNeg 0) 66 ((wr (wr S 64 (S.1 61 2).toNatClampNeg 0) 65 ((wr S 64 (S.1 61 2).toNatClampNeg 0).1 61 2).toNatClampNeg 0).1 61 2).toNatClampNeg r3).1 61 2).toNatClampNeg r6) 61 2 (((wr (wr (wr (wr S 64 (S.1 61 2).toNatClampNeg 0) 65 ((wr S 64 (S.1 61 2).toNatClampNeg 0).1 61 2).toNatClampNeg 0) 66 ((wr (wr S 64 (S.1 61 2).toNatClampNeg 0) 65 ((wr S 64 (S.1 61 2).toNatClampNeg 0).1 61 2).toNatClampNeg 0).1 61 2).toNatClampNeg r3) 67 ((wr (wr (wr S 64 (S.1 61 2).toNatClampNeg 0) 65 ((wr S 64 (S.1 61 2).toNatClampNeg 0).1 61 2).toNatClampNeg 0) 66 ((wr (wr S 64 (S.1 61 2).toNatClampNeg 0) 65 ((wr S 64 (S.1 61 2).toNatClampNeg 0).1 61 2).toNatClampNeg 0).1 61 2).toNatClampNeg r3).1 61 2).toNatClampNeg r6).1 61 2) + 1)) else none)) else none)) else none) else none) else some ((-1), S))
set_option maxRecDepth 100000 in
set_option maxHeartbeats 4000000 in
theorem t_X7_begun {S : Mm} {a2 : Int32} {out : Int32 × Mm} (h : f_X7_begun S a2 = some out) : Rs D_X7_begun [.ref 61, .ref 50, .int a2] S (some (.int out.1)) out.2 := by
  refine rs_of (by decide) rfl (Nat.le_of_ble_eq_true rfl) ?_
  unfold f_X7_begun at h
  show Ok D_X7_begun (0, 0) (0, 0) 0 [(0, .ref 61), (1, .ref 50), (2, .int a2)] [] (St S) _
  refine ok_aload_n dX7_begun_0 0 rfl ?_
  refine okS_getI dX7_begun_1 fl_X7_22 pi_61_2 ?_
  refine ok_bipush (v := 48) dX7_begun_4 bi_48 ?_
  refine ok_icmp_lt (tgt := 11) dX7_begun_6 (by decide) (fun hc => ?_) (fun hc => ?_)
  · replace h := it_pos hc h
    refine ok_aload_n dX7_begun_11 0 rfl ?_
    refine okS_getR dX7_begun_12 fl_X7_19 pr_61_1 ?_
    refine ok_iconst (v := 0) dX7_begun_15 ic_0 ?_
    refine okS_rowL (y := 64) dX7_begun_16 pg_63 (by decide) (by decide) ?_
    refine ok_aload_n dX7_begun_17 0 rfl ?_
    refine okS_getI dX7_begun_18 fl_X7_22 pi_61_2 ?_
    refine ok_iconst (v := 0) dX7_begun_21 ic_0 ?_
    obtain ⟨hi1, h⟩ := it_some h
    refine okS_iastore dX7_begun_22 pa_64 hi1 ?_
    refine ok_aload_n dX7_begun_23 0 rfl ?_
    refine okS_getR dX7_begun_24 fl_X7_19 pr_61_1 ?_
    refine ok_iconst (v := 1) dX7_begun_27 ic_1 ?_
    refine okS_rowL (y := 65) dX7_begun_28 pg_63 (by decide) (by decide) ?_
    refine ok_aload_n dX7_begun_29 0 rfl ?_
    refine okS_getI dX7_begun_30 fl_X7_22 pi_61_2 ?_
    refine ok_iconst (v := 0) dX7_begun_33 ic_0 ?_
    obtain ⟨hi2, h⟩ := it_some h
    refine okS_iastore dX7_begun_34 pa_65 hi2 ?_
    refine ok_aload_n dX7_begun_35 0 rfl ?_
    refine okS_getR dX7_begun_36 fl_X7_19 pr_61_1 ?_
    refine ok_iconst (v := 2) dX7_begun_39 ic_2 ?_
    refine okS_rowL (y := 66) dX7_begun_40 pg_63 (by decide) (by decide) ?_
    refine ok_aload_n dX7_begun_41 0 rfl ?_
    refine okS_getI dX7_begun_42 fl_X7_22 pi_61_2 ?_
    refine ok_aload_n dX7_begun_45 1 rfl ?_
    refine ok_iload_n dX7_begun_46 2 rfl ?_
    refine ok_iconst (v := 2) dX7_begun_47 ic_2 ?_
    obtain ⟨r3, e4, h⟩ := it_bind h
    refine okS_V (as := [.int a2, .int 2]) (st := [.int ((wr (wr S 64 (S.1 61 2).toNatClampNeg 0) 65 ((wr S 64 (S.1 61 2).toNatClampNeg 0).1 61 2).toNatClampNeg 0).1 61 2), .ref 66]) (r := some (.int r3)) (S' := (wr (wr S 64 (S.1 61 2).toNatClampNeg 0) 65 ((wr S 64 (S.1 61 2).toNatClampNeg 0).1 61 2).toNatClampNeg 0)) dX7_begun_48 cv_X7_81 rfl po_50 (Nat.le_of_ble_eq_true rfl) ⟨⟨by decide, by decide⟩, rfl, rfl⟩ (t_X3_fact e4) ?_
    show Ok D_X7_begun (0, 0) (0, 0) 51 [(0, .ref 61), (1, .ref 50), (2, .int a2)] [.int r3, .int ((wr (wr S 64 (S.1 61 2).toNatClampNeg 0) 65 ((wr S 64 (S.1 61 2).toNatClampNeg 0).1 61 2).toNatClampNeg 0).1 61 2), .ref 66] (St (wr (wr S 64 (S.1 61 2).toNatClampNeg 0) 65 ((wr S 64 (S.1 61 2).toNatClampNeg 0).1 61 2).toNatClampNeg 0)) _
    obtain ⟨hi5, h⟩ := it_some h
    refine okS_iastore dX7_begun_51 pa_66 hi5 ?_
    refine ok_aload_n dX7_begun_52 0 rfl ?_
    refine okS_getR dX7_begun_53 fl_X7_19 pr_61_1 ?_
    refine ok_iconst (v := 3) dX7_begun_56 ic_3 ?_
    refine okS_rowL (y := 67) dX7_begun_57 pg_63 (by decide) (by decide) ?_
    refine ok_aload_n dX7_begun_58 0 rfl ?_
    refine okS_getI dX7_begun_59 fl_X7_22 pi_61_2 ?_
    refine ok_aload_n dX7_begun_62 1 rfl ?_
    refine ok_iload_n dX7_begun_63 2 rfl ?_
    refine ok_iconst (v := 3) dX7_begun_64 ic_3 ?_
    obtain ⟨r6, e7, h⟩ := it_bind h
    refine okS_V (as := [.int a2, .int 3]) (st := [.int ((wr (wr (wr S 64 (S.1 61 2).toNatClampNeg 0) 65 ((wr S 64 (S.1 61 2).toNatClampNeg 0).1 61 2).toNatClampNeg 0) 66 ((wr (wr S 64 (S.1 61 2).toNatClampNeg 0) 65 ((wr S 64 (S.1 61 2).toNatClampNeg 0).1 61 2).toNatClampNeg 0).1 61 2).toNatClampNeg r3).1 61 2), .ref 67]) (r := some (.int r6)) (S' := (wr (wr (wr S 64 (S.1 61 2).toNatClampNeg 0) 65 ((wr S 64 (S.1 61 2).toNatClampNeg 0).1 61 2).toNatClampNeg 0) 66 ((wr (wr S 64 (S.1 61 2).toNatClampNeg 0) 65 ((wr S 64 (S.1 61 2).toNatClampNeg 0).1 61 2).toNatClampNeg 0).1 61 2).toNatClampNeg r3)) dX7_begun_65 cv_X7_81 rfl po_50 (Nat.le_of_ble_eq_true rfl) ⟨⟨by decide, by decide⟩, rfl, rfl⟩ (t_X3_fact e7) ?_
    show Ok D_X7_begun (0, 0) (0, 0) 68 [(0, .ref 61), (1, .ref 50), (2, .int a2)] [.int r6, .int ((wr (wr (wr S 64 (S.1 61 2).toNatClampNeg 0) 65 ((wr S 64 (S.1 61 2).toNatClampNeg 0).1 61 2).toNatClampNeg 0) 66 ((wr (wr S 64 (S.1 61 2).toNatClampNeg 0) 65 ((wr S 64 (S.1 61 2).toNatClampNeg 0).1 61 2).toNatClampNeg 0).1 61 2).toNatClampNeg r3).1 61 2), .ref 67] (St (wr (wr (wr S 64 (S.1 61 2).toNatClampNeg 0) 65 ((wr S 64 (S.1 61 2).toNatClampNeg 0).1 61 2).toNatClampNeg 0) 66 ((wr (wr S 64 (S.1 61 2).toNatClampNeg 0) 65 ((wr S 64 (S.1 61 2).toNatClampNeg 0).1 61 2).toNatClampNeg 0).1 61 2).toNatClampNeg r3)) _
    obtain ⟨hi8, h⟩ := it_some h
    refine okS_iastore dX7_begun_68 pa_67 hi8 ?_
    refine ok_aload_n dX7_begun_69 0 rfl ?_
    refine ok_dup dX7_begun_70 rfl ?_
    refine okS_getI dX7_begun_71 fl_X7_22 pi_61_2 ?_
    refine ok_iconst (v := 1) dX7_begun_74 ic_1 ?_
    refine ok_iadd dX7_begun_75 ?_
    refine okS_putI dX7_begun_76 fl_X7_22 pi_61_2 ⟨rfl, rfl⟩ ?_
    refine ok_aload_n dX7_begun_79 0 rfl ?_
    refine okS_getI dX7_begun_80 fl_X7_22 pi_61_2 ?_
    refine ok_iconst (v := 1) dX7_begun_83 ic_1 ?_
    refine ok_isub dX7_begun_84 ?_
    exact okS_ret dX7_begun_85 rfl rfl (by have e := Option.some.inj h; subst e; exact ⟨rfl, rfl⟩)
  · replace h := it_neg hc h
    refine ok_iconst (v := (-1)) dX7_begun_9 ic_m1 ?_
    exact okS_ret dX7_begun_10 rfl rfl (by have e := Option.some.inj h; subst e; exact ⟨rfl, rfl⟩)
def f_X7_has (S : Mm) (a1 : Int32) : Option (Int32) :=
  (if a1 < 0 then some 0 else (if (S.1 61 2) ≤ a1 then some 0 else some 1))
set_option maxRecDepth 100000 in
set_option maxHeartbeats 4000000 in
theorem t_X7_has {S : Mm} {a1 : Int32} {out : Int32} (h : f_X7_has S a1 = some out) : Rs D_X7_has [.ref 61, .int a1] S (some (.int out)) S := by
  refine rs_of (by decide) rfl (Nat.le_of_ble_eq_true rfl) ?_
  unfold f_X7_has at h
  show Ok D_X7_has (0, 0) (0, 0) 0 [(0, .ref 61), (1, .int a1)] [] (St S) _
  refine ok_iload_n dX7_has_0 1 rfl ?_
  refine ok_if_lt (tgt := 16) dX7_has_1 (by decide) (fun hc => ?_) (fun hc => ?_)
  · replace h := it_pos hc h
    refine ok_iconst (v := 0) dX7_has_16 ic_0 ?_
    exact okS_ret dX7_has_17 rfl (by decide) (by have e := Option.some.inj h; subst e; exact ⟨rfl, rfl⟩)
  · replace h := it_neg hc h
    refine ok_iload_n dX7_has_4 1 rfl ?_
    refine ok_aload_n dX7_has_5 0 rfl ?_
    refine okS_getI dX7_has_6 fl_X7_22 pi_61_2 ?_
    refine ok_icmp_ge (tgt := 16) dX7_has_9 (by decide) (fun hc => ?_) (fun hc => ?_)
    · replace h := it_pos hc h
      refine ok_iconst (v := 0) dX7_has_16 ic_0 ?_
      exact okS_ret dX7_has_17 rfl (by decide) (by have e := Option.some.inj h; subst e; exact ⟨rfl, rfl⟩)
    · replace h := it_neg hc h
      refine ok_iconst (v := 1) dX7_has_12 ic_1 ?_
      refine ok_goto (tgt := 17) dX7_has_13 (by decide) ?_
      exact okS_ret dX7_has_17 rfl (by decide) (by have e := Option.some.inj h; subst e; exact ⟨rfl, rfl⟩)
def f_X7_grow (S : Mm) (a1 : Int32) (a3 : Int32) : Option (Mm) :=
  ((f_X7_has S a1).bind fun r1 => (if r1 = 0 then some S else (if inb a1 48 then (if inb a1 48 then (if inb a1 48 then ((f_X3_setOf (wr S 64 a1.toNatClampNeg ((S.1 64 a1.toNatClampNeg) + 1)) a3).bind fun r6 => (if inb a1 48 then (if inb a1 48 then ((f_X3_fact (wr (wr S 64 a1.toNatClampNeg ((S.1 64 a1.toNatClampNeg) + 1)) 65 a1.toNatClampNeg (((wr S 64 a1.toNatClampNeg ((S.1 64 a1.toNatClampNeg) + 1)).1 65 a1.toNatClampNeg) ||| r6)) a3 2).bind fun r10 => (if inb a1 48 then (if inb a1 48 then ((f_X3_fact (wr (wr (wr S 64 a1.toNatClampNeg ((S.1 64 a1.toNatClampNeg) + 1)) 65 a1.toNatClampNeg (((wr S 64 a1.toNatClampNeg ((S.1 64 a1.toNatClampNeg) + 1)).1 65 a1.toNatClampNeg) ||| r6)) 66 a1.toNatClampNeg (if r10 < ((wr (wr S 64 a1.toNatClampNeg ((S.1 64 a1.toNatClampNeg) + 1)) 65 a1.toNatClampNeg (((wr S 64 a1.toNatClampNeg ((S.1 64 a1.toNatClampNeg) + 1)).1 65 a1.toNatClampNeg) ||| r6)).1 66 a1.toNatClampNeg) then r10 else ((wr (wr S 64 a1.toNatClampNeg ((S.1 64 a1.toNatClampNeg) + 1)) 65 a1.toNatClampNeg (((wr S 64 a1.toNatClampNeg ((S.1 64 a1.toNatClampNeg) + 1)).1 65 a1.toNatClampNeg) ||| r6)).1 66 a1.toNatClampNeg))) a3 3).bind fun r14 => (if inb a1 48 then some (wr (wr (wr (wr S 64 a1.toNatClampNeg ((S.1 64 a1.toNatClampNeg) + 1)) 65 a1.toNatClampNeg (((wr S 64 a1.toNatClampNeg ((S.1 64 a1.toNatClampNeg) + 1)).1 65 a1.toNatClampNeg) ||| r6)) 66 a1.toNatClampNeg (if r10 < ((wr (wr S 64 a1.toNatClampNeg ((S.1 64 a1.toNatClampNeg) + 1)) 65 a1.toNatClampNeg (((wr S 64 a1.toNatClampNeg ((S.1 64 a1.toNatClampNeg) + 1)).1 65 a1.toNatClampNeg) ||| r6)).1 66 a1.toNatClampNeg) then r10 else ((wr (wr S 64 a1.toNatClampNeg ((S.1 64 a1.toNatClampNeg) + 1)) 65 a1.toNatClampNeg (((wr S 64 a1.toNatClampNeg ((S.1 64 a1.toNatClampNeg) + 1)).1 65 a1.toNatClampNeg) ||| r6)).1 66 a1.toNatClampNeg))) 67 a1.toNatClampNeg (if ((wr (wr (wr S 64 a1.toNatClampNeg ((S.1 64 a1.toNatClampNeg) + 1)) 65 a1.toNatClampNeg (((wr S 64 a1.toNatClampNeg ((S.1 64 a1.toNatClampNeg) + 1)).1 65 a1.toNatClampNeg) ||| r6)) 66 a1.toNatClampNeg (if r10 < ((wr (wr S 64 a1.toNatClampNeg ((S.1 64 a1.toNatClampNeg) + 1)) 65 a1.toNatClampNeg (((wr S 64 a1.toNatClampNeg ((S.1 64 a1.toNatClampNeg) + 1)).1 65 a1.toNatClampNeg) ||| r6)).1 66 a1.toNatClampNeg) then r10 else ((wr (wr S 64 a1.toNatClampNeg ((S.1 64 a1.toNatClampNeg) + 1)) 65 a1.toNatClampNeg (((wr S 64 a1.toNatClampNeg ((S.1 64 a1.toNatClampNeg) + 1)).1 65 a1.toNatClampNeg) ||| r6)).1 66 a1.toNatClampNeg))).1 67 a1.toNatClampNeg) < r14 then r14 else ((wr (wr (wr S 64 a1.toNatClampNeg ((S.1 64 a1.toNatClampNeg) + 1)) 65 a1.toNatClampNeg (((wr S 64 a1.toNatClampNeg ((S.1 64 a1.toNatClampNeg) + 1)).1 65 a1.toNatClampNeg) ||| r6)) 66 a1.toNatClampNeg (if r10 < ((wr (wr S 64 a1.toNatClampNeg ((S.1 64 a1.toNatClampNeg) + 1)) 65 a1.toNatClampNeg (((wr S 64 a1.toNatClampNeg ((S.1 64 a1.toNatClampNeg) + 1)).1 65 a1.toNatClampNeg) ||| r6)).1 66 a1.toNatClampNeg) then r10 else ((wr (wr S 64 a1.toNatClampNeg ((S.1 64 a1.toNatClampNeg) + 1)) 65 a1.toNatClampNeg (((wr S 64 a1.toNatClampNeg ((S.1 64 a1.toNatClampNeg) + 1)).1 65 a1.toNatClampNeg) ||| r6)).1 66 a1.toNatClampNeg))).1 67 a1.toNatClampNeg))) else none)) else none) else none)) else none) else none)) else none) else none) else none)))
set_option maxRecDepth 100000 in
set_option maxHeartbeats 4000000 in
theorem t_X7_grow {S : Mm} {a1 : Int32} {a3 : Int32} {out : Mm} (h : f_X7_grow S a1 a3 = some out) : Rs D_X7_grow [.ref 61, .int a1, .ref 50, .int a3] S none out := by
  refine rs_of (by decide) rfl (Nat.le_of_ble_eq_true rfl) ?_
  unfold f_X7_grow at h
  show Ok D_X7_grow (0, 0) (0, 0) 0 [(0, .ref 61), (1, .int a1), (2, .ref 50), (3, .int a3)] [] (St S) _
  refine ok_aload_n dX7_grow_0 0 rfl ?_
  refine ok_iload_n dX7_grow_1 1 rfl ?_
  obtain ⟨r1, e2, h⟩ := it_bind h
  refine okS_V (as := [.int a1]) (st := []) (r := some (.int r1)) (S' := S) dX7_grow_2 cv_X7_26 rfl po_61 (Nat.le_of_ble_eq_true rfl) ⟨⟨by decide, by decide⟩, rfl, rfl⟩ (t_X7_has e2) ?_
  show Ok D_X7_grow (0, 0) (0, 0) 5 [(0, .ref 61), (1, .int a1), (2, .ref 50), (3, .int a3)] [.int r1] (St S) _
  refine ok_if_ne (tgt := 9) dX7_grow_5 (by decide) (fun hc => ?_) (fun hc => ?_)
  · replace h := it_neg hc h
    refine ok_aload_n dX7_grow_9 0 rfl ?_
    refine okS_getR dX7_grow_10 fl_X7_19 pr_61_1 ?_
    refine ok_iconst (v := 0) dX7_grow_13 ic_0 ?_
    refine okS_rowL (y := 64) dX7_grow_14 pg_63 (by decide) (by decide) ?_
    refine ok_iload_n dX7_grow_15 1 rfl ?_
    refine ok_dup2 dX7_grow_16 rfl rfl ?_
    obtain ⟨hi3, h⟩ := it_some h
    refine okS_iaload dX7_grow_17 pa_64 hi3 ?_
    refine ok_iconst (v := 1) dX7_grow_18 ic_1 ?_
    refine ok_iadd dX7_grow_19 ?_
    obtain ⟨hi4, h⟩ := it_some h
    refine okS_iastore dX7_grow_20 pa_64 hi4 ?_
    refine ok_aload_n dX7_grow_21 0 rfl ?_
    refine okS_getR dX7_grow_22 fl_X7_19 pr_61_1 ?_
    refine ok_iconst (v := 1) dX7_grow_25 ic_1 ?_
    refine okS_rowL (y := 65) dX7_grow_26 pg_63 (by decide) (by decide) ?_
    refine ok_iload_n dX7_grow_27 1 rfl ?_
    refine ok_dup2 dX7_grow_28 rfl rfl ?_
    obtain ⟨hi5, h⟩ := it_some h
    refine okS_iaload dX7_grow_29 pa_65 hi5 ?_
    refine ok_aload_n dX7_grow_30 2 rfl ?_
    refine ok_iload_n dX7_grow_31 3 rfl ?_
    obtain ⟨r6, e7, h⟩ := it_bind h
    refine okS_V (as := [.int a3]) (st := [.int ((wr S 64 a1.toNatClampNeg ((S.1 64 a1.toNatClampNeg) + 1)).1 65 a1.toNatClampNeg), .int a1, .ref 65]) (r := some (.int r6)) (S' := (wr S 64 a1.toNatClampNeg ((S.1 64 a1.toNatClampNeg) + 1))) dX7_grow_32 cv_X7_63 rfl po_50 (Nat.le_of_ble_eq_true rfl) ⟨⟨by decide, by decide⟩, rfl, rfl⟩ (t_X3_setOf e7) ?_
    show Ok D_X7_grow (0, 0) (0, 0) 35 [(0, .ref 61), (1, .int a1), (2, .ref 50), (3, .int a3)] [.int r6, .int ((wr S 64 a1.toNatClampNeg ((S.1 64 a1.toNatClampNeg) + 1)).1 65 a1.toNatClampNeg), .int a1, .ref 65] (St (wr S 64 a1.toNatClampNeg ((S.1 64 a1.toNatClampNeg) + 1))) _
    refine ok_ior dX7_grow_35 ?_
    obtain ⟨hi8, h⟩ := it_some h
    refine okS_iastore dX7_grow_36 pa_65 hi8 ?_
    refine ok_aload_n dX7_grow_37 0 rfl ?_
    refine okS_getR dX7_grow_38 fl_X7_19 pr_61_1 ?_
    refine ok_iconst (v := 2) dX7_grow_41 ic_2 ?_
    refine okS_rowL (y := 66) dX7_grow_42 pg_63 (by decide) (by decide) ?_
    refine ok_iload_n dX7_grow_43 1 rfl ?_
    refine ok_aload_n dX7_grow_44 0 rfl ?_
    refine okS_getR dX7_grow_45 fl_X7_19 pr_61_1 ?_
    refine ok_iconst (v := 2) dX7_grow_48 ic_2 ?_
    refine okS_rowL (y := 66) dX7_grow_49 pg_63 (by decide) (by decide) ?_
    refine ok_iload_n dX7_grow_50 1 rfl ?_
    obtain ⟨hi9, h⟩ := it_some h
    refine okS_iaload dX7_grow_51 pa_66 hi9 ?_
    refine ok_aload_n dX7_grow_52 2 rfl ?_
    refine ok_iload_n dX7_grow_53 3 rfl ?_
    refine ok_iconst (v := 2) dX7_grow_54 ic_2 ?_
    obtain ⟨r10, e11, h⟩ := it_bind h
    refine okS_V (as := [.int a3, .int 2]) (st := [.int ((wr (wr S 64 a1.toNatClampNeg ((S.1 64 a1.toNatClampNeg) + 1)) 65 a1.toNatClampNeg (((wr S 64 a1.toNatClampNeg ((S.1 64 a1.toNatClampNeg) + 1)).1 65 a1.toNatClampNeg) ||| r6)).1 66 a1.toNatClampNeg), .int a1, .ref 66]) (r := some (.int r10)) (S' := (wr (wr S 64 a1.toNatClampNeg ((S.1 64 a1.toNatClampNeg) + 1)) 65 a1.toNatClampNeg (((wr S 64 a1.toNatClampNeg ((S.1 64 a1.toNatClampNeg) + 1)).1 65 a1.toNatClampNeg) ||| r6))) dX7_grow_55 cv_X7_81 rfl po_50 (Nat.le_of_ble_eq_true rfl) ⟨⟨by decide, by decide⟩, rfl, rfl⟩ (t_X3_fact e11) ?_
    show Ok D_X7_grow (0, 0) (0, 0) 58 [(0, .ref 61), (1, .int a1), (2, .ref 50), (3, .int a3)] [.int r10, .int ((wr (wr S 64 a1.toNatClampNeg ((S.1 64 a1.toNatClampNeg) + 1)) 65 a1.toNatClampNeg (((wr S 64 a1.toNatClampNeg ((S.1 64 a1.toNatClampNeg) + 1)).1 65 a1.toNatClampNeg) ||| r6)).1 66 a1.toNatClampNeg), .int a1, .ref 66] (St (wr (wr S 64 a1.toNatClampNeg ((S.1 64 a1.toNatClampNeg) + 1)) 65 a1.toNatClampNeg (((wr S 64 a1.toNatClampNeg ((S.1 64 a1.toNatClampNeg) + 1)).1 65 a1.toNatClampNeg) ||| r6))) _
    refine ok_min dX7_grow_58 cv_X7_68 ⟨by decide, Nat.le_of_ble_eq_true rfl, by decide, by decide⟩ ?_
    obtain ⟨hi12, h⟩ := it_some h
    refine okS_iastore dX7_grow_61 pa_66 hi12 ?_
    refine ok_aload_n dX7_grow_62 0 rfl ?_
    refine okS_getR dX7_grow_63 fl_X7_19 pr_61_1 ?_
    refine ok_iconst (v := 3) dX7_grow_66 ic_3 ?_
    refine okS_rowL (y := 67) dX7_grow_67 pg_63 (by decide) (by decide) ?_
    refine ok_iload_n dX7_grow_68 1 rfl ?_
    refine ok_aload_n dX7_grow_69 0 rfl ?_
    refine okS_getR dX7_grow_70 fl_X7_19 pr_61_1 ?_
    refine ok_iconst (v := 3) dX7_grow_73 ic_3 ?_
    refine okS_rowL (y := 67) dX7_grow_74 pg_63 (by decide) (by decide) ?_
    refine ok_iload_n dX7_grow_75 1 rfl ?_
    obtain ⟨hi13, h⟩ := it_some h
    refine okS_iaload dX7_grow_76 pa_67 hi13 ?_
    refine ok_aload_n dX7_grow_77 2 rfl ?_
    refine ok_iload_n dX7_grow_78 3 rfl ?_
    refine ok_iconst (v := 3) dX7_grow_79 ic_3 ?_
    obtain ⟨r14, e15, h⟩ := it_bind h
    refine okS_V (as := [.int a3, .int 3]) (st := [.int ((wr (wr (wr S 64 a1.toNatClampNeg ((S.1 64 a1.toNatClampNeg) + 1)) 65 a1.toNatClampNeg (((wr S 64 a1.toNatClampNeg ((S.1 64 a1.toNatClampNeg) + 1)).1 65 a1.toNatClampNeg) ||| r6)) 66 a1.toNatClampNeg (if r10 < ((wr (wr S 64 a1.toNatClampNeg ((S.1 64 a1.toNatClampNeg) + 1)) 65 a1.toNatClampNeg (((wr S 64 a1.toNatClampNeg ((S.1 64 a1.toNatClampNeg) + 1)).1 65 a1.toNatClampNeg) ||| r6)).1 66 a1.toNatClampNeg) then r10 else ((wr (wr S 64 a1.toNatClampNeg ((S.1 64 a1.toNatClampNeg) + 1)) 65 a1.toNatClampNeg (((wr S 64 a1.toNatClampNeg ((S.1 64 a1.toNatClampNeg) + 1)).1 65 a1.toNatClampNeg) ||| r6)).1 66 a1.toNatClampNeg))).1 67 a1.toNatClampNeg), .int a1, .ref 67]) (r := some (.int r14)) (S' := (wr (wr (wr S 64 a1.toNatClampNeg ((S.1 64 a1.toNatClampNeg) + 1)) 65 a1.toNatClampNeg (((wr S 64 a1.toNatClampNeg ((S.1 64 a1.toNatClampNeg) + 1)).1 65 a1.toNatClampNeg) ||| r6)) 66 a1.toNatClampNeg (if r10 < ((wr (wr S 64 a1.toNatClampNeg ((S.1 64 a1.toNatClampNeg) + 1)) 65 a1.toNatClampNeg (((wr S 64 a1.toNatClampNeg ((S.1 64 a1.toNatClampNeg) + 1)).1 65 a1.toNatClampNeg) ||| r6)).1 66 a1.toNatClampNeg) then r10 else ((wr (wr S 64 a1.toNatClampNeg ((S.1 64 a1.toNatClampNeg) + 1)) 65 a1.toNatClampNeg (((wr S 64 a1.toNatClampNeg ((S.1 64 a1.toNatClampNeg) + 1)).1 65 a1.toNatClampNeg) ||| r6)).1 66 a1.toNatClampNeg)))) dX7_grow_80 cv_X7_81 rfl po_50 (Nat.le_of_ble_eq_true rfl) ⟨⟨by decide, by decide⟩, rfl, rfl⟩ (t_X3_fact e15) ?_
    show Ok D_X7_grow (0, 0) (0, 0) 83 [(0, .ref 61), (1, .int a1), (2, .ref 50), (3, .int a3)] [.int r14, .int ((wr (wr (wr S 64 a1.toNatClampNeg ((S.1 64 a1.toNatClampNeg) + 1)) 65 a1.toNatClampNeg (((wr S 64 a1.toNatClampNeg ((S.1 64 a1.toNatClampNeg) + 1)).1 65 a1.toNatClampNeg) ||| r6)) 66 a1.toNatClampNeg (if r10 < ((wr (wr S 64 a1.toNatClampNeg ((S.1 64 a1.toNatClampNeg) + 1)) 65 a1.toNatClampNeg (((wr S 64 a1.toNatClampNeg ((S.1 64 a1.toNatClampNeg) + 1)).1 65 a1.toNatClampNeg) ||| r6)).1 66 a1.toNatClampNeg) then r10 else ((wr (wr S 64 a1.toNatClampNeg ((S.1 64 a1.toNatClampNeg) + 1)) 65 a1.toNatClampNeg (((wr S 64 a1.toNatClampNeg ((S.1 64 a1.toNatClampNeg) + 1)).1 65 a1.toNatClampNeg) ||| r6)).1 66 a1.toNatClampNeg))).1 67 a1.toNatClampNeg), .int a1, .ref 67] (St (wr (wr (wr S 64 a1.toNatClampNeg ((S.1 64 a1.toNatClampNeg) + 1)) 65 a1.toNatClampNeg (((wr S 64 a1.toNatClampNeg ((S.1 64 a1.toNatClampNeg) + 1)).1 65 a1.toNatClampNeg) ||| r6)) 66 a1.toNatClampNeg (if r10 < ((wr (wr S 64 a1.toNatClampNeg ((S.1 64 a1.toNatClampNeg) + 1)) 65 a1.toNatClampNeg (((wr S 64 a1.toNatClampNeg ((S.1 64 a1.toNatClampNeg) + 1)).1 65 a1.toNatClampNeg) ||| r6)).1 66 a1.toNatClampNeg) then r10 else ((wr (wr S 64 a1.toNatClampNeg ((S.1 64 a1.toNatClampNeg) + 1)) 65 a1.toNatClampNeg (((wr S 64 a1.toNatClampNeg ((S.1 64 a1.toNatClampNeg) + 1)).1 65 a1.toNatClampNeg) ||| r6)).1 66 a1.toNatClampNeg)))) _
    refine ok_max dX7_grow_83 cv_X7_74 ⟨by decide, Nat.le_of_ble_eq_true rfl, by decide, by decide⟩ ?_
    obtain ⟨hi16, h⟩ := it_some h
    refine okS_iastore dX7_grow_86 pa_67 hi16 ?_
    exact okS_retv dX7_grow_87 rfl (by have e := Option.some.inj h; subst e; exact ⟨rfl, rfl⟩)
  · replace h := it_pos hc h
    exact okS_retv dX7_grow_8 rfl (by have e := Option.some.inj h; subst e; exact ⟨rfl, rfl⟩)
def lp_X7_numberHeaps_7 (k : Int32 → Mm → Option (Mm)) : Nat → Int32 → Mm → Option (Mm)
  | 0, _, _ => none
  | fuel + 1, x2, S => ((f_X3_number S).bind fun r1 => (if r1 ≤ x2 then k x2 S else ((f_X3_isAtOne S x2).bind fun r3 => (if r3 = 0 then lp_X7_numberHeaps_7 k fuel (x2 + 1) S else (if inb x2 144 then (if (S.1 62 x2.toNatClampNeg) = x2 then ((f_X7_begun S x2).bind fun r13 => ((f_X3_putStory r13.2 x2 r13.1).bind fun r15 => ((f_X7_grow r15 r13.1 x2).bind fun r17 => lp_X7_numberHeaps_7 k fuel (x2 + 1) r17))) else (if inb x2 144 then ((f_X3_fact S (S.1 62 x2.toNatClampNeg) 8).bind fun r7 => ((f_X3_putStory S x2 r7).bind fun r9 => ((f_X7_grow r9 r7 x2).bind fun r11 => lp_X7_numberHeaps_7 k fuel (x2 + 1) r11))) else none)) else none)))))
def f_X7_numberHeaps (S : Mm)  : Option (Mm) :=
  lp_X7_numberHeaps_7 (fun y2_19 S20 => some S20) 100000 0 (wr S 61 2 0)
set_option maxRecDepth 100000 in
set_option maxHeartbeats 4000000 in
theorem tlp_X7_numberHeaps_7 {k : Int32 → Mm → Option (Mm)} (hk : ∀ (x2 : Int32) (S : Mm) (out : Mm), k x2 S = some out → Ok D_X7_numberHeaps (0, 0) (0, 0) 74 [(0, .ref 61), (1, .ref 50), (2, .int x2)] [] (St S) (An none out)) : ∀ (fuel : Nat) (x2 : Int32) (S : Mm) (out : Mm), lp_X7_numberHeaps_7 k fuel x2 S = some out → Ok D_X7_numberHeaps (0, 0) (0, 0) 7 [(0, .ref 61), (1, .ref 50), (2, .int x2)] [] (St S) (An none out) := by
  intro fuel
  induction fuel with
  | zero => intro x2 S out h; cases h
  | succ fuel ih =>
    intro x2 S out h
    rw [lp_X7_numberHeaps_7] at h
    refine ok_iload_n dX7_numberHeaps_7 2 rfl ?_
    refine ok_aload_n dX7_numberHeaps_8 1 rfl ?_
    obtain ⟨r1, e2, h⟩ := it_bind h
    refine okS_V (as := []) (st := [.int x2]) (r := some (.int r1)) (S' := S) dX7_numberHeaps_9 cv_X7_33 rfl po_50 (Nat.le_of_ble_eq_true rfl) ⟨⟨by decide, by decide⟩, rfl, rfl⟩ (t_X3_number e2) ?_
    show Ok D_X7_numberHeaps (0, 0) (0, 0) 12 [(0, .ref 61), (1, .ref 50), (2, .int x2)] [.int r1, .int x2] (St S) _
    refine ok_icmp_ge (tgt := 74) dX7_numberHeaps_12 (by decide) (fun hc => ?_) (fun hc => ?_)
    · replace h := it_pos hc h
      refine ok_perm [0, 1, 2] rfl ?_
      exact hk _ _ _ h
    · replace h := it_neg hc h
      refine ok_aload_n dX7_numberHeaps_15 1 rfl ?_
      refine ok_iload_n dX7_numberHeaps_16 2 rfl ?_
      obtain ⟨r3, e4, h⟩ := it_bind h
      refine okS_V (as := [.int x2]) (st := []) (r := some (.int r3)) (S' := S) dX7_numberHeaps_17 cv_X7_36 rfl po_50 (Nat.le_of_ble_eq_true rfl) ⟨⟨by decide, by decide⟩, rfl, rfl⟩ (t_X3_isAtOne e4) ?_
      show Ok D_X7_numberHeaps (0, 0) (0, 0) 20 [(0, .ref 61), (1, .ref 50), (2, .int x2)] [.int r3] (St S) _
      refine ok_if_eq (tgt := 68) dX7_numberHeaps_20 (by decide) (fun hc => ?_) (fun hc => ?_)
      · replace h := it_pos hc h
        refine ok_iinc (v := x2 + 1) (L' := [(2, .int (x2 + 1)), (0, .ref 61), (1, .ref 50)]) dX7_numberHeaps_68 2 rfl (ii_1 _) (by decide) rfl ?_
        refine ok_goto (tgt := 7) dX7_numberHeaps_71 (by decide) ?_
        refine ok_perm [1, 2, 0] rfl ?_
        exact ih _ _ _ h
      · replace h := it_neg hc h
        refine ok_aload_n dX7_numberHeaps_23 0 rfl ?_
        refine okS_getR dX7_numberHeaps_24 fl_X7_11 pr_61_0 ?_
        refine ok_iload_n dX7_numberHeaps_27 2 rfl ?_
        obtain ⟨hi5, h⟩ := it_some h
        refine okS_iaload dX7_numberHeaps_28 pa_62 hi5 ?_
        refine ok_iload_n dX7_numberHeaps_29 2 rfl ?_
        refine ok_icmp_ne (tgt := 42) dX7_numberHeaps_30 (by decide) (fun hc => ?_) (fun hc => ?_)
        · replace h := it_neg hc h
          refine ok_aload_n dX7_numberHeaps_42 1 rfl ?_
          refine ok_aload_n dX7_numberHeaps_43 0 rfl ?_
          refine okS_getR dX7_numberHeaps_44 fl_X7_11 pr_61_0 ?_
          refine ok_iload_n dX7_numberHeaps_47 2 rfl ?_
          obtain ⟨hi6, h⟩ := it_some h
          refine okS_iaload dX7_numberHeaps_48 pa_62 hi6 ?_
          refine ok_bipush (v := 8) dX7_numberHeaps_49 bi_8 ?_
          obtain ⟨r7, e8, h⟩ := it_bind h
          refine okS_V (as := [.int (S.1 62 x2.toNatClampNeg), .int 8]) (st := []) (r := some (.int r7)) (S' := S) dX7_numberHeaps_51 cv_X7_81 rfl po_50 (Nat.le_of_ble_eq_true rfl) ⟨⟨by decide, by decide⟩, rfl, rfl⟩ (t_X3_fact e8) ?_
          show Ok D_X7_numberHeaps (0, 0) (0, 0) 54 [(0, .ref 61), (1, .ref 50), (2, .int x2)] [.int r7] (St S) _
          refine ok_istore_n (L' := [(3, .int r7), (0, .ref 61), (1, .ref 50), (2, .int x2)]) dX7_numberHeaps_54 (by decide) rfl ?_
          refine ok_aload_n dX7_numberHeaps_55 2 rfl ?_
          refine ok_iload_n dX7_numberHeaps_56 3 rfl ?_
          refine ok_iload_n dX7_numberHeaps_57 0 rfl ?_
          obtain ⟨r9, e10, h⟩ := it_bind h
          refine okS_V (as := [.int x2, .int r7]) (st := []) (r := none) (S' := r9) dX7_numberHeaps_58 cv_X7_84 rfl po_50 (Nat.le_of_ble_eq_true rfl) ⟨⟨by decide, by decide⟩, rfl, rfl⟩ (t_X3_putStory e10) ?_
          show Ok D_X7_numberHeaps (0, 0) (0, 0) 61 [(3, .int r7), (0, .ref 61), (1, .ref 50), (2, .int x2)] [] (St r9) _
          refine ok_aload_n dX7_numberHeaps_61 1 rfl ?_
          refine ok_iload_n dX7_numberHeaps_62 0 rfl ?_
          refine ok_aload_n dX7_numberHeaps_63 2 rfl ?_
          refine ok_iload_n dX7_numberHeaps_64 3 rfl ?_
          obtain ⟨r11, e12, h⟩ := it_bind h
          refine okS_V (as := [.int r7, .ref 50, .int x2]) (st := []) (r := none) (S' := r11) dX7_numberHeaps_65 cv_X7_88 rfl po_61 (Nat.le_of_ble_eq_true rfl) ⟨⟨by decide, by decide⟩, rfl, rfl⟩ (t_X7_grow e12) ?_
          show Ok D_X7_numberHeaps (0, 0) (0, 0) 68 [(3, .int r7), (0, .ref 61), (1, .ref 50), (2, .int x2)] [] (St r11) _
          refine ok_iinc (v := x2 + 1) (L' := [(2, .int (x2 + 1)), (3, .int r7), (0, .ref 61), (1, .ref 50)]) dX7_numberHeaps_68 3 rfl (ii_1 _) (by decide) rfl ?_
          refine ok_goto (tgt := 7) dX7_numberHeaps_71 (by decide) ?_
          refine ok_perm [2, 3, 0] rfl ?_
          exact ih _ _ _ h
        · replace h := it_pos hc h
          refine ok_aload_n dX7_numberHeaps_33 0 rfl ?_
          refine ok_aload_n dX7_numberHeaps_34 1 rfl ?_
          refine ok_iload_n dX7_numberHeaps_35 2 rfl ?_
          obtain ⟨r13, e14, h⟩ := it_bind h
          refine okS_V (as := [.ref 50, .int x2]) (st := []) (r := some (.int r13.1)) (S' := r13.2) dX7_numberHeaps_36 cv_X7_77 rfl po_61 (Nat.le_of_ble_eq_true rfl) ⟨⟨by decide, by decide⟩, rfl, rfl⟩ (t_X7_begun e14) ?_
          show Ok D_X7_numberHeaps (0, 0) (0, 0) 39 [(0, .ref 61), (1, .ref 50), (2, .int x2)] [.int r13.1] (St r13.2) _
          refine ok_goto (tgt := 54) dX7_numberHeaps_39 (by decide) ?_
          refine ok_istore_n (L' := [(3, .int r13.1), (0, .ref 61), (1, .ref 50), (2, .int x2)]) dX7_numberHeaps_54 (by decide) rfl ?_
          refine ok_aload_n dX7_numberHeaps_55 2 rfl ?_
          refine ok_iload_n dX7_numberHeaps_56 3 rfl ?_
          refine ok_iload_n dX7_numberHeaps_57 0 rfl ?_
          obtain ⟨r15, e16, h⟩ := it_bind h
          refine okS_V (as := [.int x2, .int r13.1]) (st := []) (r := none) (S' := r15) dX7_numberHeaps_58 cv_X7_84 rfl po_50 (Nat.le_of_ble_eq_true rfl) ⟨⟨by decide, by decide⟩, rfl, rfl⟩ (t_X3_putStory e16) ?_
          show Ok D_X7_numberHeaps (0, 0) (0, 0) 61 [(3, .int r13.1), (0, .ref 61), (1, .ref 50), (2, .int x2)] [] (St r15) _
          refine ok_aload_n dX7_numberHeaps_61 1 rfl ?_
          refine ok_iload_n dX7_numberHeaps_62 0 rfl ?_
          refine ok_aload_n dX7_numberHeaps_63 2 rfl ?_
          refine ok_iload_n dX7_numberHeaps_64 3 rfl ?_
          obtain ⟨r17, e18, h⟩ := it_bind h
          refine okS_V (as := [.int r13.1, .ref 50, .int x2]) (st := []) (r := none) (S' := r17) dX7_numberHeaps_65 cv_X7_88 rfl po_61 (Nat.le_of_ble_eq_true rfl) ⟨⟨by decide, by decide⟩, rfl, rfl⟩ (t_X7_grow e18) ?_
          show Ok D_X7_numberHeaps (0, 0) (0, 0) 68 [(3, .int r13.1), (0, .ref 61), (1, .ref 50), (2, .int x2)] [] (St r17) _
          refine ok_iinc (v := x2 + 1) (L' := [(2, .int (x2 + 1)), (3, .int r13.1), (0, .ref 61), (1, .ref 50)]) dX7_numberHeaps_68 3 rfl (ii_1 _) (by decide) rfl ?_
          refine ok_goto (tgt := 7) dX7_numberHeaps_71 (by decide) ?_
          refine ok_perm [2, 3, 0] rfl ?_
          exact ih _ _ _ h
set_option maxRecDepth 100000 in
set_option maxHeartbeats 4000000 in
theorem t_X7_numberHeaps {S : Mm} {out : Mm} (h : f_X7_numberHeaps S  = some out) : Rs D_X7_numberHeaps [.ref 61, .ref 50] S none out := by
  refine rs_of (by decide) rfl (Nat.le_of_ble_eq_true rfl) ?_
  unfold f_X7_numberHeaps at h
  show Ok D_X7_numberHeaps (0, 0) (0, 0) 0 [(0, .ref 61), (1, .ref 50)] [] (St S) _
  refine ok_aload_n dX7_numberHeaps_0 0 rfl ?_
  refine ok_iconst (v := 0) dX7_numberHeaps_1 ic_0 ?_
  refine okS_putI dX7_numberHeaps_2 fl_X7_22 pi_61_2 ⟨rfl, rfl⟩ ?_
  refine ok_iconst (v := 0) dX7_numberHeaps_5 ic_0 ?_
  refine ok_istore_n (L' := [(2, .int 0), (0, .ref 61), (1, .ref 50)]) dX7_numberHeaps_6 (by decide) rfl ?_
  refine ok_perm [1, 2, 0] rfl ?_
  refine tlp_X7_numberHeaps_7 (fun y2_19 S20 out21 h => ?_) _ _ _ _ h
  exact okS_retv dX7_numberHeaps_74 rfl (by have e := Option.some.inj h; subst e; exact ⟨rfl, rfl⟩)
def lp_X7_findAll_2 (k : Int32 → Mm → Option (Mm)) : Nat → Int32 → Mm → Option (Mm)
  | 0, _, _ => none
  | fuel + 1, x3, S => ((f_X3_number S).bind fun r1 => (if r1 ≤ x3 then k x3 S else ((f_X3_isAtOne S x3).bind fun r3 => (if r3 = 0 then (if inb x3 144 then lp_X7_findAll_2 k fuel (x3 + 1) (wr S 62 x3.toNatClampNeg (-1)) else none) else (if inb x3 144 then lp_X7_findAll_2 k fuel (x3 + 1) (wr S 62 x3.toNatClampNeg x3) else none)))))
def lp_X7_findAll_37 (k : Int32 → Mm → Option (Mm)) : Nat → Int32 → Mm → Option (Mm)
  | 0, _, _ => none
  | fuel + 1, x3, S => ((f_X6_count S).bind fun r10 => (if r10 ≤ x3 then k x3 S else ((f_X6_dayOf S x3).bind fun r12 => ((f_X6_setOf S x3).bind fun r14 => ((f_X7_tieBy S r12 r14).bind fun r16 => lp_X7_findAll_37 k fuel (x3 + 1) r16)))))
def f_X7_findAll (S : Mm)  : Option (Mm) :=
  lp_X7_findAll_2 (fun y3_7 S8 => lp_X7_findAll_37 (fun y3_18 S19 => ((f_X7_numberHeaps S19).bind fun r21 => some r21)) 100000 0 S8) 100000 0 S
set_option maxRecDepth 100000 in
set_option maxHeartbeats 4000000 in
theorem tlp_X7_findAll_2 {k : Int32 → Mm → Option (Mm)} (hk : ∀ (x3 : Int32) (S : Mm) (out : Mm), k x3 S = some out → Ok D_X7_findAll (0, 0) (0, 0) 35 [(0, .ref 61), (1, .ref 1), (2, .ref 50), (3, .int x3)] [] (St S) (An none out)) : ∀ (fuel : Nat) (x3 : Int32) (S : Mm) (out : Mm), lp_X7_findAll_2 k fuel x3 S = some out → Ok D_X7_findAll (0, 0) (0, 0) 2 [(0, .ref 61), (1, .ref 1), (2, .ref 50), (3, .int x3)] [] (St S) (An none out) := by
  intro fuel
  induction fuel with
  | zero => intro x3 S out h; cases h
  | succ fuel ih =>
    intro x3 S out h
    rw [lp_X7_findAll_2] at h
    refine ok_iload_n dX7_findAll_2 3 rfl ?_
    refine ok_aload_n dX7_findAll_3 2 rfl ?_
    obtain ⟨r1, e2, h⟩ := it_bind h
    refine okS_V (as := []) (st := [.int x3]) (r := some (.int r1)) (S' := S) dX7_findAll_4 cv_X7_33 rfl po_50 (Nat.le_of_ble_eq_true rfl) ⟨⟨by decide, by decide⟩, rfl, rfl⟩ (t_X3_number e2) ?_
    show Ok D_X7_findAll (0, 0) (0, 0) 7 [(0, .ref 61), (1, .ref 1), (2, .ref 50), (3, .int x3)] [.int r1, .int x3] (St S) _
    refine ok_icmp_ge (tgt := 35) dX7_findAll_7 (by decide) (fun hc => ?_) (fun hc => ?_)
    · replace h := it_pos hc h
      refine ok_perm [0, 1, 2, 3] rfl ?_
      exact hk _ _ _ h
    · replace h := it_neg hc h
      refine ok_aload_n dX7_findAll_10 0 rfl ?_
      refine okS_getR dX7_findAll_11 fl_X7_11 pr_61_0 ?_
      refine ok_iload_n dX7_findAll_14 3 rfl ?_
      refine ok_aload_n dX7_findAll_15 2 rfl ?_
      refine ok_iload_n dX7_findAll_16 3 rfl ?_
      obtain ⟨r3, e4, h⟩ := it_bind h
      refine okS_V (as := [.int x3]) (st := [.int x3, .ref 62]) (r := some (.int r3)) (S' := S) dX7_findAll_17 cv_X7_36 rfl po_50 (Nat.le_of_ble_eq_true rfl) ⟨⟨by decide, by decide⟩, rfl, rfl⟩ (t_X3_isAtOne e4) ?_
      show Ok D_X7_findAll (0, 0) (0, 0) 20 [(0, .ref 61), (1, .ref 1), (2, .ref 50), (3, .int x3)] [.int r3, .int x3, .ref 62] (St S) _
      refine ok_if_eq (tgt := 27) dX7_findAll_20 (by decide) (fun hc => ?_) (fun hc => ?_)
      · replace h := it_pos hc h
        refine ok_iconst (v := (-1)) dX7_findAll_27 ic_m1 ?_
        obtain ⟨hi5, h⟩ := it_some h
        refine okS_iastore dX7_findAll_28 pa_62 hi5 ?_
        refine ok_iinc (v := x3 + 1) (L' := [(3, .int (x3 + 1)), (0, .ref 61), (1, .ref 1), (2, .ref 50)]) dX7_findAll_29 3 rfl (ii_1 _) (by decide) rfl ?_
        refine ok_goto (tgt := 2) dX7_findAll_32 (by decide) ?_
        refine ok_perm [1, 2, 3, 0] rfl ?_
        exact ih _ _ _ h
      · replace h := it_neg hc h
        refine ok_iload_n dX7_findAll_23 3 rfl ?_
        refine ok_goto (tgt := 28) dX7_findAll_24 (by decide) ?_
        obtain ⟨hi6, h⟩ := it_some h
        refine okS_iastore dX7_findAll_28 pa_62 hi6 ?_
        refine ok_iinc (v := x3 + 1) (L' := [(3, .int (x3 + 1)), (0, .ref 61), (1, .ref 1), (2, .ref 50)]) dX7_findAll_29 3 rfl (ii_1 _) (by decide) rfl ?_
        refine ok_goto (tgt := 2) dX7_findAll_32 (by decide) ?_
        refine ok_perm [1, 2, 3, 0] rfl ?_
        exact ih _ _ _ h
set_option maxRecDepth 100000 in
set_option maxHeartbeats 4000000 in
theorem tlp_X7_findAll_37 {k : Int32 → Mm → Option (Mm)} (hk : ∀ (x3 : Int32) (S : Mm) (out : Mm), k x3 S = some out → Ok D_X7_findAll (0, 0) (0, 0) 66 [(0, .ref 61), (1, .ref 1), (2, .ref 50), (3, .int x3)] [] (St S) (An none out)) : ∀ (fuel : Nat) (x3 : Int32) (S : Mm) (out : Mm), lp_X7_findAll_37 k fuel x3 S = some out → Ok D_X7_findAll (0, 0) (0, 0) 37 [(0, .ref 61), (1, .ref 1), (2, .ref 50), (3, .int x3)] [] (St S) (An none out) := by
  intro fuel
  induction fuel with
  | zero => intro x3 S out h; cases h
  | succ fuel ih =>
    intro x3 S out h
    rw [lp_X7_findAll_37] at h
    refine ok_iload_n dX7_findAll_37 3 rfl ?_
    refine ok_aload_n dX7_findAll_38 1 rfl ?_
    obtain ⟨r10, e11, h⟩ := it_bind h
    refine okS_V (as := []) (st := [.int x3]) (r := some (.int r10)) (S' := S) dX7_findAll_39 cv_X7_39 rfl po_1 (Nat.le_of_ble_eq_true rfl) ⟨⟨by decide, by decide⟩, rfl, rfl⟩ (t_X6_count e11) ?_
    show Ok D_X7_findAll (0, 0) (0, 0) 42 [(0, .ref 61), (1, .ref 1), (2, .ref 50), (3, .int x3)] [.int r10, .int x3] (St S) _
    refine ok_icmp_ge (tgt := 66) dX7_findAll_42 (by decide) (fun hc => ?_) (fun hc => ?_)
    · replace h := it_pos hc h
      refine ok_perm [0, 1, 2, 3] rfl ?_
      exact hk _ _ _ h
    · replace h := it_neg hc h
      refine ok_aload_n dX7_findAll_45 0 rfl ?_
      refine ok_aload_n dX7_findAll_46 2 rfl ?_
      refine ok_aload_n dX7_findAll_47 1 rfl ?_
      refine ok_iload_n dX7_findAll_48 3 rfl ?_
      obtain ⟨r12, e13, h⟩ := it_bind h
      refine okS_V (as := [.int x3]) (st := [.ref 50, .ref 61]) (r := some (.int r12)) (S' := S) dX7_findAll_49 cv_X7_44 rfl po_1 (Nat.le_of_ble_eq_true rfl) ⟨⟨by decide, by decide⟩, rfl, rfl⟩ (t_X6_dayOf e13) ?_
      show Ok D_X7_findAll (0, 0) (0, 0) 52 [(0, .ref 61), (1, .ref 1), (2, .ref 50), (3, .int x3)] [.int r12, .ref 50, .ref 61] (St S) _
      refine ok_aload_n dX7_findAll_52 1 rfl ?_
      refine ok_iload_n dX7_findAll_53 3 rfl ?_
      obtain ⟨r14, e15, h⟩ := it_bind h
      refine okS_V (as := [.int x3]) (st := [.int r12, .ref 50, .ref 61]) (r := some (.int r14)) (S' := S) dX7_findAll_54 cv_X7_48 rfl po_1 (Nat.le_of_ble_eq_true rfl) ⟨⟨by decide, by decide⟩, rfl, rfl⟩ (t_X6_setOf e15) ?_
      show Ok D_X7_findAll (0, 0) (0, 0) 57 [(0, .ref 61), (1, .ref 1), (2, .ref 50), (3, .int x3)] [.int r14, .int r12, .ref 50, .ref 61] (St S) _
      obtain ⟨r16, e17, h⟩ := it_bind h
      refine okS_V (as := [.ref 50, .int r12, .int r14]) (st := []) (r := none) (S' := r16) dX7_findAll_57 cv_X7_51 rfl po_61 (Nat.le_of_ble_eq_true rfl) ⟨⟨by decide, by decide⟩, rfl, rfl⟩ (t_X7_tieBy e17) ?_
      show Ok D_X7_findAll (0, 0) (0, 0) 60 [(0, .ref 61), (1, .ref 1), (2, .ref 50), (3, .int x3)] [] (St r16) _
      refine ok_iinc (v := x3 + 1) (L' := [(3, .int (x3 + 1)), (0, .ref 61), (1, .ref 1), (2, .ref 50)]) dX7_findAll_60 3 rfl (ii_1 _) (by decide) rfl ?_
      refine ok_goto (tgt := 37) dX7_findAll_63 (by decide) ?_
      refine ok_perm [1, 2, 3, 0] rfl ?_
      exact ih _ _ _ h
set_option maxRecDepth 100000 in
set_option maxHeartbeats 4000000 in
theorem t_X7_findAll {S : Mm} {out : Mm} (h : f_X7_findAll S  = some out) : Rs D_X7_findAll [.ref 61, .ref 1, .ref 50] S none out := by
  refine rs_of (by decide) rfl (Nat.le_of_ble_eq_true rfl) ?_
  unfold f_X7_findAll at h
  show Ok D_X7_findAll (0, 0) (0, 0) 0 [(0, .ref 61), (1, .ref 1), (2, .ref 50)] [] (St S) _
  refine ok_iconst (v := 0) dX7_findAll_0 ic_0 ?_
  refine ok_istore_n (L' := [(3, .int 0), (0, .ref 61), (1, .ref 1), (2, .ref 50)]) dX7_findAll_1 (by decide) rfl ?_
  refine ok_perm [1, 2, 3, 0] rfl ?_
  refine tlp_X7_findAll_2 (fun y3_7 S8 out9 h => ?_) _ _ _ _ h
  refine ok_iconst (v := 0) dX7_findAll_35 ic_0 ?_
  refine ok_istore_n (L' := [(3, .int 0), (0, .ref 61), (1, .ref 1), (2, .ref 50)]) dX7_findAll_36 (by decide) rfl ?_
  refine ok_perm [1, 2, 3, 0] rfl ?_
  refine tlp_X7_findAll_37 (fun y3_18 S19 out20 h => ?_) _ _ _ _ h
  refine ok_aload_n dX7_findAll_66 0 rfl ?_
  refine ok_aload_n dX7_findAll_67 2 rfl ?_
  obtain ⟨r21, e22, h⟩ := it_bind h
  refine okS_V (as := [.ref 50]) (st := []) (r := none) (S' := r21) dX7_findAll_68 cv_X7_55 rfl po_61 (Nat.le_of_ble_eq_true rfl) ⟨⟨by decide, by decide⟩, rfl, rfl⟩ (t_X7_numberHeaps e22) ?_
  show Ok D_X7_findAll (0, 0) (0, 0) 71 [(0, .ref 61), (1, .ref 1), (2, .ref 50), (3, .int y3_18)] [] (St r21) _
  exact okS_retv dX7_findAll_71 rfl (by have e := Option.some.inj h; subst e; exact ⟨rfl, rfl⟩)
def f_X7_number (S : Mm)  : Option (Int32) :=
  some (S.1 61 2)
set_option maxRecDepth 100000 in
set_option maxHeartbeats 4000000 in
theorem t_X7_number {S : Mm} {out : Int32} (h : f_X7_number S  = some out) : Rs D_X7_number [.ref 61] S (some (.int out)) S := by
  refine rs_of (by decide) rfl (Nat.le_of_ble_eq_true rfl) ?_
  unfold f_X7_number at h
  show Ok D_X7_number (0, 0) (0, 0) 0 [(0, .ref 61)] [] (St S) _
  refine ok_aload_n dX7_number_0 0 rfl ?_
  refine okS_getI dX7_number_1 fl_X7_22 pi_61_2 ?_
  exact okS_ret dX7_number_4 rfl rfl (by have e := Option.some.inj h; subst e; exact ⟨rfl, rfl⟩)
def f_X7_isFact (S : Mm) (a1 : Int32) : Option (Int32) :=
  (if a1 < 0 then some 0 else (if 4 ≤ a1 then some 0 else some 1))
set_option maxRecDepth 100000 in
set_option maxHeartbeats 4000000 in
theorem t_X7_isFact {S : Mm} {a1 : Int32} {out : Int32} (h : f_X7_isFact S a1 = some out) : Rs D_X7_isFact [.int a1] S (some (.int out)) S := by
  refine rs_of (by decide) rfl (Nat.le_of_ble_eq_true rfl) ?_
  unfold f_X7_isFact at h
  show Ok D_X7_isFact (0, 0) (0, 0) 0 [(0, .int a1)] [] (St S) _
  refine ok_iload_n dX7_isFact_0 0 rfl ?_
  refine ok_if_lt (tgt := 13) dX7_isFact_1 (by decide) (fun hc => ?_) (fun hc => ?_)
  · replace h := it_pos hc h
    refine ok_iconst (v := 0) dX7_isFact_13 ic_0 ?_
    exact okS_ret dX7_isFact_14 rfl (by decide) (by have e := Option.some.inj h; subst e; exact ⟨rfl, rfl⟩)
  · replace h := it_neg hc h
    refine ok_iload_n dX7_isFact_4 0 rfl ?_
    refine ok_iconst (v := 4) dX7_isFact_5 ic_4 ?_
    refine ok_icmp_ge (tgt := 13) dX7_isFact_6 (by decide) (fun hc => ?_) (fun hc => ?_)
    · replace h := it_pos hc h
      refine ok_iconst (v := 0) dX7_isFact_13 ic_0 ?_
      exact okS_ret dX7_isFact_14 rfl (by decide) (by have e := Option.some.inj h; subst e; exact ⟨rfl, rfl⟩)
    · replace h := it_neg hc h
      refine ok_iconst (v := 1) dX7_isFact_9 ic_1 ?_
      refine ok_goto (tgt := 14) dX7_isFact_10 (by decide) ?_
      exact okS_ret dX7_isFact_14 rfl (by decide) (by have e := Option.some.inj h; subst e; exact ⟨rfl, rfl⟩)
def f_X7_fact (S : Mm) (a1 : Int32) (a2 : Int32) : Option (Int32) :=
  ((f_X7_has S a1).bind fun r1 => (if r1 = 0 then some (-1) else ((f_X7_isFact S a2).bind fun r3 => (if r3 = 0 then some (-1) else (if inb a2 4 then (if inb a1 48 then some (S.1 (64 + a2.toNatClampNeg) a1.toNatClampNeg) else none) else none)))))
set_option maxRecDepth 100000 in
set_option maxHeartbeats 4000000 in
theorem t_X7_fact {S : Mm} {a1 : Int32} {a2 : Int32} {out : Int32} (h : f_X7_fact S a1 a2 = some out) : Rs D_X7_fact [.ref 61, .int a1, .int a2] S (some (.int out)) S := by
  refine rs_of (by decide) rfl (Nat.le_of_ble_eq_true rfl) ?_
  unfold f_X7_fact at h
  show Ok D_X7_fact (0, 0) (0, 0) 0 [(0, .ref 61), (1, .int a1), (2, .int a2)] [] (St S) _
  refine ok_aload_n dX7_fact_0 0 rfl ?_
  refine ok_iload_n dX7_fact_1 1 rfl ?_
  obtain ⟨r1, e2, h⟩ := it_bind h
  refine okS_V (as := [.int a1]) (st := []) (r := some (.int r1)) (S' := S) dX7_fact_2 cv_X7_26 rfl po_61 (Nat.le_of_ble_eq_true rfl) ⟨⟨by decide, by decide⟩, rfl, rfl⟩ (t_X7_has e2) ?_
  show Ok D_X7_fact (0, 0) (0, 0) 5 [(0, .ref 61), (1, .int a1), (2, .int a2)] [.int r1] (St S) _
  refine ok_if_eq (tgt := 26) dX7_fact_5 (by decide) (fun hc => ?_) (fun hc => ?_)
  · replace h := it_pos hc h
    refine ok_iconst (v := (-1)) dX7_fact_26 ic_m1 ?_
    exact okS_ret dX7_fact_27 rfl rfl (by have e := Option.some.inj h; subst e; exact ⟨rfl, rfl⟩)
  · replace h := it_neg hc h
    refine ok_iload_n dX7_fact_8 2 rfl ?_
    obtain ⟨r3, e4, h⟩ := it_bind h
    refine okS_S (as := [.int a2]) (st := []) (r := some (.int r3)) (S' := S) dX7_fact_9 cv_X7_30 rfl (Nat.le_of_ble_eq_true rfl) ⟨⟨by decide, by decide⟩, rfl, rfl⟩ (t_X7_isFact e4) ?_
    show Ok D_X7_fact (0, 0) (0, 0) 12 [(0, .ref 61), (1, .int a1), (2, .int a2)] [.int r3] (St S) _
    refine ok_if_eq (tgt := 26) dX7_fact_12 (by decide) (fun hc => ?_) (fun hc => ?_)
    · replace h := it_pos hc h
      refine ok_iconst (v := (-1)) dX7_fact_26 ic_m1 ?_
      exact okS_ret dX7_fact_27 rfl rfl (by have e := Option.some.inj h; subst e; exact ⟨rfl, rfl⟩)
    · replace h := it_neg hc h
      refine ok_aload_n dX7_fact_15 0 rfl ?_
      refine okS_getR dX7_fact_16 fl_X7_19 pr_61_1 ?_
      refine ok_iload_n dX7_fact_19 2 rfl ?_
      obtain ⟨hi5, h⟩ := it_some h
      refine okS_row dX7_fact_20 pg_63 hi5 ?_
      refine ok_iload_n dX7_fact_21 1 rfl ?_
      obtain ⟨hi6, h⟩ := it_some h
      refine okS_iaload dX7_fact_22 (pq_63 _ (inb_lt hi5)) hi6 ?_
      refine ok_goto (tgt := 27) dX7_fact_23 (by decide) ?_
      exact okS_ret dX7_fact_27 rfl rfl (by have e := Option.some.inj h; subst e; exact ⟨rfl, rfl⟩)
