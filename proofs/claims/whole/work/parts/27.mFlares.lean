def f_X3_add (S : Mm) (a1 : Int32) (a2 : Int32) (a3 : Int32) (a4 : Int32) : Option (Mm) :=
  (if 144 ≤ (S.1 50 1) then some S else (if inb (S.1 50 1) 144 then (if inb ((wr S 52 (S.1 50 1).toNatClampNeg a1).1 50 1) 144 then (if inb ((wr (wr S 52 (S.1 50 1).toNatClampNeg a1) 53 ((wr S 52 (S.1 50 1).toNatClampNeg a1).1 50 1).toNatClampNeg a2).1 50 1) 144 then (if inb ((wr (wr (wr S 52 (S.1 50 1).toNatClampNeg a1) 53 ((wr S 52 (S.1 50 1).toNatClampNeg a1).1 50 1).toNatClampNeg a2) 54 ((wr (wr S 52 (S.1 50 1).toNatClampNeg a1) 53 ((wr S 52 (S.1 50 1).toNatClampNeg a1).1 50 1).toNatClampNeg a2).1 50 1).toNatClampNeg a3).1 50 1) 144 then some (wr (wr (wr (wr (wr S 52 (S.1 50 1).toNatClampNeg a1) 53 ((wr S 52 (S.1 50 1).toNatClampNeg a1).1 50 1).toNatClampNeg a2) 54 ((wr (wr S 52 (S.1 50 1).toNatClampNeg a1) 53 ((wr S 52 (S.1 50 1).toNatClampNeg a1).1 50 1).toNatClampNeg a2).1 50 1).toNatClampNeg a3) 55 ((wr (wr (wr S 52 (S.1 50 1).toNatClampNeg a1) 53 ((wr S 52 (S.1 50 1).toNatClampNeg a1).1 50 1).toNatClampNeg a2) 54 ((wr (wr S 52 (S.1 50 1).toNatClampNeg a1) 53 ((wr S 52 (S.1 50 1).toNatClampNeg a1).1 50 1).toNatClampNeg a2).1 50 1).toNatClampNeg a3).1 50 1).toNatClampNeg a4) 50 1 (((wr (wr (wr (wr S 52 (S.1 50 1).toNatClampNeg a1) 53 ((wr S 52 (S.1 50 1).toNatClampNeg a1).1 50 1).toNatClampNeg a2) 54 ((wr (wr S 52 (S.1 50 1).toNatClampNeg a1) 53 ((wr S 52 (S.1 50 1).toNatClampNeg a1).1 50 1).toNatClampNeg a2).1 50 1).toNatClampNeg a3) 55 ((wr (wr (wr S 52 (S.1 50 1).toNatClampNeg a1) 53 ((wr S 52 (S.1 50 1).toNatClampNeg a1).1 50 1).toNatClampNeg a2) 54 ((wr (wr S 52 (S.1 50 1).toNatClampNeg a1) 53 ((wr S 52 (S.1 50 1).toNatClampNeg a1).1 50 1).toNatClampNeg a2).1 50 1).toNatClampNeg a3).1 50 1).toNatClampNeg a4).1 50 1) + 1)) else none) else none) else none) else none))
set_option maxRecDepth 100000 in
set_option maxHeartbeats 4000000 in
theorem t_X3_add {S : Mm} {a1 : Int32} {a2 : Int32} {a3 : Int32} {a4 : Int32} {out : Mm} (h : f_X3_add S a1 a2 a3 a4 = some out) : Rs D_X3_add [.ref 50, .int a1, .int a2, .int a3, .int a4] S none out := by
  refine rs_of (by decide) rfl (Nat.le_of_ble_eq_true rfl) ?_
  unfold f_X3_add at h
  show Ok D_X3_add (0, 0) (0, 0) 0 [(0, .ref 50), (1, .int a1), (2, .int a2), (3, .int a3), (4, .int a4)] [] (St S) _
  refine ok_aload_n dX3_add_0 0 rfl ?_
  refine okS_getI dX3_add_1 fl_X3_16 pi_50_1 ?_
  refine ok_sipush (v := 144) dX3_add_4 si_144 ?_
  refine ok_icmp_ge (tgt := 69) dX3_add_7 (by decide) (fun hc => ?_) (fun hc => ?_)
  · replace h := it_pos hc h
    exact okS_retv dX3_add_69 rfl (by have e := Option.some.inj h; subst e; exact ⟨rfl, rfl⟩)
  · replace h := it_neg hc h
    refine ok_aload_n dX3_add_10 0 rfl ?_
    refine okS_getR dX3_add_11 fl_X3_13 pr_50_0 ?_
    refine ok_iconst (v := 0) dX3_add_14 ic_0 ?_
    refine okS_rowL (y := 52) dX3_add_15 pg_51 (by decide) (by decide) ?_
    refine ok_aload_n dX3_add_16 0 rfl ?_
    refine okS_getI dX3_add_17 fl_X3_16 pi_50_1 ?_
    refine ok_iload_n dX3_add_20 1 rfl ?_
    obtain ⟨hi1, h⟩ := it_some h
    refine okS_iastore dX3_add_21 pa_52 hi1 ?_
    refine ok_aload_n dX3_add_22 0 rfl ?_
    refine okS_getR dX3_add_23 fl_X3_13 pr_50_0 ?_
    refine ok_iconst (v := 1) dX3_add_26 ic_1 ?_
    refine okS_rowL (y := 53) dX3_add_27 pg_51 (by decide) (by decide) ?_
    refine ok_aload_n dX3_add_28 0 rfl ?_
    refine okS_getI dX3_add_29 fl_X3_16 pi_50_1 ?_
    refine ok_iload_n dX3_add_32 2 rfl ?_
    obtain ⟨hi2, h⟩ := it_some h
    refine okS_iastore dX3_add_33 pa_53 hi2 ?_
    refine ok_aload_n dX3_add_34 0 rfl ?_
    refine okS_getR dX3_add_35 fl_X3_13 pr_50_0 ?_
    refine ok_iconst (v := 2) dX3_add_38 ic_2 ?_
    refine okS_rowL (y := 54) dX3_add_39 pg_51 (by decide) (by decide) ?_
    refine ok_aload_n dX3_add_40 0 rfl ?_
    refine okS_getI dX3_add_41 fl_X3_16 pi_50_1 ?_
    refine ok_iload_n dX3_add_44 3 rfl ?_
    obtain ⟨hi3, h⟩ := it_some h
    refine okS_iastore dX3_add_45 pa_54 hi3 ?_
    refine ok_aload_n dX3_add_46 0 rfl ?_
    refine okS_getR dX3_add_47 fl_X3_13 pr_50_0 ?_
    refine ok_iconst (v := 3) dX3_add_50 ic_3 ?_
    refine okS_rowL (y := 55) dX3_add_51 pg_51 (by decide) (by decide) ?_
    refine ok_aload_n dX3_add_52 0 rfl ?_
    refine okS_getI dX3_add_53 fl_X3_16 pi_50_1 ?_
    refine ok_iload dX3_add_56 4 rfl ?_
    obtain ⟨hi4, h⟩ := it_some h
    refine okS_iastore dX3_add_58 pa_55 hi4 ?_
    refine ok_aload_n dX3_add_59 0 rfl ?_
    refine ok_dup dX3_add_60 rfl ?_
    refine okS_getI dX3_add_61 fl_X3_16 pi_50_1 ?_
    refine ok_iconst (v := 1) dX3_add_64 ic_1 ?_
    refine ok_iadd dX3_add_65 ?_
    refine okS_putI dX3_add_66 fl_X3_16 pi_50_1 ⟨rfl, rfl⟩ ?_
    exact okS_retv dX3_add_69 rfl (by have e := Option.some.inj h; subst e; exact ⟨rfl, rfl⟩)
def lp_X3_findAt_6 (k : Int32 → Int32 → Mm → Option (Mm)) (c2 : Int32) (c3 : Int32) (c4 : Int32) : Nat → Int32 → Int32 → Mm → Option (Mm)
  | 0, _, _, _ => none
  | fuel + 1, x5, x6, S => (if c4 < x6 then k x5 x6 S else (if c4 ≤ x6 then (if x5 = (-1) then lp_X3_findAt_6 k c2 c3 c4 fuel x5 (x6 + 1) S else ((f_X3_add S c2 c3 x5 (x6 - 1)).bind fun r1 => lp_X3_findAt_6 k c2 c3 c4 fuel (-1) (x6 + 1) r1)) else ((f_X5_of S c2 x6).bind fun r3 => (if r3 < c3 then (if x5 = (-1) then lp_X3_findAt_6 k c2 c3 c4 fuel x5 (x6 + 1) S else ((f_X3_add S c2 c3 x5 (x6 - 1)).bind fun r5 => lp_X3_findAt_6 k c2 c3 c4 fuel (-1) (x6 + 1) r5)) else (if x5 = (-1) then lp_X3_findAt_6 k c2 c3 c4 fuel x6 (x6 + 1) S else lp_X3_findAt_6 k c2 c3 c4 fuel x5 (x6 + 1) S)))))
def f_X3_findAt (S : Mm) (a2 : Int32) (a3 : Int32) (a4 : Int32) : Option (Mm) :=
  lp_X3_findAt_6 (fun y5_7 y6_8 S9 => some S9) a2 a3 a4 100000 (-1) 0 S
set_option maxRecDepth 100000 in
set_option maxHeartbeats 4000000 in
theorem tlp_X3_findAt_6 {k : Int32 → Int32 → Mm → Option (Mm)} {c2 : Int32} {c3 : Int32} {c4 : Int32} (hk : ∀ (x5 x6 : Int32) (S : Mm) (out : Mm), k x5 x6 S = some out → Ok D_X3_findAt (0, 0) (0, 0) 88 [(0, .ref 50), (1, .ref 26), (2, .int c2), (3, .int c3), (4, .int c4), (5, .int x5), (6, .int x6)] [] (St S) (An none out)) : ∀ (fuel : Nat) (x5 x6 : Int32) (S : Mm) (out : Mm), lp_X3_findAt_6 k c2 c3 c4 fuel x5 x6 S = some out → Ok D_X3_findAt (0, 0) (0, 0) 6 [(0, .ref 50), (1, .ref 26), (2, .int c2), (3, .int c3), (4, .int c4), (5, .int x5), (6, .int x6)] [] (St S) (An none out) := by
  intro fuel
  induction fuel with
  | zero => intro x5 x6 S out h; cases h
  | succ fuel ih =>
    intro x5 x6 S out h
    rw [lp_X3_findAt_6] at h
    refine ok_iload dX3_findAt_6 6 rfl ?_
    refine ok_iload dX3_findAt_8 4 rfl ?_
    refine ok_icmp_gt (tgt := 88) dX3_findAt_10 (by decide) (fun hc => ?_) (fun hc => ?_)
    · replace h := it_pos hc h
      refine ok_perm [0, 1, 2, 3, 4, 5, 6] rfl ?_
      exact hk _ _ _ _ h
    · replace h := it_neg hc h
      refine ok_iload dX3_findAt_13 6 rfl ?_
      refine ok_iload dX3_findAt_15 4 rfl ?_
      refine ok_icmp_ge (tgt := 35) dX3_findAt_17 (by decide) (fun hc => ?_) (fun hc => ?_)
      · replace h := it_pos hc h
        refine ok_iconst (v := 0) dX3_findAt_35 ic_0 ?_
        refine ok_istore (L' := [(7, .int 0), (0, .ref 50), (1, .ref 26), (2, .int c2), (3, .int c3), (4, .int c4), (5, .int x5), (6, .int x6)]) dX3_findAt_36 (by decide) rfl ?_
        refine ok_iload dX3_findAt_38 0 rfl ?_
        refine ok_if_eq (tgt := 56) dX3_findAt_40 (by decide) (fun hc => ?_) (fun hc => absurd hc (by decide))
        refine ok_iload dX3_findAt_56 0 rfl ?_
        refine ok_if_ne (tgt := 82) dX3_findAt_58 (by decide) (fun hc => absurd hc (by decide)) (fun hc => ?_)
        refine ok_iload dX3_findAt_61 6 rfl ?_
        refine ok_iconst (v := (-1)) dX3_findAt_63 ic_m1 ?_
        refine ok_icmp_eq (tgt := 82) dX3_findAt_64 (by decide) (fun hc => ?_) (fun hc => ?_)
        · replace h := it_pos hc h
          refine ok_iinc (v := x6 + 1) (L' := [(6, .int (x6 + 1)), (7, .int 0), (0, .ref 50), (1, .ref 26), (2, .int c2), (3, .int c3), (4, .int c4), (5, .int x5)]) dX3_findAt_82 7 rfl (ii_1 _) (by decide) rfl ?_
          refine ok_goto (tgt := 6) dX3_findAt_85 (by decide) ?_
          refine ok_perm [2, 3, 4, 5, 6, 7, 0] rfl ?_
          exact ih _ _ _ _ h
        · replace h := it_neg hc h
          refine ok_aload_n dX3_findAt_67 1 rfl ?_
          refine ok_iload_n dX3_findAt_68 3 rfl ?_
          refine ok_iload_n dX3_findAt_69 4 rfl ?_
          refine ok_iload dX3_findAt_70 6 rfl ?_
          refine ok_iload dX3_findAt_72 7 rfl ?_
          refine ok_iconst (v := 1) dX3_findAt_74 ic_1 ?_
          refine ok_isub dX3_findAt_75 ?_
          obtain ⟨r1, e2, h⟩ := it_bind h
          refine okS_V (as := [.int c2, .int c3, .int x5, .int (x6 - 1)]) (st := []) (r := none) (S' := r1) dX3_findAt_76 cv_X3_63 rfl po_50 (Nat.le_of_ble_eq_true rfl) ⟨⟨by decide, by decide⟩, rfl, rfl⟩ (t_X3_add e2) ?_
          show Ok D_X3_findAt (0, 0) (0, 0) 79 [(7, .int 0), (0, .ref 50), (1, .ref 26), (2, .int c2), (3, .int c3), (4, .int c4), (5, .int x5), (6, .int x6)] [] (St r1) _
          refine ok_iconst (v := (-1)) dX3_findAt_79 ic_m1 ?_
          refine ok_istore (L' := [(5, .int (-1)), (7, .int 0), (0, .ref 50), (1, .ref 26), (2, .int c2), (3, .int c3), (4, .int c4), (6, .int x6)]) dX3_findAt_80 (by decide) rfl ?_
          refine ok_iinc (v := x6 + 1) (L' := [(6, .int (x6 + 1)), (5, .int (-1)), (7, .int 0), (0, .ref 50), (1, .ref 26), (2, .int c2), (3, .int c3), (4, .int c4)]) dX3_findAt_82 7 rfl (ii_1 _) (by decide) rfl ?_
          refine ok_goto (tgt := 6) dX3_findAt_85 (by decide) ?_
          refine ok_perm [3, 4, 5, 6, 7, 1, 0] rfl ?_
          exact ih _ _ _ _ h
      · replace h := it_neg hc h
        refine ok_aload_n dX3_findAt_20 1 rfl ?_
        refine ok_iload_n dX3_findAt_21 2 rfl ?_
        refine ok_iload dX3_findAt_22 6 rfl ?_
        obtain ⟨r3, e4, h⟩ := it_bind h
        refine okS_V (as := [.int c2, .int x6]) (st := []) (r := some (.int r3)) (S' := S) dX3_findAt_24 cv_X3_57 rfl po_26 (Nat.le_of_ble_eq_true rfl) ⟨⟨by decide, by decide⟩, rfl, rfl⟩ (t_X5_of e4) ?_
        show Ok D_X3_findAt (0, 0) (0, 0) 27 [(0, .ref 50), (1, .ref 26), (2, .int c2), (3, .int c3), (4, .int c4), (5, .int x5), (6, .int x6)] [.int r3] (St S) _
        refine ok_iload_n dX3_findAt_27 3 rfl ?_
        refine ok_icmp_lt (tgt := 35) dX3_findAt_28 (by decide) (fun hc => ?_) (fun hc => ?_)
        · replace h := it_pos hc h
          refine ok_iconst (v := 0) dX3_findAt_35 ic_0 ?_
          refine ok_istore (L' := [(7, .int 0), (0, .ref 50), (1, .ref 26), (2, .int c2), (3, .int c3), (4, .int c4), (5, .int x5), (6, .int x6)]) dX3_findAt_36 (by decide) rfl ?_
          refine ok_iload dX3_findAt_38 0 rfl ?_
          refine ok_if_eq (tgt := 56) dX3_findAt_40 (by decide) (fun hc => ?_) (fun hc => absurd hc (by decide))
          refine ok_iload dX3_findAt_56 0 rfl ?_
          refine ok_if_ne (tgt := 82) dX3_findAt_58 (by decide) (fun hc => absurd hc (by decide)) (fun hc => ?_)
          refine ok_iload dX3_findAt_61 6 rfl ?_
          refine ok_iconst (v := (-1)) dX3_findAt_63 ic_m1 ?_
          refine ok_icmp_eq (tgt := 82) dX3_findAt_64 (by decide) (fun hc => ?_) (fun hc => ?_)
          · replace h := it_pos hc h
            refine ok_iinc (v := x6 + 1) (L' := [(6, .int (x6 + 1)), (7, .int 0), (0, .ref 50), (1, .ref 26), (2, .int c2), (3, .int c3), (4, .int c4), (5, .int x5)]) dX3_findAt_82 7 rfl (ii_1 _) (by decide) rfl ?_
            refine ok_goto (tgt := 6) dX3_findAt_85 (by decide) ?_
            refine ok_perm [2, 3, 4, 5, 6, 7, 0] rfl ?_
            exact ih _ _ _ _ h
          · replace h := it_neg hc h
            refine ok_aload_n dX3_findAt_67 1 rfl ?_
            refine ok_iload_n dX3_findAt_68 3 rfl ?_
            refine ok_iload_n dX3_findAt_69 4 rfl ?_
            refine ok_iload dX3_findAt_70 6 rfl ?_
            refine ok_iload dX3_findAt_72 7 rfl ?_
            refine ok_iconst (v := 1) dX3_findAt_74 ic_1 ?_
            refine ok_isub dX3_findAt_75 ?_
            obtain ⟨r5, e6, h⟩ := it_bind h
            refine okS_V (as := [.int c2, .int c3, .int x5, .int (x6 - 1)]) (st := []) (r := none) (S' := r5) dX3_findAt_76 cv_X3_63 rfl po_50 (Nat.le_of_ble_eq_true rfl) ⟨⟨by decide, by decide⟩, rfl, rfl⟩ (t_X3_add e6) ?_
            show Ok D_X3_findAt (0, 0) (0, 0) 79 [(7, .int 0), (0, .ref 50), (1, .ref 26), (2, .int c2), (3, .int c3), (4, .int c4), (5, .int x5), (6, .int x6)] [] (St r5) _
            refine ok_iconst (v := (-1)) dX3_findAt_79 ic_m1 ?_
            refine ok_istore (L' := [(5, .int (-1)), (7, .int 0), (0, .ref 50), (1, .ref 26), (2, .int c2), (3, .int c3), (4, .int c4), (6, .int x6)]) dX3_findAt_80 (by decide) rfl ?_
            refine ok_iinc (v := x6 + 1) (L' := [(6, .int (x6 + 1)), (5, .int (-1)), (7, .int 0), (0, .ref 50), (1, .ref 26), (2, .int c2), (3, .int c3), (4, .int c4)]) dX3_findAt_82 7 rfl (ii_1 _) (by decide) rfl ?_
            refine ok_goto (tgt := 6) dX3_findAt_85 (by decide) ?_
            refine ok_perm [3, 4, 5, 6, 7, 1, 0] rfl ?_
            exact ih _ _ _ _ h
        · replace h := it_neg hc h
          refine ok_iconst (v := 1) dX3_findAt_31 ic_1 ?_
          refine ok_goto (tgt := 36) dX3_findAt_32 (by decide) ?_
          refine ok_istore (L' := [(7, .int 1), (0, .ref 50), (1, .ref 26), (2, .int c2), (3, .int c3), (4, .int c4), (5, .int x5), (6, .int x6)]) dX3_findAt_36 (by decide) rfl ?_
          refine ok_iload dX3_findAt_38 0 rfl ?_
          refine ok_if_eq (tgt := 56) dX3_findAt_40 (by decide) (fun hc => absurd hc (by decide)) (fun hc => ?_)
          refine ok_iload dX3_findAt_43 6 rfl ?_
          refine ok_iconst (v := (-1)) dX3_findAt_45 ic_m1 ?_
          refine ok_icmp_ne (tgt := 56) dX3_findAt_46 (by decide) (fun hc => ?_) (fun hc => ?_)
          · replace h := it_neg hc h
            refine ok_iload dX3_findAt_56 0 rfl ?_
            refine ok_if_ne (tgt := 82) dX3_findAt_58 (by decide) (fun hc => ?_) (fun hc => absurd hc (by decide))
            refine ok_iinc (v := x6 + 1) (L' := [(6, .int (x6 + 1)), (7, .int 1), (0, .ref 50), (1, .ref 26), (2, .int c2), (3, .int c3), (4, .int c4), (5, .int x5)]) dX3_findAt_82 7 rfl (ii_1 _) (by decide) rfl ?_
            refine ok_goto (tgt := 6) dX3_findAt_85 (by decide) ?_
            refine ok_perm [2, 3, 4, 5, 6, 7, 0] rfl ?_
            exact ih _ _ _ _ h
          · replace h := it_pos hc h
            refine ok_iload dX3_findAt_49 7 rfl ?_
            refine ok_istore (L' := [(5, .int x6), (7, .int 1), (0, .ref 50), (1, .ref 26), (2, .int c2), (3, .int c3), (4, .int c4), (6, .int x6)]) dX3_findAt_51 (by decide) rfl ?_
            refine ok_goto (tgt := 82) dX3_findAt_53 (by decide) ?_
            refine ok_iinc (v := x6 + 1) (L' := [(6, .int (x6 + 1)), (5, .int x6), (7, .int 1), (0, .ref 50), (1, .ref 26), (2, .int c2), (3, .int c3), (4, .int c4)]) dX3_findAt_82 7 rfl (ii_1 _) (by decide) rfl ?_
            refine ok_goto (tgt := 6) dX3_findAt_85 (by decide) ?_
            refine ok_perm [3, 4, 5, 6, 7, 1, 0] rfl ?_
            exact ih _ _ _ _ h
set_option maxRecDepth 100000 in
set_option maxHeartbeats 4000000 in
theorem t_X3_findAt {S : Mm} {a2 : Int32} {a3 : Int32} {a4 : Int32} {out : Mm} (h : f_X3_findAt S a2 a3 a4 = some out) : Rs D_X3_findAt [.ref 50, .ref 26, .int a2, .int a3, .int a4] S none out := by
  refine rs_of (by decide) rfl (Nat.le_of_ble_eq_true rfl) ?_
  unfold f_X3_findAt at h
  show Ok D_X3_findAt (0, 0) (0, 0) 0 [(0, .ref 50), (1, .ref 26), (2, .int a2), (3, .int a3), (4, .int a4)] [] (St S) _
  refine ok_iconst (v := (-1)) dX3_findAt_0 ic_m1 ?_
  refine ok_istore (L' := [(5, .int (-1)), (0, .ref 50), (1, .ref 26), (2, .int a2), (3, .int a3), (4, .int a4)]) dX3_findAt_1 (by decide) rfl ?_
  refine ok_iconst (v := 0) dX3_findAt_3 ic_0 ?_
  refine ok_istore (L' := [(6, .int 0), (5, .int (-1)), (0, .ref 50), (1, .ref 26), (2, .int a2), (3, .int a3), (4, .int a4)]) dX3_findAt_4 (by decide) rfl ?_
  refine ok_perm [2, 3, 4, 5, 6, 1, 0] rfl ?_
  refine tlp_X3_findAt_6 (fun y5_7 y6_8 S9 out10 h => ?_) _ _ _ _ _ h
  exact okS_retv dX3_findAt_88 rfl (by have e := Option.some.inj h; subst e; exact ⟨rfl, rfl⟩)
def f_X3_has (S : Mm) (a1 : Int32) : Option (Int32) :=
  (if a1 < 0 then some 0 else (if (S.1 50 1) ≤ a1 then some 0 else some 1))
set_option maxRecDepth 100000 in
set_option maxHeartbeats 4000000 in
theorem t_X3_has {S : Mm} {a1 : Int32} {out : Int32} (h : f_X3_has S a1 = some out) : Rs D_X3_has [.ref 50, .int a1] S (some (.int out)) S := by
  refine rs_of (by decide) rfl (Nat.le_of_ble_eq_true rfl) ?_
  unfold f_X3_has at h
  show Ok D_X3_has (0, 0) (0, 0) 0 [(0, .ref 50), (1, .int a1)] [] (St S) _
  refine ok_iload_n dX3_has_0 1 rfl ?_
  refine ok_if_lt (tgt := 16) dX3_has_1 (by decide) (fun hc => ?_) (fun hc => ?_)
  · replace h := it_pos hc h
    refine ok_iconst (v := 0) dX3_has_16 ic_0 ?_
    exact okS_ret dX3_has_17 rfl (by decide) (by have e := Option.some.inj h; subst e; exact ⟨rfl, rfl⟩)
  · replace h := it_neg hc h
    refine ok_iload_n dX3_has_4 1 rfl ?_
    refine ok_aload_n dX3_has_5 0 rfl ?_
    refine okS_getI dX3_has_6 fl_X3_16 pi_50_1 ?_
    refine ok_icmp_ge (tgt := 16) dX3_has_9 (by decide) (fun hc => ?_) (fun hc => ?_)
    · replace h := it_pos hc h
      refine ok_iconst (v := 0) dX3_has_16 ic_0 ?_
      exact okS_ret dX3_has_17 rfl (by decide) (by have e := Option.some.inj h; subst e; exact ⟨rfl, rfl⟩)
    · replace h := it_neg hc h
      refine ok_iconst (v := 1) dX3_has_12 ic_1 ?_
      refine ok_goto (tgt := 17) dX3_has_13 (by decide) ?_
      exact okS_ret dX3_has_17 rfl (by decide) (by have e := Option.some.inj h; subst e; exact ⟨rfl, rfl⟩)
def f_X3_hasDay (S : Mm) (a1 : Int32) (a2 : Int32) : Option (Int32) :=
  ((f_X3_has S a1).bind fun r1 => (if r1 = 0 then some 0 else (if inb a1 144 then (if a2 < (S.1 54 a1.toNatClampNeg) then some 0 else (if inb a1 144 then (if (S.1 55 a1.toNatClampNeg) < a2 then some 0 else some 1) else none)) else none)))
set_option maxRecDepth 100000 in
set_option maxHeartbeats 4000000 in
theorem t_X3_hasDay {S : Mm} {a1 : Int32} {a2 : Int32} {out : Int32} (h : f_X3_hasDay S a1 a2 = some out) : Rs D_X3_hasDay [.ref 50, .int a1, .int a2] S (some (.int out)) S := by
  refine rs_of (by decide) rfl (Nat.le_of_ble_eq_true rfl) ?_
  unfold f_X3_hasDay at h
  show Ok D_X3_hasDay (0, 0) (0, 0) 0 [(0, .ref 50), (1, .int a1), (2, .int a2)] [] (St S) _
  refine ok_aload_n dX3_hasDay_0 0 rfl ?_
  refine ok_iload_n dX3_hasDay_1 1 rfl ?_
  obtain ⟨r1, e2, h⟩ := it_bind h
  refine okS_V (as := [.int a1]) (st := []) (r := some (.int r1)) (S' := S) dX3_hasDay_2 cv_X3_20 rfl po_50 (Nat.le_of_ble_eq_true rfl) ⟨⟨by decide, by decide⟩, rfl, rfl⟩ (t_X3_has e2) ?_
  show Ok D_X3_hasDay (0, 0) (0, 0) 5 [(0, .ref 50), (1, .int a1), (2, .int a2)] [.int r1] (St S) _
  refine ok_if_eq (tgt := 36) dX3_hasDay_5 (by decide) (fun hc => ?_) (fun hc => ?_)
  · replace h := it_pos hc h
    refine ok_iconst (v := 0) dX3_hasDay_36 ic_0 ?_
    exact okS_ret dX3_hasDay_37 rfl (by decide) (by have e := Option.some.inj h; subst e; exact ⟨rfl, rfl⟩)
  · replace h := it_neg hc h
    refine ok_aload_n dX3_hasDay_8 0 rfl ?_
    refine okS_getR dX3_hasDay_9 fl_X3_13 pr_50_0 ?_
    refine ok_iconst (v := 2) dX3_hasDay_12 ic_2 ?_
    refine okS_rowL (y := 54) dX3_hasDay_13 pg_51 (by decide) (by decide) ?_
    refine ok_iload_n dX3_hasDay_14 1 rfl ?_
    obtain ⟨hi3, h⟩ := it_some h
    refine okS_iaload dX3_hasDay_15 pa_54 hi3 ?_
    refine ok_iload_n dX3_hasDay_16 2 rfl ?_
    refine ok_icmp_gt (tgt := 36) dX3_hasDay_17 (by decide) (fun hc => ?_) (fun hc => ?_)
    · replace h := it_pos hc h
      refine ok_iconst (v := 0) dX3_hasDay_36 ic_0 ?_
      exact okS_ret dX3_hasDay_37 rfl (by decide) (by have e := Option.some.inj h; subst e; exact ⟨rfl, rfl⟩)
    · replace h := it_neg hc h
      refine ok_iload_n dX3_hasDay_20 2 rfl ?_
      refine ok_aload_n dX3_hasDay_21 0 rfl ?_
      refine okS_getR dX3_hasDay_22 fl_X3_13 pr_50_0 ?_
      refine ok_iconst (v := 3) dX3_hasDay_25 ic_3 ?_
      refine okS_rowL (y := 55) dX3_hasDay_26 pg_51 (by decide) (by decide) ?_
      refine ok_iload_n dX3_hasDay_27 1 rfl ?_
      obtain ⟨hi4, h⟩ := it_some h
      refine okS_iaload dX3_hasDay_28 pa_55 hi4 ?_
      refine ok_icmp_gt (tgt := 36) dX3_hasDay_29 (by decide) (fun hc => ?_) (fun hc => ?_)
      · replace h := it_pos hc h
        refine ok_iconst (v := 0) dX3_hasDay_36 ic_0 ?_
        exact okS_ret dX3_hasDay_37 rfl (by decide) (by have e := Option.some.inj h; subst e; exact ⟨rfl, rfl⟩)
      · replace h := it_neg hc h
        refine ok_iconst (v := 1) dX3_hasDay_32 ic_1 ?_
        refine ok_goto (tgt := 37) dX3_hasDay_33 (by decide) ?_
        exact okS_ret dX3_hasDay_37 rfl (by decide) (by have e := Option.some.inj h; subst e; exact ⟨rfl, rfl⟩)
def lp_X3_around_2 (k : Int32 → Option (Int32)) (S : Mm) (c1 : Int32) : Nat → Int32 → Option (Int32)
  | 0, _ => none
  | fuel + 1, x2 => (if c1 ≤ x2 then k x2 else (if inb x2 144 then (if inb c1 144 then (if (S.1 52 x2.toNatClampNeg) = (S.1 52 c1.toNatClampNeg) then (if inb x2 144 then (if inb c1 144 then (if (S.1 53 x2.toNatClampNeg) = ((S.1 53 c1.toNatClampNeg) - 1) then (if inb c1 144 then ((f_X3_hasDay S x2 (S.1 54 c1.toNatClampNeg)).bind fun r6 => (if r6 = 0 then lp_X3_around_2 k S c1 fuel (x2 + 1) else some x2)) else none) else lp_X3_around_2 k S c1 fuel (x2 + 1)) else none) else none) else lp_X3_around_2 k S c1 fuel (x2 + 1)) else none) else none))
def f_X3_around (S : Mm) (a1 : Int32) : Option (Int32) :=
  lp_X3_around_2 (fun y2_8 => some (-1)) S a1 100000 0
set_option maxRecDepth 100000 in
set_option maxHeartbeats 4000000 in
theorem tlp_X3_around_2 {k : Int32 → Option (Int32)} {S : Mm} {c1 : Int32} (hk : ∀ (x2 : Int32) (out : Int32), k x2 = some out → Ok D_X3_around (0, 0) (0, 0) 71 [(0, .ref 50), (1, .int c1), (2, .int x2)] [] (St S) (An (some (.int out)) S)) : ∀ (fuel : Nat) (x2 : Int32) (out : Int32), lp_X3_around_2 k S c1 fuel x2 = some out → Ok D_X3_around (0, 0) (0, 0) 2 [(0, .ref 50), (1, .int c1), (2, .int x2)] [] (St S) (An (some (.int out)) S) := by
  intro fuel
  induction fuel with
  | zero => intro x2 out h; cases h
  | succ fuel ih =>
    intro x2 out h
    rw [lp_X3_around_2] at h
    refine ok_iload_n dX3_around_2 2 rfl ?_
    refine ok_iload_n dX3_around_3 1 rfl ?_
    refine ok_icmp_ge (tgt := 71) dX3_around_4 (by decide) (fun hc => ?_) (fun hc => ?_)
    · replace h := it_pos hc h
      refine ok_perm [0, 1, 2] rfl ?_
      exact hk _ _ h
    · replace h := it_neg hc h
      refine ok_aload_n dX3_around_7 0 rfl ?_
      refine okS_getR dX3_around_8 fl_X3_13 pr_50_0 ?_
      refine ok_iconst (v := 0) dX3_around_11 ic_0 ?_
      refine okS_rowL (y := 52) dX3_around_12 pg_51 (by decide) (by decide) ?_
      refine ok_iload_n dX3_around_13 2 rfl ?_
      obtain ⟨hi1, h⟩ := it_some h
      refine okS_iaload dX3_around_14 pa_52 hi1 ?_
      refine ok_aload_n dX3_around_15 0 rfl ?_
      refine okS_getR dX3_around_16 fl_X3_13 pr_50_0 ?_
      refine ok_iconst (v := 0) dX3_around_19 ic_0 ?_
      refine okS_rowL (y := 52) dX3_around_20 pg_51 (by decide) (by decide) ?_
      refine ok_iload_n dX3_around_21 1 rfl ?_
      obtain ⟨hi2, h⟩ := it_some h
      refine okS_iaload dX3_around_22 pa_52 hi2 ?_
      refine ok_icmp_ne (tgt := 65) dX3_around_23 (by decide) (fun hc => ?_) (fun hc => ?_)
      · replace h := it_neg hc h
        refine ok_iinc (v := x2 + 1) (L' := [(2, .int (x2 + 1)), (0, .ref 50), (1, .int c1)]) dX3_around_65 2 rfl (ii_1 _) (by decide) rfl ?_
        refine ok_goto (tgt := 2) dX3_around_68 (by decide) ?_
        refine ok_perm [1, 2, 0] rfl ?_
        exact ih _ _ h
      · replace h := it_pos hc h
        refine ok_aload_n dX3_around_26 0 rfl ?_
        refine okS_getR dX3_around_27 fl_X3_13 pr_50_0 ?_
        refine ok_iconst (v := 1) dX3_around_30 ic_1 ?_
        refine okS_rowL (y := 53) dX3_around_31 pg_51 (by decide) (by decide) ?_
        refine ok_iload_n dX3_around_32 2 rfl ?_
        obtain ⟨hi3, h⟩ := it_some h
        refine okS_iaload dX3_around_33 pa_53 hi3 ?_
        refine ok_aload_n dX3_around_34 0 rfl ?_
        refine okS_getR dX3_around_35 fl_X3_13 pr_50_0 ?_
        refine ok_iconst (v := 1) dX3_around_38 ic_1 ?_
        refine okS_rowL (y := 53) dX3_around_39 pg_51 (by decide) (by decide) ?_
        refine ok_iload_n dX3_around_40 1 rfl ?_
        obtain ⟨hi4, h⟩ := it_some h
        refine okS_iaload dX3_around_41 pa_53 hi4 ?_
        refine ok_iconst (v := 1) dX3_around_42 ic_1 ?_
        refine ok_isub dX3_around_43 ?_
        refine ok_icmp_ne (tgt := 65) dX3_around_44 (by decide) (fun hc => ?_) (fun hc => ?_)
        · replace h := it_neg hc h
          refine ok_iinc (v := x2 + 1) (L' := [(2, .int (x2 + 1)), (0, .ref 50), (1, .int c1)]) dX3_around_65 2 rfl (ii_1 _) (by decide) rfl ?_
          refine ok_goto (tgt := 2) dX3_around_68 (by decide) ?_
          refine ok_perm [1, 2, 0] rfl ?_
          exact ih _ _ h
        · replace h := it_pos hc h
          refine ok_aload_n dX3_around_47 0 rfl ?_
          refine ok_iload_n dX3_around_48 2 rfl ?_
          refine ok_aload_n dX3_around_49 0 rfl ?_
          refine okS_getR dX3_around_50 fl_X3_13 pr_50_0 ?_
          refine ok_iconst (v := 2) dX3_around_53 ic_2 ?_
          refine okS_rowL (y := 54) dX3_around_54 pg_51 (by decide) (by decide) ?_
          refine ok_iload_n dX3_around_55 1 rfl ?_
          obtain ⟨hi5, h⟩ := it_some h
          refine okS_iaload dX3_around_56 pa_54 hi5 ?_
          obtain ⟨r6, e7, h⟩ := it_bind h
          refine okS_V (as := [.int x2, .int (S.1 54 c1.toNatClampNeg)]) (st := []) (r := some (.int r6)) (S' := S) dX3_around_57 cv_X3_67 rfl po_50 (Nat.le_of_ble_eq_true rfl) ⟨⟨by decide, by decide⟩, rfl, rfl⟩ (t_X3_hasDay e7) ?_
          show Ok D_X3_around (0, 0) (0, 0) 60 [(0, .ref 50), (1, .int c1), (2, .int x2)] [.int r6] (St S) _
          refine ok_if_eq (tgt := 65) dX3_around_60 (by decide) (fun hc => ?_) (fun hc => ?_)
          · replace h := it_pos hc h
            refine ok_iinc (v := x2 + 1) (L' := [(2, .int (x2 + 1)), (0, .ref 50), (1, .int c1)]) dX3_around_65 2 rfl (ii_1 _) (by decide) rfl ?_
            refine ok_goto (tgt := 2) dX3_around_68 (by decide) ?_
            refine ok_perm [1, 2, 0] rfl ?_
            exact ih _ _ h
          · replace h := it_neg hc h
            refine ok_iload_n dX3_around_63 2 rfl ?_
            exact okS_ret dX3_around_64 rfl rfl (by have e := Option.some.inj h; subst e; exact ⟨rfl, rfl⟩)
set_option maxRecDepth 100000 in
set_option maxHeartbeats 4000000 in
theorem t_X3_around {S : Mm} {a1 : Int32} {out : Int32} (h : f_X3_around S a1 = some out) : Rs D_X3_around [.ref 50, .int a1] S (some (.int out)) S := by
  refine rs_of (by decide) rfl (Nat.le_of_ble_eq_true rfl) ?_
  unfold f_X3_around at h
  show Ok D_X3_around (0, 0) (0, 0) 0 [(0, .ref 50), (1, .int a1)] [] (St S) _
  refine ok_iconst (v := 0) dX3_around_0 ic_0 ?_
  refine ok_istore_n (L' := [(2, .int 0), (0, .ref 50), (1, .int a1)]) dX3_around_1 (by decide) rfl ?_
  refine ok_perm [1, 2, 0] rfl ?_
  refine tlp_X3_around_2 (fun y2_8 out9 h => ?_) _ _ _ h
  refine ok_iconst (v := (-1)) dX3_around_71 ic_m1 ?_
  exact okS_ret dX3_around_72 rfl rfl (by have e := Option.some.inj h; subst e; exact ⟨rfl, rfl⟩)
def lp_X3_weightOf_32 (k : Int32 → Int32 → Option (Int32)) (S : Mm) (c2 : Int32) (c3 : Int32) (c4 : Int32) : Nat → Int32 → Int32 → Option (Int32)
  | 0, _, _ => none
  | fuel + 1, x5, x6 => (if inb c2 144 then (if (S.1 55 c2.toNatClampNeg) < x6 then k x5 x6 else ((f_X8_unlikely S c3 x6 (c4 - 1)).bind fun r5 => ((f_X8_unlikely S c3 x6 c4).bind fun r7 => lp_X3_weightOf_32 k S c2 c3 c4 fuel (x5 + (r5 - r7)) (x6 + 1)))) else none)
def f_X3_weightOf (S : Mm) (a2 : Int32) : Option (Int32) :=
  (if inb a2 144 then (if inb a2 144 then (if inb a2 144 then lp_X3_weightOf_32 (fun y5_9 y6_10 => some y5_9) S a2 (S.1 52 a2.toNatClampNeg) (S.1 53 a2.toNatClampNeg) 100000 0 (S.1 54 a2.toNatClampNeg) else none) else none) else none)
set_option maxRecDepth 100000 in
set_option maxHeartbeats 4000000 in
theorem tlp_X3_weightOf_32 {k : Int32 → Int32 → Option (Int32)} {S : Mm} {c2 : Int32} {c3 : Int32} {c4 : Int32} (hk : ∀ (x5 x6 : Int32) (out : Int32), k x5 x6 = some out → Ok D_X3_weightOf (0, 0) (0, 0) 77 [(0, .ref 50), (1, .ref 6), (2, .int c2), (3, .int c3), (4, .int c4), (5, .int x5), (6, .int x6)] [] (St S) (An (some (.int out)) S)) : ∀ (fuel : Nat) (x5 x6 : Int32) (out : Int32), lp_X3_weightOf_32 k S c2 c3 c4 fuel x5 x6 = some out → Ok D_X3_weightOf (0, 0) (0, 0) 32 [(0, .ref 50), (1, .ref 6), (2, .int c2), (3, .int c3), (4, .int c4), (5, .int x5), (6, .int x6)] [] (St S) (An (some (.int out)) S) := by
  intro fuel
  induction fuel with
  | zero => intro x5 x6 out h; cases h
  | succ fuel ih =>
    intro x5 x6 out h
    rw [lp_X3_weightOf_32] at h
    refine ok_iload dX3_weightOf_32 6 rfl ?_
    refine ok_aload_n dX3_weightOf_34 0 rfl ?_
    refine okS_getR dX3_weightOf_35 fl_X3_13 pr_50_0 ?_
    refine ok_iconst (v := 3) dX3_weightOf_38 ic_3 ?_
    refine okS_rowL (y := 55) dX3_weightOf_39 pg_51 (by decide) (by decide) ?_
    refine ok_iload_n dX3_weightOf_40 2 rfl ?_
    obtain ⟨hi4, h⟩ := it_some h
    refine okS_iaload dX3_weightOf_41 pa_55 hi4 ?_
    refine ok_icmp_gt (tgt := 77) dX3_weightOf_42 (by decide) (fun hc => ?_) (fun hc => ?_)
    · replace h := it_pos hc h
      refine ok_perm [0, 1, 2, 3, 4, 5, 6] rfl ?_
      exact hk _ _ _ h
    · replace h := it_neg hc h
      refine ok_iload dX3_weightOf_45 5 rfl ?_
      refine ok_aload_n dX3_weightOf_47 1 rfl ?_
      refine ok_iload_n dX3_weightOf_48 3 rfl ?_
      refine ok_iload dX3_weightOf_49 6 rfl ?_
      refine ok_iload dX3_weightOf_51 4 rfl ?_
      refine ok_iconst (v := 1) dX3_weightOf_53 ic_1 ?_
      refine ok_isub dX3_weightOf_54 ?_
      obtain ⟨r5, e6, h⟩ := it_bind h
      refine okS_V (as := [.int c3, .int x6, .int (c4 - 1)]) (st := [.int x5]) (r := some (.int r5)) (S' := S) dX3_weightOf_55 cv_X3_71 rfl po_6 (Nat.le_of_ble_eq_true rfl) ⟨⟨by decide, by decide⟩, rfl, rfl⟩ (t_X8_unlikely e6) ?_
      show Ok D_X3_weightOf (0, 0) (0, 0) 58 [(0, .ref 50), (1, .ref 6), (2, .int c2), (3, .int c3), (4, .int c4), (5, .int x5), (6, .int x6)] [.int r5, .int x5] (St S) _
      refine ok_aload_n dX3_weightOf_58 1 rfl ?_
      refine ok_iload_n dX3_weightOf_59 3 rfl ?_
      refine ok_iload dX3_weightOf_60 6 rfl ?_
      refine ok_iload dX3_weightOf_62 4 rfl ?_
      obtain ⟨r7, e8, h⟩ := it_bind h
      refine okS_V (as := [.int c3, .int x6, .int c4]) (st := [.int r5, .int x5]) (r := some (.int r7)) (S' := S) dX3_weightOf_64 cv_X3_71 rfl po_6 (Nat.le_of_ble_eq_true rfl) ⟨⟨by decide, by decide⟩, rfl, rfl⟩ (t_X8_unlikely e8) ?_
      show Ok D_X3_weightOf (0, 0) (0, 0) 67 [(0, .ref 50), (1, .ref 6), (2, .int c2), (3, .int c3), (4, .int c4), (5, .int x5), (6, .int x6)] [.int r7, .int r5, .int x5] (St S) _
      refine ok_isub dX3_weightOf_67 ?_
      refine ok_iadd dX3_weightOf_68 ?_
      refine ok_istore (L' := [(5, .int (x5 + (r5 - r7))), (0, .ref 50), (1, .ref 6), (2, .int c2), (3, .int c3), (4, .int c4), (6, .int x6)]) dX3_weightOf_69 (by decide) rfl ?_
      refine ok_iinc (v := x6 + 1) (L' := [(6, .int (x6 + 1)), (5, .int (x5 + (r5 - r7))), (0, .ref 50), (1, .ref 6), (2, .int c2), (3, .int c3), (4, .int c4)]) dX3_weightOf_71 6 rfl (ii_1 _) (by decide) rfl ?_
      refine ok_goto (tgt := 32) dX3_weightOf_74 (by decide) ?_
      refine ok_perm [2, 3, 4, 5, 6, 1, 0] rfl ?_
      exact ih _ _ _ h
set_option maxRecDepth 100000 in
set_option maxHeartbeats 4000000 in
theorem t_X3_weightOf {S : Mm} {a2 : Int32} {out : Int32} (h : f_X3_weightOf S a2 = some out) : Rs D_X3_weightOf [.ref 50, .ref 6, .int a2] S (some (.int out)) S := by
  refine rs_of (by decide) rfl (Nat.le_of_ble_eq_true rfl) ?_
  unfold f_X3_weightOf at h
  show Ok D_X3_weightOf (0, 0) (0, 0) 0 [(0, .ref 50), (1, .ref 6), (2, .int a2)] [] (St S) _
  refine ok_aload_n dX3_weightOf_0 0 rfl ?_
  refine okS_getR dX3_weightOf_1 fl_X3_13 pr_50_0 ?_
  refine ok_iconst (v := 0) dX3_weightOf_4 ic_0 ?_
  refine okS_rowL (y := 52) dX3_weightOf_5 pg_51 (by decide) (by decide) ?_
  refine ok_iload_n dX3_weightOf_6 2 rfl ?_
  obtain ⟨hi1, h⟩ := it_some h
  refine okS_iaload dX3_weightOf_7 pa_52 hi1 ?_
  refine ok_istore_n (L' := [(3, .int (S.1 52 a2.toNatClampNeg)), (0, .ref 50), (1, .ref 6), (2, .int a2)]) dX3_weightOf_8 (by decide) rfl ?_
  refine ok_aload_n dX3_weightOf_9 1 rfl ?_
  refine okS_getR dX3_weightOf_10 fl_X3_13 pr_50_0 ?_
  refine ok_iconst (v := 1) dX3_weightOf_13 ic_1 ?_
  refine okS_rowL (y := 53) dX3_weightOf_14 pg_51 (by decide) (by decide) ?_
  refine ok_iload_n dX3_weightOf_15 3 rfl ?_
  obtain ⟨hi2, h⟩ := it_some h
  refine okS_iaload dX3_weightOf_16 pa_53 hi2 ?_
  refine ok_istore (L' := [(4, .int (S.1 53 a2.toNatClampNeg)), (3, .int (S.1 52 a2.toNatClampNeg)), (0, .ref 50), (1, .ref 6), (2, .int a2)]) dX3_weightOf_17 (by decide) rfl ?_
  refine ok_iconst (v := 0) dX3_weightOf_19 ic_0 ?_
  refine ok_istore (L' := [(5, .int 0), (4, .int (S.1 53 a2.toNatClampNeg)), (3, .int (S.1 52 a2.toNatClampNeg)), (0, .ref 50), (1, .ref 6), (2, .int a2)]) dX3_weightOf_20 (by decide) rfl ?_
  refine ok_aload_n dX3_weightOf_22 3 rfl ?_
  refine okS_getR dX3_weightOf_23 fl_X3_13 pr_50_0 ?_
  refine ok_iconst (v := 2) dX3_weightOf_26 ic_2 ?_
  refine okS_rowL (y := 54) dX3_weightOf_27 pg_51 (by decide) (by decide) ?_
  refine ok_iload_n dX3_weightOf_28 5 rfl ?_
  obtain ⟨hi3, h⟩ := it_some h
  refine okS_iaload dX3_weightOf_29 pa_54 hi3 ?_
  refine ok_istore (L' := [(6, .int (S.1 54 a2.toNatClampNeg)), (5, .int 0), (4, .int (S.1 53 a2.toNatClampNeg)), (3, .int (S.1 52 a2.toNatClampNeg)), (0, .ref 50), (1, .ref 6), (2, .int a2)]) dX3_weightOf_30 (by decide) rfl ?_
  refine ok_perm [4, 5, 6, 3, 2, 1, 0] rfl ?_
  refine tlp_X3_weightOf_32 (fun y5_9 y6_10 out11 h => ?_) _ _ _ _ h
  refine ok_iload dX3_weightOf_77 5 rfl ?_
  exact okS_ret dX3_weightOf_79 rfl rfl (by have e := Option.some.inj h; subst e; exact ⟨rfl, rfl⟩)
def lp_X3_peakOf_25 (k : Int32 → Int32 → Option (Int32)) (S : Mm) (c2 : Int32) (c3 : Int32) : Nat → Int32 → Int32 → Option (Int32)
  | 0, _, _ => none
  | fuel + 1, x4, x5 => (if inb c2 144 then (if (S.1 55 c2.toNatClampNeg) < x5 then k x4 x5 else ((f_X8_count S c3 x5).bind fun r4 => ((f_X8_count S c3 x4).bind fun r6 => (if r4 ≤ r6 then lp_X3_peakOf_25 k S c2 c3 fuel x4 (x5 + 1) else lp_X3_peakOf_25 k S c2 c3 fuel x5 (x5 + 1))))) else none)
def f_X3_peakOf (S : Mm) (a2 : Int32) : Option (Int32) :=
  (if inb a2 144 then (if inb a2 144 then lp_X3_peakOf_25 (fun y4_8 y5_9 => some y4_8) S a2 (S.1 52 a2.toNatClampNeg) 100000 (S.1 54 a2.toNatClampNeg) ((S.1 54 a2.toNatClampNeg) + 1) else none) else none)
set_option maxRecDepth 100000 in
set_option maxHeartbeats 4000000 in
theorem tlp_X3_peakOf_25 {k : Int32 → Int32 → Option (Int32)} {S : Mm} {c2 : Int32} {c3 : Int32} (hk : ∀ (x4 x5 : Int32) (out : Int32), k x4 x5 = some out → Ok D_X3_peakOf (0, 0) (0, 0) 65 [(0, .ref 50), (1, .ref 6), (2, .int c2), (3, .int c3), (4, .int x4), (5, .int x5)] [] (St S) (An (some (.int out)) S)) : ∀ (fuel : Nat) (x4 x5 : Int32) (out : Int32), lp_X3_peakOf_25 k S c2 c3 fuel x4 x5 = some out → Ok D_X3_peakOf (0, 0) (0, 0) 25 [(0, .ref 50), (1, .ref 6), (2, .int c2), (3, .int c3), (4, .int x4), (5, .int x5)] [] (St S) (An (some (.int out)) S) := by
  intro fuel
  induction fuel with
  | zero => intro x4 x5 out h; cases h
  | succ fuel ih =>
    intro x4 x5 out h
    rw [lp_X3_peakOf_25] at h
    refine ok_iload dX3_peakOf_25 5 rfl ?_
    refine ok_aload_n dX3_peakOf_27 0 rfl ?_
    refine okS_getR dX3_peakOf_28 fl_X3_13 pr_50_0 ?_
    refine ok_iconst (v := 3) dX3_peakOf_31 ic_3 ?_
    refine okS_rowL (y := 55) dX3_peakOf_32 pg_51 (by decide) (by decide) ?_
    refine ok_iload_n dX3_peakOf_33 2 rfl ?_
    obtain ⟨hi3, h⟩ := it_some h
    refine okS_iaload dX3_peakOf_34 pa_55 hi3 ?_
    refine ok_icmp_gt (tgt := 65) dX3_peakOf_35 (by decide) (fun hc => ?_) (fun hc => ?_)
    · replace h := it_pos hc h
      refine ok_perm [0, 1, 2, 3, 4, 5] rfl ?_
      exact hk _ _ _ h
    · replace h := it_neg hc h
      refine ok_aload_n dX3_peakOf_38 1 rfl ?_
      refine ok_iload_n dX3_peakOf_39 3 rfl ?_
      refine ok_iload dX3_peakOf_40 5 rfl ?_
      obtain ⟨r4, e5, h⟩ := it_bind h
      refine okS_V (as := [.int c3, .int x5]) (st := []) (r := some (.int r4)) (S' := S) dX3_peakOf_42 cv_X3_75 rfl po_6 (Nat.le_of_ble_eq_true rfl) ⟨⟨by decide, by decide⟩, rfl, rfl⟩ (t_X8_count e5) ?_
      show Ok D_X3_peakOf (0, 0) (0, 0) 45 [(0, .ref 50), (1, .ref 6), (2, .int c2), (3, .int c3), (4, .int x4), (5, .int x5)] [.int r4] (St S) _
      refine ok_aload_n dX3_peakOf_45 1 rfl ?_
      refine ok_iload_n dX3_peakOf_46 3 rfl ?_
      refine ok_iload dX3_peakOf_47 4 rfl ?_
      obtain ⟨r6, e7, h⟩ := it_bind h
      refine okS_V (as := [.int c3, .int x4]) (st := [.int r4]) (r := some (.int r6)) (S' := S) dX3_peakOf_49 cv_X3_75 rfl po_6 (Nat.le_of_ble_eq_true rfl) ⟨⟨by decide, by decide⟩, rfl, rfl⟩ (t_X8_count e7) ?_
      show Ok D_X3_peakOf (0, 0) (0, 0) 52 [(0, .ref 50), (1, .ref 6), (2, .int c2), (3, .int c3), (4, .int x4), (5, .int x5)] [.int r6, .int r4] (St S) _
      refine ok_icmp_le (tgt := 59) dX3_peakOf_52 (by decide) (fun hc => ?_) (fun hc => ?_)
      · replace h := it_pos hc h
        refine ok_iinc (v := x5 + 1) (L' := [(5, .int (x5 + 1)), (0, .ref 50), (1, .ref 6), (2, .int c2), (3, .int c3), (4, .int x4)]) dX3_peakOf_59 5 rfl (ii_1 _) (by decide) rfl ?_
        refine ok_goto (tgt := 25) dX3_peakOf_62 (by decide) ?_
        refine ok_perm [1, 2, 3, 4, 5, 0] rfl ?_
        exact ih _ _ _ h
      · replace h := it_neg hc h
        refine ok_iload dX3_peakOf_55 5 rfl ?_
        refine ok_istore (L' := [(4, .int x5), (0, .ref 50), (1, .ref 6), (2, .int c2), (3, .int c3), (5, .int x5)]) dX3_peakOf_57 (by decide) rfl ?_
        refine ok_iinc (v := x5 + 1) (L' := [(5, .int (x5 + 1)), (4, .int x5), (0, .ref 50), (1, .ref 6), (2, .int c2), (3, .int c3)]) dX3_peakOf_59 5 rfl (ii_1 _) (by decide) rfl ?_
        refine ok_goto (tgt := 25) dX3_peakOf_62 (by decide) ?_
        refine ok_perm [2, 3, 4, 5, 1, 0] rfl ?_
        exact ih _ _ _ h
set_option maxRecDepth 100000 in
set_option maxHeartbeats 4000000 in
theorem t_X3_peakOf {S : Mm} {a2 : Int32} {out : Int32} (h : f_X3_peakOf S a2 = some out) : Rs D_X3_peakOf [.ref 50, .ref 6, .int a2] S (some (.int out)) S := by
  refine rs_of (by decide) rfl (Nat.le_of_ble_eq_true rfl) ?_
  unfold f_X3_peakOf at h
  show Ok D_X3_peakOf (0, 0) (0, 0) 0 [(0, .ref 50), (1, .ref 6), (2, .int a2)] [] (St S) _
  refine ok_aload_n dX3_peakOf_0 0 rfl ?_
  refine okS_getR dX3_peakOf_1 fl_X3_13 pr_50_0 ?_
  refine ok_iconst (v := 0) dX3_peakOf_4 ic_0 ?_
  refine okS_rowL (y := 52) dX3_peakOf_5 pg_51 (by decide) (by decide) ?_
  refine ok_iload_n dX3_peakOf_6 2 rfl ?_
  obtain ⟨hi1, h⟩ := it_some h
  refine okS_iaload dX3_peakOf_7 pa_52 hi1 ?_
  refine ok_istore_n (L' := [(3, .int (S.1 52 a2.toNatClampNeg)), (0, .ref 50), (1, .ref 6), (2, .int a2)]) dX3_peakOf_8 (by decide) rfl ?_
  refine ok_aload_n dX3_peakOf_9 1 rfl ?_
  refine okS_getR dX3_peakOf_10 fl_X3_13 pr_50_0 ?_
  refine ok_iconst (v := 2) dX3_peakOf_13 ic_2 ?_
  refine okS_rowL (y := 54) dX3_peakOf_14 pg_51 (by decide) (by decide) ?_
  refine ok_iload_n dX3_peakOf_15 3 rfl ?_
  obtain ⟨hi2, h⟩ := it_some h
  refine okS_iaload dX3_peakOf_16 pa_54 hi2 ?_
  refine ok_istore (L' := [(4, .int (S.1 54 a2.toNatClampNeg)), (3, .int (S.1 52 a2.toNatClampNeg)), (0, .ref 50), (1, .ref 6), (2, .int a2)]) dX3_peakOf_17 (by decide) rfl ?_
  refine ok_iload dX3_peakOf_19 0 rfl ?_
  refine ok_iconst (v := 1) dX3_peakOf_21 ic_1 ?_
  refine ok_iadd dX3_peakOf_22 ?_
  refine ok_istore (L' := [(5, .int ((S.1 54 a2.toNatClampNeg) + 1)), (4, .int (S.1 54 a2.toNatClampNeg)), (3, .int (S.1 52 a2.toNatClampNeg)), (0, .ref 50), (1, .ref 6), (2, .int a2)]) dX3_peakOf_23 (by decide) rfl ?_
  refine ok_perm [3, 4, 5, 2, 1, 0] rfl ?_
  refine tlp_X3_peakOf_25 (fun y4_8 y5_9 out10 h => ?_) _ _ _ _ h
  refine ok_iload dX3_peakOf_65 4 rfl ?_
  exact okS_ret dX3_peakOf_67 rfl rfl (by have e := Option.some.inj h; subst e; exact ⟨rfl, rfl⟩)
def f_X3_fadeOf (S : Mm) (a2 : Int32) : Option (Int32) :=
  (if inb a2 144 then (if inb a2 144 then ((f_X8_count S (S.1 52 a2.toNatClampNeg) (S.1 58 a2.toNatClampNeg)).bind fun r3 => (if inb a2 144 then ((f_X8_count S (S.1 52 a2.toNatClampNeg) (S.1 55 a2.toNatClampNeg)).bind fun r6 => some (r3 - r6)) else none)) else none) else none)
set_option maxRecDepth 100000 in
set_option maxHeartbeats 4000000 in
theorem t_X3_fadeOf {S : Mm} {a2 : Int32} {out : Int32} (h : f_X3_fadeOf S a2 = some out) : Rs D_X3_fadeOf [.ref 50, .ref 6, .int a2] S (some (.int out)) S := by
  refine rs_of (by decide) rfl (Nat.le_of_ble_eq_true rfl) ?_
  unfold f_X3_fadeOf at h
  show Ok D_X3_fadeOf (0, 0) (0, 0) 0 [(0, .ref 50), (1, .ref 6), (2, .int a2)] [] (St S) _
  refine ok_aload_n dX3_fadeOf_0 0 rfl ?_
  refine okS_getR dX3_fadeOf_1 fl_X3_13 pr_50_0 ?_
  refine ok_iconst (v := 0) dX3_fadeOf_4 ic_0 ?_
  refine okS_rowL (y := 52) dX3_fadeOf_5 pg_51 (by decide) (by decide) ?_
  refine ok_iload_n dX3_fadeOf_6 2 rfl ?_
  obtain ⟨hi1, h⟩ := it_some h
  refine okS_iaload dX3_fadeOf_7 pa_52 hi1 ?_
  refine ok_istore_n (L' := [(3, .int (S.1 52 a2.toNatClampNeg)), (0, .ref 50), (1, .ref 6), (2, .int a2)]) dX3_fadeOf_8 (by decide) rfl ?_
  refine ok_aload_n dX3_fadeOf_9 2 rfl ?_
  refine ok_iload_n dX3_fadeOf_10 0 rfl ?_
  refine ok_aload_n dX3_fadeOf_11 1 rfl ?_
  refine okS_getR dX3_fadeOf_12 fl_X3_13 pr_50_0 ?_
  refine ok_bipush (v := 6) dX3_fadeOf_15 bi_6 ?_
  refine okS_rowL (y := 58) dX3_fadeOf_17 pg_51 (by decide) (by decide) ?_
  refine ok_iload_n dX3_fadeOf_18 3 rfl ?_
  obtain ⟨hi2, h⟩ := it_some h
  refine okS_iaload dX3_fadeOf_19 pa_58 hi2 ?_
  obtain ⟨r3, e4, h⟩ := it_bind h
  refine okS_V (as := [.int (S.1 52 a2.toNatClampNeg), .int (S.1 58 a2.toNatClampNeg)]) (st := []) (r := some (.int r3)) (S' := S) dX3_fadeOf_20 cv_X3_75 rfl po_6 (Nat.le_of_ble_eq_true rfl) ⟨⟨by decide, by decide⟩, rfl, rfl⟩ (t_X8_count e4) ?_
  show Ok D_X3_fadeOf (0, 0) (0, 0) 23 [(3, .int (S.1 52 a2.toNatClampNeg)), (0, .ref 50), (1, .ref 6), (2, .int a2)] [.int r3] (St S) _
  refine ok_aload_n dX3_fadeOf_23 2 rfl ?_
  refine ok_iload_n dX3_fadeOf_24 0 rfl ?_
  refine ok_aload_n dX3_fadeOf_25 1 rfl ?_
  refine okS_getR dX3_fadeOf_26 fl_X3_13 pr_50_0 ?_
  refine ok_iconst (v := 3) dX3_fadeOf_29 ic_3 ?_
  refine okS_rowL (y := 55) dX3_fadeOf_30 pg_51 (by decide) (by decide) ?_
  refine ok_iload_n dX3_fadeOf_31 3 rfl ?_
  obtain ⟨hi5, h⟩ := it_some h
  refine okS_iaload dX3_fadeOf_32 pa_55 hi5 ?_
  obtain ⟨r6, e7, h⟩ := it_bind h
  refine okS_V (as := [.int (S.1 52 a2.toNatClampNeg), .int (S.1 55 a2.toNatClampNeg)]) (st := [.int r3]) (r := some (.int r6)) (S' := S) dX3_fadeOf_33 cv_X3_75 rfl po_6 (Nat.le_of_ble_eq_true rfl) ⟨⟨by decide, by decide⟩, rfl, rfl⟩ (t_X8_count e7) ?_
  show Ok D_X3_fadeOf (0, 0) (0, 0) 36 [(3, .int (S.1 52 a2.toNatClampNeg)), (0, .ref 50), (1, .ref 6), (2, .int a2)] [.int r6, .int r3] (St S) _
  refine ok_isub dX3_fadeOf_36 ?_
  exact okS_ret dX3_fadeOf_37 rfl rfl (by have e := Option.some.inj h; subst e; exact ⟨rfl, rfl⟩)
def lp_X3_findAll_16 (k : Int32 → Mm → Option (Mm)) (c3 : Int32) : Nat → Int32 → Mm → Option (Mm)
  | 0, _, _ => none
  | fuel + 1, x4, S => ((f_X8_highest S).bind fun r1 => (if r1 < x4 then k x4 S else ((f_X8_dayCount S).bind fun r3 => ((f_X3_findAt S c3 x4 r3).bind fun r5 => lp_X3_findAll_16 k c3 fuel (x4 + 1) r5))))
def lp_X3_findAll_7 (k : Int32 → Mm → Option (Mm)) : Nat → Int32 → Mm → Option (Mm)
  | 0, _, _ => none
  | fuel + 1, x3, S => (if 8 ≤ x3 then k x3 S else lp_X3_findAll_16 (fun y4_7 S8 => lp_X3_findAll_7 k fuel (x3 + 1) S8) x3 100000 1 S)
def lp_X3_findAll_51 (k : Int32 → Mm → Option (Mm)) : Nat → Int32 → Mm → Option (Mm)
  | 0, _, _ => none
  | fuel + 1, x3, S => (if (S.1 50 1) ≤ x3 then k x3 S else ((f_X3_around S x3).bind fun r13 => (if inb x3 144 then ((f_X3_weightOf (wr S 56 x3.toNatClampNeg r13) x3).bind fun r16 => (if inb x3 144 then ((f_X3_peakOf (wr (wr S 56 x3.toNatClampNeg r13) 57 x3.toNatClampNeg (r16 + 1000)) x3).bind fun r19 => (if inb x3 144 then ((f_X3_fadeOf (wr (wr (wr S 56 x3.toNatClampNeg r13) 57 x3.toNatClampNeg (r16 + 1000)) 58 x3.toNatClampNeg r19) x3).bind fun r22 => (if inb x3 144 then (if inb x3 144 then lp_X3_findAll_51 k fuel (x3 + 1) (wr (wr (wr (wr (wr S 56 x3.toNatClampNeg r13) 57 x3.toNatClampNeg (r16 + 1000)) 58 x3.toNatClampNeg r19) 59 x3.toNatClampNeg r22) 60 x3.toNatClampNeg (-1)) else none) else none)) else none)) else none)) else none)))
def f_X3_findAll (S : Mm)  : Option (Mm) :=
  lp_X3_findAll_7 (fun y3_10 S11 => lp_X3_findAll_51 (fun y3_26 S27 => some S27) 100000 0 S11) 100000 0 (wr S 50 1 0)
set_option maxRecDepth 100000 in
set_option maxHeartbeats 4000000 in
theorem tlp_X3_findAll_16 {k : Int32 → Mm → Option (Mm)} {c3 : Int32} (hk : ∀ (x4 : Int32) (S : Mm) (out : Mm), k x4 S = some out → Ok D_X3_findAll (0, 0) (0, 0) 43 [(0, .ref 50), (1, .ref 6), (2, .ref 26), (3, .int c3), (4, .int x4)] [] (St S) (An none out)) : ∀ (fuel : Nat) (x4 : Int32) (S : Mm) (out : Mm), lp_X3_findAll_16 k c3 fuel x4 S = some out → Ok D_X3_findAll (0, 0) (0, 0) 16 [(0, .ref 50), (1, .ref 6), (2, .ref 26), (3, .int c3), (4, .int x4)] [] (St S) (An none out) := by
  intro fuel
  induction fuel with
  | zero => intro x4 S out h; cases h
  | succ fuel ih =>
    intro x4 S out h
    rw [lp_X3_findAll_16] at h
    refine ok_iload dX3_findAll_16 4 rfl ?_
    refine ok_aload_n dX3_findAll_18 1 rfl ?_
    obtain ⟨r1, e2, h⟩ := it_bind h
    refine okS_V (as := []) (st := [.int x4]) (r := some (.int r1)) (S' := S) dX3_findAll_19 cv_X3_31 rfl po_6 (Nat.le_of_ble_eq_true rfl) ⟨⟨by decide, by decide⟩, rfl, rfl⟩ (t_X8_highest e2) ?_
    show Ok D_X3_findAll (0, 0) (0, 0) 22 [(0, .ref 50), (1, .ref 6), (2, .ref 26), (3, .int c3), (4, .int x4)] [.int r1, .int x4] (St S) _
    refine ok_icmp_gt (tgt := 43) dX3_findAll_22 (by decide) (fun hc => ?_) (fun hc => ?_)
    · replace h := it_pos hc h
      refine ok_perm [0, 1, 2, 3, 4] rfl ?_
      exact hk _ _ _ h
    · replace h := it_neg hc h
      refine ok_aload_n dX3_findAll_25 0 rfl ?_
      refine ok_aload_n dX3_findAll_26 2 rfl ?_
      refine ok_iload_n dX3_findAll_27 3 rfl ?_
      refine ok_iload dX3_findAll_28 4 rfl ?_
      refine ok_aload_n dX3_findAll_30 1 rfl ?_
      obtain ⟨r3, e4, h⟩ := it_bind h
      refine okS_V (as := []) (st := [.int x4, .int c3, .ref 26, .ref 50]) (r := some (.int r3)) (S' := S) dX3_findAll_31 cv_X3_37 rfl po_6 (Nat.le_of_ble_eq_true rfl) ⟨⟨by decide, by decide⟩, rfl, rfl⟩ (t_X8_dayCount e4) ?_
      show Ok D_X3_findAll (0, 0) (0, 0) 34 [(0, .ref 50), (1, .ref 6), (2, .ref 26), (3, .int c3), (4, .int x4)] [.int r3, .int x4, .int c3, .ref 26, .ref 50] (St S) _
      obtain ⟨r5, e6, h⟩ := it_bind h
      refine okS_V (as := [.ref 26, .int c3, .int x4, .int r3]) (st := []) (r := none) (S' := r5) dX3_findAll_34 cv_X3_40 rfl po_50 (Nat.le_of_ble_eq_true rfl) ⟨⟨by decide, by decide⟩, rfl, rfl⟩ (t_X3_findAt e6) ?_
      show Ok D_X3_findAll (0, 0) (0, 0) 37 [(0, .ref 50), (1, .ref 6), (2, .ref 26), (3, .int c3), (4, .int x4)] [] (St r5) _
      refine ok_iinc (v := x4 + 1) (L' := [(4, .int (x4 + 1)), (0, .ref 50), (1, .ref 6), (2, .ref 26), (3, .int c3)]) dX3_findAll_37 4 rfl (ii_1 _) (by decide) rfl ?_
      refine ok_goto (tgt := 16) dX3_findAll_40 (by decide) ?_
      refine ok_perm [1, 2, 3, 4, 0] rfl ?_
      exact ih _ _ _ h
set_option maxRecDepth 100000 in
set_option maxHeartbeats 4000000 in
theorem tlp_X3_findAll_7 {k : Int32 → Mm → Option (Mm)} (hk : ∀ (x3 : Int32) (S : Mm) (out : Mm), k x3 S = some out → Ok D_X3_findAll (0, 0) (0, 0) 49 [(0, .ref 50), (1, .ref 6), (2, .ref 26), (3, .int x3)] [] (St S) (An none out)) : ∀ (fuel : Nat) (x3 : Int32) (S : Mm) (out : Mm), lp_X3_findAll_7 k fuel x3 S = some out → Ok D_X3_findAll (0, 0) (0, 0) 7 [(0, .ref 50), (1, .ref 6), (2, .ref 26), (3, .int x3)] [] (St S) (An none out) := by
  intro fuel
  induction fuel with
  | zero => intro x3 S out h; cases h
  | succ fuel ih =>
    intro x3 S out h
    rw [lp_X3_findAll_7] at h
    refine ok_iload_n dX3_findAll_7 3 rfl ?_
    refine ok_bipush (v := 8) dX3_findAll_8 bi_8 ?_
    refine ok_icmp_ge (tgt := 49) dX3_findAll_10 (by decide) (fun hc => ?_) (fun hc => ?_)
    · replace h := it_pos hc h
      refine ok_perm [0, 1, 2, 3] rfl ?_
      exact hk _ _ _ h
    · replace h := it_neg hc h
      refine ok_iconst (v := 1) dX3_findAll_13 ic_1 ?_
      refine ok_istore (L' := [(4, .int 1), (0, .ref 50), (1, .ref 6), (2, .ref 26), (3, .int x3)]) dX3_findAll_14 (by decide) rfl ?_
      refine ok_perm [1, 2, 3, 4, 0] rfl ?_
      refine tlp_X3_findAll_16 (fun y4_7 S8 out9 h => ?_) _ _ _ _ h
      refine ok_iinc (v := x3 + 1) (L' := [(3, .int (x3 + 1)), (0, .ref 50), (1, .ref 6), (2, .ref 26), (4, .int y4_7)]) dX3_findAll_43 3 rfl (ii_1 _) (by decide) rfl ?_
      refine ok_goto (tgt := 7) dX3_findAll_46 (by decide) ?_
      refine ok_perm [1, 2, 3, 0] rfl ?_
      exact ih _ _ _ h
set_option maxRecDepth 100000 in
set_option maxHeartbeats 4000000 in
theorem tlp_X3_findAll_51 {k : Int32 → Mm → Option (Mm)} (hk : ∀ (x3 : Int32) (S : Mm) (out : Mm), k x3 S = some out → Ok D_X3_findAll (0, 0) (0, 0) 136 [(0, .ref 50), (1, .ref 6), (2, .ref 26), (3, .int x3)] [] (St S) (An none out)) : ∀ (fuel : Nat) (x3 : Int32) (S : Mm) (out : Mm), lp_X3_findAll_51 k fuel x3 S = some out → Ok D_X3_findAll (0, 0) (0, 0) 51 [(0, .ref 50), (1, .ref 6), (2, .ref 26), (3, .int x3)] [] (St S) (An none out) := by
  intro fuel
  induction fuel with
  | zero => intro x3 S out h; cases h
  | succ fuel ih =>
    intro x3 S out h
    rw [lp_X3_findAll_51] at h
    refine ok_iload_n dX3_findAll_51 3 rfl ?_
    refine ok_aload_n dX3_findAll_52 0 rfl ?_
    refine okS_getI dX3_findAll_53 fl_X3_16 pi_50_1 ?_
    refine ok_icmp_ge (tgt := 136) dX3_findAll_56 (by decide) (fun hc => ?_) (fun hc => ?_)
    · replace h := it_pos hc h
      refine ok_perm [0, 1, 2, 3] rfl ?_
      exact hk _ _ _ h
    · replace h := it_neg hc h
      refine ok_aload_n dX3_findAll_59 0 rfl ?_
      refine okS_getR dX3_findAll_60 fl_X3_13 pr_50_0 ?_
      refine ok_iconst (v := 4) dX3_findAll_63 ic_4 ?_
      refine okS_rowL (y := 56) dX3_findAll_64 pg_51 (by decide) (by decide) ?_
      refine ok_iload_n dX3_findAll_65 3 rfl ?_
      refine ok_aload_n dX3_findAll_66 0 rfl ?_
      refine ok_iload_n dX3_findAll_67 3 rfl ?_
      obtain ⟨r13, e14, h⟩ := it_bind h
      refine okS_V (as := [.int x3]) (st := [.int x3, .ref 56]) (r := some (.int r13)) (S' := S) dX3_findAll_68 cv_X3_44 rfl po_50 (Nat.le_of_ble_eq_true rfl) ⟨⟨by decide, by decide⟩, rfl, rfl⟩ (t_X3_around e14) ?_
      show Ok D_X3_findAll (0, 0) (0, 0) 71 [(0, .ref 50), (1, .ref 6), (2, .ref 26), (3, .int x3)] [.int r13, .int x3, .ref 56] (St S) _
      obtain ⟨hi15, h⟩ := it_some h
      refine okS_iastore dX3_findAll_71 pa_56 hi15 ?_
      refine ok_aload_n dX3_findAll_72 0 rfl ?_
      refine okS_getR dX3_findAll_73 fl_X3_13 pr_50_0 ?_
      refine ok_iconst (v := 5) dX3_findAll_76 ic_5 ?_
      refine okS_rowL (y := 57) dX3_findAll_77 pg_51 (by decide) (by decide) ?_
      refine ok_iload_n dX3_findAll_78 3 rfl ?_
      refine ok_aload_n dX3_findAll_79 0 rfl ?_
      refine ok_aload_n dX3_findAll_80 1 rfl ?_
      refine ok_iload_n dX3_findAll_81 3 rfl ?_
      obtain ⟨r16, e17, h⟩ := it_bind h
      refine okS_V (as := [.ref 6, .int x3]) (st := [.int x3, .ref 57]) (r := some (.int r16)) (S' := (wr S 56 x3.toNatClampNeg r13)) dX3_findAll_82 cv_X3_47 rfl po_50 (Nat.le_of_ble_eq_true rfl) ⟨⟨by decide, by decide⟩, rfl, rfl⟩ (t_X3_weightOf e17) ?_
      show Ok D_X3_findAll (0, 0) (0, 0) 85 [(0, .ref 50), (1, .ref 6), (2, .ref 26), (3, .int x3)] [.int r16, .int x3, .ref 57] (St (wr S 56 x3.toNatClampNeg r13)) _
      refine ok_sipush (v := 1000) dX3_findAll_85 si_1000 ?_
      refine ok_iadd dX3_findAll_88 ?_
      obtain ⟨hi18, h⟩ := it_some h
      refine okS_iastore dX3_findAll_89 pa_57 hi18 ?_
      refine ok_aload_n dX3_findAll_90 0 rfl ?_
      refine okS_getR dX3_findAll_91 fl_X3_13 pr_50_0 ?_
      refine ok_bipush (v := 6) dX3_findAll_94 bi_6 ?_
      refine okS_rowL (y := 58) dX3_findAll_96 pg_51 (by decide) (by decide) ?_
      refine ok_iload_n dX3_findAll_97 3 rfl ?_
      refine ok_aload_n dX3_findAll_98 0 rfl ?_
      refine ok_aload_n dX3_findAll_99 1 rfl ?_
      refine ok_iload_n dX3_findAll_100 3 rfl ?_
      obtain ⟨r19, e20, h⟩ := it_bind h
      refine okS_V (as := [.ref 6, .int x3]) (st := [.int x3, .ref 58]) (r := some (.int r19)) (S' := (wr (wr S 56 x3.toNatClampNeg r13) 57 x3.toNatClampNeg (r16 + 1000))) dX3_findAll_101 cv_X3_51 rfl po_50 (Nat.le_of_ble_eq_true rfl) ⟨⟨by decide, by decide⟩, rfl, rfl⟩ (t_X3_peakOf e20) ?_
      show Ok D_X3_findAll (0, 0) (0, 0) 104 [(0, .ref 50), (1, .ref 6), (2, .ref 26), (3, .int x3)] [.int r19, .int x3, .ref 58] (St (wr (wr S 56 x3.toNatClampNeg r13) 57 x3.toNatClampNeg (r16 + 1000))) _
      obtain ⟨hi21, h⟩ := it_some h
      refine okS_iastore dX3_findAll_104 pa_58 hi21 ?_
      refine ok_aload_n dX3_findAll_105 0 rfl ?_
      refine okS_getR dX3_findAll_106 fl_X3_13 pr_50_0 ?_
      refine ok_bipush (v := 7) dX3_findAll_109 bi_7 ?_
      refine okS_rowL (y := 59) dX3_findAll_111 pg_51 (by decide) (by decide) ?_
      refine ok_iload_n dX3_findAll_112 3 rfl ?_
      refine ok_aload_n dX3_findAll_113 0 rfl ?_
      refine ok_aload_n dX3_findAll_114 1 rfl ?_
      refine ok_iload_n dX3_findAll_115 3 rfl ?_
      obtain ⟨r22, e23, h⟩ := it_bind h
      refine okS_V (as := [.ref 6, .int x3]) (st := [.int x3, .ref 59]) (r := some (.int r22)) (S' := (wr (wr (wr S 56 x3.toNatClampNeg r13) 57 x3.toNatClampNeg (r16 + 1000)) 58 x3.toNatClampNeg r19)) dX3_findAll_116 cv_X3_54 rfl po_50 (Nat.le_of_ble_eq_true rfl) ⟨⟨by decide, by decide⟩, rfl, rfl⟩ (t_X3_fadeOf e23) ?_
      show Ok D_X3_findAll (0, 0) (0, 0) 119 [(0, .ref 50), (1, .ref 6), (2, .ref 26), (3, .int x3)] [.int r22, .int x3, .ref 59] (St (wr (wr (wr S 56 x3.toNatClampNeg r13) 57 x3.toNatClampNeg (r16 + 1000)) 58 x3.toNatClampNeg r19)) _
      obtain ⟨hi24, h⟩ := it_some h
      refine okS_iastore dX3_findAll_119 pa_59 hi24 ?_
      refine ok_aload_n dX3_findAll_120 0 rfl ?_
      refine okS_getR dX3_findAll_121 fl_X3_13 pr_50_0 ?_
      refine ok_bipush (v := 8) dX3_findAll_124 bi_8 ?_
      refine okS_rowL (y := 60) dX3_findAll_126 pg_51 (by decide) (by decide) ?_
      refine ok_iload_n dX3_findAll_127 3 rfl ?_
      refine ok_iconst (v := (-1)) dX3_findAll_128 ic_m1 ?_
      obtain ⟨hi25, h⟩ := it_some h
      refine okS_iastore dX3_findAll_129 pa_60 hi25 ?_
      refine ok_iinc (v := x3 + 1) (L' := [(3, .int (x3 + 1)), (0, .ref 50), (1, .ref 6), (2, .ref 26)]) dX3_findAll_130 3 rfl (ii_1 _) (by decide) rfl ?_
      refine ok_goto (tgt := 51) dX3_findAll_133 (by decide) ?_
      refine ok_perm [1, 2, 3, 0] rfl ?_
      exact ih _ _ _ h
set_option maxRecDepth 100000 in
set_option maxHeartbeats 4000000 in
theorem t_X3_findAll {S : Mm} {out : Mm} (h : f_X3_findAll S  = some out) : Rs D_X3_findAll [.ref 50, .ref 6, .ref 26] S none out := by
  refine rs_of (by decide) rfl (Nat.le_of_ble_eq_true rfl) ?_
  unfold f_X3_findAll at h
  show Ok D_X3_findAll (0, 0) (0, 0) 0 [(0, .ref 50), (1, .ref 6), (2, .ref 26)] [] (St S) _
  refine ok_aload_n dX3_findAll_0 0 rfl ?_
  refine ok_iconst (v := 0) dX3_findAll_1 ic_0 ?_
  refine okS_putI dX3_findAll_2 fl_X3_16 pi_50_1 ⟨rfl, rfl⟩ ?_
  refine ok_iconst (v := 0) dX3_findAll_5 ic_0 ?_
  refine ok_istore_n (L' := [(3, .int 0), (0, .ref 50), (1, .ref 6), (2, .ref 26)]) dX3_findAll_6 (by decide) rfl ?_
  refine ok_perm [1, 2, 3, 0] rfl ?_
  refine tlp_X3_findAll_7 (fun y3_10 S11 out12 h => ?_) _ _ _ _ h
  refine ok_iconst (v := 0) dX3_findAll_49 ic_0 ?_
  refine ok_istore_n (L' := [(3, .int 0), (0, .ref 50), (1, .ref 6), (2, .ref 26)]) dX3_findAll_50 (by decide) rfl ?_
  refine ok_perm [1, 2, 3, 0] rfl ?_
  refine tlp_X3_findAll_51 (fun y3_26 S27 out28 h => ?_) _ _ _ _ h
  exact okS_retv dX3_findAll_136 rfl (by have e := Option.some.inj h; subst e; exact ⟨rfl, rfl⟩)
def f_X3_number (S : Mm)  : Option (Int32) :=
  some (S.1 50 1)
set_option maxRecDepth 100000 in
set_option maxHeartbeats 4000000 in
theorem t_X3_number {S : Mm} {out : Int32} (h : f_X3_number S  = some out) : Rs D_X3_number [.ref 50] S (some (.int out)) S := by
  refine rs_of (by decide) rfl (Nat.le_of_ble_eq_true rfl) ?_
  unfold f_X3_number at h
  show Ok D_X3_number (0, 0) (0, 0) 0 [(0, .ref 50)] [] (St S) _
  refine ok_aload_n dX3_number_0 0 rfl ?_
  refine okS_getI dX3_number_1 fl_X3_16 pi_50_1 ?_
  exact okS_ret dX3_number_4 rfl rfl (by have e := Option.some.inj h; subst e; exact ⟨rfl, rfl⟩)
def f_X3_isAtOne (S : Mm) (a1 : Int32) : Option (Int32) :=
  ((f_X3_has S a1).bind fun r1 => (if r1 = 0 then some 0 else (if inb a1 144 then (if (S.1 53 a1.toNatClampNeg) = 1 then some 1 else some 0) else none)))
set_option maxRecDepth 100000 in
set_option maxHeartbeats 4000000 in
theorem t_X3_isAtOne {S : Mm} {a1 : Int32} {out : Int32} (h : f_X3_isAtOne S a1 = some out) : Rs D_X3_isAtOne [.ref 50, .int a1] S (some (.int out)) S := by
  refine rs_of (by decide) rfl (Nat.le_of_ble_eq_true rfl) ?_
  unfold f_X3_isAtOne at h
  show Ok D_X3_isAtOne (0, 0) (0, 0) 0 [(0, .ref 50), (1, .int a1)] [] (St S) _
  refine ok_aload_n dX3_isAtOne_0 0 rfl ?_
  refine ok_iload_n dX3_isAtOne_1 1 rfl ?_
  obtain ⟨r1, e2, h⟩ := it_bind h
  refine okS_V (as := [.int a1]) (st := []) (r := some (.int r1)) (S' := S) dX3_isAtOne_2 cv_X3_20 rfl po_50 (Nat.le_of_ble_eq_true rfl) ⟨⟨by decide, by decide⟩, rfl, rfl⟩ (t_X3_has e2) ?_
  show Ok D_X3_isAtOne (0, 0) (0, 0) 5 [(0, .ref 50), (1, .int a1)] [.int r1] (St S) _
  refine ok_if_eq (tgt := 24) dX3_isAtOne_5 (by decide) (fun hc => ?_) (fun hc => ?_)
  · replace h := it_pos hc h
    refine ok_iconst (v := 0) dX3_isAtOne_24 ic_0 ?_
    exact okS_ret dX3_isAtOne_25 rfl (by decide) (by have e := Option.some.inj h; subst e; exact ⟨rfl, rfl⟩)
  · replace h := it_neg hc h
    refine ok_aload_n dX3_isAtOne_8 0 rfl ?_
    refine okS_getR dX3_isAtOne_9 fl_X3_13 pr_50_0 ?_
    refine ok_iconst (v := 1) dX3_isAtOne_12 ic_1 ?_
    refine okS_rowL (y := 53) dX3_isAtOne_13 pg_51 (by decide) (by decide) ?_
    refine ok_iload_n dX3_isAtOne_14 1 rfl ?_
    obtain ⟨hi3, h⟩ := it_some h
    refine okS_iaload dX3_isAtOne_15 pa_53 hi3 ?_
    refine ok_iconst (v := 1) dX3_isAtOne_16 ic_1 ?_
    refine ok_icmp_ne (tgt := 24) dX3_isAtOne_17 (by decide) (fun hc => ?_) (fun hc => ?_)
    · replace h := it_neg hc h
      refine ok_iconst (v := 0) dX3_isAtOne_24 ic_0 ?_
      exact okS_ret dX3_isAtOne_25 rfl (by decide) (by have e := Option.some.inj h; subst e; exact ⟨rfl, rfl⟩)
    · replace h := it_pos hc h
      refine ok_iconst (v := 1) dX3_isAtOne_20 ic_1 ?_
      refine ok_goto (tgt := 25) dX3_isAtOne_21 (by decide) ?_
      exact okS_ret dX3_isAtOne_25 rfl (by decide) (by have e := Option.some.inj h; subst e; exact ⟨rfl, rfl⟩)
def f_X3_setOf (S : Mm) (a1 : Int32) : Option (Int32) :=
  ((f_X3_has S a1).bind fun r1 => (if r1 = 0 then some 0 else (if inb a1 144 then ((f_X10_setOfWord S (S.1 52 a1.toNatClampNeg)).bind fun r4 => some r4) else none)))
set_option maxRecDepth 100000 in
set_option maxHeartbeats 4000000 in
theorem t_X3_setOf {S : Mm} {a1 : Int32} {out : Int32} (h : f_X3_setOf S a1 = some out) : Rs D_X3_setOf [.ref 50, .int a1] S (some (.int out)) S := by
  refine rs_of (by decide) rfl (Nat.le_of_ble_eq_true rfl) ?_
  unfold f_X3_setOf at h
  show Ok D_X3_setOf (0, 0) (0, 0) 0 [(0, .ref 50), (1, .int a1)] [] (St S) _
  refine ok_aload_n dX3_setOf_0 0 rfl ?_
  refine ok_iload_n dX3_setOf_1 1 rfl ?_
  obtain ⟨r1, e2, h⟩ := it_bind h
  refine okS_V (as := [.int a1]) (st := []) (r := some (.int r1)) (S' := S) dX3_setOf_2 cv_X3_20 rfl po_50 (Nat.le_of_ble_eq_true rfl) ⟨⟨by decide, by decide⟩, rfl, rfl⟩ (t_X3_has e2) ?_
  show Ok D_X3_setOf (0, 0) (0, 0) 5 [(0, .ref 50), (1, .int a1)] [.int r1] (St S) _
  refine ok_if_eq (tgt := 22) dX3_setOf_5 (by decide) (fun hc => ?_) (fun hc => ?_)
  · replace h := it_pos hc h
    refine ok_iconst (v := 0) dX3_setOf_22 ic_0 ?_
    exact okS_ret dX3_setOf_23 rfl rfl (by have e := Option.some.inj h; subst e; exact ⟨rfl, rfl⟩)
  · replace h := it_neg hc h
    refine ok_aload_n dX3_setOf_8 0 rfl ?_
    refine okS_getR dX3_setOf_9 fl_X3_13 pr_50_0 ?_
    refine ok_iconst (v := 0) dX3_setOf_12 ic_0 ?_
    refine okS_rowL (y := 52) dX3_setOf_13 pg_51 (by decide) (by decide) ?_
    refine ok_iload_n dX3_setOf_14 1 rfl ?_
    obtain ⟨hi3, h⟩ := it_some h
    refine okS_iaload dX3_setOf_15 pa_52 hi3 ?_
    obtain ⟨r4, e5, h⟩ := it_bind h
    refine okS_SN (as := [.int (S.1 52 a1.toNatClampNeg)]) (st := []) (r := some (.int r4)) (S' := S) dX3_setOf_16 cv_X3_24 rfl (Nat.le_of_ble_eq_true rfl) ⟨⟨by decide, by decide⟩, rfl, rfl⟩ (t_X10_setOfWord e5) ?_
    show Ok D_X3_setOf (0, 0) (0, 0) 19 [(0, .ref 50), (1, .int a1)] [.int r4] (St S) _
    refine ok_goto (tgt := 23) dX3_setOf_19 (by decide) ?_
    exact okS_ret dX3_setOf_23 rfl rfl (by have e := Option.some.inj h; subst e; exact ⟨rfl, rfl⟩)
def f_X3_isFact (S : Mm) (a1 : Int32) : Option (Int32) :=
  (if a1 < 0 then some 0 else (if 9 ≤ a1 then some 0 else some 1))
set_option maxRecDepth 100000 in
set_option maxHeartbeats 4000000 in
theorem t_X3_isFact {S : Mm} {a1 : Int32} {out : Int32} (h : f_X3_isFact S a1 = some out) : Rs D_X3_isFact [.int a1] S (some (.int out)) S := by
  refine rs_of (by decide) rfl (Nat.le_of_ble_eq_true rfl) ?_
  unfold f_X3_isFact at h
  show Ok D_X3_isFact (0, 0) (0, 0) 0 [(0, .int a1)] [] (St S) _
  refine ok_iload_n dX3_isFact_0 0 rfl ?_
  refine ok_if_lt (tgt := 14) dX3_isFact_1 (by decide) (fun hc => ?_) (fun hc => ?_)
  · replace h := it_pos hc h
    refine ok_iconst (v := 0) dX3_isFact_14 ic_0 ?_
    exact okS_ret dX3_isFact_15 rfl (by decide) (by have e := Option.some.inj h; subst e; exact ⟨rfl, rfl⟩)
  · replace h := it_neg hc h
    refine ok_iload_n dX3_isFact_4 0 rfl ?_
    refine ok_bipush (v := 9) dX3_isFact_5 bi_9 ?_
    refine ok_icmp_ge (tgt := 14) dX3_isFact_7 (by decide) (fun hc => ?_) (fun hc => ?_)
    · replace h := it_pos hc h
      refine ok_iconst (v := 0) dX3_isFact_14 ic_0 ?_
      exact okS_ret dX3_isFact_15 rfl (by decide) (by have e := Option.some.inj h; subst e; exact ⟨rfl, rfl⟩)
    · replace h := it_neg hc h
      refine ok_iconst (v := 1) dX3_isFact_10 ic_1 ?_
      refine ok_goto (tgt := 15) dX3_isFact_11 (by decide) ?_
      exact okS_ret dX3_isFact_15 rfl (by decide) (by have e := Option.some.inj h; subst e; exact ⟨rfl, rfl⟩)
def f_X3_fact (S : Mm) (a1 : Int32) (a2 : Int32) : Option (Int32) :=
  ((f_X3_has S a1).bind fun r1 => (if r1 = 0 then some (-1) else ((f_X3_isFact S a2).bind fun r3 => (if r3 = 0 then some (-1) else (if inb a2 9 then (if inb a1 144 then some (S.1 (52 + a2.toNatClampNeg) a1.toNatClampNeg) else none) else none)))))
set_option maxRecDepth 100000 in
set_option maxHeartbeats 4000000 in
theorem t_X3_fact {S : Mm} {a1 : Int32} {a2 : Int32} {out : Int32} (h : f_X3_fact S a1 a2 = some out) : Rs D_X3_fact [.ref 50, .int a1, .int a2] S (some (.int out)) S := by
  refine rs_of (by decide) rfl (Nat.le_of_ble_eq_true rfl) ?_
  unfold f_X3_fact at h
  show Ok D_X3_fact (0, 0) (0, 0) 0 [(0, .ref 50), (1, .int a1), (2, .int a2)] [] (St S) _
  refine ok_aload_n dX3_fact_0 0 rfl ?_
  refine ok_iload_n dX3_fact_1 1 rfl ?_
  obtain ⟨r1, e2, h⟩ := it_bind h
  refine okS_V (as := [.int a1]) (st := []) (r := some (.int r1)) (S' := S) dX3_fact_2 cv_X3_20 rfl po_50 (Nat.le_of_ble_eq_true rfl) ⟨⟨by decide, by decide⟩, rfl, rfl⟩ (t_X3_has e2) ?_
  show Ok D_X3_fact (0, 0) (0, 0) 5 [(0, .ref 50), (1, .int a1), (2, .int a2)] [.int r1] (St S) _
  refine ok_if_eq (tgt := 26) dX3_fact_5 (by decide) (fun hc => ?_) (fun hc => ?_)
  · replace h := it_pos hc h
    refine ok_iconst (v := (-1)) dX3_fact_26 ic_m1 ?_
    exact okS_ret dX3_fact_27 rfl rfl (by have e := Option.some.inj h; subst e; exact ⟨rfl, rfl⟩)
  · replace h := it_neg hc h
    refine ok_iload_n dX3_fact_8 2 rfl ?_
    obtain ⟨r3, e4, h⟩ := it_bind h
    refine okS_S (as := [.int a2]) (st := []) (r := some (.int r3)) (S' := S) dX3_fact_9 cv_X3_28 rfl (Nat.le_of_ble_eq_true rfl) ⟨⟨by decide, by decide⟩, rfl, rfl⟩ (t_X3_isFact e4) ?_
    show Ok D_X3_fact (0, 0) (0, 0) 12 [(0, .ref 50), (1, .int a1), (2, .int a2)] [.int r3] (St S) _
    refine ok_if_eq (tgt := 26) dX3_fact_12 (by decide) (fun hc => ?_) (fun hc => ?_)
    · replace h := it_pos hc h
      refine ok_iconst (v := (-1)) dX3_fact_26 ic_m1 ?_
      exact okS_ret dX3_fact_27 rfl rfl (by have e := Option.some.inj h; subst e; exact ⟨rfl, rfl⟩)
    · replace h := it_neg hc h
      refine ok_aload_n dX3_fact_15 0 rfl ?_
      refine okS_getR dX3_fact_16 fl_X3_13 pr_50_0 ?_
      refine ok_iload_n dX3_fact_19 2 rfl ?_
      obtain ⟨hi5, h⟩ := it_some h
      refine okS_row dX3_fact_20 pg_51 hi5 ?_
      refine ok_iload_n dX3_fact_21 1 rfl ?_
      obtain ⟨hi6, h⟩ := it_some h
      refine okS_iaload dX3_fact_22 (pq_51 _ (inb_lt hi5)) hi6 ?_
      refine ok_goto (tgt := 27) dX3_fact_23 (by decide) ?_
      exact okS_ret dX3_fact_27 rfl rfl (by have e := Option.some.inj h; subst e; exact ⟨rfl, rfl⟩)
def f_X3_putStory (S : Mm) (a1 : Int32) (a2 : Int32) : Option (Mm) :=
  ((f_X3_has S a1).bind fun r1 => (if r1 = 0 then some S else (if inb a1 144 then some (wr S 60 a1.toNatClampNeg a2) else none)))
set_option maxRecDepth 100000 in
set_option maxHeartbeats 4000000 in
theorem t_X3_putStory {S : Mm} {a1 : Int32} {a2 : Int32} {out : Mm} (h : f_X3_putStory S a1 a2 = some out) : Rs D_X3_putStory [.ref 50, .int a1, .int a2] S none out := by
  refine rs_of (by decide) rfl (Nat.le_of_ble_eq_true rfl) ?_
  unfold f_X3_putStory at h
  show Ok D_X3_putStory (0, 0) (0, 0) 0 [(0, .ref 50), (1, .int a1), (2, .int a2)] [] (St S) _
  refine ok_aload_n dX3_putStory_0 0 rfl ?_
  refine ok_iload_n dX3_putStory_1 1 rfl ?_
  obtain ⟨r1, e2, h⟩ := it_bind h
  refine okS_V (as := [.int a1]) (st := []) (r := some (.int r1)) (S' := S) dX3_putStory_2 cv_X3_20 rfl po_50 (Nat.le_of_ble_eq_true rfl) ⟨⟨by decide, by decide⟩, rfl, rfl⟩ (t_X3_has e2) ?_
  show Ok D_X3_putStory (0, 0) (0, 0) 5 [(0, .ref 50), (1, .int a1), (2, .int a2)] [.int r1] (St S) _
  refine ok_if_eq (tgt := 18) dX3_putStory_5 (by decide) (fun hc => ?_) (fun hc => ?_)
  · replace h := it_pos hc h
    exact okS_retv dX3_putStory_18 rfl (by have e := Option.some.inj h; subst e; exact ⟨rfl, rfl⟩)
  · replace h := it_neg hc h
    refine ok_aload_n dX3_putStory_8 0 rfl ?_
    refine okS_getR dX3_putStory_9 fl_X3_13 pr_50_0 ?_
    refine ok_bipush (v := 8) dX3_putStory_12 bi_8 ?_
    refine okS_rowL (y := 60) dX3_putStory_14 pg_51 (by decide) (by decide) ?_
    refine ok_iload_n dX3_putStory_15 1 rfl ?_
    refine ok_iload_n dX3_putStory_16 2 rfl ?_
    obtain ⟨hi3, h⟩ := it_some h
    refine okS_iastore dX3_putStory_17 pa_60 hi3 ?_
    exact okS_retv dX3_putStory_18 rfl (by have e := Option.some.inj h; subst e; exact ⟨rfl, rfl⟩)
