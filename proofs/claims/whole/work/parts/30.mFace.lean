def f_X10_feed (S : Mm) (a1 : Int32) : Option (Int32 × Mm) :=
  (if a1 < 0 then some ((-1000000002), S) else (if a1 < 256 then ((f_X9_hasRoom S).bind fun r1 => (if r1 = 0 then some ((-1000000004), S) else ((f_X9_add S a1).bind fun r3 => ((f_X9_length r3).bind fun r5 => some (r5, r3))))) else some ((-1000000002), S)))
set_option maxRecDepth 100000 in
set_option maxHeartbeats 4000000 in
theorem t_X10_feed {S : Mm} {a1 : Int32} {out : Int32 × Mm} (h : f_X10_feed S a1 = some out) : Rs D_X10_feed [.ref 0, .int a1] S (some (.int out.1)) out.2 := by
  refine rs_of (by decide) rfl (Nat.le_of_ble_eq_true rfl) ?_
  unfold f_X10_feed at h
  show Ok D_X10_feed (0, 0) (0, 0) 0 [(0, .ref 0), (1, .int a1)] [] (St S) _
  refine ok_iload_n dX10_feed_0 1 rfl ?_
  refine ok_if_lt (tgt := 11) dX10_feed_1 (by decide) (fun hc => ?_) (fun hc => ?_)
  · replace h := it_pos hc h
    refine ok_ldc (v := (-1000000002)) dX10_feed_11 wd_331 ?_
    exact okS_ret dX10_feed_13 rfl rfl (by have e := Option.some.inj h; subst e; exact ⟨rfl, rfl⟩)
  · replace h := it_neg hc h
    refine ok_iload_n dX10_feed_4 1 rfl ?_
    refine ok_sipush (v := 256) dX10_feed_5 si_256 ?_
    refine ok_icmp_lt (tgt := 14) dX10_feed_8 (by decide) (fun hc => ?_) (fun hc => ?_)
    · replace h := it_pos hc h
      refine ok_aload_n dX10_feed_14 0 rfl ?_
      refine okS_getR dX10_feed_15 fl_X10_26 pr_0_2 ?_
      obtain ⟨r1, e2, h⟩ := it_bind h
      refine okS_V (as := []) (st := []) (r := some (.int r1)) (S' := S) dX10_feed_18 cv_X10_63 rfl po_68 (Nat.le_of_ble_eq_true rfl) ⟨⟨by decide, by decide⟩, rfl, rfl⟩ (t_X9_hasRoom e2) ?_
      show Ok D_X10_feed (0, 0) (0, 0) 21 [(0, .ref 0), (1, .int a1)] [.int r1] (St S) _
      refine ok_if_ne (tgt := 27) dX10_feed_21 (by decide) (fun hc => ?_) (fun hc => ?_)
      · replace h := it_neg hc h
        refine ok_aload_n dX10_feed_27 0 rfl ?_
        refine okS_getR dX10_feed_28 fl_X10_26 pr_0_2 ?_
        refine ok_iload_n dX10_feed_31 1 rfl ?_
        obtain ⟨r3, e4, h⟩ := it_bind h
        refine okS_V (as := [.int a1]) (st := []) (r := none) (S' := r3) dX10_feed_32 cv_X10_68 rfl po_68 (Nat.le_of_ble_eq_true rfl) ⟨⟨by decide, by decide⟩, rfl, rfl⟩ (t_X9_add e4) ?_
        show Ok D_X10_feed (0, 0) (0, 0) 35 [(0, .ref 0), (1, .int a1)] [] (St r3) _
        refine ok_aload_n dX10_feed_35 0 rfl ?_
        refine okS_getR dX10_feed_36 fl_X10_26 pr_0_2 ?_
        obtain ⟨r5, e6, h⟩ := it_bind h
        refine okS_V (as := []) (st := []) (r := some (.int r5)) (S' := r3) dX10_feed_39 cv_X10_72 rfl po_68 (Nat.le_of_ble_eq_true rfl) ⟨⟨by decide, by decide⟩, rfl, rfl⟩ (t_X9_length e6) ?_
        show Ok D_X10_feed (0, 0) (0, 0) 42 [(0, .ref 0), (1, .int a1)] [.int r5] (St r3) _
        exact okS_ret dX10_feed_42 rfl rfl (by have e := Option.some.inj h; subst e; exact ⟨rfl, rfl⟩)
      · replace h := it_pos hc h
        refine ok_ldc (v := (-1000000004)) dX10_feed_24 wd_336 ?_
        exact okS_ret dX10_feed_26 rfl rfl (by have e := Option.some.inj h; subst e; exact ⟨rfl, rfl⟩)
    · replace h := it_neg hc h
      refine ok_ldc (v := (-1000000002)) dX10_feed_11 wd_331 ?_
      exact okS_ret dX10_feed_13 rfl rfl (by have e := Option.some.inj h; subst e; exact ⟨rfl, rfl⟩)
def f_X10_aheadOfDeed (S : Mm)  : Option (Mm) :=
  ((f_X1_remember S).bind fun r1 => some (wr r1 0 8 1))
set_option maxRecDepth 100000 in
set_option maxHeartbeats 4000000 in
theorem t_X10_aheadOfDeed {S : Mm} {out : Mm} (h : f_X10_aheadOfDeed S  = some out) : Rs D_X10_aheadOfDeed [.ref 0] S none out := by
  refine rs_of (by decide) rfl (Nat.le_of_ble_eq_true rfl) ?_
  unfold f_X10_aheadOfDeed at h
  show Ok D_X10_aheadOfDeed (0, 0) (0, 0) 0 [(0, .ref 0)] [] (St S) _
  refine ok_aload_n dX10_aheadOfDeed_0 0 rfl ?_
  refine okS_getR dX10_aheadOfDeed_1 fl_X10_33 pr_0_3 ?_
  refine ok_aload_n dX10_aheadOfDeed_4 0 rfl ?_
  refine okS_getR dX10_aheadOfDeed_5 fl_X10_10 pr_0_0 ?_
  obtain ⟨r1, e2, h⟩ := it_bind h
  refine okS_V (as := [.ref 1]) (st := []) (r := none) (S' := r1) dX10_aheadOfDeed_8 cv_X10_288 rfl po_72 (Nat.le_of_ble_eq_true rfl) ⟨⟨by decide, by decide⟩, rfl, rfl⟩ (t_X1_remember e2) ?_
  show Ok D_X10_aheadOfDeed (0, 0) (0, 0) 11 [(0, .ref 0)] [] (St r1) _
  refine ok_aload_n dX10_aheadOfDeed_11 0 rfl ?_
  refine ok_iconst (v := 1) dX10_aheadOfDeed_12 ic_1 ?_
  refine okS_putI dX10_aheadOfDeed_13 fl_X10_57 pi_0_8 (by decide) ?_
  exact okS_retv dX10_aheadOfDeed_16 rfl (by have e := Option.some.inj h; subst e; exact ⟨rfl, rfl⟩)
def lp_X10_pieces_66 (k : Int32 → Mm → Option (Int32 × Mm)) (c1 : Int32) : Nat → Int32 → Mm → Option (Int32 × Mm)
  | 0, _, _ => none
  | fuel + 1, x2, S => ((f_X9_readCount S).bind fun r13 => (if r13 ≤ x2 then k x2 S else ((f_X9_dayRead S x2).bind fun r15 => ((f_X9_setRead S x2).bind fun r17 => ((f_X6_add S r15 r17).bind fun r19 => lp_X10_pieces_66 k c1 fuel (x2 + 1) r19)))))
def f_X10_pieces (S : Mm)  : Option (Int32 × Mm) :=
  ((f_X6_dayCount S).bind fun r1 => ((f_X6_count S).bind fun r3 => ((f_X9_read S r1 (40 - r3)).bind fun r5 => (if r5.1 = 0 then ((f_X9_clear (wr r5.2 0 7 (-1))).bind fun r26 => (if r5.1 = 0 then ((f_X10_aheadOfDeed r26).bind fun r28 => lp_X10_pieces_66 (fun y2_38 S39 => ((f_X6_count S39).bind fun r41 => some (r41, S39))) r5.1 100000 0 r28) else some ((-10) - r5.1, r26))) else ((f_X9_place r5.2).bind fun r7 => ((f_X9_clear (wr r5.2 0 7 r7)).bind fun r9 => (if r5.1 = 0 then ((f_X10_aheadOfDeed r9).bind fun r11 => lp_X10_pieces_66 (fun y2_21 S22 => ((f_X6_count S22).bind fun r24 => some (r24, S22))) r5.1 100000 0 r11) else some ((-10) - r5.1, r9))))))))
set_option maxRecDepth 100000 in
set_option maxHeartbeats 4000000 in
theorem tlp_X10_pieces_66 {k : Int32 → Mm → Option (Int32 × Mm)} {c1 : Int32} (hk : ∀ (x2 : Int32) (S : Mm) (out : Int32 × Mm), k x2 S = some out → Ok D_X10_pieces (0, 0) (0, 0) 106 [(0, .ref 0), (1, .int c1), (2, .int x2)] [] (St S) (An (some (.int out.1)) out.2)) : ∀ (fuel : Nat) (x2 : Int32) (S : Mm) (out : Int32 × Mm), lp_X10_pieces_66 k c1 fuel x2 S = some out → Ok D_X10_pieces (0, 0) (0, 0) 66 [(0, .ref 0), (1, .int c1), (2, .int x2)] [] (St S) (An (some (.int out.1)) out.2) := by
  intro fuel
  induction fuel with
  | zero => intro x2 S out h; cases h
  | succ fuel ih =>
    intro x2 S out h
    rw [lp_X10_pieces_66] at h
    refine ok_iload_n dX10_pieces_66 2 rfl ?_
    refine ok_aload_n dX10_pieces_67 0 rfl ?_
    refine okS_getR dX10_pieces_68 fl_X10_26 pr_0_2 ?_
    obtain ⟨r13, e14, h⟩ := it_bind h
    refine okS_V (as := []) (st := [.int x2]) (r := some (.int r13)) (S' := S) dX10_pieces_71 cv_X10_95 rfl po_68 (Nat.le_of_ble_eq_true rfl) ⟨⟨by decide, by decide⟩, rfl, rfl⟩ (t_X9_readCount e14) ?_
    show Ok D_X10_pieces (0, 0) (0, 0) 74 [(0, .ref 0), (1, .int c1), (2, .int x2)] [.int r13, .int x2] (St S) _
    refine ok_icmp_ge (tgt := 106) dX10_pieces_74 (by decide) (fun hc => ?_) (fun hc => ?_)
    · replace h := it_pos hc h
      refine ok_perm [0, 1, 2] rfl ?_
      exact hk _ _ _ h
    · replace h := it_neg hc h
      refine ok_aload_n dX10_pieces_77 0 rfl ?_
      refine okS_getR dX10_pieces_78 fl_X10_10 pr_0_0 ?_
      refine ok_aload_n dX10_pieces_81 0 rfl ?_
      refine okS_getR dX10_pieces_82 fl_X10_26 pr_0_2 ?_
      refine ok_iload_n dX10_pieces_85 2 rfl ?_
      obtain ⟨r15, e16, h⟩ := it_bind h
      refine okS_V (as := [.int x2]) (st := [.ref 1]) (r := some (.int r15)) (S' := S) dX10_pieces_86 cv_X10_98 rfl po_68 (Nat.le_of_ble_eq_true rfl) ⟨⟨by decide, by decide⟩, rfl, rfl⟩ (t_X9_dayRead e16) ?_
      show Ok D_X10_pieces (0, 0) (0, 0) 89 [(0, .ref 0), (1, .int c1), (2, .int x2)] [.int r15, .ref 1] (St S) _
      refine ok_aload_n dX10_pieces_89 0 rfl ?_
      refine okS_getR dX10_pieces_90 fl_X10_26 pr_0_2 ?_
      refine ok_iload_n dX10_pieces_93 2 rfl ?_
      obtain ⟨r17, e18, h⟩ := it_bind h
      refine okS_V (as := [.int x2]) (st := [.int r15, .ref 1]) (r := some (.int r17)) (S' := S) dX10_pieces_94 cv_X10_102 rfl po_68 (Nat.le_of_ble_eq_true rfl) ⟨⟨by decide, by decide⟩, rfl, rfl⟩ (t_X9_setRead e18) ?_
      show Ok D_X10_pieces (0, 0) (0, 0) 97 [(0, .ref 0), (1, .int c1), (2, .int x2)] [.int r17, .int r15, .ref 1] (St S) _
      obtain ⟨r19, e20, h⟩ := it_bind h
      refine okS_V (as := [.int r15, .int r17]) (st := []) (r := none) (S' := r19) dX10_pieces_97 cv_X10_105 rfl po_1 (Nat.le_of_ble_eq_true rfl) ⟨⟨by decide, by decide⟩, rfl, rfl⟩ (t_X6_add e20) ?_
      show Ok D_X10_pieces (0, 0) (0, 0) 100 [(0, .ref 0), (1, .int c1), (2, .int x2)] [] (St r19) _
      refine ok_iinc (v := x2 + 1) (L' := [(2, .int (x2 + 1)), (0, .ref 0), (1, .int c1)]) dX10_pieces_100 2 rfl (ii_1 _) (by decide) rfl ?_
      refine ok_goto (tgt := 66) dX10_pieces_103 (by decide) ?_
      refine ok_perm [1, 2, 0] rfl ?_
      exact ih _ _ _ h
set_option maxRecDepth 100000 in
set_option maxHeartbeats 4000000 in
theorem t_X10_pieces {S : Mm} {out : Int32 × Mm} (h : f_X10_pieces S  = some out) : Rs D_X10_pieces [.ref 0] S (some (.int out.1)) out.2 := by
  refine rs_of (by decide) rfl (Nat.le_of_ble_eq_true rfl) ?_
  unfold f_X10_pieces at h
  show Ok D_X10_pieces (0, 0) (0, 0) 0 [(0, .ref 0)] [] (St S) _
  refine ok_aload_n dX10_pieces_0 0 rfl ?_
  refine okS_getR dX10_pieces_1 fl_X10_26 pr_0_2 ?_
  refine ok_aload_n dX10_pieces_4 0 rfl ?_
  refine okS_getR dX10_pieces_5 fl_X10_10 pr_0_0 ?_
  obtain ⟨r1, e2, h⟩ := it_bind h
  refine okS_V (as := []) (st := [.ref 68]) (r := some (.int r1)) (S' := S) dX10_pieces_8 cv_X10_76 rfl po_1 (Nat.le_of_ble_eq_true rfl) ⟨⟨by decide, by decide⟩, rfl, rfl⟩ (t_X6_dayCount e2) ?_
  show Ok D_X10_pieces (0, 0) (0, 0) 11 [(0, .ref 0)] [.int r1, .ref 68] (St S) _
  refine ok_bipush (v := 40) dX10_pieces_11 bi_40 ?_
  refine ok_aload_n dX10_pieces_13 0 rfl ?_
  refine okS_getR dX10_pieces_14 fl_X10_10 pr_0_0 ?_
  obtain ⟨r3, e4, h⟩ := it_bind h
  refine okS_V (as := []) (st := [.int 40, .int r1, .ref 68]) (r := some (.int r3)) (S' := S) dX10_pieces_17 cv_X10_79 rfl po_1 (Nat.le_of_ble_eq_true rfl) ⟨⟨by decide, by decide⟩, rfl, rfl⟩ (t_X6_count e4) ?_
  show Ok D_X10_pieces (0, 0) (0, 0) 20 [(0, .ref 0)] [.int r3, .int 40, .int r1, .ref 68] (St S) _
  refine ok_isub dX10_pieces_20 ?_
  obtain ⟨r5, e6, h⟩ := it_bind h
  refine okS_V (as := [.int r1, .int (40 - r3)]) (st := []) (r := some (.int r5.1)) (S' := r5.2) dX10_pieces_21 cv_X10_82 rfl po_68 (Nat.le_of_ble_eq_true rfl) ⟨⟨by decide, by decide⟩, rfl, rfl⟩ (t_X9_read e6) ?_
  show Ok D_X10_pieces (0, 0) (0, 0) 24 [(0, .ref 0)] [.int r5.1] (St r5.2) _
  refine ok_istore_n (L' := [(1, .int r5.1), (0, .ref 0)]) dX10_pieces_24 (by decide) rfl ?_
  refine ok_aload_n dX10_pieces_25 1 rfl ?_
  refine ok_iload_n dX10_pieces_26 0 rfl ?_
  refine ok_if_ne (tgt := 34) dX10_pieces_27 (by decide) (fun hc => ?_) (fun hc => ?_)
  · replace h := it_neg hc h
    refine ok_aload_n dX10_pieces_34 1 rfl ?_
    refine okS_getR dX10_pieces_35 fl_X10_26 pr_0_2 ?_
    obtain ⟨r7, e8, h⟩ := it_bind h
    refine okS_V (as := []) (st := [.ref 0]) (r := some (.int r7)) (S' := r5.2) dX10_pieces_38 cv_X10_86 rfl po_68 (Nat.le_of_ble_eq_true rfl) ⟨⟨by decide, by decide⟩, rfl, rfl⟩ (t_X9_place e8) ?_
    show Ok D_X10_pieces (0, 0) (0, 0) 41 [(1, .int r5.1), (0, .ref 0)] [.int r7, .ref 0] (St r5.2) _
    refine okS_putI dX10_pieces_41 fl_X10_54 pi_0_7 ⟨rfl, rfl⟩ ?_
    refine ok_aload_n dX10_pieces_44 1 rfl ?_
    refine okS_getR dX10_pieces_45 fl_X10_26 pr_0_2 ?_
    obtain ⟨r9, e10, h⟩ := it_bind h
    refine okS_V (as := []) (st := []) (r := none) (S' := r9) dX10_pieces_48 cv_X10_89 rfl po_68 (Nat.le_of_ble_eq_true rfl) ⟨⟨by decide, by decide⟩, rfl, rfl⟩ (t_X9_clear e10) ?_
    show Ok D_X10_pieces (0, 0) (0, 0) 51 [(1, .int r5.1), (0, .ref 0)] [] (St r9) _
    refine ok_iload_n dX10_pieces_51 0 rfl ?_
    refine ok_if_eq (tgt := 60) dX10_pieces_52 (by decide) (fun hc => ?_) (fun hc => ?_)
    · replace h := it_pos hc h
      refine ok_aload_n dX10_pieces_60 1 rfl ?_
      obtain ⟨r11, e12, h⟩ := it_bind h
      refine okS_V (as := []) (st := []) (r := none) (S' := r11) dX10_pieces_61 cv_X10_92 rfl po_0 (Nat.le_of_ble_eq_true rfl) ⟨⟨by decide, by decide⟩, rfl, rfl⟩ (t_X10_aheadOfDeed e12) ?_
      show Ok D_X10_pieces (0, 0) (0, 0) 64 [(1, .int r5.1), (0, .ref 0)] [] (St r11) _
      refine ok_iconst (v := 0) dX10_pieces_64 ic_0 ?_
      refine ok_istore_n (L' := [(2, .int 0), (1, .int r5.1), (0, .ref 0)]) dX10_pieces_65 (by decide) rfl ?_
      refine ok_perm [2, 1, 0] rfl ?_
      refine tlp_X10_pieces_66 (fun y2_21 S22 out23 h => ?_) _ _ _ _ h
      refine ok_aload_n dX10_pieces_106 0 rfl ?_
      refine okS_getR dX10_pieces_107 fl_X10_10 pr_0_0 ?_
      obtain ⟨r24, e25, h⟩ := it_bind h
      refine okS_V (as := []) (st := []) (r := some (.int r24)) (S' := S22) dX10_pieces_110 cv_X10_79 rfl po_1 (Nat.le_of_ble_eq_true rfl) ⟨⟨by decide, by decide⟩, rfl, rfl⟩ (t_X6_count e25) ?_
      show Ok D_X10_pieces (0, 0) (0, 0) 113 [(0, .ref 0), (1, .int r5.1), (2, .int y2_21)] [.int r24] (St S22) _
      exact okS_ret dX10_pieces_113 rfl rfl (by have e := Option.some.inj h; subst e; exact ⟨rfl, rfl⟩)
    · replace h := it_neg hc h
      refine ok_bipush (v := (-10)) dX10_pieces_55 bi_m10 ?_
      refine ok_iload_n dX10_pieces_57 0 rfl ?_
      refine ok_isub dX10_pieces_58 ?_
      exact okS_ret dX10_pieces_59 rfl rfl (by have e := Option.some.inj h; subst e; exact ⟨rfl, rfl⟩)
  · replace h := it_pos hc h
    refine ok_iconst (v := (-1)) dX10_pieces_30 ic_m1 ?_
    refine ok_goto (tgt := 41) dX10_pieces_31 (by decide) ?_
    refine okS_putI dX10_pieces_41 fl_X10_54 pi_0_7 ⟨rfl, rfl⟩ ?_
    refine ok_aload_n dX10_pieces_44 1 rfl ?_
    refine okS_getR dX10_pieces_45 fl_X10_26 pr_0_2 ?_
    obtain ⟨r26, e27, h⟩ := it_bind h
    refine okS_V (as := []) (st := []) (r := none) (S' := r26) dX10_pieces_48 cv_X10_89 rfl po_68 (Nat.le_of_ble_eq_true rfl) ⟨⟨by decide, by decide⟩, rfl, rfl⟩ (t_X9_clear e27) ?_
    show Ok D_X10_pieces (0, 0) (0, 0) 51 [(1, .int r5.1), (0, .ref 0)] [] (St r26) _
    refine ok_iload_n dX10_pieces_51 0 rfl ?_
    refine ok_if_eq (tgt := 60) dX10_pieces_52 (by decide) (fun hc => ?_) (fun hc => ?_)
    · replace h := it_pos hc h
      refine ok_aload_n dX10_pieces_60 1 rfl ?_
      obtain ⟨r28, e29, h⟩ := it_bind h
      refine okS_V (as := []) (st := []) (r := none) (S' := r28) dX10_pieces_61 cv_X10_92 rfl po_0 (Nat.le_of_ble_eq_true rfl) ⟨⟨by decide, by decide⟩, rfl, rfl⟩ (t_X10_aheadOfDeed e29) ?_
      show Ok D_X10_pieces (0, 0) (0, 0) 64 [(1, .int r5.1), (0, .ref 0)] [] (St r28) _
      refine ok_iconst (v := 0) dX10_pieces_64 ic_0 ?_
      refine ok_istore_n (L' := [(2, .int 0), (1, .int r5.1), (0, .ref 0)]) dX10_pieces_65 (by decide) rfl ?_
      refine ok_perm [2, 1, 0] rfl ?_
      refine tlp_X10_pieces_66 (fun y2_38 S39 out40 h => ?_) _ _ _ _ h
      refine ok_aload_n dX10_pieces_106 0 rfl ?_
      refine okS_getR dX10_pieces_107 fl_X10_10 pr_0_0 ?_
      obtain ⟨r41, e42, h⟩ := it_bind h
      refine okS_V (as := []) (st := []) (r := some (.int r41)) (S' := S39) dX10_pieces_110 cv_X10_79 rfl po_1 (Nat.le_of_ble_eq_true rfl) ⟨⟨by decide, by decide⟩, rfl, rfl⟩ (t_X6_count e42) ?_
      show Ok D_X10_pieces (0, 0) (0, 0) 113 [(0, .ref 0), (1, .int r5.1), (2, .int y2_38)] [.int r41] (St S39) _
      exact okS_ret dX10_pieces_113 rfl rfl (by have e := Option.some.inj h; subst e; exact ⟨rfl, rfl⟩)
    · replace h := it_neg hc h
      refine ok_bipush (v := (-10)) dX10_pieces_55 bi_m10 ?_
      refine ok_iload_n dX10_pieces_57 0 rfl ?_
      refine ok_isub dX10_pieces_58 ?_
      exact okS_ret dX10_pieces_59 rfl rfl (by have e := Option.some.inj h; subst e; exact ⟨rfl, rfl⟩)
def f_X10_fault (S : Mm)  : Option (Int32) :=
  some (S.1 0 7)
set_option maxRecDepth 100000 in
set_option maxHeartbeats 4000000 in
theorem t_X10_fault {S : Mm} {out : Int32} (h : f_X10_fault S  = some out) : Rs D_X10_fault [.ref 0] S (some (.int out)) S := by
  refine rs_of (by decide) rfl (Nat.le_of_ble_eq_true rfl) ?_
  unfold f_X10_fault at h
  show Ok D_X10_fault (0, 0) (0, 0) 0 [(0, .ref 0)] [] (St S) _
  refine ok_aload_n dX10_fault_0 0 rfl ?_
  refine okS_getI dX10_fault_1 fl_X10_54 pi_0_7 ?_
  exact okS_ret dX10_fault_4 rfl rfl (by have e := Option.some.inj h; subst e; exact ⟨rfl, rfl⟩)
def f_X10_found (S : Mm)  : Option (Mm) :=
  (if (S.1 0 8) = 0 then some S else ((f_X8_countAll S).bind fun r1 => ((f_X5_findAll r1).bind fun r3 => ((f_X3_findAll r3).bind fun r5 => ((f_X7_findAll r5).bind fun r7 => some (wr r7 0 8 0))))))
set_option maxRecDepth 100000 in
set_option maxHeartbeats 4000000 in
theorem t_X10_found {S : Mm} {out : Mm} (h : f_X10_found S  = some out) : Rs D_X10_found [.ref 0] S (some (.ref 5)) out := by
  refine rs_of (by decide) rfl (Nat.le_of_ble_eq_true rfl) ?_
  unfold f_X10_found at h
  show Ok D_X10_found (0, 0) (0, 0) 0 [(0, .ref 0)] [] (St S) _
  refine ok_aload_n dX10_found_0 0 rfl ?_
  refine okS_getI dX10_found_1 fl_X10_57 pi_0_8 ?_
  refine ok_if_eq (tgt := 88) dX10_found_4 (by decide) (fun hc => ?_) (fun hc => ?_)
  · replace h := it_pos hc h
    refine ok_aload_n dX10_found_88 0 rfl ?_
    refine okS_getR dX10_found_89 fl_X10_19 pr_0_1 ?_
    exact okS_reta dX10_found_92 rfl (Or.inr ⟨_, rfl⟩) (by have e := Option.some.inj h; subst e; exact ⟨rfl, rfl⟩)
  · replace h := it_neg hc h
    refine ok_aload_n dX10_found_7 0 rfl ?_
    refine okS_getR dX10_found_8 fl_X10_19 pr_0_1 ?_
    refine okS_getR dX10_found_11 fl_X10_165 pr_5_0 ?_
    refine ok_aload_n dX10_found_14 0 rfl ?_
    refine okS_getR dX10_found_15 fl_X10_10 pr_0_0 ?_
    obtain ⟨r1, e2, h⟩ := it_bind h
    refine okS_V (as := [.ref 1]) (st := []) (r := none) (S' := r1) dX10_found_18 cv_X10_298 rfl po_6 (Nat.le_of_ble_eq_true rfl) ⟨⟨by decide, by decide⟩, rfl, rfl⟩ (t_X8_countAll e2) ?_
    show Ok D_X10_found (0, 0) (0, 0) 21 [(0, .ref 0)] [] (St r1) _
    refine ok_aload_n dX10_found_21 0 rfl ?_
    refine okS_getR dX10_found_22 fl_X10_19 pr_0_1 ?_
    refine okS_getR dX10_found_25 fl_X10_143 pr_5_1 ?_
    refine ok_aload_n dX10_found_28 0 rfl ?_
    refine okS_getR dX10_found_29 fl_X10_19 pr_0_1 ?_
    refine okS_getR dX10_found_32 fl_X10_165 pr_5_0 ?_
    obtain ⟨r3, e4, h⟩ := it_bind h
    refine okS_V (as := [.ref 6]) (st := []) (r := none) (S' := r3) dX10_found_35 cv_X10_301 rfl po_26 (Nat.le_of_ble_eq_true rfl) ⟨⟨by decide, by decide⟩, rfl, rfl⟩ (t_X5_findAll e4) ?_
    show Ok D_X10_found (0, 0) (0, 0) 38 [(0, .ref 0)] [] (St r3) _
    refine ok_aload_n dX10_found_38 0 rfl ?_
    refine okS_getR dX10_found_39 fl_X10_19 pr_0_1 ?_
    refine okS_getR dX10_found_42 fl_X10_112 pr_5_2 ?_
    refine ok_aload_n dX10_found_45 0 rfl ?_
    refine okS_getR dX10_found_46 fl_X10_19 pr_0_1 ?_
    refine okS_getR dX10_found_49 fl_X10_165 pr_5_0 ?_
    refine ok_aload_n dX10_found_52 0 rfl ?_
    refine okS_getR dX10_found_53 fl_X10_19 pr_0_1 ?_
    refine okS_getR dX10_found_56 fl_X10_143 pr_5_1 ?_
    obtain ⟨r5, e6, h⟩ := it_bind h
    refine okS_V (as := [.ref 6, .ref 26]) (st := []) (r := none) (S' := r5) dX10_found_59 cv_X10_305 rfl po_50 (Nat.le_of_ble_eq_true rfl) ⟨⟨by decide, by decide⟩, rfl, rfl⟩ (t_X3_findAll e6) ?_
    show Ok D_X10_found (0, 0) (0, 0) 62 [(0, .ref 0)] [] (St r5) _
    refine ok_aload_n dX10_found_62 0 rfl ?_
    refine okS_getR dX10_found_63 fl_X10_19 pr_0_1 ?_
    refine okS_getR dX10_found_66 fl_X10_121 pr_5_3 ?_
    refine ok_aload_n dX10_found_69 0 rfl ?_
    refine okS_getR dX10_found_70 fl_X10_10 pr_0_0 ?_
    refine ok_aload_n dX10_found_73 0 rfl ?_
    refine okS_getR dX10_found_74 fl_X10_19 pr_0_1 ?_
    refine okS_getR dX10_found_77 fl_X10_112 pr_5_2 ?_
    obtain ⟨r7, e8, h⟩ := it_bind h
    refine okS_V (as := [.ref 1, .ref 50]) (st := []) (r := none) (S' := r7) dX10_found_80 cv_X10_308 rfl po_61 (Nat.le_of_ble_eq_true rfl) ⟨⟨by decide, by decide⟩, rfl, rfl⟩ (t_X7_findAll e8) ?_
    show Ok D_X10_found (0, 0) (0, 0) 83 [(0, .ref 0)] [] (St r7) _
    refine ok_aload_n dX10_found_83 0 rfl ?_
    refine ok_iconst (v := 0) dX10_found_84 ic_0 ?_
    refine okS_putI dX10_found_85 fl_X10_57 pi_0_8 (by decide) ?_
    refine ok_aload_n dX10_found_88 0 rfl ?_
    refine okS_getR dX10_found_89 fl_X10_19 pr_0_1 ?_
    exact okS_reta dX10_found_92 rfl (Or.inr ⟨_, rfl⟩) (by have e := Option.some.inj h; subst e; exact ⟨rfl, rfl⟩)
def f_X10_told (S : Mm) (a1 : Int32) : Option (Int32 × Mm) :=
  (if a1 = 0 then ((f_X6_dayCount S).bind fun r2 => some (r2, S)) else (if a1 = 1 then ((f_X6_count S).bind fun r5 => some (r5, S)) else (if a1 = 2 then ((f_X10_found S).bind fun r8 => ((f_X3_number r8).bind fun r10 => some (r10, r8))) else (if a1 = 3 then ((f_X10_found S).bind fun r13 => ((f_X7_number r13).bind fun r15 => some (r15, r13))) else (if a1 = 4 then ((f_X6_levels S).bind fun r18 => some (r18, S)) else (if a1 = 5 then ((f_X6_base S).bind fun r21 => some (r21, S)) else (if a1 = 6 then ((f_X6_step S).bind fun r24 => some (r24, S)) else (if a1 = 7 then ((f_X6_rise S).bind fun r27 => some (r27, S)) else (if a1 = 8 then ((f_X9_length S).bind fun r30 => some (r30, S)) else (if a1 = 9 then ((f_X0_entries S).bind fun r33 => some (r33, S)) else (if a1 = 10 then ((f_X10_found S).bind fun r36 => ((f_X0_firstWrong r36).bind fun r38 => some (r38, r36))) else (if a1 = 11 then ((f_X1_number S).bind fun r41 => some (r41, S)) else (if a1 = 12 then some (S.1 0 6, S) else some ((-1000000002), S))))))))))))))
set_option maxRecDepth 100000 in
set_option maxHeartbeats 4000000 in
theorem t_X10_told {S : Mm} {a1 : Int32} {out : Int32 × Mm} (h : f_X10_told S a1 = some out) : Rs D_X10_told [.ref 0, .int a1] S (some (.int out.1)) out.2 := by
  refine rs_of (by decide) rfl (Nat.le_of_ble_eq_true rfl) ?_
  unfold f_X10_told at h
  show Ok D_X10_told (0, 0) (0, 0) 0 [(0, .ref 0), (1, .int a1)] [] (St S) _
  refine ok_iload_n dX10_told_0 1 rfl ?_
  by_cases hx1 : a1 = 0
  · replace h := it_pos hx1 h
    refine ok_tableIn (tgt := 68) dX10_told_1 (by rw [hx1]; decide) (by rw [hx1]; decide) (by rw [hx1]; rfl) (by decide) ?_
    refine ok_aload_n dX10_told_68 0 rfl ?_
    refine okS_getR dX10_told_69 fl_X10_10 pr_0_0 ?_
    obtain ⟨r2, e3, h⟩ := it_bind h
    refine okS_V (as := []) (st := []) (r := some (.int r2)) (S' := S) dX10_told_72 cv_X10_76 rfl po_1 (Nat.le_of_ble_eq_true rfl) ⟨⟨by decide, by decide⟩, rfl, rfl⟩ (t_X6_dayCount e3) ?_
    show Ok D_X10_told (0, 0) (0, 0) 75 [(0, .ref 0), (1, .int a1)] [.int r2] (St S) _
    exact okS_ret dX10_told_75 rfl rfl (by have e := Option.some.inj h; subst e; exact ⟨rfl, rfl⟩)
  · replace h := it_neg hx1 h
    by_cases hx4 : a1 = 1
    · replace h := it_pos hx4 h
      refine ok_tableIn (tgt := 76) dX10_told_1 (by rw [hx4]; decide) (by rw [hx4]; decide) (by rw [hx4]; rfl) (by decide) ?_
      refine ok_aload_n dX10_told_76 0 rfl ?_
      refine okS_getR dX10_told_77 fl_X10_10 pr_0_0 ?_
      obtain ⟨r5, e6, h⟩ := it_bind h
      refine okS_V (as := []) (st := []) (r := some (.int r5)) (S' := S) dX10_told_80 cv_X10_79 rfl po_1 (Nat.le_of_ble_eq_true rfl) ⟨⟨by decide, by decide⟩, rfl, rfl⟩ (t_X6_count e6) ?_
      show Ok D_X10_told (0, 0) (0, 0) 83 [(0, .ref 0), (1, .int a1)] [.int r5] (St S) _
      exact okS_ret dX10_told_83 rfl rfl (by have e := Option.some.inj h; subst e; exact ⟨rfl, rfl⟩)
    · replace h := it_neg hx4 h
      by_cases hx7 : a1 = 2
      · replace h := it_pos hx7 h
        refine ok_tableIn (tgt := 84) dX10_told_1 (by rw [hx7]; decide) (by rw [hx7]; decide) (by rw [hx7]; rfl) (by decide) ?_
        refine ok_aload_n dX10_told_84 0 rfl ?_
        obtain ⟨r8, e9, h⟩ := it_bind h
        refine okS_V (as := []) (st := []) (r := some (.ref 5)) (S' := r8) dX10_told_85 cv_X10_108 rfl po_0 (Nat.le_of_ble_eq_true rfl) ⟨⟨by decide, by decide⟩, rfl, rfl⟩ (t_X10_found e9) ?_
        show Ok D_X10_told (0, 0) (0, 0) 88 [(0, .ref 0), (1, .int a1)] [.ref 5] (St r8) _
        refine okS_getR dX10_told_88 fl_X10_112 pr_5_2 ?_
        obtain ⟨r10, e11, h⟩ := it_bind h
        refine okS_V (as := []) (st := []) (r := some (.int r10)) (S' := r8) dX10_told_91 cv_X10_116 rfl po_50 (Nat.le_of_ble_eq_true rfl) ⟨⟨by decide, by decide⟩, rfl, rfl⟩ (t_X3_number e11) ?_
        show Ok D_X10_told (0, 0) (0, 0) 94 [(0, .ref 0), (1, .int a1)] [.int r10] (St r8) _
        exact okS_ret dX10_told_94 rfl rfl (by have e := Option.some.inj h; subst e; exact ⟨rfl, rfl⟩)
      · replace h := it_neg hx7 h
        by_cases hx12 : a1 = 3
        · replace h := it_pos hx12 h
          refine ok_tableIn (tgt := 95) dX10_told_1 (by rw [hx12]; decide) (by rw [hx12]; decide) (by rw [hx12]; rfl) (by decide) ?_
          refine ok_aload_n dX10_told_95 0 rfl ?_
          obtain ⟨r13, e14, h⟩ := it_bind h
          refine okS_V (as := []) (st := []) (r := some (.ref 5)) (S' := r13) dX10_told_96 cv_X10_108 rfl po_0 (Nat.le_of_ble_eq_true rfl) ⟨⟨by decide, by decide⟩, rfl, rfl⟩ (t_X10_found e14) ?_
          show Ok D_X10_told (0, 0) (0, 0) 99 [(0, .ref 0), (1, .int a1)] [.ref 5] (St r13) _
          refine okS_getR dX10_told_99 fl_X10_121 pr_5_3 ?_
          obtain ⟨r15, e16, h⟩ := it_bind h
          refine okS_V (as := []) (st := []) (r := some (.int r15)) (S' := r13) dX10_told_102 cv_X10_125 rfl po_61 (Nat.le_of_ble_eq_true rfl) ⟨⟨by decide, by decide⟩, rfl, rfl⟩ (t_X7_number e16) ?_
          show Ok D_X10_told (0, 0) (0, 0) 105 [(0, .ref 0), (1, .int a1)] [.int r15] (St r13) _
          exact okS_ret dX10_told_105 rfl rfl (by have e := Option.some.inj h; subst e; exact ⟨rfl, rfl⟩)
        · replace h := it_neg hx12 h
          by_cases hx17 : a1 = 4
          · replace h := it_pos hx17 h
            refine ok_tableIn (tgt := 106) dX10_told_1 (by rw [hx17]; decide) (by rw [hx17]; decide) (by rw [hx17]; rfl) (by decide) ?_
            refine ok_aload_n dX10_told_106 0 rfl ?_
            refine okS_getR dX10_told_107 fl_X10_10 pr_0_0 ?_
            obtain ⟨r18, e19, h⟩ := it_bind h
            refine okS_V (as := []) (st := []) (r := some (.int r18)) (S' := S) dX10_told_110 cv_X10_128 rfl po_1 (Nat.le_of_ble_eq_true rfl) ⟨⟨by decide, by decide⟩, rfl, rfl⟩ (t_X6_levels e19) ?_
            show Ok D_X10_told (0, 0) (0, 0) 113 [(0, .ref 0), (1, .int a1)] [.int r18] (St S) _
            exact okS_ret dX10_told_113 rfl rfl (by have e := Option.some.inj h; subst e; exact ⟨rfl, rfl⟩)
          · replace h := it_neg hx17 h
            by_cases hx20 : a1 = 5
            · replace h := it_pos hx20 h
              refine ok_tableIn (tgt := 114) dX10_told_1 (by rw [hx20]; decide) (by rw [hx20]; decide) (by rw [hx20]; rfl) (by decide) ?_
              refine ok_aload_n dX10_told_114 0 rfl ?_
              refine okS_getR dX10_told_115 fl_X10_10 pr_0_0 ?_
              obtain ⟨r21, e22, h⟩ := it_bind h
              refine okS_V (as := []) (st := []) (r := some (.int r21)) (S' := S) dX10_told_118 cv_X10_131 rfl po_1 (Nat.le_of_ble_eq_true rfl) ⟨⟨by decide, by decide⟩, rfl, rfl⟩ (t_X6_base e22) ?_
              show Ok D_X10_told (0, 0) (0, 0) 121 [(0, .ref 0), (1, .int a1)] [.int r21] (St S) _
              exact okS_ret dX10_told_121 rfl rfl (by have e := Option.some.inj h; subst e; exact ⟨rfl, rfl⟩)
            · replace h := it_neg hx20 h
              by_cases hx23 : a1 = 6
              · replace h := it_pos hx23 h
                refine ok_tableIn (tgt := 122) dX10_told_1 (by rw [hx23]; decide) (by rw [hx23]; decide) (by rw [hx23]; rfl) (by decide) ?_
                refine ok_aload_n dX10_told_122 0 rfl ?_
                refine okS_getR dX10_told_123 fl_X10_10 pr_0_0 ?_
                obtain ⟨r24, e25, h⟩ := it_bind h
                refine okS_V (as := []) (st := []) (r := some (.int r24)) (S' := S) dX10_told_126 cv_X10_134 rfl po_1 (Nat.le_of_ble_eq_true rfl) ⟨⟨by decide, by decide⟩, rfl, rfl⟩ (t_X6_step e25) ?_
                show Ok D_X10_told (0, 0) (0, 0) 129 [(0, .ref 0), (1, .int a1)] [.int r24] (St S) _
                exact okS_ret dX10_told_129 rfl rfl (by have e := Option.some.inj h; subst e; exact ⟨rfl, rfl⟩)
              · replace h := it_neg hx23 h
                by_cases hx26 : a1 = 7
                · replace h := it_pos hx26 h
                  refine ok_tableIn (tgt := 130) dX10_told_1 (by rw [hx26]; decide) (by rw [hx26]; decide) (by rw [hx26]; rfl) (by decide) ?_
                  refine ok_aload_n dX10_told_130 0 rfl ?_
                  refine okS_getR dX10_told_131 fl_X10_10 pr_0_0 ?_
                  obtain ⟨r27, e28, h⟩ := it_bind h
                  refine okS_V (as := []) (st := []) (r := some (.int r27)) (S' := S) dX10_told_134 cv_X10_137 rfl po_1 (Nat.le_of_ble_eq_true rfl) ⟨⟨by decide, by decide⟩, rfl, rfl⟩ (t_X6_rise e28) ?_
                  show Ok D_X10_told (0, 0) (0, 0) 137 [(0, .ref 0), (1, .int a1)] [.int r27] (St S) _
                  exact okS_ret dX10_told_137 rfl rfl (by have e := Option.some.inj h; subst e; exact ⟨rfl, rfl⟩)
                · replace h := it_neg hx26 h
                  by_cases hx29 : a1 = 8
                  · replace h := it_pos hx29 h
                    refine ok_tableIn (tgt := 138) dX10_told_1 (by rw [hx29]; decide) (by rw [hx29]; decide) (by rw [hx29]; rfl) (by decide) ?_
                    refine ok_aload_n dX10_told_138 0 rfl ?_
                    refine okS_getR dX10_told_139 fl_X10_26 pr_0_2 ?_
                    obtain ⟨r30, e31, h⟩ := it_bind h
                    refine okS_V (as := []) (st := []) (r := some (.int r30)) (S' := S) dX10_told_142 cv_X10_72 rfl po_68 (Nat.le_of_ble_eq_true rfl) ⟨⟨by decide, by decide⟩, rfl, rfl⟩ (t_X9_length e31) ?_
                    show Ok D_X10_told (0, 0) (0, 0) 145 [(0, .ref 0), (1, .int a1)] [.int r30] (St S) _
                    exact okS_ret dX10_told_145 rfl rfl (by have e := Option.some.inj h; subst e; exact ⟨rfl, rfl⟩)
                  · replace h := it_neg hx29 h
                    by_cases hx32 : a1 = 9
                    · replace h := it_pos hx32 h
                      refine ok_tableIn (tgt := 146) dX10_told_1 (by rw [hx32]; decide) (by rw [hx32]; decide) (by rw [hx32]; rfl) (by decide) ?_
                      refine ok_aload_n dX10_told_146 0 rfl ?_
                      refine okS_getR dX10_told_147 fl_X10_40 pr_0_4 ?_
                      obtain ⟨r33, e34, h⟩ := it_bind h
                      refine okS_V (as := []) (st := []) (r := some (.int r33)) (S' := S) dX10_told_150 cv_X10_140 rfl po_138 (Nat.le_of_ble_eq_true rfl) ⟨⟨by decide, by decide⟩, rfl, rfl⟩ (t_X0_entries e34) ?_
                      show Ok D_X10_told (0, 0) (0, 0) 153 [(0, .ref 0), (1, .int a1)] [.int r33] (St S) _
                      exact okS_ret dX10_told_153 rfl rfl (by have e := Option.some.inj h; subst e; exact ⟨rfl, rfl⟩)
                    · replace h := it_neg hx32 h
                      by_cases hx35 : a1 = 10
                      · replace h := it_pos hx35 h
                        refine ok_tableIn (tgt := 154) dX10_told_1 (by rw [hx35]; decide) (by rw [hx35]; decide) (by rw [hx35]; rfl) (by decide) ?_
                        refine ok_aload_n dX10_told_154 0 rfl ?_
                        refine okS_getR dX10_told_155 fl_X10_40 pr_0_4 ?_
                        refine ok_aload_n dX10_told_158 0 rfl ?_
                        refine okS_getR dX10_told_159 fl_X10_10 pr_0_0 ?_
                        refine ok_aload_n dX10_told_162 0 rfl ?_
                        obtain ⟨r36, e37, h⟩ := it_bind h
                        refine okS_V (as := []) (st := [.ref 1, .ref 138]) (r := some (.ref 5)) (S' := r36) dX10_told_163 cv_X10_108 rfl po_0 (Nat.le_of_ble_eq_true rfl) ⟨⟨by decide, by decide⟩, rfl, rfl⟩ (t_X10_found e37) ?_
                        show Ok D_X10_told (0, 0) (0, 0) 166 [(0, .ref 0), (1, .int a1)] [.ref 5, .ref 1, .ref 138] (St r36) _
                        refine okS_getR dX10_told_166 fl_X10_143 pr_5_1 ?_
                        obtain ⟨r38, e39, h⟩ := it_bind h
                        refine okS_V (as := [.ref 1, .ref 26]) (st := []) (r := some (.int r38)) (S' := r36) dX10_told_169 cv_X10_146 rfl po_138 (Nat.le_of_ble_eq_true rfl) ⟨⟨by decide, by decide⟩, rfl, rfl⟩ (t_X0_firstWrong e39) ?_
                        show Ok D_X10_told (0, 0) (0, 0) 172 [(0, .ref 0), (1, .int a1)] [.int r38] (St r36) _
                        exact okS_ret dX10_told_172 rfl rfl (by have e := Option.some.inj h; subst e; exact ⟨rfl, rfl⟩)
                      · replace h := it_neg hx35 h
                        by_cases hx40 : a1 = 11
                        · replace h := it_pos hx40 h
                          refine ok_tableIn (tgt := 173) dX10_told_1 (by rw [hx40]; decide) (by rw [hx40]; decide) (by rw [hx40]; rfl) (by decide) ?_
                          refine ok_aload_n dX10_told_173 0 rfl ?_
                          refine okS_getR dX10_told_174 fl_X10_33 pr_0_3 ?_
                          obtain ⟨r41, e42, h⟩ := it_bind h
                          refine okS_V (as := []) (st := []) (r := some (.int r41)) (S' := S) dX10_told_177 cv_X10_150 rfl po_72 (Nat.le_of_ble_eq_true rfl) ⟨⟨by decide, by decide⟩, rfl, rfl⟩ (t_X1_number e42) ?_
                          show Ok D_X10_told (0, 0) (0, 0) 180 [(0, .ref 0), (1, .int a1)] [.int r41] (St S) _
                          exact okS_ret dX10_told_180 rfl rfl (by have e := Option.some.inj h; subst e; exact ⟨rfl, rfl⟩)
                        · replace h := it_neg hx40 h
                          by_cases hx43 : a1 = 12
                          · replace h := it_pos hx43 h
                            refine ok_tableIn (tgt := 181) dX10_told_1 (by rw [hx43]; decide) (by rw [hx43]; decide) (by rw [hx43]; rfl) (by decide) ?_
                            refine ok_aload_n dX10_told_181 0 rfl ?_
                            refine okS_getI dX10_told_182 fl_X10_50 pi_0_6 ?_
                            exact okS_ret dX10_told_185 rfl rfl (by have e := Option.some.inj h; subst e; exact ⟨rfl, rfl⟩)
                          · replace h := it_neg hx43 h
                            refine ok_tableOut (tgt := 186) dX10_told_1 (sw_out a1 (by intro n h1 h2; rcases (show n = 0 ∨ n = 1 ∨ n = 2 ∨ n = 3 ∨ n = 4 ∨ n = 5 ∨ n = 6 ∨ n = 7 ∨ n = 8 ∨ n = 9 ∨ n = 10 ∨ n = 11 ∨ n = 12 by omega) with rfl | rfl | rfl | rfl | rfl | rfl | rfl | rfl | rfl | rfl | rfl | rfl | rfl <;> assumption)) (by decide) ?_
                            refine ok_ldc (v := (-1000000002)) dX10_told_186 wd_331 ?_
                            exact okS_ret dX10_told_188 rfl rfl (by have e := Option.some.inj h; subst e; exact ⟨rfl, rfl⟩)
def f_X10_at (S : Mm) (a1 : Int32) (a2 : Int32) : Option (Int32) :=
  ((f_X6_hasPiece S a1).bind fun r1 => (if r1 = 0 then some (-1000000001) else (if a2 = 0 then ((f_X6_dayOf S a1).bind fun r4 => some r4) else (if a2 = 1 then ((f_X6_setOf S a1).bind fun r7 => some r7) else some (-1000000002)))))
set_option maxRecDepth 100000 in
set_option maxHeartbeats 4000000 in
theorem t_X10_at {S : Mm} {a1 : Int32} {a2 : Int32} {out : Int32} (h : f_X10_at S a1 a2 = some out) : Rs D_X10_at [.ref 0, .int a1, .int a2] S (some (.int out)) S := by
  refine rs_of (by decide) rfl (Nat.le_of_ble_eq_true rfl) ?_
  unfold f_X10_at at h
  show Ok D_X10_at (0, 0) (0, 0) 0 [(0, .ref 0), (1, .int a1), (2, .int a2)] [] (St S) _
  refine ok_aload_n dX10_at_0 0 rfl ?_
  refine okS_getR dX10_at_1 fl_X10_10 pr_0_0 ?_
  refine ok_iload_n dX10_at_4 1 rfl ?_
  obtain ⟨r1, e2, h⟩ := it_bind h
  refine okS_V (as := [.int a1]) (st := []) (r := some (.int r1)) (S' := S) dX10_at_5 cv_X10_151 rfl po_1 (Nat.le_of_ble_eq_true rfl) ⟨⟨by decide, by decide⟩, rfl, rfl⟩ (t_X6_hasPiece e2) ?_
  show Ok D_X10_at (0, 0) (0, 0) 8 [(0, .ref 0), (1, .int a1), (2, .int a2)] [.int r1] (St S) _
  refine ok_if_ne (tgt := 14) dX10_at_8 (by decide) (fun hc => ?_) (fun hc => ?_)
  · replace h := it_neg hc h
    refine ok_iload_n dX10_at_14 2 rfl ?_
    by_cases hx3 : a2 = 0
    · replace h := it_pos hx3 h
      refine ok_lookup (tgt := 40) (off := 25) dX10_at_15 (by decide) (by rw [hx3] <;> rfl) (by decide) ?_
      refine ok_aload_n dX10_at_40 0 rfl ?_
      refine okS_getR dX10_at_41 fl_X10_10 pr_0_0 ?_
      refine ok_iload_n dX10_at_44 1 rfl ?_
      obtain ⟨r4, e5, h⟩ := it_bind h
      refine okS_V (as := [.int a1]) (st := []) (r := some (.int r4)) (S' := S) dX10_at_45 cv_X10_156 rfl po_1 (Nat.le_of_ble_eq_true rfl) ⟨⟨by decide, by decide⟩, rfl, rfl⟩ (t_X6_dayOf e5) ?_
      show Ok D_X10_at (0, 0) (0, 0) 48 [(0, .ref 0), (1, .int a1), (2, .int a2)] [.int r4] (St S) _
      exact okS_ret dX10_at_48 rfl rfl (by have e := Option.some.inj h; subst e; exact ⟨rfl, rfl⟩)
    · replace h := it_neg hx3 h
      by_cases hx6 : a2 = 1
      · replace h := it_pos hx6 h
        refine ok_lookup (tgt := 49) (off := 34) dX10_at_15 (by decide) (by rw [hx6] <;> rfl) (by decide) ?_
        refine ok_aload_n dX10_at_49 0 rfl ?_
        refine okS_getR dX10_at_50 fl_X10_10 pr_0_0 ?_
        refine ok_iload_n dX10_at_53 1 rfl ?_
        obtain ⟨r7, e8, h⟩ := it_bind h
        refine okS_V (as := [.int a1]) (st := []) (r := some (.int r7)) (S' := S) dX10_at_54 cv_X10_159 rfl po_1 (Nat.le_of_ble_eq_true rfl) ⟨⟨by decide, by decide⟩, rfl, rfl⟩ (t_X6_setOf e8) ?_
        show Ok D_X10_at (0, 0) (0, 0) 57 [(0, .ref 0), (1, .int a1), (2, .int a2)] [.int r7] (St S) _
        exact okS_ret dX10_at_57 rfl rfl (by have e := Option.some.inj h; subst e; exact ⟨rfl, rfl⟩)
      · replace h := it_neg hx6 h
        refine ok_lookup (tgt := 58) (off := 43) dX10_at_15 (by decide) (by rw [lv_osw hx3 (by decide), lv_osw hx6 (by decide)] <;> rfl) (by decide) ?_
        refine ok_ldc (v := (-1000000002)) dX10_at_58 wd_331 ?_
        exact okS_ret dX10_at_60 rfl rfl (by have e := Option.some.inj h; subst e; exact ⟨rfl, rfl⟩)
  · replace h := it_pos hc h
    refine ok_ldc (v := (-1000000001)) dX10_at_11 wd_685 ?_
    exact okS_ret dX10_at_13 rfl rfl (by have e := Option.some.inj h; subst e; exact ⟨rfl, rfl⟩)
def f_X10_day (S : Mm) (a1 : Int32) (a2 : Int32) : Option (Int32 × Mm) :=
  ((f_X6_hasDay S a1).bind fun r1 => (if r1 = 0 then some ((-1000000001), S) else (if a2 = 0 then ((f_X10_found S).bind fun r4 => ((f_X8_all r4 a1).bind fun r6 => some (r6, r4))) else (if a2 = 1 then ((f_X10_found S).bind fun r9 => ((f_X2_hot r9 a1).bind fun r11 => some (r11, r9))) else (if a2 = 2 then ((f_X10_found S).bind fun r14 => ((f_X2_top r14 a1).bind fun r16 => some (r16, r14))) else some ((-1000000002), S))))))
set_option maxRecDepth 100000 in
set_option maxHeartbeats 4000000 in
theorem t_X10_day {S : Mm} {a1 : Int32} {a2 : Int32} {out : Int32 × Mm} (h : f_X10_day S a1 a2 = some out) : Rs D_X10_day [.ref 0, .int a1, .int a2] S (some (.int out.1)) out.2 := by
  refine rs_of (by decide) rfl (Nat.le_of_ble_eq_true rfl) ?_
  unfold f_X10_day at h
  show Ok D_X10_day (0, 0) (0, 0) 0 [(0, .ref 0), (1, .int a1), (2, .int a2)] [] (St S) _
  refine ok_aload_n dX10_day_0 0 rfl ?_
  refine okS_getR dX10_day_1 fl_X10_10 pr_0_0 ?_
  refine ok_iload_n dX10_day_4 1 rfl ?_
  obtain ⟨r1, e2, h⟩ := it_bind h
  refine okS_V (as := [.int a1]) (st := []) (r := some (.int r1)) (S' := S) dX10_day_5 cv_X10_162 rfl po_1 (Nat.le_of_ble_eq_true rfl) ⟨⟨by decide, by decide⟩, rfl, rfl⟩ (t_X6_hasDay e2) ?_
  show Ok D_X10_day (0, 0) (0, 0) 8 [(0, .ref 0), (1, .int a1), (2, .int a2)] [.int r1] (St S) _
  refine ok_if_ne (tgt := 14) dX10_day_8 (by decide) (fun hc => ?_) (fun hc => ?_)
  · replace h := it_neg hc h
    refine ok_iload_n dX10_day_14 2 rfl ?_
    by_cases hx3 : a2 = 0
    · replace h := it_pos hx3 h
      refine ok_tableIn (tgt := 40) dX10_day_15 (by rw [hx3]; decide) (by rw [hx3]; decide) (by rw [hx3]; rfl) (by decide) ?_
      refine ok_aload_n dX10_day_40 0 rfl ?_
      obtain ⟨r4, e5, h⟩ := it_bind h
      refine okS_V (as := []) (st := []) (r := some (.ref 5)) (S' := r4) dX10_day_41 cv_X10_108 rfl po_0 (Nat.le_of_ble_eq_true rfl) ⟨⟨by decide, by decide⟩, rfl, rfl⟩ (t_X10_found e5) ?_
      show Ok D_X10_day (0, 0) (0, 0) 44 [(0, .ref 0), (1, .int a1), (2, .int a2)] [.ref 5] (St r4) _
      refine okS_getR dX10_day_44 fl_X10_165 pr_5_0 ?_
      refine ok_iload_n dX10_day_47 1 rfl ?_
      obtain ⟨r6, e7, h⟩ := it_bind h
      refine okS_V (as := [.int a1]) (st := []) (r := some (.int r6)) (S' := r4) dX10_day_48 cv_X10_169 rfl po_6 (Nat.le_of_ble_eq_true rfl) ⟨⟨by decide, by decide⟩, rfl, rfl⟩ (t_X8_all e7) ?_
      show Ok D_X10_day (0, 0) (0, 0) 51 [(0, .ref 0), (1, .int a1), (2, .int a2)] [.int r6] (St r4) _
      exact okS_ret dX10_day_51 rfl rfl (by have e := Option.some.inj h; subst e; exact ⟨rfl, rfl⟩)
    · replace h := it_neg hx3 h
      by_cases hx8 : a2 = 1
      · replace h := it_pos hx8 h
        refine ok_tableIn (tgt := 52) dX10_day_15 (by rw [hx8]; decide) (by rw [hx8]; decide) (by rw [hx8]; rfl) (by decide) ?_
        refine ok_aload_n dX10_day_52 0 rfl ?_
        obtain ⟨r9, e10, h⟩ := it_bind h
        refine okS_V (as := []) (st := []) (r := some (.ref 5)) (S' := r9) dX10_day_53 cv_X10_108 rfl po_0 (Nat.le_of_ble_eq_true rfl) ⟨⟨by decide, by decide⟩, rfl, rfl⟩ (t_X10_found e10) ?_
        show Ok D_X10_day (0, 0) (0, 0) 56 [(0, .ref 0), (1, .int a1), (2, .int a2)] [.ref 5] (St r9) _
        refine ok_iload_n dX10_day_56 1 rfl ?_
        obtain ⟨r11, e12, h⟩ := it_bind h
        refine okS_V (as := [.int a1]) (st := []) (r := some (.int r11)) (S' := r9) dX10_day_57 cv_X10_174 rfl po_5 (Nat.le_of_ble_eq_true rfl) ⟨⟨by decide, by decide⟩, rfl, rfl⟩ (t_X2_hot e12) ?_
        show Ok D_X10_day (0, 0) (0, 0) 60 [(0, .ref 0), (1, .int a1), (2, .int a2)] [.int r11] (St r9) _
        exact okS_ret dX10_day_60 rfl rfl (by have e := Option.some.inj h; subst e; exact ⟨rfl, rfl⟩)
      · replace h := it_neg hx8 h
        by_cases hx13 : a2 = 2
        · replace h := it_pos hx13 h
          refine ok_tableIn (tgt := 61) dX10_day_15 (by rw [hx13]; decide) (by rw [hx13]; decide) (by rw [hx13]; rfl) (by decide) ?_
          refine ok_aload_n dX10_day_61 0 rfl ?_
          obtain ⟨r14, e15, h⟩ := it_bind h
          refine okS_V (as := []) (st := []) (r := some (.ref 5)) (S' := r14) dX10_day_62 cv_X10_108 rfl po_0 (Nat.le_of_ble_eq_true rfl) ⟨⟨by decide, by decide⟩, rfl, rfl⟩ (t_X10_found e15) ?_
          show Ok D_X10_day (0, 0) (0, 0) 65 [(0, .ref 0), (1, .int a1), (2, .int a2)] [.ref 5] (St r14) _
          refine ok_iload_n dX10_day_65 1 rfl ?_
          obtain ⟨r16, e17, h⟩ := it_bind h
          refine okS_V (as := [.int a1]) (st := []) (r := some (.int r16)) (S' := r14) dX10_day_66 cv_X10_177 rfl po_5 (Nat.le_of_ble_eq_true rfl) ⟨⟨by decide, by decide⟩, rfl, rfl⟩ (t_X2_top e17) ?_
          show Ok D_X10_day (0, 0) (0, 0) 69 [(0, .ref 0), (1, .int a1), (2, .int a2)] [.int r16] (St r14) _
          exact okS_ret dX10_day_69 rfl rfl (by have e := Option.some.inj h; subst e; exact ⟨rfl, rfl⟩)
        · replace h := it_neg hx13 h
          refine ok_tableOut (tgt := 70) dX10_day_15 (sw_out a2 (by intro n h1 h2; rcases (show n = 0 ∨ n = 1 ∨ n = 2 by omega) with rfl | rfl | rfl <;> assumption)) (by decide) ?_
          refine ok_ldc (v := (-1000000002)) dX10_day_70 wd_331 ?_
          exact okS_ret dX10_day_72 rfl rfl (by have e := Option.some.inj h; subst e; exact ⟨rfl, rfl⟩)
  · replace h := it_pos hc h
    refine ok_ldc (v := (-1000000001)) dX10_day_11 wd_685 ?_
    exact okS_ret dX10_day_13 rfl rfl (by have e := Option.some.inj h; subst e; exact ⟨rfl, rfl⟩)
def f_X10_word (S : Mm) (a1 : Int32) (a2 : Int32) (a3 : Int32) : Option (Int32 × Mm) :=
  ((f_X10_isWord S a1).bind fun r1 => (if r1 = 0 then some ((-1000000001), S) else ((f_X6_hasDay S a2).bind fun r3 => (if r3 = 0 then some ((-1000000001), S) else (if a3 = 0 then ((f_X10_found S).bind fun r6 => ((f_X8_count r6 a1 a2).bind fun r8 => some (r8, r6))) else (if a3 = 1 then ((f_X10_found S).bind fun r11 => ((f_X5_of r11 a1 a2).bind fun r13 => some (r13, r11))) else (if a3 = 2 then ((f_X6_hasLevel S (a3 - 2)).bind fun r16 => (if r16 = 0 then some ((-1), S) else ((f_X10_found S).bind fun r18 => ((f_X8_wanted r18 a1 a2 (a3 - 2)).bind fun r20 => some (r20, r18))))) else (if a3 = 3 then ((f_X6_hasLevel S (a3 - 2)).bind fun r23 => (if r23 = 0 then some ((-1), S) else ((f_X10_found S).bind fun r25 => ((f_X8_wanted r25 a1 a2 (a3 - 2)).bind fun r27 => some (r27, r25))))) else (if a3 = 4 then ((f_X6_hasLevel S (a3 - 2)).bind fun r30 => (if r30 = 0 then some ((-1), S) else ((f_X10_found S).bind fun r32 => ((f_X8_wanted r32 a1 a2 (a3 - 2)).bind fun r34 => some (r34, r32))))) else (if a3 = 5 then ((f_X6_hasLevel S (a3 - 2)).bind fun r37 => (if r37 = 0 then some ((-1), S) else ((f_X10_found S).bind fun r39 => ((f_X8_wanted r39 a1 a2 (a3 - 2)).bind fun r41 => some (r41, r39))))) else some ((-1000000002), S)))))))))))
set_option maxRecDepth 100000 in
set_option maxHeartbeats 4000000 in
theorem t_X10_word {S : Mm} {a1 : Int32} {a2 : Int32} {a3 : Int32} {out : Int32 × Mm} (h : f_X10_word S a1 a2 a3 = some out) : Rs D_X10_word [.ref 0, .int a1, .int a2, .int a3] S (some (.int out.1)) out.2 := by
  refine rs_of (by decide) rfl (Nat.le_of_ble_eq_true rfl) ?_
  unfold f_X10_word at h
  show Ok D_X10_word (0, 0) (0, 0) 0 [(0, .ref 0), (1, .int a1), (2, .int a2), (3, .int a3)] [] (St S) _
  refine ok_iload_n dX10_word_0 1 rfl ?_
  obtain ⟨r1, e2, h⟩ := it_bind h
  refine okS_S (as := [.int a1]) (st := []) (r := some (.int r1)) (S' := S) dX10_word_1 cv_X10_180 rfl (Nat.le_of_ble_eq_true rfl) ⟨⟨by decide, by decide⟩, rfl, rfl⟩ (t_X10_isWord e2) ?_
  show Ok D_X10_word (0, 0) (0, 0) 4 [(0, .ref 0), (1, .int a1), (2, .int a2), (3, .int a3)] [.int r1] (St S) _
  refine ok_if_eq (tgt := 18) dX10_word_4 (by decide) (fun hc => ?_) (fun hc => ?_)
  · replace h := it_pos hc h
    refine ok_ldc (v := (-1000000001)) dX10_word_18 wd_685 ?_
    exact okS_ret dX10_word_20 rfl rfl (by have e := Option.some.inj h; subst e; exact ⟨rfl, rfl⟩)
  · replace h := it_neg hc h
    refine ok_aload_n dX10_word_7 0 rfl ?_
    refine okS_getR dX10_word_8 fl_X10_10 pr_0_0 ?_
    refine ok_iload_n dX10_word_11 2 rfl ?_
    obtain ⟨r3, e4, h⟩ := it_bind h
    refine okS_V (as := [.int a2]) (st := []) (r := some (.int r3)) (S' := S) dX10_word_12 cv_X10_162 rfl po_1 (Nat.le_of_ble_eq_true rfl) ⟨⟨by decide, by decide⟩, rfl, rfl⟩ (t_X6_hasDay e4) ?_
    show Ok D_X10_word (0, 0) (0, 0) 15 [(0, .ref 0), (1, .int a1), (2, .int a2), (3, .int a3)] [.int r3] (St S) _
    refine ok_if_ne (tgt := 21) dX10_word_15 (by decide) (fun hc => ?_) (fun hc => ?_)
    · replace h := it_neg hc h
      refine ok_iload_n dX10_word_21 3 rfl ?_
      by_cases hx5 : a3 = 0
      · replace h := it_pos hx5 h
        refine ok_tableIn (tgt := 60) dX10_word_22 (by rw [hx5]; decide) (by rw [hx5]; decide) (by rw [hx5]; rfl) (by decide) ?_
        refine ok_aload_n dX10_word_60 0 rfl ?_
        obtain ⟨r6, e7, h⟩ := it_bind h
        refine okS_V (as := []) (st := []) (r := some (.ref 5)) (S' := r6) dX10_word_61 cv_X10_108 rfl po_0 (Nat.le_of_ble_eq_true rfl) ⟨⟨by decide, by decide⟩, rfl, rfl⟩ (t_X10_found e7) ?_
        show Ok D_X10_word (0, 0) (0, 0) 64 [(0, .ref 0), (1, .int a1), (2, .int a2), (3, .int a3)] [.ref 5] (St r6) _
        refine okS_getR dX10_word_64 fl_X10_165 pr_5_0 ?_
        refine ok_iload_n dX10_word_67 1 rfl ?_
        refine ok_iload_n dX10_word_68 2 rfl ?_
        obtain ⟨r8, e9, h⟩ := it_bind h
        refine okS_V (as := [.int a1, .int a2]) (st := []) (r := some (.int r8)) (S' := r6) dX10_word_69 cv_X10_183 rfl po_6 (Nat.le_of_ble_eq_true rfl) ⟨⟨by decide, by decide⟩, rfl, rfl⟩ (t_X8_count e9) ?_
        show Ok D_X10_word (0, 0) (0, 0) 72 [(0, .ref 0), (1, .int a1), (2, .int a2), (3, .int a3)] [.int r8] (St r6) _
        exact okS_ret dX10_word_72 rfl rfl (by have e := Option.some.inj h; subst e; exact ⟨rfl, rfl⟩)
      · replace h := it_neg hx5 h
        by_cases hx10 : a3 = 1
        · replace h := it_pos hx10 h
          refine ok_tableIn (tgt := 73) dX10_word_22 (by rw [hx10]; decide) (by rw [hx10]; decide) (by rw [hx10]; rfl) (by decide) ?_
          refine ok_aload_n dX10_word_73 0 rfl ?_
          obtain ⟨r11, e12, h⟩ := it_bind h
          refine okS_V (as := []) (st := []) (r := some (.ref 5)) (S' := r11) dX10_word_74 cv_X10_108 rfl po_0 (Nat.le_of_ble_eq_true rfl) ⟨⟨by decide, by decide⟩, rfl, rfl⟩ (t_X10_found e12) ?_
          show Ok D_X10_word (0, 0) (0, 0) 77 [(0, .ref 0), (1, .int a1), (2, .int a2), (3, .int a3)] [.ref 5] (St r11) _
          refine okS_getR dX10_word_77 fl_X10_143 pr_5_1 ?_
          refine ok_iload_n dX10_word_80 1 rfl ?_
          refine ok_iload_n dX10_word_81 2 rfl ?_
          obtain ⟨r13, e14, h⟩ := it_bind h
          refine okS_V (as := [.int a1, .int a2]) (st := []) (r := some (.int r13)) (S' := r11) dX10_word_82 cv_X10_185 rfl po_26 (Nat.le_of_ble_eq_true rfl) ⟨⟨by decide, by decide⟩, rfl, rfl⟩ (t_X5_of e14) ?_
          show Ok D_X10_word (0, 0) (0, 0) 85 [(0, .ref 0), (1, .int a1), (2, .int a2), (3, .int a3)] [.int r13] (St r11) _
          exact okS_ret dX10_word_85 rfl rfl (by have e := Option.some.inj h; subst e; exact ⟨rfl, rfl⟩)
        · replace h := it_neg hx10 h
          by_cases hx15 : a3 = 2
          · replace h := it_pos hx15 h
            refine ok_tableIn (tgt := 86) dX10_word_22 (by rw [hx15]; decide) (by rw [hx15]; decide) (by rw [hx15]; rfl) (by decide) ?_
            refine ok_aload_n dX10_word_86 0 rfl ?_
            refine okS_getR dX10_word_87 fl_X10_10 pr_0_0 ?_
            refine ok_iload_n dX10_word_90 3 rfl ?_
            refine ok_iconst (v := 2) dX10_word_91 ic_2 ?_
            refine ok_isub dX10_word_92 ?_
            obtain ⟨r16, e17, h⟩ := it_bind h
            refine okS_V (as := [.int (a3 - 2)]) (st := []) (r := some (.int r16)) (S' := S) dX10_word_93 cv_X10_190 rfl po_1 (Nat.le_of_ble_eq_true rfl) ⟨⟨by decide, by decide⟩, rfl, rfl⟩ (t_X6_hasLevel e17) ?_
            show Ok D_X10_word (0, 0) (0, 0) 96 [(0, .ref 0), (1, .int a1), (2, .int a2), (3, .int a3)] [.int r16] (St S) _
            refine ok_if_eq (tgt := 117) dX10_word_96 (by decide) (fun hc => ?_) (fun hc => ?_)
            · replace h := it_pos hc h
              refine ok_iconst (v := (-1)) dX10_word_117 ic_m1 ?_
              exact okS_ret dX10_word_118 rfl rfl (by have e := Option.some.inj h; subst e; exact ⟨rfl, rfl⟩)
            · replace h := it_neg hc h
              refine ok_aload_n dX10_word_99 0 rfl ?_
              obtain ⟨r18, e19, h⟩ := it_bind h
              refine okS_V (as := []) (st := []) (r := some (.ref 5)) (S' := r18) dX10_word_100 cv_X10_108 rfl po_0 (Nat.le_of_ble_eq_true rfl) ⟨⟨by decide, by decide⟩, rfl, rfl⟩ (t_X10_found e19) ?_
              show Ok D_X10_word (0, 0) (0, 0) 103 [(0, .ref 0), (1, .int a1), (2, .int a2), (3, .int a3)] [.ref 5] (St r18) _
              refine okS_getR dX10_word_103 fl_X10_165 pr_5_0 ?_
              refine ok_iload_n dX10_word_106 1 rfl ?_
              refine ok_iload_n dX10_word_107 2 rfl ?_
              refine ok_iload_n dX10_word_108 3 rfl ?_
              refine ok_iconst (v := 2) dX10_word_109 ic_2 ?_
              refine ok_isub dX10_word_110 ?_
              obtain ⟨r20, e21, h⟩ := it_bind h
              refine okS_V (as := [.int a1, .int a2, .int (a3 - 2)]) (st := []) (r := some (.int r20)) (S' := r18) dX10_word_111 cv_X10_193 rfl po_6 (Nat.le_of_ble_eq_true rfl) ⟨⟨by decide, by decide⟩, rfl, rfl⟩ (t_X8_wanted e21) ?_
              show Ok D_X10_word (0, 0) (0, 0) 114 [(0, .ref 0), (1, .int a1), (2, .int a2), (3, .int a3)] [.int r20] (St r18) _
              refine ok_goto (tgt := 118) dX10_word_114 (by decide) ?_
              exact okS_ret dX10_word_118 rfl rfl (by have e := Option.some.inj h; subst e; exact ⟨rfl, rfl⟩)
          · replace h := it_neg hx15 h
            by_cases hx22 : a3 = 3
            · replace h := it_pos hx22 h
              refine ok_tableIn (tgt := 86) dX10_word_22 (by rw [hx22]; decide) (by rw [hx22]; decide) (by rw [hx22]; rfl) (by decide) ?_
              refine ok_aload_n dX10_word_86 0 rfl ?_
              refine okS_getR dX10_word_87 fl_X10_10 pr_0_0 ?_
              refine ok_iload_n dX10_word_90 3 rfl ?_
              refine ok_iconst (v := 2) dX10_word_91 ic_2 ?_
              refine ok_isub dX10_word_92 ?_
              obtain ⟨r23, e24, h⟩ := it_bind h
              refine okS_V (as := [.int (a3 - 2)]) (st := []) (r := some (.int r23)) (S' := S) dX10_word_93 cv_X10_190 rfl po_1 (Nat.le_of_ble_eq_true rfl) ⟨⟨by decide, by decide⟩, rfl, rfl⟩ (t_X6_hasLevel e24) ?_
              show Ok D_X10_word (0, 0) (0, 0) 96 [(0, .ref 0), (1, .int a1), (2, .int a2), (3, .int a3)] [.int r23] (St S) _
              refine ok_if_eq (tgt := 117) dX10_word_96 (by decide) (fun hc => ?_) (fun hc => ?_)
              · replace h := it_pos hc h
                refine ok_iconst (v := (-1)) dX10_word_117 ic_m1 ?_
                exact okS_ret dX10_word_118 rfl rfl (by have e := Option.some.inj h; subst e; exact ⟨rfl, rfl⟩)
              · replace h := it_neg hc h
                refine ok_aload_n dX10_word_99 0 rfl ?_
                obtain ⟨r25, e26, h⟩ := it_bind h
                refine okS_V (as := []) (st := []) (r := some (.ref 5)) (S' := r25) dX10_word_100 cv_X10_108 rfl po_0 (Nat.le_of_ble_eq_true rfl) ⟨⟨by decide, by decide⟩, rfl, rfl⟩ (t_X10_found e26) ?_
                show Ok D_X10_word (0, 0) (0, 0) 103 [(0, .ref 0), (1, .int a1), (2, .int a2), (3, .int a3)] [.ref 5] (St r25) _
                refine okS_getR dX10_word_103 fl_X10_165 pr_5_0 ?_
                refine ok_iload_n dX10_word_106 1 rfl ?_
                refine ok_iload_n dX10_word_107 2 rfl ?_
                refine ok_iload_n dX10_word_108 3 rfl ?_
                refine ok_iconst (v := 2) dX10_word_109 ic_2 ?_
                refine ok_isub dX10_word_110 ?_
                obtain ⟨r27, e28, h⟩ := it_bind h
                refine okS_V (as := [.int a1, .int a2, .int (a3 - 2)]) (st := []) (r := some (.int r27)) (S' := r25) dX10_word_111 cv_X10_193 rfl po_6 (Nat.le_of_ble_eq_true rfl) ⟨⟨by decide, by decide⟩, rfl, rfl⟩ (t_X8_wanted e28) ?_
                show Ok D_X10_word (0, 0) (0, 0) 114 [(0, .ref 0), (1, .int a1), (2, .int a2), (3, .int a3)] [.int r27] (St r25) _
                refine ok_goto (tgt := 118) dX10_word_114 (by decide) ?_
                exact okS_ret dX10_word_118 rfl rfl (by have e := Option.some.inj h; subst e; exact ⟨rfl, rfl⟩)
            · replace h := it_neg hx22 h
              by_cases hx29 : a3 = 4
              · replace h := it_pos hx29 h
                refine ok_tableIn (tgt := 86) dX10_word_22 (by rw [hx29]; decide) (by rw [hx29]; decide) (by rw [hx29]; rfl) (by decide) ?_
                refine ok_aload_n dX10_word_86 0 rfl ?_
                refine okS_getR dX10_word_87 fl_X10_10 pr_0_0 ?_
                refine ok_iload_n dX10_word_90 3 rfl ?_
                refine ok_iconst (v := 2) dX10_word_91 ic_2 ?_
                refine ok_isub dX10_word_92 ?_
                obtain ⟨r30, e31, h⟩ := it_bind h
                refine okS_V (as := [.int (a3 - 2)]) (st := []) (r := some (.int r30)) (S' := S) dX10_word_93 cv_X10_190 rfl po_1 (Nat.le_of_ble_eq_true rfl) ⟨⟨by decide, by decide⟩, rfl, rfl⟩ (t_X6_hasLevel e31) ?_
                show Ok D_X10_word (0, 0) (0, 0) 96 [(0, .ref 0), (1, .int a1), (2, .int a2), (3, .int a3)] [.int r30] (St S) _
                refine ok_if_eq (tgt := 117) dX10_word_96 (by decide) (fun hc => ?_) (fun hc => ?_)
                · replace h := it_pos hc h
                  refine ok_iconst (v := (-1)) dX10_word_117 ic_m1 ?_
                  exact okS_ret dX10_word_118 rfl rfl (by have e := Option.some.inj h; subst e; exact ⟨rfl, rfl⟩)
                · replace h := it_neg hc h
                  refine ok_aload_n dX10_word_99 0 rfl ?_
                  obtain ⟨r32, e33, h⟩ := it_bind h
                  refine okS_V (as := []) (st := []) (r := some (.ref 5)) (S' := r32) dX10_word_100 cv_X10_108 rfl po_0 (Nat.le_of_ble_eq_true rfl) ⟨⟨by decide, by decide⟩, rfl, rfl⟩ (t_X10_found e33) ?_
                  show Ok D_X10_word (0, 0) (0, 0) 103 [(0, .ref 0), (1, .int a1), (2, .int a2), (3, .int a3)] [.ref 5] (St r32) _
                  refine okS_getR dX10_word_103 fl_X10_165 pr_5_0 ?_
                  refine ok_iload_n dX10_word_106 1 rfl ?_
                  refine ok_iload_n dX10_word_107 2 rfl ?_
                  refine ok_iload_n dX10_word_108 3 rfl ?_
                  refine ok_iconst (v := 2) dX10_word_109 ic_2 ?_
                  refine ok_isub dX10_word_110 ?_
                  obtain ⟨r34, e35, h⟩ := it_bind h
                  refine okS_V (as := [.int a1, .int a2, .int (a3 - 2)]) (st := []) (r := some (.int r34)) (S' := r32) dX10_word_111 cv_X10_193 rfl po_6 (Nat.le_of_ble_eq_true rfl) ⟨⟨by decide, by decide⟩, rfl, rfl⟩ (t_X8_wanted e35) ?_
                  show Ok D_X10_word (0, 0) (0, 0) 114 [(0, .ref 0), (1, .int a1), (2, .int a2), (3, .int a3)] [.int r34] (St r32) _
                  refine ok_goto (tgt := 118) dX10_word_114 (by decide) ?_
                  exact okS_ret dX10_word_118 rfl rfl (by have e := Option.some.inj h; subst e; exact ⟨rfl, rfl⟩)
              · replace h := it_neg hx29 h
                by_cases hx36 : a3 = 5
                · replace h := it_pos hx36 h
                  refine ok_tableIn (tgt := 86) dX10_word_22 (by rw [hx36]; decide) (by rw [hx36]; decide) (by rw [hx36]; rfl) (by decide) ?_
                  refine ok_aload_n dX10_word_86 0 rfl ?_
                  refine okS_getR dX10_word_87 fl_X10_10 pr_0_0 ?_
                  refine ok_iload_n dX10_word_90 3 rfl ?_
                  refine ok_iconst (v := 2) dX10_word_91 ic_2 ?_
                  refine ok_isub dX10_word_92 ?_
                  obtain ⟨r37, e38, h⟩ := it_bind h
                  refine okS_V (as := [.int (a3 - 2)]) (st := []) (r := some (.int r37)) (S' := S) dX10_word_93 cv_X10_190 rfl po_1 (Nat.le_of_ble_eq_true rfl) ⟨⟨by decide, by decide⟩, rfl, rfl⟩ (t_X6_hasLevel e38) ?_
                  show Ok D_X10_word (0, 0) (0, 0) 96 [(0, .ref 0), (1, .int a1), (2, .int a2), (3, .int a3)] [.int r37] (St S) _
                  refine ok_if_eq (tgt := 117) dX10_word_96 (by decide) (fun hc => ?_) (fun hc => ?_)
                  · replace h := it_pos hc h
                    refine ok_iconst (v := (-1)) dX10_word_117 ic_m1 ?_
                    exact okS_ret dX10_word_118 rfl rfl (by have e := Option.some.inj h; subst e; exact ⟨rfl, rfl⟩)
                  · replace h := it_neg hc h
                    refine ok_aload_n dX10_word_99 0 rfl ?_
                    obtain ⟨r39, e40, h⟩ := it_bind h
                    refine okS_V (as := []) (st := []) (r := some (.ref 5)) (S' := r39) dX10_word_100 cv_X10_108 rfl po_0 (Nat.le_of_ble_eq_true rfl) ⟨⟨by decide, by decide⟩, rfl, rfl⟩ (t_X10_found e40) ?_
                    show Ok D_X10_word (0, 0) (0, 0) 103 [(0, .ref 0), (1, .int a1), (2, .int a2), (3, .int a3)] [.ref 5] (St r39) _
                    refine okS_getR dX10_word_103 fl_X10_165 pr_5_0 ?_
                    refine ok_iload_n dX10_word_106 1 rfl ?_
                    refine ok_iload_n dX10_word_107 2 rfl ?_
                    refine ok_iload_n dX10_word_108 3 rfl ?_
                    refine ok_iconst (v := 2) dX10_word_109 ic_2 ?_
                    refine ok_isub dX10_word_110 ?_
                    obtain ⟨r41, e42, h⟩ := it_bind h
                    refine okS_V (as := [.int a1, .int a2, .int (a3 - 2)]) (st := []) (r := some (.int r41)) (S' := r39) dX10_word_111 cv_X10_193 rfl po_6 (Nat.le_of_ble_eq_true rfl) ⟨⟨by decide, by decide⟩, rfl, rfl⟩ (t_X8_wanted e42) ?_
                    show Ok D_X10_word (0, 0) (0, 0) 114 [(0, .ref 0), (1, .int a1), (2, .int a2), (3, .int a3)] [.int r41] (St r39) _
                    refine ok_goto (tgt := 118) dX10_word_114 (by decide) ?_
                    exact okS_ret dX10_word_118 rfl rfl (by have e := Option.some.inj h; subst e; exact ⟨rfl, rfl⟩)
                · replace h := it_neg hx36 h
                  refine ok_tableOut (tgt := 119) dX10_word_22 (sw_out a3 (by intro n h1 h2; rcases (show n = 0 ∨ n = 1 ∨ n = 2 ∨ n = 3 ∨ n = 4 ∨ n = 5 by omega) with rfl | rfl | rfl | rfl | rfl | rfl <;> assumption)) (by decide) ?_
                  refine ok_ldc (v := (-1000000002)) dX10_word_119 wd_331 ?_
                  exact okS_ret dX10_word_121 rfl rfl (by have e := Option.some.inj h; subst e; exact ⟨rfl, rfl⟩)
    · replace h := it_pos hc h
      refine ok_ldc (v := (-1000000001)) dX10_word_18 wd_685 ?_
      exact okS_ret dX10_word_20 rfl rfl (by have e := Option.some.inj h; subst e; exact ⟨rfl, rfl⟩)
def f_X10_cost (S : Mm) (a1 : Int32) : Option (Int32 × Mm) :=
  ((f_X10_isWord S a1).bind fun r1 => (if r1 = 0 then some ((-1000000001), S) else ((f_X10_found S).bind fun r3 => ((f_X5_costOf r3 a1).bind fun r5 => some (r5, r3)))))
set_option maxRecDepth 100000 in
set_option maxHeartbeats 4000000 in
theorem t_X10_cost {S : Mm} {a1 : Int32} {out : Int32 × Mm} (h : f_X10_cost S a1 = some out) : Rs D_X10_cost [.ref 0, .int a1] S (some (.int out.1)) out.2 := by
  refine rs_of (by decide) rfl (Nat.le_of_ble_eq_true rfl) ?_
  unfold f_X10_cost at h
  show Ok D_X10_cost (0, 0) (0, 0) 0 [(0, .ref 0), (1, .int a1)] [] (St S) _
  refine ok_iload_n dX10_cost_0 1 rfl ?_
  obtain ⟨r1, e2, h⟩ := it_bind h
  refine okS_S (as := [.int a1]) (st := []) (r := some (.int r1)) (S' := S) dX10_cost_1 cv_X10_180 rfl (Nat.le_of_ble_eq_true rfl) ⟨⟨by decide, by decide⟩, rfl, rfl⟩ (t_X10_isWord e2) ?_
  show Ok D_X10_cost (0, 0) (0, 0) 4 [(0, .ref 0), (1, .int a1)] [.int r1] (St S) _
  refine ok_if_eq (tgt := 21) dX10_cost_4 (by decide) (fun hc => ?_) (fun hc => ?_)
  · replace h := it_pos hc h
    refine ok_ldc (v := (-1000000001)) dX10_cost_21 wd_685 ?_
    exact okS_ret dX10_cost_23 rfl rfl (by have e := Option.some.inj h; subst e; exact ⟨rfl, rfl⟩)
  · replace h := it_neg hc h
    refine ok_aload_n dX10_cost_7 0 rfl ?_
    obtain ⟨r3, e4, h⟩ := it_bind h
    refine okS_V (as := []) (st := []) (r := some (.ref 5)) (S' := r3) dX10_cost_8 cv_X10_108 rfl po_0 (Nat.le_of_ble_eq_true rfl) ⟨⟨by decide, by decide⟩, rfl, rfl⟩ (t_X10_found e4) ?_
    show Ok D_X10_cost (0, 0) (0, 0) 11 [(0, .ref 0), (1, .int a1)] [.ref 5] (St r3) _
    refine okS_getR dX10_cost_11 fl_X10_143 pr_5_1 ?_
    refine ok_iload_n dX10_cost_14 1 rfl ?_
    obtain ⟨r5, e6, h⟩ := it_bind h
    refine okS_V (as := [.int a1]) (st := []) (r := some (.int r5)) (S' := r3) dX10_cost_15 cv_X10_197 rfl po_26 (Nat.le_of_ble_eq_true rfl) ⟨⟨by decide, by decide⟩, rfl, rfl⟩ (t_X5_costOf e6) ?_
    show Ok D_X10_cost (0, 0) (0, 0) 18 [(0, .ref 0), (1, .int a1)] [.int r5] (St r3) _
    refine ok_goto (tgt := 23) dX10_cost_18 (by decide) ?_
    exact okS_ret dX10_cost_23 rfl rfl (by have e := Option.some.inj h; subst e; exact ⟨rfl, rfl⟩)
def f_X10_steady (S : Mm) (a1 : Int32) (a2 : Int32) : Option (Int32 × Mm) :=
  ((f_X10_isWord S a1).bind fun r1 => (if r1 = 0 then some ((-1000000001), S) else ((f_X6_hasLevel S a2).bind fun r3 => (if r3 = 0 then some ((-1000000002), S) else ((f_X10_found S).bind fun r5 => ((f_X8_costOfSteady r5 a1 a2).bind fun r7 => some (r7, r5)))))))
set_option maxRecDepth 100000 in
set_option maxHeartbeats 4000000 in
theorem t_X10_steady {S : Mm} {a1 : Int32} {a2 : Int32} {out : Int32 × Mm} (h : f_X10_steady S a1 a2 = some out) : Rs D_X10_steady [.ref 0, .int a1, .int a2] S (some (.int out.1)) out.2 := by
  refine rs_of (by decide) rfl (Nat.le_of_ble_eq_true rfl) ?_
  unfold f_X10_steady at h
  show Ok D_X10_steady (0, 0) (0, 0) 0 [(0, .ref 0), (1, .int a1), (2, .int a2)] [] (St S) _
  refine ok_iload_n dX10_steady_0 1 rfl ?_
  obtain ⟨r1, e2, h⟩ := it_bind h
  refine okS_S (as := [.int a1]) (st := []) (r := some (.int r1)) (S' := S) dX10_steady_1 cv_X10_180 rfl (Nat.le_of_ble_eq_true rfl) ⟨⟨by decide, by decide⟩, rfl, rfl⟩ (t_X10_isWord e2) ?_
  show Ok D_X10_steady (0, 0) (0, 0) 4 [(0, .ref 0), (1, .int a1), (2, .int a2)] [.int r1] (St S) _
  refine ok_if_ne (tgt := 10) dX10_steady_4 (by decide) (fun hc => ?_) (fun hc => ?_)
  · replace h := it_neg hc h
    refine ok_aload_n dX10_steady_10 0 rfl ?_
    refine okS_getR dX10_steady_11 fl_X10_10 pr_0_0 ?_
    refine ok_iload_n dX10_steady_14 2 rfl ?_
    obtain ⟨r3, e4, h⟩ := it_bind h
    refine okS_V (as := [.int a2]) (st := []) (r := some (.int r3)) (S' := S) dX10_steady_15 cv_X10_190 rfl po_1 (Nat.le_of_ble_eq_true rfl) ⟨⟨by decide, by decide⟩, rfl, rfl⟩ (t_X6_hasLevel e4) ?_
    show Ok D_X10_steady (0, 0) (0, 0) 18 [(0, .ref 0), (1, .int a1), (2, .int a2)] [.int r3] (St S) _
    refine ok_if_eq (tgt := 36) dX10_steady_18 (by decide) (fun hc => ?_) (fun hc => ?_)
    · replace h := it_pos hc h
      refine ok_ldc (v := (-1000000002)) dX10_steady_36 wd_331 ?_
      exact okS_ret dX10_steady_38 rfl rfl (by have e := Option.some.inj h; subst e; exact ⟨rfl, rfl⟩)
    · replace h := it_neg hc h
      refine ok_aload_n dX10_steady_21 0 rfl ?_
      obtain ⟨r5, e6, h⟩ := it_bind h
      refine okS_V (as := []) (st := []) (r := some (.ref 5)) (S' := r5) dX10_steady_22 cv_X10_108 rfl po_0 (Nat.le_of_ble_eq_true rfl) ⟨⟨by decide, by decide⟩, rfl, rfl⟩ (t_X10_found e6) ?_
      show Ok D_X10_steady (0, 0) (0, 0) 25 [(0, .ref 0), (1, .int a1), (2, .int a2)] [.ref 5] (St r5) _
      refine okS_getR dX10_steady_25 fl_X10_165 pr_5_0 ?_
      refine ok_iload_n dX10_steady_28 1 rfl ?_
      refine ok_iload_n dX10_steady_29 2 rfl ?_
      obtain ⟨r7, e8, h⟩ := it_bind h
      refine okS_V (as := [.int a1, .int a2]) (st := []) (r := some (.int r7)) (S' := r5) dX10_steady_30 cv_X10_200 rfl po_6 (Nat.le_of_ble_eq_true rfl) ⟨⟨by decide, by decide⟩, rfl, rfl⟩ (t_X8_costOfSteady e8) ?_
      show Ok D_X10_steady (0, 0) (0, 0) 33 [(0, .ref 0), (1, .int a1), (2, .int a2)] [.int r7] (St r5) _
      refine ok_goto (tgt := 38) dX10_steady_33 (by decide) ?_
      exact okS_ret dX10_steady_38 rfl rfl (by have e := Option.some.inj h; subst e; exact ⟨rfl, rfl⟩)
  · replace h := it_pos hc h
    refine ok_ldc (v := (-1000000001)) dX10_steady_7 wd_685 ?_
    exact okS_ret dX10_steady_9 rfl rfl (by have e := Option.some.inj h; subst e; exact ⟨rfl, rfl⟩)
def f_X10_flare (S : Mm) (a1 : Int32) (a2 : Int32) : Option (Int32 × Mm) :=
  ((f_X10_found S).bind fun r1 => ((f_X3_has r1 a1).bind fun r3 => (if r3 = 0 then some ((-1000000001), r1) else ((f_X3_isFact r1 a2).bind fun r5 => (if r5 = 0 then some ((-1000000002), r1) else ((f_X3_fact r1 a1 a2).bind fun r7 => some (r7, r1)))))))
set_option maxRecDepth 100000 in
set_option maxHeartbeats 4000000 in
theorem t_X10_flare {S : Mm} {a1 : Int32} {a2 : Int32} {out : Int32 × Mm} (h : f_X10_flare S a1 a2 = some out) : Rs D_X10_flare [.ref 0, .int a1, .int a2] S (some (.int out.1)) out.2 := by
  refine rs_of (by decide) rfl (Nat.le_of_ble_eq_true rfl) ?_
  unfold f_X10_flare at h
  show Ok D_X10_flare (0, 0) (0, 0) 0 [(0, .ref 0), (1, .int a1), (2, .int a2)] [] (St S) _
  refine ok_aload_n dX10_flare_0 0 rfl ?_
  obtain ⟨r1, e2, h⟩ := it_bind h
  refine okS_V (as := []) (st := []) (r := some (.ref 5)) (S' := r1) dX10_flare_1 cv_X10_108 rfl po_0 (Nat.le_of_ble_eq_true rfl) ⟨⟨by decide, by decide⟩, rfl, rfl⟩ (t_X10_found e2) ?_
  show Ok D_X10_flare (0, 0) (0, 0) 4 [(0, .ref 0), (1, .int a1), (2, .int a2)] [.ref 5] (St r1) _
  refine ok_astore_n (L' := [(3, .ref 5), (0, .ref 0), (1, .int a1), (2, .int a2)]) dX10_flare_4 (by decide) rfl ?_
  refine ok_aload_n dX10_flare_5 0 rfl ?_
  refine okS_getR dX10_flare_6 fl_X10_112 pr_5_2 ?_
  refine ok_iload_n dX10_flare_9 2 rfl ?_
  obtain ⟨r3, e4, h⟩ := it_bind h
  refine okS_V (as := [.int a1]) (st := []) (r := some (.int r3)) (S' := r1) dX10_flare_10 cv_X10_203 rfl po_50 (Nat.le_of_ble_eq_true rfl) ⟨⟨by decide, by decide⟩, rfl, rfl⟩ (t_X3_has e4) ?_
  show Ok D_X10_flare (0, 0) (0, 0) 13 [(3, .ref 5), (0, .ref 0), (1, .int a1), (2, .int a2)] [.int r3] (St r1) _
  refine ok_if_ne (tgt := 19) dX10_flare_13 (by decide) (fun hc => ?_) (fun hc => ?_)
  · replace h := it_neg hc h
    refine ok_iload_n dX10_flare_19 3 rfl ?_
    obtain ⟨r5, e6, h⟩ := it_bind h
    refine okS_S (as := [.int a2]) (st := []) (r := some (.int r5)) (S' := r1) dX10_flare_20 cv_X10_206 rfl (Nat.le_of_ble_eq_true rfl) ⟨⟨by decide, by decide⟩, rfl, rfl⟩ (t_X3_isFact e6) ?_
    show Ok D_X10_flare (0, 0) (0, 0) 23 [(3, .ref 5), (0, .ref 0), (1, .int a1), (2, .int a2)] [.int r5] (St r1) _
    refine ok_if_eq (tgt := 38) dX10_flare_23 (by decide) (fun hc => ?_) (fun hc => ?_)
    · replace h := it_pos hc h
      refine ok_ldc (v := (-1000000002)) dX10_flare_38 wd_331 ?_
      exact okS_ret dX10_flare_40 rfl rfl (by have e := Option.some.inj h; subst e; exact ⟨rfl, rfl⟩)
    · replace h := it_neg hc h
      refine ok_aload_n dX10_flare_26 0 rfl ?_
      refine okS_getR dX10_flare_27 fl_X10_112 pr_5_2 ?_
      refine ok_iload_n dX10_flare_30 2 rfl ?_
      refine ok_iload_n dX10_flare_31 3 rfl ?_
      obtain ⟨r7, e8, h⟩ := it_bind h
      refine okS_V (as := [.int a1, .int a2]) (st := []) (r := some (.int r7)) (S' := r1) dX10_flare_32 cv_X10_209 rfl po_50 (Nat.le_of_ble_eq_true rfl) ⟨⟨by decide, by decide⟩, rfl, rfl⟩ (t_X3_fact e8) ?_
      show Ok D_X10_flare (0, 0) (0, 0) 35 [(3, .ref 5), (0, .ref 0), (1, .int a1), (2, .int a2)] [.int r7] (St r1) _
      refine ok_goto (tgt := 40) dX10_flare_35 (by decide) ?_
      exact okS_ret dX10_flare_40 rfl rfl (by have e := Option.some.inj h; subst e; exact ⟨rfl, rfl⟩)
  · replace h := it_pos hc h
    refine ok_ldc (v := (-1000000001)) dX10_flare_16 wd_685 ?_
    exact okS_ret dX10_flare_18 rfl rfl (by have e := Option.some.inj h; subst e; exact ⟨rfl, rfl⟩)
def f_X10_story (S : Mm) (a1 : Int32) (a2 : Int32) : Option (Int32 × Mm) :=
  ((f_X10_found S).bind fun r1 => ((f_X7_has r1 a1).bind fun r3 => (if r3 = 0 then some ((-1000000001), r1) else ((f_X7_isFact r1 a2).bind fun r5 => (if r5 = 0 then some ((-1000000002), r1) else ((f_X7_fact r1 a1 a2).bind fun r7 => some (r7, r1)))))))
set_option maxRecDepth 100000 in
set_option maxHeartbeats 4000000 in
theorem t_X10_story {S : Mm} {a1 : Int32} {a2 : Int32} {out : Int32 × Mm} (h : f_X10_story S a1 a2 = some out) : Rs D_X10_story [.ref 0, .int a1, .int a2] S (some (.int out.1)) out.2 := by
  refine rs_of (by decide) rfl (Nat.le_of_ble_eq_true rfl) ?_
  unfold f_X10_story at h
  show Ok D_X10_story (0, 0) (0, 0) 0 [(0, .ref 0), (1, .int a1), (2, .int a2)] [] (St S) _
  refine ok_aload_n dX10_story_0 0 rfl ?_
  obtain ⟨r1, e2, h⟩ := it_bind h
  refine okS_V (as := []) (st := []) (r := some (.ref 5)) (S' := r1) dX10_story_1 cv_X10_108 rfl po_0 (Nat.le_of_ble_eq_true rfl) ⟨⟨by decide, by decide⟩, rfl, rfl⟩ (t_X10_found e2) ?_
  show Ok D_X10_story (0, 0) (0, 0) 4 [(0, .ref 0), (1, .int a1), (2, .int a2)] [.ref 5] (St r1) _
  refine ok_astore_n (L' := [(3, .ref 5), (0, .ref 0), (1, .int a1), (2, .int a2)]) dX10_story_4 (by decide) rfl ?_
  refine ok_aload_n dX10_story_5 0 rfl ?_
  refine okS_getR dX10_story_6 fl_X10_121 pr_5_3 ?_
  refine ok_iload_n dX10_story_9 2 rfl ?_
  obtain ⟨r3, e4, h⟩ := it_bind h
  refine okS_V (as := [.int a1]) (st := []) (r := some (.int r3)) (S' := r1) dX10_story_10 cv_X10_212 rfl po_61 (Nat.le_of_ble_eq_true rfl) ⟨⟨by decide, by decide⟩, rfl, rfl⟩ (t_X7_has e4) ?_
  show Ok D_X10_story (0, 0) (0, 0) 13 [(3, .ref 5), (0, .ref 0), (1, .int a1), (2, .int a2)] [.int r3] (St r1) _
  refine ok_if_ne (tgt := 19) dX10_story_13 (by decide) (fun hc => ?_) (fun hc => ?_)
  · replace h := it_neg hc h
    refine ok_iload_n dX10_story_19 3 rfl ?_
    obtain ⟨r5, e6, h⟩ := it_bind h
    refine okS_S (as := [.int a2]) (st := []) (r := some (.int r5)) (S' := r1) dX10_story_20 cv_X10_213 rfl (Nat.le_of_ble_eq_true rfl) ⟨⟨by decide, by decide⟩, rfl, rfl⟩ (t_X7_isFact e6) ?_
    show Ok D_X10_story (0, 0) (0, 0) 23 [(3, .ref 5), (0, .ref 0), (1, .int a1), (2, .int a2)] [.int r5] (St r1) _
    refine ok_if_eq (tgt := 38) dX10_story_23 (by decide) (fun hc => ?_) (fun hc => ?_)
    · replace h := it_pos hc h
      refine ok_ldc (v := (-1000000002)) dX10_story_38 wd_331 ?_
      exact okS_ret dX10_story_40 rfl rfl (by have e := Option.some.inj h; subst e; exact ⟨rfl, rfl⟩)
    · replace h := it_neg hc h
      refine ok_aload_n dX10_story_26 0 rfl ?_
      refine okS_getR dX10_story_27 fl_X10_121 pr_5_3 ?_
      refine ok_iload_n dX10_story_30 2 rfl ?_
      refine ok_iload_n dX10_story_31 3 rfl ?_
      obtain ⟨r7, e8, h⟩ := it_bind h
      refine okS_V (as := [.int a1, .int a2]) (st := []) (r := some (.int r7)) (S' := r1) dX10_story_32 cv_X10_214 rfl po_61 (Nat.le_of_ble_eq_true rfl) ⟨⟨by decide, by decide⟩, rfl, rfl⟩ (t_X7_fact e8) ?_
      show Ok D_X10_story (0, 0) (0, 0) 35 [(3, .ref 5), (0, .ref 0), (1, .int a1), (2, .int a2)] [.int r7] (St r1) _
      refine ok_goto (tgt := 40) dX10_story_35 (by decide) ?_
      exact okS_ret dX10_story_40 rfl rfl (by have e := Option.some.inj h; subst e; exact ⟨rfl, rfl⟩)
  · replace h := it_pos hc h
    refine ok_ldc (v := (-1000000001)) dX10_story_16 wd_685 ?_
    exact okS_ret dX10_story_18 rfl rfl (by have e := Option.some.inj h; subst e; exact ⟨rfl, rfl⟩)
def f_X10_together (S : Mm) (a1 : Int32) (a2 : Int32) : Option (Int32) :=
  ((f_X10_isWord S a1).bind fun r1 => (if r1 = 0 then some (-1000000001) else ((f_X10_isWord S a2).bind fun r3 => (if r3 = 0 then some (-1000000001) else ((f_X10_setOfWord S a1).bind fun r5 => ((f_X10_setOfWord S a2).bind fun r7 => ((f_X6_countWith S (r5 ||| r7)).bind fun r9 => some r9)))))))
set_option maxRecDepth 100000 in
set_option maxHeartbeats 4000000 in
theorem t_X10_together {S : Mm} {a1 : Int32} {a2 : Int32} {out : Int32} (h : f_X10_together S a1 a2 = some out) : Rs D_X10_together [.ref 0, .int a1, .int a2] S (some (.int out)) S := by
  refine rs_of (by decide) rfl (Nat.le_of_ble_eq_true rfl) ?_
  unfold f_X10_together at h
  show Ok D_X10_together (0, 0) (0, 0) 0 [(0, .ref 0), (1, .int a1), (2, .int a2)] [] (St S) _
  refine ok_iload_n dX10_together_0 1 rfl ?_
  obtain ⟨r1, e2, h⟩ := it_bind h
  refine okS_S (as := [.int a1]) (st := []) (r := some (.int r1)) (S' := S) dX10_together_1 cv_X10_180 rfl (Nat.le_of_ble_eq_true rfl) ⟨⟨by decide, by decide⟩, rfl, rfl⟩ (t_X10_isWord e2) ?_
  show Ok D_X10_together (0, 0) (0, 0) 4 [(0, .ref 0), (1, .int a1), (2, .int a2)] [.int r1] (St S) _
  refine ok_if_eq (tgt := 33) dX10_together_4 (by decide) (fun hc => ?_) (fun hc => ?_)
  · replace h := it_pos hc h
    refine ok_ldc (v := (-1000000001)) dX10_together_33 wd_685 ?_
    exact okS_ret dX10_together_35 rfl rfl (by have e := Option.some.inj h; subst e; exact ⟨rfl, rfl⟩)
  · replace h := it_neg hc h
    refine ok_iload_n dX10_together_7 2 rfl ?_
    obtain ⟨r3, e4, h⟩ := it_bind h
    refine okS_S (as := [.int a2]) (st := []) (r := some (.int r3)) (S' := S) dX10_together_8 cv_X10_180 rfl (Nat.le_of_ble_eq_true rfl) ⟨⟨by decide, by decide⟩, rfl, rfl⟩ (t_X10_isWord e4) ?_
    show Ok D_X10_together (0, 0) (0, 0) 11 [(0, .ref 0), (1, .int a1), (2, .int a2)] [.int r3] (St S) _
    refine ok_if_eq (tgt := 33) dX10_together_11 (by decide) (fun hc => ?_) (fun hc => ?_)
    · replace h := it_pos hc h
      refine ok_ldc (v := (-1000000001)) dX10_together_33 wd_685 ?_
      exact okS_ret dX10_together_35 rfl rfl (by have e := Option.some.inj h; subst e; exact ⟨rfl, rfl⟩)
    · replace h := it_neg hc h
      refine ok_aload_n dX10_together_14 0 rfl ?_
      refine okS_getR dX10_together_15 fl_X10_10 pr_0_0 ?_
      refine ok_iload_n dX10_together_18 1 rfl ?_
      obtain ⟨r5, e6, h⟩ := it_bind h
      refine okS_S (as := [.int a1]) (st := [.ref 1]) (r := some (.int r5)) (S' := S) dX10_together_19 cv_X10_215 rfl (Nat.le_of_ble_eq_true rfl) ⟨⟨by decide, by decide⟩, rfl, rfl⟩ (t_X10_setOfWord e6) ?_
      show Ok D_X10_together (0, 0) (0, 0) 22 [(0, .ref 0), (1, .int a1), (2, .int a2)] [.int r5, .ref 1] (St S) _
      refine ok_iload_n dX10_together_22 2 rfl ?_
      obtain ⟨r7, e8, h⟩ := it_bind h
      refine okS_S (as := [.int a2]) (st := [.int r5, .ref 1]) (r := some (.int r7)) (S' := S) dX10_together_23 cv_X10_215 rfl (Nat.le_of_ble_eq_true rfl) ⟨⟨by decide, by decide⟩, rfl, rfl⟩ (t_X10_setOfWord e8) ?_
      show Ok D_X10_together (0, 0) (0, 0) 26 [(0, .ref 0), (1, .int a1), (2, .int a2)] [.int r7, .int r5, .ref 1] (St S) _
      refine ok_ior dX10_together_26 ?_
      obtain ⟨r9, e10, h⟩ := it_bind h
      refine okS_V (as := [.int (r5 ||| r7)]) (st := []) (r := some (.int r9)) (S' := S) dX10_together_27 cv_X10_218 rfl po_1 (Nat.le_of_ble_eq_true rfl) ⟨⟨by decide, by decide⟩, rfl, rfl⟩ (t_X6_countWith e10) ?_
      show Ok D_X10_together (0, 0) (0, 0) 30 [(0, .ref 0), (1, .int a1), (2, .int a2)] [.int r9] (St S) _
      refine ok_goto (tgt := 35) dX10_together_30 (by decide) ?_
      exact okS_ret dX10_together_35 rfl rfl (by have e := Option.some.inj h; subst e; exact ⟨rfl, rfl⟩)
def f_X10_comes (S : Mm) (a1 : Int32) (a2 : Int32) : Option (Mm) :=
  ((f_X10_aheadOfDeed S).bind fun r1 => ((f_X6_add r1 a1 a2).bind fun r3 => some r3))
set_option maxRecDepth 100000 in
set_option maxHeartbeats 4000000 in
theorem t_X10_comes {S : Mm} {a1 : Int32} {a2 : Int32} {out : Mm} (h : f_X10_comes S a1 a2 = some out) : Rs D_X10_comes [.ref 0, .int a1, .int a2] S none out := by
  refine rs_of (by decide) rfl (Nat.le_of_ble_eq_true rfl) ?_
  unfold f_X10_comes at h
  show Ok D_X10_comes (0, 0) (0, 0) 0 [(0, .ref 0), (1, .int a1), (2, .int a2)] [] (St S) _
  refine ok_aload_n dX10_comes_0 0 rfl ?_
  obtain ⟨r1, e2, h⟩ := it_bind h
  refine okS_V (as := []) (st := []) (r := none) (S' := r1) dX10_comes_1 cv_X10_92 rfl po_0 (Nat.le_of_ble_eq_true rfl) ⟨⟨by decide, by decide⟩, rfl, rfl⟩ (t_X10_aheadOfDeed e2) ?_
  show Ok D_X10_comes (0, 0) (0, 0) 4 [(0, .ref 0), (1, .int a1), (2, .int a2)] [] (St r1) _
  refine ok_aload_n dX10_comes_4 0 rfl ?_
  refine okS_getR dX10_comes_5 fl_X10_10 pr_0_0 ?_
  refine ok_iload_n dX10_comes_8 1 rfl ?_
  refine ok_iload_n dX10_comes_9 2 rfl ?_
  obtain ⟨r3, e4, h⟩ := it_bind h
  refine okS_V (as := [.int a1, .int a2]) (st := []) (r := none) (S' := r3) dX10_comes_10 cv_X10_105 rfl po_1 (Nat.le_of_ble_eq_true rfl) ⟨⟨by decide, by decide⟩, rfl, rfl⟩ (t_X6_add e4) ?_
  show Ok D_X10_comes (0, 0) (0, 0) 13 [(0, .ref 0), (1, .int a1), (2, .int a2)] [] (St r3) _
  exact okS_retv dX10_comes_13 rfl (by have e := Option.some.inj h; subst e; exact ⟨rfl, rfl⟩)
def f_X10_piece (S : Mm) (a1 : Int32) (a2 : Int32) : Option (Int32 × Mm) :=
  ((f_X6_hasDay S a1).bind fun r1 => (if r1 = 0 then some ((-1000000001), S) else (if a2 < 0 then some ((-1000000002), S) else (if a2 < 256 then ((f_X6_hasRoom S).bind fun r3 => (if r3 = 0 then some ((-1000000004), S) else ((f_X10_comes S a1 a2).bind fun r5 => ((f_X6_count r5).bind fun r7 => some (r7 - 1, r5))))) else some ((-1000000002), S)))))
set_option maxRecDepth 100000 in
set_option maxHeartbeats 4000000 in
theorem t_X10_piece {S : Mm} {a1 : Int32} {a2 : Int32} {out : Int32 × Mm} (h : f_X10_piece S a1 a2 = some out) : Rs D_X10_piece [.ref 0, .int a1, .int a2] S (some (.int out.1)) out.2 := by
  refine rs_of (by decide) rfl (Nat.le_of_ble_eq_true rfl) ?_
  unfold f_X10_piece at h
  show Ok D_X10_piece (0, 0) (0, 0) 0 [(0, .ref 0), (1, .int a1), (2, .int a2)] [] (St S) _
  refine ok_aload_n dX10_piece_0 0 rfl ?_
  refine okS_getR dX10_piece_1 fl_X10_10 pr_0_0 ?_
  refine ok_iload_n dX10_piece_4 1 rfl ?_
  obtain ⟨r1, e2, h⟩ := it_bind h
  refine okS_V (as := [.int a1]) (st := []) (r := some (.int r1)) (S' := S) dX10_piece_5 cv_X10_162 rfl po_1 (Nat.le_of_ble_eq_true rfl) ⟨⟨by decide, by decide⟩, rfl, rfl⟩ (t_X6_hasDay e2) ?_
  show Ok D_X10_piece (0, 0) (0, 0) 8 [(0, .ref 0), (1, .int a1), (2, .int a2)] [.int r1] (St S) _
  refine ok_if_ne (tgt := 14) dX10_piece_8 (by decide) (fun hc => ?_) (fun hc => ?_)
  · replace h := it_neg hc h
    refine ok_iload_n dX10_piece_14 2 rfl ?_
    refine ok_if_lt (tgt := 25) dX10_piece_15 (by decide) (fun hc => ?_) (fun hc => ?_)
    · replace h := it_pos hc h
      refine ok_ldc (v := (-1000000002)) dX10_piece_25 wd_331 ?_
      exact okS_ret dX10_piece_27 rfl rfl (by have e := Option.some.inj h; subst e; exact ⟨rfl, rfl⟩)
    · replace h := it_neg hc h
      refine ok_iload_n dX10_piece_18 2 rfl ?_
      refine ok_sipush (v := 256) dX10_piece_19 si_256 ?_
      refine ok_icmp_lt (tgt := 28) dX10_piece_22 (by decide) (fun hc => ?_) (fun hc => ?_)
      · replace h := it_pos hc h
        refine ok_aload_n dX10_piece_28 0 rfl ?_
        refine okS_getR dX10_piece_29 fl_X10_10 pr_0_0 ?_
        obtain ⟨r3, e4, h⟩ := it_bind h
        refine okS_V (as := []) (st := []) (r := some (.int r3)) (S' := S) dX10_piece_32 cv_X10_221 rfl po_1 (Nat.le_of_ble_eq_true rfl) ⟨⟨by decide, by decide⟩, rfl, rfl⟩ (t_X6_hasRoom e4) ?_
        show Ok D_X10_piece (0, 0) (0, 0) 35 [(0, .ref 0), (1, .int a1), (2, .int a2)] [.int r3] (St S) _
        refine ok_if_ne (tgt := 41) dX10_piece_35 (by decide) (fun hc => ?_) (fun hc => ?_)
        · replace h := it_neg hc h
          refine ok_aload_n dX10_piece_41 0 rfl ?_
          refine ok_iload_n dX10_piece_42 1 rfl ?_
          refine ok_iload_n dX10_piece_43 2 rfl ?_
          obtain ⟨r5, e6, h⟩ := it_bind h
          refine okS_V (as := [.int a1, .int a2]) (st := []) (r := none) (S' := r5) dX10_piece_44 cv_X10_222 rfl po_0 (Nat.le_of_ble_eq_true rfl) ⟨⟨by decide, by decide⟩, rfl, rfl⟩ (t_X10_comes e6) ?_
          show Ok D_X10_piece (0, 0) (0, 0) 47 [(0, .ref 0), (1, .int a1), (2, .int a2)] [] (St r5) _
          refine ok_aload_n dX10_piece_47 0 rfl ?_
          refine okS_getR dX10_piece_48 fl_X10_10 pr_0_0 ?_
          obtain ⟨r7, e8, h⟩ := it_bind h
          refine okS_V (as := []) (st := []) (r := some (.int r7)) (S' := r5) dX10_piece_51 cv_X10_79 rfl po_1 (Nat.le_of_ble_eq_true rfl) ⟨⟨by decide, by decide⟩, rfl, rfl⟩ (t_X6_count e8) ?_
          show Ok D_X10_piece (0, 0) (0, 0) 54 [(0, .ref 0), (1, .int a1), (2, .int a2)] [.int r7] (St r5) _
          refine ok_iconst (v := 1) dX10_piece_54 ic_1 ?_
          refine ok_isub dX10_piece_55 ?_
          exact okS_ret dX10_piece_56 rfl rfl (by have e := Option.some.inj h; subst e; exact ⟨rfl, rfl⟩)
        · replace h := it_pos hc h
          refine ok_ldc (v := (-1000000004)) dX10_piece_38 wd_336 ?_
          exact okS_ret dX10_piece_40 rfl rfl (by have e := Option.some.inj h; subst e; exact ⟨rfl, rfl⟩)
      · replace h := it_neg hc h
        refine ok_ldc (v := (-1000000002)) dX10_piece_25 wd_331 ?_
        exact okS_ret dX10_piece_27 rfl rfl (by have e := Option.some.inj h; subst e; exact ⟨rfl, rfl⟩)
  · replace h := it_pos hc h
    refine ok_ldc (v := (-1000000001)) dX10_piece_11 wd_685 ?_
    exact okS_ret dX10_piece_13 rfl rfl (by have e := Option.some.inj h; subst e; exact ⟨rfl, rfl⟩)
def f_X10_take (S : Mm) (a1 : Int32) : Option (Int32 × Mm) :=
  ((f_X6_hasPiece S a1).bind fun r1 => (if r1 = 0 then some ((-1000000001), S) else ((f_X10_aheadOfDeed S).bind fun r3 => ((f_X6_remove r3 a1).bind fun r5 => ((f_X6_count r5).bind fun r7 => some (r7, r5))))))
set_option maxRecDepth 100000 in
set_option maxHeartbeats 4000000 in
theorem t_X10_take {S : Mm} {a1 : Int32} {out : Int32 × Mm} (h : f_X10_take S a1 = some out) : Rs D_X10_take [.ref 0, .int a1] S (some (.int out.1)) out.2 := by
  refine rs_of (by decide) rfl (Nat.le_of_ble_eq_true rfl) ?_
  unfold f_X10_take at h
  show Ok D_X10_take (0, 0) (0, 0) 0 [(0, .ref 0), (1, .int a1)] [] (St S) _
  refine ok_aload_n dX10_take_0 0 rfl ?_
  refine okS_getR dX10_take_1 fl_X10_10 pr_0_0 ?_
  refine ok_iload_n dX10_take_4 1 rfl ?_
  obtain ⟨r1, e2, h⟩ := it_bind h
  refine okS_V (as := [.int a1]) (st := []) (r := some (.int r1)) (S' := S) dX10_take_5 cv_X10_151 rfl po_1 (Nat.le_of_ble_eq_true rfl) ⟨⟨by decide, by decide⟩, rfl, rfl⟩ (t_X6_hasPiece e2) ?_
  show Ok D_X10_take (0, 0) (0, 0) 8 [(0, .ref 0), (1, .int a1)] [.int r1] (St S) _
  refine ok_if_ne (tgt := 14) dX10_take_8 (by decide) (fun hc => ?_) (fun hc => ?_)
  · replace h := it_neg hc h
    refine ok_aload_n dX10_take_14 0 rfl ?_
    obtain ⟨r3, e4, h⟩ := it_bind h
    refine okS_V (as := []) (st := []) (r := none) (S' := r3) dX10_take_15 cv_X10_92 rfl po_0 (Nat.le_of_ble_eq_true rfl) ⟨⟨by decide, by decide⟩, rfl, rfl⟩ (t_X10_aheadOfDeed e4) ?_
    show Ok D_X10_take (0, 0) (0, 0) 18 [(0, .ref 0), (1, .int a1)] [] (St r3) _
    refine ok_aload_n dX10_take_18 0 rfl ?_
    refine okS_getR dX10_take_19 fl_X10_10 pr_0_0 ?_
    refine ok_iload_n dX10_take_22 1 rfl ?_
    obtain ⟨r5, e6, h⟩ := it_bind h
    refine okS_V (as := [.int a1]) (st := []) (r := none) (S' := r5) dX10_take_23 cv_X10_225 rfl po_1 (Nat.le_of_ble_eq_true rfl) ⟨⟨by decide, by decide⟩, rfl, rfl⟩ (t_X6_remove e6) ?_
    show Ok D_X10_take (0, 0) (0, 0) 26 [(0, .ref 0), (1, .int a1)] [] (St r5) _
    refine ok_aload_n dX10_take_26 0 rfl ?_
    refine okS_getR dX10_take_27 fl_X10_10 pr_0_0 ?_
    obtain ⟨r7, e8, h⟩ := it_bind h
    refine okS_V (as := []) (st := []) (r := some (.int r7)) (S' := r5) dX10_take_30 cv_X10_79 rfl po_1 (Nat.le_of_ble_eq_true rfl) ⟨⟨by decide, by decide⟩, rfl, rfl⟩ (t_X6_count e8) ?_
    show Ok D_X10_take (0, 0) (0, 0) 33 [(0, .ref 0), (1, .int a1)] [.int r7] (St r5) _
    exact okS_ret dX10_take_33 rfl rfl (by have e := Option.some.inj h; subst e; exact ⟨rfl, rfl⟩)
  · replace h := it_pos hc h
    refine ok_ldc (v := (-1000000001)) dX10_take_11 wd_685 ?_
    exact okS_ret dX10_take_13 rfl rfl (by have e := Option.some.inj h; subst e; exact ⟨rfl, rfl⟩)
def f_X10_move (S : Mm) (a1 : Int32) (a2 : Int32) : Option (Int32 × Mm) :=
  ((f_X6_hasPiece S a1).bind fun r1 => (if r1 = 0 then some ((-1000000001), S) else ((f_X6_hasDay S a2).bind fun r3 => (if r3 = 0 then some ((-1000000001), S) else ((f_X6_dayOf S a1).bind fun r5 => ((f_X10_aheadOfDeed S).bind fun r7 => ((f_X6_putOn r7 a1 a2).bind fun r9 => some (r5, r9))))))))
set_option maxRecDepth 100000 in
set_option maxHeartbeats 4000000 in
theorem t_X10_move {S : Mm} {a1 : Int32} {a2 : Int32} {out : Int32 × Mm} (h : f_X10_move S a1 a2 = some out) : Rs D_X10_move [.ref 0, .int a1, .int a2] S (some (.int out.1)) out.2 := by
  refine rs_of (by decide) rfl (Nat.le_of_ble_eq_true rfl) ?_
  unfold f_X10_move at h
  show Ok D_X10_move (0, 0) (0, 0) 0 [(0, .ref 0), (1, .int a1), (2, .int a2)] [] (St S) _
  refine ok_aload_n dX10_move_0 0 rfl ?_
  refine okS_getR dX10_move_1 fl_X10_10 pr_0_0 ?_
  refine ok_iload_n dX10_move_4 1 rfl ?_
  obtain ⟨r1, e2, h⟩ := it_bind h
  refine okS_V (as := [.int a1]) (st := []) (r := some (.int r1)) (S' := S) dX10_move_5 cv_X10_151 rfl po_1 (Nat.le_of_ble_eq_true rfl) ⟨⟨by decide, by decide⟩, rfl, rfl⟩ (t_X6_hasPiece e2) ?_
  show Ok D_X10_move (0, 0) (0, 0) 8 [(0, .ref 0), (1, .int a1), (2, .int a2)] [.int r1] (St S) _
  refine ok_if_eq (tgt := 22) dX10_move_8 (by decide) (fun hc => ?_) (fun hc => ?_)
  · replace h := it_pos hc h
    refine ok_ldc (v := (-1000000001)) dX10_move_22 wd_685 ?_
    exact okS_ret dX10_move_24 rfl rfl (by have e := Option.some.inj h; subst e; exact ⟨rfl, rfl⟩)
  · replace h := it_neg hc h
    refine ok_aload_n dX10_move_11 0 rfl ?_
    refine okS_getR dX10_move_12 fl_X10_10 pr_0_0 ?_
    refine ok_iload_n dX10_move_15 2 rfl ?_
    obtain ⟨r3, e4, h⟩ := it_bind h
    refine okS_V (as := [.int a2]) (st := []) (r := some (.int r3)) (S' := S) dX10_move_16 cv_X10_162 rfl po_1 (Nat.le_of_ble_eq_true rfl) ⟨⟨by decide, by decide⟩, rfl, rfl⟩ (t_X6_hasDay e4) ?_
    show Ok D_X10_move (0, 0) (0, 0) 19 [(0, .ref 0), (1, .int a1), (2, .int a2)] [.int r3] (St S) _
    refine ok_if_ne (tgt := 25) dX10_move_19 (by decide) (fun hc => ?_) (fun hc => ?_)
    · replace h := it_neg hc h
      refine ok_aload_n dX10_move_25 0 rfl ?_
      refine okS_getR dX10_move_26 fl_X10_10 pr_0_0 ?_
      refine ok_iload_n dX10_move_29 1 rfl ?_
      obtain ⟨r5, e6, h⟩ := it_bind h
      refine okS_V (as := [.int a1]) (st := []) (r := some (.int r5)) (S' := S) dX10_move_30 cv_X10_156 rfl po_1 (Nat.le_of_ble_eq_true rfl) ⟨⟨by decide, by decide⟩, rfl, rfl⟩ (t_X6_dayOf e6) ?_
      show Ok D_X10_move (0, 0) (0, 0) 33 [(0, .ref 0), (1, .int a1), (2, .int a2)] [.int r5] (St S) _
      refine ok_istore_n (L' := [(3, .int r5), (0, .ref 0), (1, .int a1), (2, .int a2)]) dX10_move_33 (by decide) rfl ?_
      refine ok_aload_n dX10_move_34 1 rfl ?_
      obtain ⟨r7, e8, h⟩ := it_bind h
      refine okS_V (as := []) (st := []) (r := none) (S' := r7) dX10_move_35 cv_X10_92 rfl po_0 (Nat.le_of_ble_eq_true rfl) ⟨⟨by decide, by decide⟩, rfl, rfl⟩ (t_X10_aheadOfDeed e8) ?_
      show Ok D_X10_move (0, 0) (0, 0) 38 [(3, .int r5), (0, .ref 0), (1, .int a1), (2, .int a2)] [] (St r7) _
      refine ok_aload_n dX10_move_38 1 rfl ?_
      refine okS_getR dX10_move_39 fl_X10_10 pr_0_0 ?_
      refine ok_iload_n dX10_move_42 2 rfl ?_
      refine ok_iload_n dX10_move_43 3 rfl ?_
      obtain ⟨r9, e10, h⟩ := it_bind h
      refine okS_V (as := [.int a1, .int a2]) (st := []) (r := none) (S' := r9) dX10_move_44 cv_X10_228 rfl po_1 (Nat.le_of_ble_eq_true rfl) ⟨⟨by decide, by decide⟩, rfl, rfl⟩ (t_X6_putOn e10) ?_
      show Ok D_X10_move (0, 0) (0, 0) 47 [(3, .int r5), (0, .ref 0), (1, .int a1), (2, .int a2)] [] (St r9) _
      refine ok_iload_n dX10_move_47 0 rfl ?_
      exact okS_ret dX10_move_48 rfl rfl (by have e := Option.some.inj h; subst e; exact ⟨rfl, rfl⟩)
    · replace h := it_pos hc h
      refine ok_ldc (v := (-1000000001)) dX10_move_22 wd_685 ?_
      exact okS_ret dX10_move_24 rfl rfl (by have e := Option.some.inj h; subst e; exact ⟨rfl, rfl⟩)
def f_X10_days (S : Mm) (a1 : Int32) : Option (Int32 × Mm) :=
  (if a1 < 1 then some ((-1000000002), S) else (if a1 ≤ 12 then ((f_X6_hasPieceFrom S a1).bind fun r1 => (if r1 = 0 then ((f_X6_dayCount S).bind fun r3 => ((f_X10_aheadOfDeed S).bind fun r5 => ((f_X6_setDayCount r5 a1).bind fun r7 => some (r3, r7)))) else some ((-1000000003), S))) else some ((-1000000002), S)))
set_option maxRecDepth 100000 in
set_option maxHeartbeats 4000000 in
theorem t_X10_days {S : Mm} {a1 : Int32} {out : Int32 × Mm} (h : f_X10_days S a1 = some out) : Rs D_X10_days [.ref 0, .int a1] S (some (.int out.1)) out.2 := by
  refine rs_of (by decide) rfl (Nat.le_of_ble_eq_true rfl) ?_
  unfold f_X10_days at h
  show Ok D_X10_days (0, 0) (0, 0) 0 [(0, .ref 0), (1, .int a1)] [] (St S) _
  refine ok_iload_n dX10_days_0 1 rfl ?_
  refine ok_iconst (v := 1) dX10_days_1 ic_1 ?_
  refine ok_icmp_lt (tgt := 11) dX10_days_2 (by decide) (fun hc => ?_) (fun hc => ?_)
  · replace h := it_pos hc h
    refine ok_ldc (v := (-1000000002)) dX10_days_11 wd_331 ?_
    exact okS_ret dX10_days_13 rfl rfl (by have e := Option.some.inj h; subst e; exact ⟨rfl, rfl⟩)
  · replace h := it_neg hc h
    refine ok_iload_n dX10_days_5 1 rfl ?_
    refine ok_bipush (v := 12) dX10_days_6 bi_12 ?_
    refine ok_icmp_le (tgt := 14) dX10_days_8 (by decide) (fun hc => ?_) (fun hc => ?_)
    · replace h := it_pos hc h
      refine ok_aload_n dX10_days_14 0 rfl ?_
      refine okS_getR dX10_days_15 fl_X10_10 pr_0_0 ?_
      refine ok_iload_n dX10_days_18 1 rfl ?_
      obtain ⟨r1, e2, h⟩ := it_bind h
      refine okS_V (as := [.int a1]) (st := []) (r := some (.int r1)) (S' := S) dX10_days_19 cv_X10_231 rfl po_1 (Nat.le_of_ble_eq_true rfl) ⟨⟨by decide, by decide⟩, rfl, rfl⟩ (t_X6_hasPieceFrom e2) ?_
      show Ok D_X10_days (0, 0) (0, 0) 22 [(0, .ref 0), (1, .int a1)] [.int r1] (St S) _
      refine ok_if_eq (tgt := 28) dX10_days_22 (by decide) (fun hc => ?_) (fun hc => ?_)
      · replace h := it_pos hc h
        refine ok_aload_n dX10_days_28 0 rfl ?_
        refine okS_getR dX10_days_29 fl_X10_10 pr_0_0 ?_
        obtain ⟨r3, e4, h⟩ := it_bind h
        refine okS_V (as := []) (st := []) (r := some (.int r3)) (S' := S) dX10_days_32 cv_X10_76 rfl po_1 (Nat.le_of_ble_eq_true rfl) ⟨⟨by decide, by decide⟩, rfl, rfl⟩ (t_X6_dayCount e4) ?_
        show Ok D_X10_days (0, 0) (0, 0) 35 [(0, .ref 0), (1, .int a1)] [.int r3] (St S) _
        refine ok_istore_n (L' := [(2, .int r3), (0, .ref 0), (1, .int a1)]) dX10_days_35 (by decide) rfl ?_
        refine ok_aload_n dX10_days_36 1 rfl ?_
        obtain ⟨r5, e6, h⟩ := it_bind h
        refine okS_V (as := []) (st := []) (r := none) (S' := r5) dX10_days_37 cv_X10_92 rfl po_0 (Nat.le_of_ble_eq_true rfl) ⟨⟨by decide, by decide⟩, rfl, rfl⟩ (t_X10_aheadOfDeed e6) ?_
        show Ok D_X10_days (0, 0) (0, 0) 40 [(2, .int r3), (0, .ref 0), (1, .int a1)] [] (St r5) _
        refine ok_aload_n dX10_days_40 1 rfl ?_
        refine okS_getR dX10_days_41 fl_X10_10 pr_0_0 ?_
        refine ok_iload_n dX10_days_44 2 rfl ?_
        obtain ⟨r7, e8, h⟩ := it_bind h
        refine okS_V (as := [.int a1]) (st := []) (r := none) (S' := r7) dX10_days_45 cv_X10_235 rfl po_1 (Nat.le_of_ble_eq_true rfl) ⟨⟨by decide, by decide⟩, rfl, rfl⟩ (t_X6_setDayCount e8) ?_
        show Ok D_X10_days (0, 0) (0, 0) 48 [(2, .int r3), (0, .ref 0), (1, .int a1)] [] (St r7) _
        refine ok_iload_n dX10_days_48 0 rfl ?_
        exact okS_ret dX10_days_49 rfl rfl (by have e := Option.some.inj h; subst e; exact ⟨rfl, rfl⟩)
      · replace h := it_neg hc h
        refine ok_ldc (v := (-1000000003)) dX10_days_25 wd_801 ?_
        exact okS_ret dX10_days_27 rfl rfl (by have e := Option.some.inj h; subst e; exact ⟨rfl, rfl⟩)
    · replace h := it_neg hc h
      refine ok_ldc (v := (-1000000002)) dX10_days_11 wd_331 ?_
      exact okS_ret dX10_days_13 rfl rfl (by have e := Option.some.inj h; subst e; exact ⟨rfl, rfl⟩)
def f_X10_term (S : Mm) (a1 : Int32) (a2 : Int32) : Option (Int32 × Mm) :=
  ((f_X6_isTerm S a1).bind fun r1 => (if r1 = 0 then some ((-1000000002), S) else ((f_X6_isInBounds S a1 a2).bind fun r3 => (if r3 = 0 then some ((-1000000002), S) else ((f_X6_termOf S a1).bind fun r5 => ((f_X10_aheadOfDeed S).bind fun r7 => ((f_X6_setTerm r7 a1 a2).bind fun r9 => some (r5, r9))))))))
set_option maxRecDepth 100000 in
set_option maxHeartbeats 4000000 in
theorem t_X10_term {S : Mm} {a1 : Int32} {a2 : Int32} {out : Int32 × Mm} (h : f_X10_term S a1 a2 = some out) : Rs D_X10_term [.ref 0, .int a1, .int a2] S (some (.int out.1)) out.2 := by
  refine rs_of (by decide) rfl (Nat.le_of_ble_eq_true rfl) ?_
  unfold f_X10_term at h
  show Ok D_X10_term (0, 0) (0, 0) 0 [(0, .ref 0), (1, .int a1), (2, .int a2)] [] (St S) _
  refine ok_iload_n dX10_term_0 1 rfl ?_
  obtain ⟨r1, e2, h⟩ := it_bind h
  refine okS_S (as := [.int a1]) (st := []) (r := some (.int r1)) (S' := S) dX10_term_1 cv_X10_238 rfl (Nat.le_of_ble_eq_true rfl) ⟨⟨by decide, by decide⟩, rfl, rfl⟩ (t_X6_isTerm e2) ?_
  show Ok D_X10_term (0, 0) (0, 0) 4 [(0, .ref 0), (1, .int a1), (2, .int a2)] [.int r1] (St S) _
  refine ok_if_eq (tgt := 15) dX10_term_4 (by decide) (fun hc => ?_) (fun hc => ?_)
  · replace h := it_pos hc h
    refine ok_ldc (v := (-1000000002)) dX10_term_15 wd_331 ?_
    exact okS_ret dX10_term_17 rfl rfl (by have e := Option.some.inj h; subst e; exact ⟨rfl, rfl⟩)
  · replace h := it_neg hc h
    refine ok_iload_n dX10_term_7 1 rfl ?_
    refine ok_iload_n dX10_term_8 2 rfl ?_
    obtain ⟨r3, e4, h⟩ := it_bind h
    refine okS_S (as := [.int a1, .int a2]) (st := []) (r := some (.int r3)) (S' := S) dX10_term_9 cv_X10_241 rfl (Nat.le_of_ble_eq_true rfl) ⟨⟨by decide, by decide⟩, rfl, rfl⟩ (t_X6_isInBounds e4) ?_
    show Ok D_X10_term (0, 0) (0, 0) 12 [(0, .ref 0), (1, .int a1), (2, .int a2)] [.int r3] (St S) _
    refine ok_if_ne (tgt := 18) dX10_term_12 (by decide) (fun hc => ?_) (fun hc => ?_)
    · replace h := it_neg hc h
      refine ok_aload_n dX10_term_18 0 rfl ?_
      refine okS_getR dX10_term_19 fl_X10_10 pr_0_0 ?_
      refine ok_iload_n dX10_term_22 1 rfl ?_
      obtain ⟨r5, e6, h⟩ := it_bind h
      refine okS_V (as := [.int a1]) (st := []) (r := some (.int r5)) (S' := S) dX10_term_23 cv_X10_245 rfl po_1 (Nat.le_of_ble_eq_true rfl) ⟨⟨by decide, by decide⟩, rfl, rfl⟩ (t_X6_termOf e6) ?_
      show Ok D_X10_term (0, 0) (0, 0) 26 [(0, .ref 0), (1, .int a1), (2, .int a2)] [.int r5] (St S) _
      refine ok_istore_n (L' := [(3, .int r5), (0, .ref 0), (1, .int a1), (2, .int a2)]) dX10_term_26 (by decide) rfl ?_
      refine ok_aload_n dX10_term_27 1 rfl ?_
      obtain ⟨r7, e8, h⟩ := it_bind h
      refine okS_V (as := []) (st := []) (r := none) (S' := r7) dX10_term_28 cv_X10_92 rfl po_0 (Nat.le_of_ble_eq_true rfl) ⟨⟨by decide, by decide⟩, rfl, rfl⟩ (t_X10_aheadOfDeed e8) ?_
      show Ok D_X10_term (0, 0) (0, 0) 31 [(3, .int r5), (0, .ref 0), (1, .int a1), (2, .int a2)] [] (St r7) _
      refine ok_aload_n dX10_term_31 1 rfl ?_
      refine okS_getR dX10_term_32 fl_X10_10 pr_0_0 ?_
      refine ok_iload_n dX10_term_35 2 rfl ?_
      refine ok_iload_n dX10_term_36 3 rfl ?_
      obtain ⟨r9, e10, h⟩ := it_bind h
      refine okS_V (as := [.int a1, .int a2]) (st := []) (r := none) (S' := r9) dX10_term_37 cv_X10_248 rfl po_1 (Nat.le_of_ble_eq_true rfl) ⟨⟨by decide, by decide⟩, rfl, rfl⟩ (t_X6_setTerm e10) ?_
      show Ok D_X10_term (0, 0) (0, 0) 40 [(3, .int r5), (0, .ref 0), (1, .int a1), (2, .int a2)] [] (St r9) _
      refine ok_iload_n dX10_term_40 0 rfl ?_
      exact okS_ret dX10_term_41 rfl rfl (by have e := Option.some.inj h; subst e; exact ⟨rfl, rfl⟩)
    · replace h := it_pos hc h
      refine ok_ldc (v := (-1000000002)) dX10_term_15 wd_331 ?_
      exact okS_ret dX10_term_17 rfl rfl (by have e := Option.some.inj h; subst e; exact ⟨rfl, rfl⟩)
def f_X10_draw (S : Mm) (a1 : Int32) : Option (Int32 × Mm) :=
  (if 1 ≤ a1 then (if ¬ a1 = 0 then some ((((wr S 0 6 ((((((S.1 0 6).toInt64) * 1103515245) + 12345) - ((((S.1 0 6).toInt64) * 1103515245) + 12345) / 2147483648 * 2147483648).toInt32)).1 0 6) / 65536) - (((wr S 0 6 ((((((S.1 0 6).toInt64) * 1103515245) + 12345) - ((((S.1 0 6).toInt64) * 1103515245) + 12345) / 2147483648 * 2147483648).toInt32)).1 0 6) / 65536) / a1 * a1, wr S 0 6 ((((((S.1 0 6).toInt64) * 1103515245) + 12345) - ((((S.1 0 6).toInt64) * 1103515245) + 12345) / 2147483648 * 2147483648).toInt32)) else none) else some (0, wr S 0 6 ((((((S.1 0 6).toInt64) * 1103515245) + 12345) - ((((S.1 0 6).toInt64) * 1103515245) + 12345) / 2147483648 * 2147483648).toInt32)))
set_option maxRecDepth 100000 in
set_option maxHeartbeats 4000000 in
theorem t_X10_draw {S : Mm} {a1 : Int32} {out : Int32 × Mm} (h : f_X10_draw S a1 = some out) : Rs D_X10_draw [.ref 0, .int a1] S (some (.int out.1)) out.2 := by
  refine rs_of (by decide) rfl (Nat.le_of_ble_eq_true rfl) ?_
  unfold f_X10_draw at h
  show Ok D_X10_draw (0, 0) (0, 0) 0 [(0, .ref 0), (1, .int a1)] [] (St S) _
  refine ok_aload_n dX10_draw_0 0 rfl ?_
  refine ok_aload_n dX10_draw_1 0 rfl ?_
  refine okS_getI dX10_draw_2 fl_X10_50 pi_0_6 ?_
  refine ok_i2l dX10_draw_5 ?_
  refine ok_ldc2 (v := 1103515245) dX10_draw_6 wd_840 ?_
  refine ok_lmul dX10_draw_9 ?_
  refine ok_ldc2 (v := 12345) dX10_draw_10 wd_841 ?_
  refine ok_ladd dX10_draw_13 ?_
  refine ok_ldc2 (v := 2147483648) dX10_draw_14 wd_842 ?_
  refine ok_lrem dX10_draw_17 (by decide) ?_
  refine ok_l2i dX10_draw_18 ?_
  refine okS_putI dX10_draw_19 fl_X10_50 pi_0_6 ⟨rfl, rfl⟩ ?_
  refine ok_iload_n dX10_draw_22 1 rfl ?_
  refine ok_iconst (v := 1) dX10_draw_23 ic_1 ?_
  refine ok_icmp_ge (tgt := 31) dX10_draw_24 (by decide) (fun hc => ?_) (fun hc => ?_)
  · replace h := it_pos hc h
    refine ok_aload_n dX10_draw_31 0 rfl ?_
    refine okS_getI dX10_draw_32 fl_X10_50 pi_0_6 ?_
    refine ok_ldcw (v := 65536) dX10_draw_35 wd_843 ?_
    refine ok_idiv dX10_draw_38 (by decide) ?_
    refine ok_iload_n dX10_draw_39 1 rfl ?_
    obtain ⟨hi, h⟩ := it_some h
    refine ok_irem dX10_draw_40 hi ?_
    exact okS_ret dX10_draw_41 rfl rfl (by have e := Option.some.inj h; subst e; exact ⟨rfl, rfl⟩)
  · replace h := it_neg hc h
    refine ok_iconst (v := 0) dX10_draw_27 ic_0 ?_
    refine ok_goto (tgt := 41) dX10_draw_28 (by decide) ?_
    exact okS_ret dX10_draw_41 rfl rfl (by have e := Option.some.inj h; subst e; exact ⟨rfl, rfl⟩)
def lp_X10_drift_16 (k : Int32 → Mm → Option (Int32 × Mm)) (c1 : Int32) : Nat → Int32 → Mm → Option (Int32 × Mm)
  | 0, _, _ => none
  | fuel + 1, x2, S => (if c1 ≤ x2 then k x2 S else ((f_X6_hasRoom S).bind fun r1 => (if r1 = 0 then k x2 S else ((f_X6_dayCount S).bind fun r3 => ((f_X10_draw S r3).bind fun r5 => ((f_X10_draw r5.2 256).bind fun r7 => ((f_X10_comes r7.2 r5.1 r7.1).bind fun r9 => lp_X10_drift_16 k c1 fuel (x2 + 1) r9)))))))
def f_X10_drift (S : Mm) (a1 : Int32) : Option (Int32 × Mm) :=
  (if a1 < 1 then some ((-1000000002), S) else (if a1 ≤ 12 then lp_X10_drift_16 (fun y2_11 S12 => ((f_X6_count S12).bind fun r14 => some (r14, S12))) a1 100000 0 S else some ((-1000000002), S)))
set_option maxRecDepth 100000 in
set_option maxHeartbeats 4000000 in
theorem tlp_X10_drift_16 {k : Int32 → Mm → Option (Int32 × Mm)} {c1 : Int32} (hk : ∀ (x2 : Int32) (S : Mm) (out : Int32 × Mm), k x2 S = some out → Ok D_X10_drift (0, 0) (0, 0) 65 [(0, .ref 0), (1, .int c1), (2, .int x2)] [] (St S) (An (some (.int out.1)) out.2)) : ∀ (fuel : Nat) (x2 : Int32) (S : Mm) (out : Int32 × Mm), lp_X10_drift_16 k c1 fuel x2 S = some out → Ok D_X10_drift (0, 0) (0, 0) 16 [(0, .ref 0), (1, .int c1), (2, .int x2)] [] (St S) (An (some (.int out.1)) out.2) := by
  intro fuel
  induction fuel with
  | zero => intro x2 S out h; cases h
  | succ fuel ih =>
    intro x2 S out h
    rw [lp_X10_drift_16] at h
    refine ok_iload_n dX10_drift_16 2 rfl ?_
    refine ok_iload_n dX10_drift_17 1 rfl ?_
    refine ok_icmp_ge (tgt := 65) dX10_drift_18 (by decide) (fun hc => ?_) (fun hc => ?_)
    · replace h := it_pos hc h
      refine ok_perm [0, 1, 2] rfl ?_
      exact hk _ _ _ h
    · replace h := it_neg hc h
      refine ok_aload_n dX10_drift_21 0 rfl ?_
      refine okS_getR dX10_drift_22 fl_X10_10 pr_0_0 ?_
      obtain ⟨r1, e2, h⟩ := it_bind h
      refine okS_V (as := []) (st := []) (r := some (.int r1)) (S' := S) dX10_drift_25 cv_X10_221 rfl po_1 (Nat.le_of_ble_eq_true rfl) ⟨⟨by decide, by decide⟩, rfl, rfl⟩ (t_X6_hasRoom e2) ?_
      show Ok D_X10_drift (0, 0) (0, 0) 28 [(0, .ref 0), (1, .int c1), (2, .int x2)] [.int r1] (St S) _
      refine ok_if_eq (tgt := 65) dX10_drift_28 (by decide) (fun hc => ?_) (fun hc => ?_)
      · replace h := it_pos hc h
        refine ok_perm [0, 1, 2] rfl ?_
        exact hk _ _ _ h
      · replace h := it_neg hc h
        refine ok_aload_n dX10_drift_31 0 rfl ?_
        refine ok_aload_n dX10_drift_32 0 rfl ?_
        refine okS_getR dX10_drift_33 fl_X10_10 pr_0_0 ?_
        obtain ⟨r3, e4, h⟩ := it_bind h
        refine okS_V (as := []) (st := [.ref 0]) (r := some (.int r3)) (S' := S) dX10_drift_36 cv_X10_76 rfl po_1 (Nat.le_of_ble_eq_true rfl) ⟨⟨by decide, by decide⟩, rfl, rfl⟩ (t_X6_dayCount e4) ?_
        show Ok D_X10_drift (0, 0) (0, 0) 39 [(0, .ref 0), (1, .int c1), (2, .int x2)] [.int r3, .ref 0] (St S) _
        obtain ⟨r5, e6, h⟩ := it_bind h
        refine okS_V (as := [.int r3]) (st := []) (r := some (.int r5.1)) (S' := r5.2) dX10_drift_39 cv_X10_251 rfl po_0 (Nat.le_of_ble_eq_true rfl) ⟨⟨by decide, by decide⟩, rfl, rfl⟩ (t_X10_draw e6) ?_
        show Ok D_X10_drift (0, 0) (0, 0) 42 [(0, .ref 0), (1, .int c1), (2, .int x2)] [.int r5.1] (St r5.2) _
        refine ok_istore_n (L' := [(3, .int r5.1), (0, .ref 0), (1, .int c1), (2, .int x2)]) dX10_drift_42 (by decide) rfl ?_
        refine ok_aload_n dX10_drift_43 1 rfl ?_
        refine ok_sipush (v := 256) dX10_drift_44 si_256 ?_
        obtain ⟨r7, e8, h⟩ := it_bind h
        refine okS_V (as := [.int 256]) (st := []) (r := some (.int r7.1)) (S' := r7.2) dX10_drift_47 cv_X10_251 rfl po_0 (Nat.le_of_ble_eq_true rfl) ⟨⟨by decide, by decide⟩, rfl, rfl⟩ (t_X10_draw e8) ?_
        show Ok D_X10_drift (0, 0) (0, 0) 50 [(3, .int r5.1), (0, .ref 0), (1, .int c1), (2, .int x2)] [.int r7.1] (St r7.2) _
        refine ok_istore (L' := [(4, .int r7.1), (3, .int r5.1), (0, .ref 0), (1, .int c1), (2, .int x2)]) dX10_drift_50 (by decide) rfl ?_
        refine ok_aload_n dX10_drift_52 2 rfl ?_
        refine ok_iload_n dX10_drift_53 1 rfl ?_
        refine ok_iload dX10_drift_54 0 rfl ?_
        obtain ⟨r9, e10, h⟩ := it_bind h
        refine okS_V (as := [.int r5.1, .int r7.1]) (st := []) (r := none) (S' := r9) dX10_drift_56 cv_X10_222 rfl po_0 (Nat.le_of_ble_eq_true rfl) ⟨⟨by decide, by decide⟩, rfl, rfl⟩ (t_X10_comes e10) ?_
        show Ok D_X10_drift (0, 0) (0, 0) 59 [(4, .int r7.1), (3, .int r5.1), (0, .ref 0), (1, .int c1), (2, .int x2)] [] (St r9) _
        refine ok_iinc (v := x2 + 1) (L' := [(2, .int (x2 + 1)), (4, .int r7.1), (3, .int r5.1), (0, .ref 0), (1, .int c1)]) dX10_drift_59 4 rfl (ii_1 _) (by decide) rfl ?_
        refine ok_goto (tgt := 16) dX10_drift_62 (by decide) ?_
        refine ok_perm [3, 4, 0] rfl ?_
        exact ih _ _ _ h
set_option maxRecDepth 100000 in
set_option maxHeartbeats 4000000 in
theorem t_X10_drift {S : Mm} {a1 : Int32} {out : Int32 × Mm} (h : f_X10_drift S a1 = some out) : Rs D_X10_drift [.ref 0, .int a1] S (some (.int out.1)) out.2 := by
  refine rs_of (by decide) rfl (Nat.le_of_ble_eq_true rfl) ?_
  unfold f_X10_drift at h
  show Ok D_X10_drift (0, 0) (0, 0) 0 [(0, .ref 0), (1, .int a1)] [] (St S) _
  refine ok_iload_n dX10_drift_0 1 rfl ?_
  refine ok_iconst (v := 1) dX10_drift_1 ic_1 ?_
  refine ok_icmp_lt (tgt := 11) dX10_drift_2 (by decide) (fun hc => ?_) (fun hc => ?_)
  · replace h := it_pos hc h
    refine ok_ldc (v := (-1000000002)) dX10_drift_11 wd_331 ?_
    exact okS_ret dX10_drift_13 rfl rfl (by have e := Option.some.inj h; subst e; exact ⟨rfl, rfl⟩)
  · replace h := it_neg hc h
    refine ok_iload_n dX10_drift_5 1 rfl ?_
    refine ok_bipush (v := 12) dX10_drift_6 bi_12 ?_
    refine ok_icmp_le (tgt := 14) dX10_drift_8 (by decide) (fun hc => ?_) (fun hc => ?_)
    · replace h := it_pos hc h
      refine ok_iconst (v := 0) dX10_drift_14 ic_0 ?_
      refine ok_istore_n (L' := [(2, .int 0), (0, .ref 0), (1, .int a1)]) dX10_drift_15 (by decide) rfl ?_
      refine ok_perm [1, 2, 0] rfl ?_
      refine tlp_X10_drift_16 (fun y2_11 S12 out13 h => ?_) _ _ _ _ h
      refine ok_aload_n dX10_drift_65 0 rfl ?_
      refine okS_getR dX10_drift_66 fl_X10_10 pr_0_0 ?_
      obtain ⟨r14, e15, h⟩ := it_bind h
      refine okS_V (as := []) (st := []) (r := some (.int r14)) (S' := S12) dX10_drift_69 cv_X10_79 rfl po_1 (Nat.le_of_ble_eq_true rfl) ⟨⟨by decide, by decide⟩, rfl, rfl⟩ (t_X6_count e15) ?_
      show Ok D_X10_drift (0, 0) (0, 0) 72 [(0, .ref 0), (1, .int a1), (2, .int y2_11)] [.int r14] (St S12) _
      exact okS_ret dX10_drift_72 rfl rfl (by have e := Option.some.inj h; subst e; exact ⟨rfl, rfl⟩)
    · replace h := it_neg hc h
      refine ok_ldc (v := (-1000000002)) dX10_drift_11 wd_331 ?_
      exact okS_ret dX10_drift_13 rfl rfl (by have e := Option.some.inj h; subst e; exact ⟨rfl, rfl⟩)
def f_X10_undo (S : Mm) (a1 : Int32) : Option (Int32 × Mm) :=
  (if a1 < 1 then some ((-1000000002), S) else (if a1 ≤ 16 then ((f_X1_number S).bind fun r1 => (if a1 ≤ r1 then ((f_X1_takeBack S a1).bind fun r3 => ((f_X6_count (wr r3 0 8 1)).bind fun r5 => some (r5, wr r3 0 8 1))) else some ((-1000000003), S))) else some ((-1000000002), S)))
set_option maxRecDepth 100000 in
set_option maxHeartbeats 4000000 in
theorem t_X10_undo {S : Mm} {a1 : Int32} {out : Int32 × Mm} (h : f_X10_undo S a1 = some out) : Rs D_X10_undo [.ref 0, .int a1] S (some (.int out.1)) out.2 := by
  refine rs_of (by decide) rfl (Nat.le_of_ble_eq_true rfl) ?_
  unfold f_X10_undo at h
  show Ok D_X10_undo (0, 0) (0, 0) 0 [(0, .ref 0), (1, .int a1)] [] (St S) _
  refine ok_iload_n dX10_undo_0 1 rfl ?_
  refine ok_iconst (v := 1) dX10_undo_1 ic_1 ?_
  refine ok_icmp_lt (tgt := 11) dX10_undo_2 (by decide) (fun hc => ?_) (fun hc => ?_)
  · replace h := it_pos hc h
    refine ok_ldc (v := (-1000000002)) dX10_undo_11 wd_331 ?_
    exact okS_ret dX10_undo_13 rfl rfl (by have e := Option.some.inj h; subst e; exact ⟨rfl, rfl⟩)
  · replace h := it_neg hc h
    refine ok_iload_n dX10_undo_5 1 rfl ?_
    refine ok_bipush (v := 16) dX10_undo_6 bi_16 ?_
    refine ok_icmp_le (tgt := 14) dX10_undo_8 (by decide) (fun hc => ?_) (fun hc => ?_)
    · replace h := it_pos hc h
      refine ok_iload_n dX10_undo_14 1 rfl ?_
      refine ok_aload_n dX10_undo_15 0 rfl ?_
      refine okS_getR dX10_undo_16 fl_X10_33 pr_0_3 ?_
      obtain ⟨r1, e2, h⟩ := it_bind h
      refine okS_V (as := []) (st := [.int a1]) (r := some (.int r1)) (S' := S) dX10_undo_19 cv_X10_150 rfl po_72 (Nat.le_of_ble_eq_true rfl) ⟨⟨by decide, by decide⟩, rfl, rfl⟩ (t_X1_number e2) ?_
      show Ok D_X10_undo (0, 0) (0, 0) 22 [(0, .ref 0), (1, .int a1)] [.int r1, .int a1] (St S) _
      refine ok_icmp_le (tgt := 28) dX10_undo_22 (by decide) (fun hc => ?_) (fun hc => ?_)
      · replace h := it_pos hc h
        refine ok_aload_n dX10_undo_28 0 rfl ?_
        refine okS_getR dX10_undo_29 fl_X10_33 pr_0_3 ?_
        refine ok_iload_n dX10_undo_32 1 rfl ?_
        refine ok_aload_n dX10_undo_33 0 rfl ?_
        refine okS_getR dX10_undo_34 fl_X10_10 pr_0_0 ?_
        obtain ⟨r3, e4, h⟩ := it_bind h
        refine okS_V (as := [.int a1, .ref 1]) (st := []) (r := none) (S' := r3) dX10_undo_37 cv_X10_254 rfl po_72 (Nat.le_of_ble_eq_true rfl) ⟨⟨by decide, by decide⟩, rfl, rfl⟩ (t_X1_takeBack e4) ?_
        show Ok D_X10_undo (0, 0) (0, 0) 40 [(0, .ref 0), (1, .int a1)] [] (St r3) _
        refine ok_aload_n dX10_undo_40 0 rfl ?_
        refine ok_iconst (v := 1) dX10_undo_41 ic_1 ?_
        refine okS_putI dX10_undo_42 fl_X10_57 pi_0_8 (by decide) ?_
        refine ok_aload_n dX10_undo_45 0 rfl ?_
        refine okS_getR dX10_undo_46 fl_X10_10 pr_0_0 ?_
        obtain ⟨r5, e6, h⟩ := it_bind h
        refine okS_V (as := []) (st := []) (r := some (.int r5)) (S' := (wr r3 0 8 1)) dX10_undo_49 cv_X10_79 rfl po_1 (Nat.le_of_ble_eq_true rfl) ⟨⟨by decide, by decide⟩, rfl, rfl⟩ (t_X6_count e6) ?_
        show Ok D_X10_undo (0, 0) (0, 0) 52 [(0, .ref 0), (1, .int a1)] [.int r5] (St (wr r3 0 8 1)) _
        exact okS_ret dX10_undo_52 rfl rfl (by have e := Option.some.inj h; subst e; exact ⟨rfl, rfl⟩)
      · replace h := it_neg hc h
        refine ok_ldc (v := (-1000000003)) dX10_undo_25 wd_801 ?_
        exact okS_ret dX10_undo_27 rfl rfl (by have e := Option.some.inj h; subst e; exact ⟨rfl, rfl⟩)
    · replace h := it_neg hc h
      refine ok_ldc (v := (-1000000002)) dX10_undo_11 wd_331 ?_
      exact okS_ret dX10_undo_13 rfl rfl (by have e := Option.some.inj h; subst e; exact ⟨rfl, rfl⟩)
def f_X10_write (S : Mm) (a1 : Int32) (a2 : Int32) (a3 : Int32) : Option (Int32 × Mm) :=
  ((f_X10_isWord S a1).bind fun r1 => (if r1 = 0 then some ((-1000000001), S) else ((f_X6_hasDay S a2).bind fun r3 => (if r3 = 0 then some ((-1000000001), S) else ((f_X0_hasRoom S).bind fun r5 => (if r5 = 0 then some ((-1000000004), S) else ((f_X0_add S a1 a2 a3).bind fun r7 => ((f_X0_entries r7).bind fun r9 => some (r9, r7)))))))))
set_option maxRecDepth 100000 in
set_option maxHeartbeats 4000000 in
theorem t_X10_write {S : Mm} {a1 : Int32} {a2 : Int32} {a3 : Int32} {out : Int32 × Mm} (h : f_X10_write S a1 a2 a3 = some out) : Rs D_X10_write [.ref 0, .int a1, .int a2, .int a3] S (some (.int out.1)) out.2 := by
  refine rs_of (by decide) rfl (Nat.le_of_ble_eq_true rfl) ?_
  unfold f_X10_write at h
  show Ok D_X10_write (0, 0) (0, 0) 0 [(0, .ref 0), (1, .int a1), (2, .int a2), (3, .int a3)] [] (St S) _
  refine ok_iload_n dX10_write_0 1 rfl ?_
  obtain ⟨r1, e2, h⟩ := it_bind h
  refine okS_S (as := [.int a1]) (st := []) (r := some (.int r1)) (S' := S) dX10_write_1 cv_X10_180 rfl (Nat.le_of_ble_eq_true rfl) ⟨⟨by decide, by decide⟩, rfl, rfl⟩ (t_X10_isWord e2) ?_
  show Ok D_X10_write (0, 0) (0, 0) 4 [(0, .ref 0), (1, .int a1), (2, .int a2), (3, .int a3)] [.int r1] (St S) _
  refine ok_if_eq (tgt := 18) dX10_write_4 (by decide) (fun hc => ?_) (fun hc => ?_)
  · replace h := it_pos hc h
    refine ok_ldc (v := (-1000000001)) dX10_write_18 wd_685 ?_
    exact okS_ret dX10_write_20 rfl rfl (by have e := Option.some.inj h; subst e; exact ⟨rfl, rfl⟩)
  · replace h := it_neg hc h
    refine ok_aload_n dX10_write_7 0 rfl ?_
    refine okS_getR dX10_write_8 fl_X10_10 pr_0_0 ?_
    refine ok_iload_n dX10_write_11 2 rfl ?_
    obtain ⟨r3, e4, h⟩ := it_bind h
    refine okS_V (as := [.int a2]) (st := []) (r := some (.int r3)) (S' := S) dX10_write_12 cv_X10_162 rfl po_1 (Nat.le_of_ble_eq_true rfl) ⟨⟨by decide, by decide⟩, rfl, rfl⟩ (t_X6_hasDay e4) ?_
    show Ok D_X10_write (0, 0) (0, 0) 15 [(0, .ref 0), (1, .int a1), (2, .int a2), (3, .int a3)] [.int r3] (St S) _
    refine ok_if_ne (tgt := 21) dX10_write_15 (by decide) (fun hc => ?_) (fun hc => ?_)
    · replace h := it_neg hc h
      refine ok_aload_n dX10_write_21 0 rfl ?_
      refine okS_getR dX10_write_22 fl_X10_40 pr_0_4 ?_
      obtain ⟨r5, e6, h⟩ := it_bind h
      refine okS_V (as := []) (st := []) (r := some (.int r5)) (S' := S) dX10_write_25 cv_X10_258 rfl po_138 (Nat.le_of_ble_eq_true rfl) ⟨⟨by decide, by decide⟩, rfl, rfl⟩ (t_X0_hasRoom e6) ?_
      show Ok D_X10_write (0, 0) (0, 0) 28 [(0, .ref 0), (1, .int a1), (2, .int a2), (3, .int a3)] [.int r5] (St S) _
      refine ok_if_ne (tgt := 34) dX10_write_28 (by decide) (fun hc => ?_) (fun hc => ?_)
      · replace h := it_neg hc h
        refine ok_aload_n dX10_write_34 0 rfl ?_
        refine okS_getR dX10_write_35 fl_X10_40 pr_0_4 ?_
        refine ok_iload_n dX10_write_38 1 rfl ?_
        refine ok_iload_n dX10_write_39 2 rfl ?_
        refine ok_iload_n dX10_write_40 3 rfl ?_
        obtain ⟨r7, e8, h⟩ := it_bind h
        refine okS_V (as := [.int a1, .int a2, .int a3]) (st := []) (r := none) (S' := r7) dX10_write_41 cv_X10_259 rfl po_138 (Nat.le_of_ble_eq_true rfl) ⟨⟨by decide, by decide⟩, rfl, rfl⟩ (t_X0_add e8) ?_
        show Ok D_X10_write (0, 0) (0, 0) 44 [(0, .ref 0), (1, .int a1), (2, .int a2), (3, .int a3)] [] (St r7) _
        refine ok_aload_n dX10_write_44 0 rfl ?_
        refine okS_getR dX10_write_45 fl_X10_40 pr_0_4 ?_
        obtain ⟨r9, e10, h⟩ := it_bind h
        refine okS_V (as := []) (st := []) (r := some (.int r9)) (S' := r7) dX10_write_48 cv_X10_140 rfl po_138 (Nat.le_of_ble_eq_true rfl) ⟨⟨by decide, by decide⟩, rfl, rfl⟩ (t_X0_entries e10) ?_
        show Ok D_X10_write (0, 0) (0, 0) 51 [(0, .ref 0), (1, .int a1), (2, .int a2), (3, .int a3)] [.int r9] (St r7) _
        exact okS_ret dX10_write_51 rfl rfl (by have e := Option.some.inj h; subst e; exact ⟨rfl, rfl⟩)
      · replace h := it_pos hc h
        refine ok_ldc (v := (-1000000004)) dX10_write_31 wd_336 ?_
        exact okS_ret dX10_write_33 rfl rfl (by have e := Option.some.inj h; subst e; exact ⟨rfl, rfl⟩)
    · replace h := it_pos hc h
      refine ok_ldc (v := (-1000000001)) dX10_write_18 wd_685 ?_
      exact okS_ret dX10_write_20 rfl rfl (by have e := Option.some.inj h; subst e; exact ⟨rfl, rfl⟩)
def f_X10_tear (S : Mm)  : Option (Int32 × Mm) :=
  ((f_X0_entries S).bind fun r1 => ((f_X0_clear S).bind fun r3 => some (r1, r3)))
set_option maxRecDepth 100000 in
set_option maxHeartbeats 4000000 in
theorem t_X10_tear {S : Mm} {out : Int32 × Mm} (h : f_X10_tear S  = some out) : Rs D_X10_tear [.ref 0] S (some (.int out.1)) out.2 := by
  refine rs_of (by decide) rfl (Nat.le_of_ble_eq_true rfl) ?_
  unfold f_X10_tear at h
  show Ok D_X10_tear (0, 0) (0, 0) 0 [(0, .ref 0)] [] (St S) _
  refine ok_aload_n dX10_tear_0 0 rfl ?_
  refine okS_getR dX10_tear_1 fl_X10_40 pr_0_4 ?_
  obtain ⟨r1, e2, h⟩ := it_bind h
  refine okS_V (as := []) (st := []) (r := some (.int r1)) (S' := S) dX10_tear_4 cv_X10_140 rfl po_138 (Nat.le_of_ble_eq_true rfl) ⟨⟨by decide, by decide⟩, rfl, rfl⟩ (t_X0_entries e2) ?_
  show Ok D_X10_tear (0, 0) (0, 0) 7 [(0, .ref 0)] [.int r1] (St S) _
  refine ok_istore_n (L' := [(1, .int r1), (0, .ref 0)]) dX10_tear_7 (by decide) rfl ?_
  refine ok_aload_n dX10_tear_8 1 rfl ?_
  refine okS_getR dX10_tear_9 fl_X10_40 pr_0_4 ?_
  obtain ⟨r3, e4, h⟩ := it_bind h
  refine okS_V (as := []) (st := []) (r := none) (S' := r3) dX10_tear_12 cv_X10_262 rfl po_138 (Nat.le_of_ble_eq_true rfl) ⟨⟨by decide, by decide⟩, rfl, rfl⟩ (t_X0_clear e4) ?_
  show Ok D_X10_tear (0, 0) (0, 0) 15 [(1, .int r1), (0, .ref 0)] [] (St r3) _
  refine ok_iload_n dX10_tear_15 0 rfl ?_
  exact okS_ret dX10_tear_16 rfl rfl (by have e := Option.some.inj h; subst e; exact ⟨rfl, rfl⟩)
def f_X10_seed (S : Mm) (a1 : Int32) : Option (Int32 × Mm) :=
  (if 0 ≤ a1 then some (S.1 0 6, wr S 0 6 a1) else some ((-1000000002), S))
set_option maxRecDepth 100000 in
set_option maxHeartbeats 4000000 in
theorem t_X10_seed {S : Mm} {a1 : Int32} {out : Int32 × Mm} (h : f_X10_seed S a1 = some out) : Rs D_X10_seed [.ref 0, .int a1] S (some (.int out.1)) out.2 := by
  refine rs_of (by decide) rfl (Nat.le_of_ble_eq_true rfl) ?_
  unfold f_X10_seed at h
  show Ok D_X10_seed (0, 0) (0, 0) 0 [(0, .ref 0), (1, .int a1)] [] (St S) _
  refine ok_iload_n dX10_seed_0 1 rfl ?_
  refine ok_if_ge (tgt := 7) dX10_seed_1 (by decide) (fun hc => ?_) (fun hc => ?_)
  · replace h := it_pos hc h
    refine ok_aload_n dX10_seed_7 0 rfl ?_
    refine okS_getI dX10_seed_8 fl_X10_50 pi_0_6 ?_
    refine ok_istore_n (L' := [(2, .int (S.1 0 6)), (0, .ref 0), (1, .int a1)]) dX10_seed_11 (by decide) rfl ?_
    refine ok_aload_n dX10_seed_12 1 rfl ?_
    refine ok_iload_n dX10_seed_13 2 rfl ?_
    refine okS_putI dX10_seed_14 fl_X10_50 pi_0_6 ⟨rfl, rfl⟩ ?_
    refine ok_iload_n dX10_seed_17 0 rfl ?_
    exact okS_ret dX10_seed_18 rfl rfl (by have e := Option.some.inj h; subst e; exact ⟨rfl, rfl⟩)
  · replace h := it_neg hc h
    refine ok_ldc (v := (-1000000002)) dX10_seed_4 wd_331 ?_
    exact okS_ret dX10_seed_6 rfl rfl (by have e := Option.some.inj h; subst e; exact ⟨rfl, rfl⟩)
def f_X10_keep (S : Mm) (a1 : Int32) : Option (Int32 × Mm) :=
  (if a1 = 0 then ((f_X4_hold_143 S (S.1 0 6)).bind fun r2 => ((f_X1_forget r2).bind fun r4 => some (1, r4))) else (if a1 = 1 then ((f_X4_hold_148 S (S.1 0 6)).bind fun r7 => ((f_X1_forget r7).bind fun r9 => some (1, r9))) else some ((-1000000001), S)))
set_option maxRecDepth 100000 in
set_option maxHeartbeats 4000000 in
theorem t_X10_keep {S : Mm} {a1 : Int32} {out : Int32 × Mm} (h : f_X10_keep S a1 = some out) : Rs D_X10_keep [.ref 0, .int a1] S (some (.int out.1)) out.2 := by
  refine rs_of (by decide) rfl (Nat.le_of_ble_eq_true rfl) ?_
  unfold f_X10_keep at h
  show Ok D_X10_keep (0, 0) (0, 0) 0 [(0, .ref 0), (1, .int a1)] [] (St S) _
  refine ok_aload_n dX10_keep_0 0 rfl ?_
  refine ok_iload_n dX10_keep_1 1 rfl ?_
  by_cases hx1 : a1 = 0
  · replace h := it_pos hx1 h
    refine okS_V (as := [.int a1]) (st := []) (r := some (.ref 143)) (S' := S) dX10_keep_2 cv_X10_263 rfl po_0 (Nat.le_of_ble_eq_true rfl) ⟨⟨by decide, by decide⟩, rfl, rfl⟩ (t_X10_imageOf_143 hx1) ?_
    refine ok_astore_n (L' := [(2, .ref 143), (0, .ref 0), (1, .int a1)]) dX10_keep_5 (by decide) rfl ?_
    refine ok_aload_n dX10_keep_6 0 rfl ?_
    refine ok_ifnonnull (tgt := 13) dX10_keep_7 (by decide) ?_
    refine ok_aload_n dX10_keep_13 0 rfl ?_
    refine ok_aload_n dX10_keep_14 1 rfl ?_
    refine okS_getR dX10_keep_15 fl_X10_10 pr_0_0 ?_
    refine ok_aload_n dX10_keep_18 1 rfl ?_
    refine okS_getI dX10_keep_19 fl_X10_50 pi_0_6 ?_
    obtain ⟨r2, e3, h⟩ := it_bind h
    refine okS_V (as := [.ref 1, .int (S.1 0 6)]) (st := []) (r := none) (S' := r2) dX10_keep_22 cv_X10_267 rfl po_143 (Nat.le_of_ble_eq_true rfl) ⟨⟨by decide, by decide⟩, rfl, rfl⟩ (t_X4_hold_143 e3) ?_
    show Ok D_X10_keep (0, 0) (0, 0) 25 [(2, .ref 143), (0, .ref 0), (1, .int a1)] [] (St r2) _
    refine ok_aload_n dX10_keep_25 1 rfl ?_
    refine okS_getR dX10_keep_26 fl_X10_33 pr_0_3 ?_
    obtain ⟨r4, e5, h⟩ := it_bind h
    refine okS_V (as := []) (st := []) (r := none) (S' := r4) dX10_keep_29 cv_X10_271 rfl po_72 (Nat.le_of_ble_eq_true rfl) ⟨⟨by decide, by decide⟩, rfl, rfl⟩ (t_X1_forget e5) ?_
    show Ok D_X10_keep (0, 0) (0, 0) 32 [(2, .ref 143), (0, .ref 0), (1, .int a1)] [] (St r4) _
    refine ok_iconst (v := 1) dX10_keep_32 ic_1 ?_
    exact okS_ret dX10_keep_33 rfl rfl (by have e := Option.some.inj h; subst e; exact ⟨rfl, rfl⟩)
  · replace h := it_neg hx1 h
    by_cases hx6 : a1 = 1
    · replace h := it_pos hx6 h
      refine okS_V (as := [.int a1]) (st := []) (r := some (.ref 148)) (S' := S) dX10_keep_2 cv_X10_263 rfl po_0 (Nat.le_of_ble_eq_true rfl) ⟨⟨by decide, by decide⟩, rfl, rfl⟩ (t_X10_imageOf_148 hx6) ?_
      refine ok_astore_n (L' := [(2, .ref 148), (0, .ref 0), (1, .int a1)]) dX10_keep_5 (by decide) rfl ?_
      refine ok_aload_n dX10_keep_6 0 rfl ?_
      refine ok_ifnonnull (tgt := 13) dX10_keep_7 (by decide) ?_
      refine ok_aload_n dX10_keep_13 0 rfl ?_
      refine ok_aload_n dX10_keep_14 1 rfl ?_
      refine okS_getR dX10_keep_15 fl_X10_10 pr_0_0 ?_
      refine ok_aload_n dX10_keep_18 1 rfl ?_
      refine okS_getI dX10_keep_19 fl_X10_50 pi_0_6 ?_
      obtain ⟨r7, e8, h⟩ := it_bind h
      refine okS_V (as := [.ref 1, .int (S.1 0 6)]) (st := []) (r := none) (S' := r7) dX10_keep_22 cv_X10_267 rfl po_148 (Nat.le_of_ble_eq_true rfl) ⟨⟨by decide, by decide⟩, rfl, rfl⟩ (t_X4_hold_148 e8) ?_
      show Ok D_X10_keep (0, 0) (0, 0) 25 [(2, .ref 148), (0, .ref 0), (1, .int a1)] [] (St r7) _
      refine ok_aload_n dX10_keep_25 1 rfl ?_
      refine okS_getR dX10_keep_26 fl_X10_33 pr_0_3 ?_
      obtain ⟨r9, e10, h⟩ := it_bind h
      refine okS_V (as := []) (st := []) (r := none) (S' := r9) dX10_keep_29 cv_X10_271 rfl po_72 (Nat.le_of_ble_eq_true rfl) ⟨⟨by decide, by decide⟩, rfl, rfl⟩ (t_X1_forget e10) ?_
      show Ok D_X10_keep (0, 0) (0, 0) 32 [(2, .ref 148), (0, .ref 0), (1, .int a1)] [] (St r9) _
      refine ok_iconst (v := 1) dX10_keep_32 ic_1 ?_
      exact okS_ret dX10_keep_33 rfl rfl (by have e := Option.some.inj h; subst e; exact ⟨rfl, rfl⟩)
    · replace h := it_neg hx6 h
      refine okS_V (as := [.int a1]) (st := []) (r := some .null) (S' := S) dX10_keep_2 cv_X10_263 rfl po_0 (Nat.le_of_ble_eq_true rfl) ⟨⟨by decide, by decide⟩, rfl, rfl⟩ (t_X10_imageOf_null (by assumption) (by assumption)) ?_
      refine ok_astore_nN (L1 := [(2, .null), (0, .ref 0), (1, .int a1)]) dX10_keep_5 (by decide) rfl ?_
      refine ok_aload_nN dX10_keep_6 0 rfl ?_
      refine ok_ifnonnullN dX10_keep_7 ?_
      refine ok_ldc (v := (-1000000001)) dX10_keep_10 wd_685 ?_
      exact okS_ret dX10_keep_12 rfl rfl (by have e := Option.some.inj h; subst e; exact ⟨rfl, rfl⟩)
def f_X10_goBack (S : Mm) (a1 : Int32) : Option (Int32 × Mm) :=
  (if a1 = 0 then ((f_X4_isHeld_143 S).bind fun r2 => (if r2 = 0 then some ((-1000000003), S) else ((f_X6_become S 1 144).bind fun r6 => ((f_X4_heldSeed_143 r6).bind fun r8 => ((f_X1_forget (wr (wr r6 0 6 r8) 0 8 1)).bind fun r10 => some (1, r10)))))) else (if a1 = 1 then ((f_X4_isHeld_148 S).bind fun r13 => (if r13 = 0 then some ((-1000000003), S) else ((f_X6_become S 1 149).bind fun r17 => ((f_X4_heldSeed_148 r17).bind fun r19 => ((f_X1_forget (wr (wr r17 0 6 r19) 0 8 1)).bind fun r21 => some (1, r21)))))) else some ((-1000000001), S)))
set_option maxRecDepth 100000 in
set_option maxHeartbeats 4000000 in
theorem t_X10_goBack {S : Mm} {a1 : Int32} {out : Int32 × Mm} (h : f_X10_goBack S a1 = some out) : Rs D_X10_goBack [.ref 0, .int a1] S (some (.int out.1)) out.2 := by
  refine rs_of (by decide) rfl (Nat.le_of_ble_eq_true rfl) ?_
  unfold f_X10_goBack at h
  show Ok D_X10_goBack (0, 0) (0, 0) 0 [(0, .ref 0), (1, .int a1)] [] (St S) _
  refine ok_aload_n dX10_goBack_0 0 rfl ?_
  refine ok_iload_n dX10_goBack_1 1 rfl ?_
  by_cases hx1 : a1 = 0
  · replace h := it_pos hx1 h
    refine okS_V (as := [.int a1]) (st := []) (r := some (.ref 143)) (S' := S) dX10_goBack_2 cv_X10_263 rfl po_0 (Nat.le_of_ble_eq_true rfl) ⟨⟨by decide, by decide⟩, rfl, rfl⟩ (t_X10_imageOf_143 hx1) ?_
    refine ok_astore_n (L' := [(2, .ref 143), (0, .ref 0), (1, .int a1)]) dX10_goBack_5 (by decide) rfl ?_
    refine ok_aload_n dX10_goBack_6 0 rfl ?_
    refine ok_ifnonnull (tgt := 13) dX10_goBack_7 (by decide) ?_
    refine ok_aload_n dX10_goBack_13 0 rfl ?_
    obtain ⟨r2, e3, h⟩ := it_bind h
    refine okS_V (as := []) (st := []) (r := some (.int r2)) (S' := S) dX10_goBack_14 cv_X10_274 rfl po_143 (Nat.le_of_ble_eq_true rfl) ⟨⟨by decide, by decide⟩, rfl, rfl⟩ (t_X4_isHeld_143 e3) ?_
    show Ok D_X10_goBack (0, 0) (0, 0) 17 [(2, .ref 143), (0, .ref 0), (1, .int a1)] [.int r2] (St S) _
    refine ok_if_ne (tgt := 23) dX10_goBack_17 (by decide) (fun hc => ?_) (fun hc => ?_)
    · replace h := it_neg hc h
      refine ok_aload_n dX10_goBack_23 1 rfl ?_
      refine okS_getR dX10_goBack_24 fl_X10_10 pr_0_0 ?_
      refine ok_aload_n dX10_goBack_27 0 rfl ?_
      refine okS_V (as := []) (st := [.ref 1]) (r := some (.ref 144)) (S' := S) dX10_goBack_28 cv_X10_277 rfl po_143 (Nat.le_of_ble_eq_true rfl) ⟨⟨by decide, by decide⟩, rfl, rfl⟩ (t_X4_heldNews_143 (S := S)) ?_
      show Ok D_X10_goBack (0, 0) (0, 0) 31 [(2, .ref 143), (0, .ref 0), (1, .int a1)] [.ref 144, .ref 1] (St S) _
      obtain ⟨r6, e7, h⟩ := it_bind h
      refine okS_V (as := [.ref 144]) (st := []) (r := none) (S' := r6) dX10_goBack_31 cv_X10_281 rfl (become_po e7) (Nat.le_of_ble_eq_true rfl) ⟨⟨by decide, by decide⟩, rfl, rfl⟩ (t_X6_become e7) ?_
      show Ok D_X10_goBack (0, 0) (0, 0) 34 [(2, .ref 143), (0, .ref 0), (1, .int a1)] [] (St r6) _
      refine ok_aload_n dX10_goBack_34 1 rfl ?_
      refine ok_aload_n dX10_goBack_35 0 rfl ?_
      obtain ⟨r8, e9, h⟩ := it_bind h
      refine okS_V (as := []) (st := [.ref 0]) (r := some (.int r8)) (S' := r6) dX10_goBack_36 cv_X10_285 rfl po_143 (Nat.le_of_ble_eq_true rfl) ⟨⟨by decide, by decide⟩, rfl, rfl⟩ (t_X4_heldSeed_143 e9) ?_
      show Ok D_X10_goBack (0, 0) (0, 0) 39 [(2, .ref 143), (0, .ref 0), (1, .int a1)] [.int r8, .ref 0] (St r6) _
      refine okS_putI dX10_goBack_39 fl_X10_50 pi_0_6 ⟨rfl, rfl⟩ ?_
      refine ok_aload_n dX10_goBack_42 1 rfl ?_
      refine ok_iconst (v := 1) dX10_goBack_43 ic_1 ?_
      refine okS_putI dX10_goBack_44 fl_X10_57 pi_0_8 (by decide) ?_
      refine ok_aload_n dX10_goBack_47 1 rfl ?_
      refine okS_getR dX10_goBack_48 fl_X10_33 pr_0_3 ?_
      obtain ⟨r10, e11, h⟩ := it_bind h
      refine okS_V (as := []) (st := []) (r := none) (S' := r10) dX10_goBack_51 cv_X10_271 rfl po_72 (Nat.le_of_ble_eq_true rfl) ⟨⟨by decide, by decide⟩, rfl, rfl⟩ (t_X1_forget e11) ?_
      show Ok D_X10_goBack (0, 0) (0, 0) 54 [(2, .ref 143), (0, .ref 0), (1, .int a1)] [] (St r10) _
      refine ok_iconst (v := 1) dX10_goBack_54 ic_1 ?_
      exact okS_ret dX10_goBack_55 rfl rfl (by have e := Option.some.inj h; subst e; exact ⟨rfl, rfl⟩)
    · replace h := it_pos hc h
      refine ok_ldc (v := (-1000000003)) dX10_goBack_20 wd_801 ?_
      exact okS_ret dX10_goBack_22 rfl rfl (by have e := Option.some.inj h; subst e; exact ⟨rfl, rfl⟩)
  · replace h := it_neg hx1 h
    by_cases hx12 : a1 = 1
    · replace h := it_pos hx12 h
      refine okS_V (as := [.int a1]) (st := []) (r := some (.ref 148)) (S' := S) dX10_goBack_2 cv_X10_263 rfl po_0 (Nat.le_of_ble_eq_true rfl) ⟨⟨by decide, by decide⟩, rfl, rfl⟩ (t_X10_imageOf_148 hx12) ?_
      refine ok_astore_n (L' := [(2, .ref 148), (0, .ref 0), (1, .int a1)]) dX10_goBack_5 (by decide) rfl ?_
      refine ok_aload_n dX10_goBack_6 0 rfl ?_
      refine ok_ifnonnull (tgt := 13) dX10_goBack_7 (by decide) ?_
      refine ok_aload_n dX10_goBack_13 0 rfl ?_
      obtain ⟨r13, e14, h⟩ := it_bind h
      refine okS_V (as := []) (st := []) (r := some (.int r13)) (S' := S) dX10_goBack_14 cv_X10_274 rfl po_148 (Nat.le_of_ble_eq_true rfl) ⟨⟨by decide, by decide⟩, rfl, rfl⟩ (t_X4_isHeld_148 e14) ?_
      show Ok D_X10_goBack (0, 0) (0, 0) 17 [(2, .ref 148), (0, .ref 0), (1, .int a1)] [.int r13] (St S) _
      refine ok_if_ne (tgt := 23) dX10_goBack_17 (by decide) (fun hc => ?_) (fun hc => ?_)
      · replace h := it_neg hc h
        refine ok_aload_n dX10_goBack_23 1 rfl ?_
        refine okS_getR dX10_goBack_24 fl_X10_10 pr_0_0 ?_
        refine ok_aload_n dX10_goBack_27 0 rfl ?_
        refine okS_V (as := []) (st := [.ref 1]) (r := some (.ref 149)) (S' := S) dX10_goBack_28 cv_X10_277 rfl po_148 (Nat.le_of_ble_eq_true rfl) ⟨⟨by decide, by decide⟩, rfl, rfl⟩ (t_X4_heldNews_148 (S := S)) ?_
        show Ok D_X10_goBack (0, 0) (0, 0) 31 [(2, .ref 148), (0, .ref 0), (1, .int a1)] [.ref 149, .ref 1] (St S) _
        obtain ⟨r17, e18, h⟩ := it_bind h
        refine okS_V (as := [.ref 149]) (st := []) (r := none) (S' := r17) dX10_goBack_31 cv_X10_281 rfl (become_po e18) (Nat.le_of_ble_eq_true rfl) ⟨⟨by decide, by decide⟩, rfl, rfl⟩ (t_X6_become e18) ?_
        show Ok D_X10_goBack (0, 0) (0, 0) 34 [(2, .ref 148), (0, .ref 0), (1, .int a1)] [] (St r17) _
        refine ok_aload_n dX10_goBack_34 1 rfl ?_
        refine ok_aload_n dX10_goBack_35 0 rfl ?_
        obtain ⟨r19, e20, h⟩ := it_bind h
        refine okS_V (as := []) (st := [.ref 0]) (r := some (.int r19)) (S' := r17) dX10_goBack_36 cv_X10_285 rfl po_148 (Nat.le_of_ble_eq_true rfl) ⟨⟨by decide, by decide⟩, rfl, rfl⟩ (t_X4_heldSeed_148 e20) ?_
        show Ok D_X10_goBack (0, 0) (0, 0) 39 [(2, .ref 148), (0, .ref 0), (1, .int a1)] [.int r19, .ref 0] (St r17) _
        refine okS_putI dX10_goBack_39 fl_X10_50 pi_0_6 ⟨rfl, rfl⟩ ?_
        refine ok_aload_n dX10_goBack_42 1 rfl ?_
        refine ok_iconst (v := 1) dX10_goBack_43 ic_1 ?_
        refine okS_putI dX10_goBack_44 fl_X10_57 pi_0_8 (by decide) ?_
        refine ok_aload_n dX10_goBack_47 1 rfl ?_
        refine okS_getR dX10_goBack_48 fl_X10_33 pr_0_3 ?_
        obtain ⟨r21, e22, h⟩ := it_bind h
        refine okS_V (as := []) (st := []) (r := none) (S' := r21) dX10_goBack_51 cv_X10_271 rfl po_72 (Nat.le_of_ble_eq_true rfl) ⟨⟨by decide, by decide⟩, rfl, rfl⟩ (t_X1_forget e22) ?_
        show Ok D_X10_goBack (0, 0) (0, 0) 54 [(2, .ref 148), (0, .ref 0), (1, .int a1)] [] (St r21) _
        refine ok_iconst (v := 1) dX10_goBack_54 ic_1 ?_
        exact okS_ret dX10_goBack_55 rfl rfl (by have e := Option.some.inj h; subst e; exact ⟨rfl, rfl⟩)
      · replace h := it_pos hc h
        refine ok_ldc (v := (-1000000003)) dX10_goBack_20 wd_801 ?_
        exact okS_ret dX10_goBack_22 rfl rfl (by have e := Option.some.inj h; subst e; exact ⟨rfl, rfl⟩)
    · replace h := it_neg hx12 h
      refine okS_V (as := [.int a1]) (st := []) (r := some .null) (S' := S) dX10_goBack_2 cv_X10_263 rfl po_0 (Nat.le_of_ble_eq_true rfl) ⟨⟨by decide, by decide⟩, rfl, rfl⟩ (t_X10_imageOf_null (by assumption) (by assumption)) ?_
      refine ok_astore_nN (L1 := [(2, .null), (0, .ref 0), (1, .int a1)]) dX10_goBack_5 (by decide) rfl ?_
      refine ok_aload_nN dX10_goBack_6 0 rfl ?_
      refine ok_ifnonnullN dX10_goBack_7 ?_
      refine ok_ldc (v := (-1000000001)) dX10_goBack_10 wd_685 ?_
      exact okS_ret dX10_goBack_12 rfl rfl (by have e := Option.some.inj h; subst e; exact ⟨rfl, rfl⟩)
