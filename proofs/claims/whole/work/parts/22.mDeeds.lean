def lp_X1_dropOldest_9 (k : Int32 → Mm → Option (Mm)) (c1 : Nat) : Nat → Int32 → Mm → Option (Mm)
  | 0, _, _ => none
  | fuel + 1, x2, S => (if 16 ≤ x2 then k x2 S else (if inb x2 16 then (if inb (x2 - 1) 16 then (if NW (S.2 x2.toNatClampNeg) = true then lp_X1_dropOldest_9 k c1 fuel (x2 + 1) (wp S (x2 - 1).toNatClampNeg (S.2 x2.toNatClampNeg)) else none) else none) else none))
def f_X1_dropOldest (S : Mm)  : Option (Mm) :=
  lp_X1_dropOldest_9 (fun y2_4 S5 => (if NW (S.2 0) = true then some (wr (wp S5 15 (S.2 0)) 72 1 15) else none)) (S.2 0) 100000 1 S
set_option maxRecDepth 100000 in
set_option maxHeartbeats 4000000 in
theorem tlp_X1_dropOldest_9 {k : Int32 → Mm → Option (Mm)} {c1 : Nat} (hk : ∀ (x2 : Int32) (S : Mm) (out : Mm), k x2 S = some out → Ok D_X1_dropOldest (0, 0) (0, 0) 35 [(0, .ref 72), (1, .ref c1), (2, .int x2)] [] (St S) (An none out)) : ∀ (fuel : Nat) (x2 : Int32) (S : Mm) (out : Mm), lp_X1_dropOldest_9 k c1 fuel x2 S = some out → Ok D_X1_dropOldest (0, 0) (0, 0) 9 [(0, .ref 72), (1, .ref c1), (2, .int x2)] [] (St S) (An none out) := by
  intro fuel
  induction fuel with
  | zero => intro x2 S out h; cases h
  | succ fuel ih =>
    intro x2 S out h
    rw [lp_X1_dropOldest_9] at h
    refine ok_iload_n dX1_dropOldest_9 2 rfl ?_
    refine ok_bipush (v := 16) dX1_dropOldest_10 bi_16 ?_
    refine ok_icmp_ge (tgt := 35) dX1_dropOldest_12 (by decide) (fun hc => ?_) (fun hc => ?_)
    · replace h := it_pos hc h
      refine ok_perm [0, 1, 2] rfl ?_
      exact hk _ _ _ h
    · replace h := it_neg hc h
      refine ok_aload_n dX1_dropOldest_15 0 rfl ?_
      refine okS_getR dX1_dropOldest_16 fl_X1_11 pr_72_0 ?_
      refine ok_iload_n dX1_dropOldest_19 2 rfl ?_
      refine ok_iconst (v := 1) dX1_dropOldest_20 ic_1 ?_
      refine ok_isub dX1_dropOldest_21 ?_
      refine ok_aload_n dX1_dropOldest_22 0 rfl ?_
      refine okS_getR dX1_dropOldest_23 fl_X1_11 pr_72_0 ?_
      refine ok_iload_n dX1_dropOldest_26 2 rfl ?_
      obtain ⟨hi1, h⟩ := it_some h
      refine okS_ahead dX1_dropOldest_27 hi1 ?_
      obtain ⟨hi2, h⟩ := it_some h
      obtain ⟨hy3, h⟩ := it_some h
      refine okS_aheadSet dX1_dropOldest_28 hi2 hy3 ?_
      refine ok_iinc (v := x2 + 1) (L' := [(2, .int (x2 + 1)), (0, .ref 72), (1, .ref c1)]) dX1_dropOldest_29 2 rfl (ii_1 _) (by decide) rfl ?_
      refine ok_goto (tgt := 9) dX1_dropOldest_32 (by decide) ?_
      refine ok_perm [1, 2, 0] rfl ?_
      exact ih _ _ _ h
set_option maxRecDepth 100000 in
set_option maxHeartbeats 4000000 in
theorem t_X1_dropOldest {S : Mm} {out : Mm} (h : f_X1_dropOldest S  = some out) : Rs D_X1_dropOldest [.ref 72] S none out := by
  refine rs_of (by decide) rfl (Nat.le_of_ble_eq_true rfl) ?_
  unfold f_X1_dropOldest at h
  show Ok D_X1_dropOldest (0, 0) (0, 0) 0 [(0, .ref 72)] [] (St S) _
  refine ok_aload_n dX1_dropOldest_0 0 rfl ?_
  refine okS_getR dX1_dropOldest_1 fl_X1_11 pr_72_0 ?_
  refine ok_iconst (v := 0) dX1_dropOldest_4 ic_0 ?_
  refine okS_aheadL (j := 0) dX1_dropOldest_5 (by decide) tnl_0 ?_
  refine ok_astore_n (L' := [(1, .ref (S.2 0)), (0, .ref 72)]) dX1_dropOldest_6 (by decide) rfl ?_
  refine ok_iconst (v := 1) dX1_dropOldest_7 ic_1 ?_
  refine ok_istore_n (L' := [(2, .int 1), (1, .ref (S.2 0)), (0, .ref 72)]) dX1_dropOldest_8 (by decide) rfl ?_
  refine ok_perm [2, 1, 0] rfl ?_
  refine tlp_X1_dropOldest_9 (fun y2_4 S5 out6 h => ?_) _ _ _ _ h
  refine ok_aload_n dX1_dropOldest_35 0 rfl ?_
  refine okS_getR dX1_dropOldest_36 fl_X1_11 pr_72_0 ?_
  refine ok_bipush (v := 15) dX1_dropOldest_39 bi_15 ?_
  refine ok_aload_n dX1_dropOldest_41 1 rfl ?_
  obtain ⟨hy7, h⟩ := it_some h
  refine okS_aheadSetL (j := 15) dX1_dropOldest_42 (by decide) tnl_15 hy7 ?_
  refine ok_aload_n dX1_dropOldest_43 0 rfl ?_
  refine ok_bipush (v := 15) dX1_dropOldest_44 bi_15 ?_
  refine okS_putI dX1_dropOldest_46 fl_X1_17 pi_72_1 ⟨rfl, rfl⟩ ?_
  exact okS_retv dX1_dropOldest_49 rfl (by have e := Option.some.inj h; subst e; exact ⟨rfl, rfl⟩)
def f_X1_remember (S : Mm)  : Option (Mm) :=
  (if (S.1 72 1) < 16 then (if (S.1 72 1) < 0 then some S else (if 16 ≤ (S.1 72 1) then some S else (if inb (S.1 72 1) 16 then (if inb (S.1 72 1) 16 then ((f_X6_become S (S.2 (S.1 72 1).toNatClampNeg) 1).bind fun r3 => some (wr r3 72 1 ((r3.1 72 1) + 1))) else none) else none))) else ((f_X1_dropOldest S).bind fun r5 => (if (r5.1 72 1) < 0 then some r5 else (if 16 ≤ (r5.1 72 1) then some r5 else (if inb (r5.1 72 1) 16 then (if inb (r5.1 72 1) 16 then ((f_X6_become r5 (r5.2 (r5.1 72 1).toNatClampNeg) 1).bind fun r9 => some (wr r9 72 1 ((r9.1 72 1) + 1))) else none) else none)))))
set_option maxRecDepth 100000 in
set_option maxHeartbeats 4000000 in
theorem t_X1_remember {S : Mm} {out : Mm} (h : f_X1_remember S  = some out) : Rs D_X1_remember [.ref 72, .ref 1] S none out := by
  refine rs_of (by decide) rfl (Nat.le_of_ble_eq_true rfl) ?_
  unfold f_X1_remember at h
  show Ok D_X1_remember (0, 0) (0, 0) 0 [(0, .ref 72), (1, .ref 1)] [] (St S) _
  refine ok_aload_n dX1_remember_0 0 rfl ?_
  refine okS_getI dX1_remember_1 fl_X1_17 pi_72_1 ?_
  refine ok_bipush (v := 16) dX1_remember_4 bi_16 ?_
  refine ok_icmp_lt (tgt := 13) dX1_remember_6 (by decide) (fun hc => ?_) (fun hc => ?_)
  · replace h := it_pos hc h
    refine ok_aload_n dX1_remember_13 0 rfl ?_
    refine okS_getI dX1_remember_14 fl_X1_17 pi_72_1 ?_
    refine ok_if_lt (tgt := 64) dX1_remember_17 (by decide) (fun hc => ?_) (fun hc => ?_)
    · replace h := it_pos hc h
      exact okS_retv dX1_remember_64 rfl (by have e := Option.some.inj h; subst e; exact ⟨rfl, rfl⟩)
    · replace h := it_neg hc h
      refine ok_aload_n dX1_remember_20 0 rfl ?_
      refine okS_getI dX1_remember_21 fl_X1_17 pi_72_1 ?_
      refine ok_bipush (v := 16) dX1_remember_24 bi_16 ?_
      refine ok_icmp_ge (tgt := 64) dX1_remember_26 (by decide) (fun hc => ?_) (fun hc => ?_)
      · replace h := it_pos hc h
        exact okS_retv dX1_remember_64 rfl (by have e := Option.some.inj h; subst e; exact ⟨rfl, rfl⟩)
      · replace h := it_neg hc h
        refine ok_aload_n dX1_remember_29 0 rfl ?_
        refine okS_getR dX1_remember_30 fl_X1_11 pr_72_0 ?_
        refine ok_aload_n dX1_remember_33 0 rfl ?_
        refine okS_getI dX1_remember_34 fl_X1_17 pi_72_1 ?_
        obtain ⟨hi1, h⟩ := it_some h
        refine okS_ahead dX1_remember_37 hi1 ?_
        refine ok_ifnull dX1_remember_38 ?_
        refine ok_aload_n dX1_remember_41 0 rfl ?_
        refine okS_getR dX1_remember_42 fl_X1_11 pr_72_0 ?_
        refine ok_aload_n dX1_remember_45 0 rfl ?_
        refine okS_getI dX1_remember_46 fl_X1_17 pi_72_1 ?_
        obtain ⟨hi2, h⟩ := it_some h
        refine okS_ahead dX1_remember_49 hi2 ?_
        refine ok_aload_n dX1_remember_50 1 rfl ?_
        obtain ⟨r3, e4, h⟩ := it_bind h
        refine okS_V (as := [.ref 1]) (st := []) (r := none) (S' := r3) dX1_remember_51 cv_X1_25 rfl (become_po e4) (Nat.le_of_ble_eq_true rfl) ⟨⟨by decide, by decide⟩, rfl, rfl⟩ (t_X6_become e4) ?_
        show Ok D_X1_remember (0, 0) (0, 0) 54 [(0, .ref 72), (1, .ref 1)] [] (St r3) _
        refine ok_aload_n dX1_remember_54 0 rfl ?_
        refine ok_dup dX1_remember_55 rfl ?_
        refine okS_getI dX1_remember_56 fl_X1_17 pi_72_1 ?_
        refine ok_iconst (v := 1) dX1_remember_59 ic_1 ?_
        refine ok_iadd dX1_remember_60 ?_
        refine okS_putI dX1_remember_61 fl_X1_17 pi_72_1 ⟨rfl, rfl⟩ ?_
        exact okS_retv dX1_remember_64 rfl (by have e := Option.some.inj h; subst e; exact ⟨rfl, rfl⟩)
  · replace h := it_neg hc h
    refine ok_aload_n dX1_remember_9 0 rfl ?_
    obtain ⟨r5, e6, h⟩ := it_bind h
    refine okS_V (as := []) (st := []) (r := none) (S' := r5) dX1_remember_10 cv_X1_22 rfl po_72 (Nat.le_of_ble_eq_true rfl) ⟨⟨by decide, by decide⟩, rfl, rfl⟩ (t_X1_dropOldest e6) ?_
    show Ok D_X1_remember (0, 0) (0, 0) 13 [(0, .ref 72), (1, .ref 1)] [] (St r5) _
    refine ok_aload_n dX1_remember_13 0 rfl ?_
    refine okS_getI dX1_remember_14 fl_X1_17 pi_72_1 ?_
    refine ok_if_lt (tgt := 64) dX1_remember_17 (by decide) (fun hc => ?_) (fun hc => ?_)
    · replace h := it_pos hc h
      exact okS_retv dX1_remember_64 rfl (by have e := Option.some.inj h; subst e; exact ⟨rfl, rfl⟩)
    · replace h := it_neg hc h
      refine ok_aload_n dX1_remember_20 0 rfl ?_
      refine okS_getI dX1_remember_21 fl_X1_17 pi_72_1 ?_
      refine ok_bipush (v := 16) dX1_remember_24 bi_16 ?_
      refine ok_icmp_ge (tgt := 64) dX1_remember_26 (by decide) (fun hc => ?_) (fun hc => ?_)
      · replace h := it_pos hc h
        exact okS_retv dX1_remember_64 rfl (by have e := Option.some.inj h; subst e; exact ⟨rfl, rfl⟩)
      · replace h := it_neg hc h
        refine ok_aload_n dX1_remember_29 0 rfl ?_
        refine okS_getR dX1_remember_30 fl_X1_11 pr_72_0 ?_
        refine ok_aload_n dX1_remember_33 0 rfl ?_
        refine okS_getI dX1_remember_34 fl_X1_17 pi_72_1 ?_
        obtain ⟨hi7, h⟩ := it_some h
        refine okS_ahead dX1_remember_37 hi7 ?_
        refine ok_ifnull dX1_remember_38 ?_
        refine ok_aload_n dX1_remember_41 0 rfl ?_
        refine okS_getR dX1_remember_42 fl_X1_11 pr_72_0 ?_
        refine ok_aload_n dX1_remember_45 0 rfl ?_
        refine okS_getI dX1_remember_46 fl_X1_17 pi_72_1 ?_
        obtain ⟨hi8, h⟩ := it_some h
        refine okS_ahead dX1_remember_49 hi8 ?_
        refine ok_aload_n dX1_remember_50 1 rfl ?_
        obtain ⟨r9, e10, h⟩ := it_bind h
        refine okS_V (as := [.ref 1]) (st := []) (r := none) (S' := r9) dX1_remember_51 cv_X1_25 rfl (become_po e10) (Nat.le_of_ble_eq_true rfl) ⟨⟨by decide, by decide⟩, rfl, rfl⟩ (t_X6_become e10) ?_
        show Ok D_X1_remember (0, 0) (0, 0) 54 [(0, .ref 72), (1, .ref 1)] [] (St r9) _
        refine ok_aload_n dX1_remember_54 0 rfl ?_
        refine ok_dup dX1_remember_55 rfl ?_
        refine okS_getI dX1_remember_56 fl_X1_17 pi_72_1 ?_
        refine ok_iconst (v := 1) dX1_remember_59 ic_1 ?_
        refine ok_iadd dX1_remember_60 ?_
        refine okS_putI dX1_remember_61 fl_X1_17 pi_72_1 ⟨rfl, rfl⟩ ?_
        exact okS_retv dX1_remember_64 rfl (by have e := Option.some.inj h; subst e; exact ⟨rfl, rfl⟩)
def f_X1_number (S : Mm)  : Option (Int32) :=
  some (S.1 72 1)
set_option maxRecDepth 100000 in
set_option maxHeartbeats 4000000 in
theorem t_X1_number {S : Mm} {out : Int32} (h : f_X1_number S  = some out) : Rs D_X1_number [.ref 72] S (some (.int out)) S := by
  refine rs_of (by decide) rfl (Nat.le_of_ble_eq_true rfl) ?_
  unfold f_X1_number at h
  show Ok D_X1_number (0, 0) (0, 0) 0 [(0, .ref 72)] [] (St S) _
  refine ok_aload_n dX1_number_0 0 rfl ?_
  refine okS_getI dX1_number_1 fl_X1_17 pi_72_1 ?_
  exact okS_ret dX1_number_4 rfl rfl (by have e := Option.some.inj h; subst e; exact ⟨rfl, rfl⟩)
def f_X1_takeBack (S : Mm) (a1 : Int32) : Option (Mm) :=
  (if a1 < 1 then some S else (if (S.1 72 1) < a1 then some S else (if inb ((wr S 72 1 ((S.1 72 1) - a1)).1 72 1) 16 then ((f_X6_become (wr S 72 1 ((S.1 72 1) - a1)) 1 ((wr S 72 1 ((S.1 72 1) - a1)).2 ((wr S 72 1 ((S.1 72 1) - a1)).1 72 1).toNatClampNeg)).bind fun r2 => some r2) else none)))
set_option maxRecDepth 100000 in
set_option maxHeartbeats 4000000 in
theorem t_X1_takeBack {S : Mm} {a1 : Int32} {out : Mm} (h : f_X1_takeBack S a1 = some out) : Rs D_X1_takeBack [.ref 72, .int a1, .ref 1] S none out := by
  refine rs_of (by decide) rfl (Nat.le_of_ble_eq_true rfl) ?_
  unfold f_X1_takeBack at h
  show Ok D_X1_takeBack (0, 0) (0, 0) 0 [(0, .ref 72), (1, .int a1), (2, .ref 1)] [] (St S) _
  refine ok_iload_n dX1_takeBack_0 1 rfl ?_
  refine ok_iconst (v := 1) dX1_takeBack_1 ic_1 ?_
  refine ok_icmp_lt (tgt := 40) dX1_takeBack_2 (by decide) (fun hc => ?_) (fun hc => ?_)
  · replace h := it_pos hc h
    exact okS_retv dX1_takeBack_40 rfl (by have e := Option.some.inj h; subst e; exact ⟨rfl, rfl⟩)
  · replace h := it_neg hc h
    refine ok_iload_n dX1_takeBack_5 1 rfl ?_
    refine ok_aload_n dX1_takeBack_6 0 rfl ?_
    refine okS_getI dX1_takeBack_7 fl_X1_17 pi_72_1 ?_
    refine ok_icmp_gt (tgt := 40) dX1_takeBack_10 (by decide) (fun hc => ?_) (fun hc => ?_)
    · replace h := it_pos hc h
      exact okS_retv dX1_takeBack_40 rfl (by have e := Option.some.inj h; subst e; exact ⟨rfl, rfl⟩)
    · replace h := it_neg hc h
      refine ok_aload_n dX1_takeBack_13 2 rfl ?_
      refine ok_ifnull dX1_takeBack_14 ?_
      refine ok_aload_n dX1_takeBack_17 0 rfl ?_
      refine ok_dup dX1_takeBack_18 rfl ?_
      refine okS_getI dX1_takeBack_19 fl_X1_17 pi_72_1 ?_
      refine ok_iload_n dX1_takeBack_22 1 rfl ?_
      refine ok_isub dX1_takeBack_23 ?_
      refine okS_putI dX1_takeBack_24 fl_X1_17 pi_72_1 ⟨rfl, rfl⟩ ?_
      refine ok_aload_n dX1_takeBack_27 2 rfl ?_
      refine ok_aload_n dX1_takeBack_28 0 rfl ?_
      refine okS_getR dX1_takeBack_29 fl_X1_11 pr_72_0 ?_
      refine ok_aload_n dX1_takeBack_32 0 rfl ?_
      refine okS_getI dX1_takeBack_33 fl_X1_17 pi_72_1 ?_
      obtain ⟨hi1, h⟩ := it_some h
      refine okS_ahead dX1_takeBack_36 hi1 ?_
      obtain ⟨r2, e3, h⟩ := it_bind h
      refine okS_V (as := [.ref ((wr S 72 1 ((S.1 72 1) - a1)).2 ((wr S 72 1 ((S.1 72 1) - a1)).1 72 1).toNatClampNeg)]) (st := []) (r := none) (S' := r2) dX1_takeBack_37 cv_X1_25 rfl (become_po e3) (Nat.le_of_ble_eq_true rfl) ⟨⟨by decide, by decide⟩, rfl, rfl⟩ (t_X6_become e3) ?_
      show Ok D_X1_takeBack (0, 0) (0, 0) 40 [(0, .ref 72), (1, .int a1), (2, .ref 1)] [] (St r2) _
      exact okS_retv dX1_takeBack_40 rfl (by have e := Option.some.inj h; subst e; exact ⟨rfl, rfl⟩)
def f_X1_forget (S : Mm)  : Option (Mm) :=
  some (wr S 72 1 0)
set_option maxRecDepth 100000 in
set_option maxHeartbeats 4000000 in
theorem t_X1_forget {S : Mm} {out : Mm} (h : f_X1_forget S  = some out) : Rs D_X1_forget [.ref 72] S none out := by
  refine rs_of (by decide) rfl (Nat.le_of_ble_eq_true rfl) ?_
  unfold f_X1_forget at h
  show Ok D_X1_forget (0, 0) (0, 0) 0 [(0, .ref 72)] [] (St S) _
  refine ok_aload_n dX1_forget_0 0 rfl ?_
  refine ok_iconst (v := 0) dX1_forget_1 ic_0 ?_
  refine okS_putI dX1_forget_2 fl_X1_17 pi_72_1 ⟨rfl, rfl⟩ ?_
  exact okS_retv dX1_forget_5 rfl (by have e := Option.some.inj h; subst e; exact ⟨rfl, rfl⟩)
