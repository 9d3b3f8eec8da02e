def f_X0_entries (S : Mm)  : Option (Int32) :=
  some (S.1 138 3)
set_option maxRecDepth 100000 in
set_option maxHeartbeats 4000000 in
theorem t_X0_entries {S : Mm} {out : Int32} (h : f_X0_entries S  = some out) : Rs D_X0_entries [.ref 138] S (some (.int out)) S := by
  refine rs_of (by decide) rfl (Nat.le_of_ble_eq_true rfl) ?_
  unfold f_X0_entries at h
  show Ok D_X0_entries (0, 0) (0, 0) 0 [(0, .ref 138)] [] (St S) _
  refine ok_aload_n dX0_entries_0 0 rfl ?_
  refine okS_getI dX0_entries_1 fl_X0_21 pi_138_3 ?_
  exact okS_ret dX0_entries_4 rfl rfl (by have e := Option.some.inj h; subst e; exact ⟨rfl, rfl⟩)
def lp_X0_firstWrong_12 (k : Int32 → Option (Int32)) (S : Mm) : Nat → Int32 → Option (Int32)
  | 0, _ => none
  | fuel + 1, x3 => (if (S.1 138 3) ≤ x3 then k x3 else (if inb x3 20 then ((f_X6_hasDay S (S.1 140 x3.toNatClampNeg)).bind fun r2 => (if r2 = 0 then some x3 else (if inb x3 20 then (if inb x3 20 then ((f_X5_of S (S.1 139 x3.toNatClampNeg) (S.1 140 x3.toNatClampNeg)).bind fun r6 => (if inb x3 20 then (if r6 = (S.1 141 x3.toNatClampNeg) then lp_X0_firstWrong_12 k S fuel (x3 + 1) else some x3) else none)) else none) else none))) else none))
def f_X0_firstWrong (S : Mm)  : Option (Int32) :=
  lp_X0_firstWrong_12 (fun y3_9 => some (-1)) S 100000 0
set_option maxRecDepth 100000 in
set_option maxHeartbeats 4000000 in
theorem tlp_X0_firstWrong_12 {k : Int32 → Option (Int32)} {S : Mm} (hk : ∀ (x3 : Int32) (out : Int32), k x3 = some out → Ok D_X0_firstWrong (0, 0) (0, 0) 66 [(0, .ref 138), (1, .ref 1), (2, .ref 26), (3, .int x3)] [] (St S) (An (some (.int out)) S)) : ∀ (fuel : Nat) (x3 : Int32) (out : Int32), lp_X0_firstWrong_12 k S fuel x3 = some out → Ok D_X0_firstWrong (0, 0) (0, 0) 12 [(0, .ref 138), (1, .ref 1), (2, .ref 26), (3, .int x3)] [] (St S) (An (some (.int out)) S) := by
  intro fuel
  induction fuel with
  | zero => intro x3 out h; cases h
  | succ fuel ih =>
    intro x3 out h
    rw [lp_X0_firstWrong_12] at h
    refine ok_iload_n dX0_firstWrong_12 3 rfl ?_
    refine ok_aload_n dX0_firstWrong_13 0 rfl ?_
    refine okS_getI dX0_firstWrong_14 fl_X0_21 pi_138_3 ?_
    refine ok_icmp_ge (tgt := 66) dX0_firstWrong_17 (by decide) (fun hc => ?_) (fun hc => ?_)
    · replace h := it_pos hc h
      refine ok_perm [0, 1, 2, 3] rfl ?_
      exact hk _ _ h
    · replace h := it_neg hc h
      refine ok_aload_n dX0_firstWrong_20 1 rfl ?_
      refine ok_aload_n dX0_firstWrong_21 0 rfl ?_
      refine okS_getR dX0_firstWrong_22 fl_X0_15 pr_138_1 ?_
      refine ok_iload_n dX0_firstWrong_25 3 rfl ?_
      obtain ⟨hi1, h⟩ := it_some h
      refine okS_iaload dX0_firstWrong_26 pa_140 hi1 ?_
      obtain ⟨r2, e3, h⟩ := it_bind h
      refine okS_V (as := [.int (S.1 140 x3.toNatClampNeg)]) (st := []) (r := some (.int r2)) (S' := S) dX0_firstWrong_27 cv_X0_29 rfl po_1 (Nat.le_of_ble_eq_true rfl) ⟨⟨by decide, by decide⟩, rfl, rfl⟩ (t_X6_hasDay e3) ?_
      show Ok D_X0_firstWrong (0, 0) (0, 0) 30 [(0, .ref 138), (1, .ref 1), (2, .ref 26), (3, .int x3)] [.int r2] (St S) _
      refine ok_if_eq (tgt := 58) dX0_firstWrong_30 (by decide) (fun hc => ?_) (fun hc => ?_)
      · replace h := it_pos hc h
        refine ok_iload_n dX0_firstWrong_58 3 rfl ?_
        exact okS_ret dX0_firstWrong_59 rfl rfl (by have e := Option.some.inj h; subst e; exact ⟨rfl, rfl⟩)
      · replace h := it_neg hc h
        refine ok_aload_n dX0_firstWrong_33 2 rfl ?_
        refine ok_aload_n dX0_firstWrong_34 0 rfl ?_
        refine okS_getR dX0_firstWrong_35 fl_X0_11 pr_138_0 ?_
        refine ok_iload_n dX0_firstWrong_38 3 rfl ?_
        obtain ⟨hi4, h⟩ := it_some h
        refine okS_iaload dX0_firstWrong_39 pa_139 hi4 ?_
        refine ok_aload_n dX0_firstWrong_40 0 rfl ?_
        refine okS_getR dX0_firstWrong_41 fl_X0_15 pr_138_1 ?_
        refine ok_iload_n dX0_firstWrong_44 3 rfl ?_
        obtain ⟨hi5, h⟩ := it_some h
        refine okS_iaload dX0_firstWrong_45 pa_140 hi5 ?_
        obtain ⟨r6, e7, h⟩ := it_bind h
        refine okS_V (as := [.int (S.1 139 x3.toNatClampNeg), .int (S.1 140 x3.toNatClampNeg)]) (st := []) (r := some (.int r6)) (S' := S) dX0_firstWrong_46 cv_X0_35 rfl po_26 (Nat.le_of_ble_eq_true rfl) ⟨⟨by decide, by decide⟩, rfl, rfl⟩ (t_X5_of e7) ?_
        show Ok D_X0_firstWrong (0, 0) (0, 0) 49 [(0, .ref 138), (1, .ref 1), (2, .ref 26), (3, .int x3)] [.int r6] (St S) _
        refine ok_aload_n dX0_firstWrong_49 0 rfl ?_
        refine okS_getR dX0_firstWrong_50 fl_X0_18 pr_138_2 ?_
        refine ok_iload_n dX0_firstWrong_53 3 rfl ?_
        obtain ⟨hi8, h⟩ := it_some h
        refine okS_iaload dX0_firstWrong_54 pa_141 hi8 ?_
        refine ok_icmp_eq (tgt := 60) dX0_firstWrong_55 (by decide) (fun hc => ?_) (fun hc => ?_)
        · replace h := it_pos hc h
          refine ok_iinc (v := x3 + 1) (L' := [(3, .int (x3 + 1)), (0, .ref 138), (1, .ref 1), (2, .ref 26)]) dX0_firstWrong_60 3 rfl (ii_1 _) (by decide) rfl ?_
          refine ok_goto (tgt := 12) dX0_firstWrong_63 (by decide) ?_
          refine ok_perm [1, 2, 3, 0] rfl ?_
          exact ih _ _ h
        · replace h := it_neg hc h
          refine ok_iload_n dX0_firstWrong_58 3 rfl ?_
          exact okS_ret dX0_firstWrong_59 rfl rfl (by have e := Option.some.inj h; subst e; exact ⟨rfl, rfl⟩)
set_option maxRecDepth 100000 in
set_option maxHeartbeats 4000000 in
theorem t_X0_firstWrong {S : Mm} {out : Int32} (h : f_X0_firstWrong S  = some out) : Rs D_X0_firstWrong [.ref 138, .ref 1, .ref 26] S (some (.int out)) S := by
  refine rs_of (by decide) rfl (Nat.le_of_ble_eq_true rfl) ?_
  unfold f_X0_firstWrong at h
  show Ok D_X0_firstWrong (0, 0) (0, 0) 0 [(0, .ref 138), (1, .ref 1), (2, .ref 26)] [] (St S) _
  refine ok_aload_n dX0_firstWrong_0 1 rfl ?_
  refine ok_ifnull dX0_firstWrong_1 ?_
  refine ok_aload_n dX0_firstWrong_4 2 rfl ?_
  refine ok_ifnonnull (tgt := 10) dX0_firstWrong_5 (by decide) ?_
  refine ok_iconst (v := 0) dX0_firstWrong_10 ic_0 ?_
  refine ok_istore_n (L' := [(3, .int 0), (0, .ref 138), (1, .ref 1), (2, .ref 26)]) dX0_firstWrong_11 (by decide) rfl ?_
  refine ok_perm [1, 2, 3, 0] rfl ?_
  refine tlp_X0_firstWrong_12 (fun y3_9 out10 h => ?_) _ _ _ h
  refine ok_iconst (v := (-1)) dX0_firstWrong_66 ic_m1 ?_
  exact okS_ret dX0_firstWrong_67 rfl rfl (by have e := Option.some.inj h; subst e; exact ⟨rfl, rfl⟩)
def f_X0_hasRoom (S : Mm)  : Option (Int32) :=
  (if 20 ≤ (S.1 138 3) then some 0 else some 1)
set_option maxRecDepth 100000 in
set_option maxHeartbeats 4000000 in
theorem t_X0_hasRoom {S : Mm} {out : Int32} (h : f_X0_hasRoom S  = some out) : Rs D_X0_hasRoom [.ref 138] S (some (.int out)) S := by
  refine rs_of (by decide) rfl (Nat.le_of_ble_eq_true rfl) ?_
  unfold f_X0_hasRoom at h
  show Ok D_X0_hasRoom (0, 0) (0, 0) 0 [(0, .ref 138)] [] (St S) _
  refine ok_aload_n dX0_hasRoom_0 0 rfl ?_
  refine okS_getI dX0_hasRoom_1 fl_X0_21 pi_138_3 ?_
  refine ok_bipush (v := 20) dX0_hasRoom_4 bi_20 ?_
  refine ok_icmp_ge (tgt := 13) dX0_hasRoom_6 (by decide) (fun hc => ?_) (fun hc => ?_)
  · replace h := it_pos hc h
    refine ok_iconst (v := 0) dX0_hasRoom_13 ic_0 ?_
    exact okS_ret dX0_hasRoom_14 rfl (by decide) (by have e := Option.some.inj h; subst e; exact ⟨rfl, rfl⟩)
  · replace h := it_neg hc h
    refine ok_iconst (v := 1) dX0_hasRoom_9 ic_1 ?_
    refine ok_goto (tgt := 14) dX0_hasRoom_10 (by decide) ?_
    exact okS_ret dX0_hasRoom_14 rfl (by decide) (by have e := Option.some.inj h; subst e; exact ⟨rfl, rfl⟩)
def f_X0_add (S : Mm) (a1 : Int32) (a2 : Int32) (a3 : Int32) : Option (Mm) :=
  ((f_X0_hasRoom S).bind fun r1 => (if r1 = 0 then some S else (if inb (S.1 138 3) 20 then (if inb ((wr S 139 (S.1 138 3).toNatClampNeg a1).1 138 3) 20 then (if inb ((wr (wr S 139 (S.1 138 3).toNatClampNeg a1) 140 ((wr S 139 (S.1 138 3).toNatClampNeg a1).1 138 3).toNatClampNeg a2).1 138 3) 20 then some (wr (wr (wr (wr S 139 (S.1 138 3).toNatClampNeg a1) 140 ((wr S 139 (S.1 138 3).toNatClampNeg a1).1 138 3).toNatClampNeg a2) 141 ((wr (wr S 139 (S.1 138 3).toNatClampNeg a1) 140 ((wr S 139 (S.1 138 3).toNatClampNeg a1).1 138 3).toNatClampNeg a2).1 138 3).toNatClampNeg a3) 138 3 (((wr (wr (wr S 139 (S.1 138 3).toNatClampNeg a1) 140 ((wr S 139 (S.1 138 3).toNatClampNeg a1).1 138 3).toNatClampNeg a2) 141 ((wr (wr S 139 (S.1 138 3).toNatClampNeg a1) 140 ((wr S 139 (S.1 138 3).toNatClampNeg a1).1 138 3).toNatClampNeg a2).1 138 3).toNatClampNeg a3).1 138 3) + 1)) else none) else none) else none)))
set_option maxRecDepth 100000 in
set_option maxHeartbeats 4000000 in
theorem t_X0_add {S : Mm} {a1 : Int32} {a2 : Int32} {a3 : Int32} {out : Mm} (h : f_X0_add S a1 a2 a3 = some out) : Rs D_X0_add [.ref 138, .int a1, .int a2, .int a3] S none out := by
  refine rs_of (by decide) rfl (Nat.le_of_ble_eq_true rfl) ?_
  unfold f_X0_add at h
  show Ok D_X0_add (0, 0) (0, 0) 0 [(0, .ref 138), (1, .int a1), (2, .int a2), (3, .int a3)] [] (St S) _
  refine ok_aload_n dX0_add_0 0 rfl ?_
  obtain ⟨r1, e2, h⟩ := it_bind h
  refine okS_V (as := []) (st := []) (r := some (.int r1)) (S' := S) dX0_add_1 cv_X0_25 rfl po_138 (Nat.le_of_ble_eq_true rfl) ⟨⟨by decide, by decide⟩, rfl, rfl⟩ (t_X0_hasRoom e2) ?_
  show Ok D_X0_add (0, 0) (0, 0) 4 [(0, .ref 138), (1, .int a1), (2, .int a2), (3, .int a3)] [.int r1] (St S) _
  refine ok_if_eq (tgt := 47) dX0_add_4 (by decide) (fun hc => ?_) (fun hc => ?_)
  · replace h := it_pos hc h
    exact okS_retv dX0_add_47 rfl (by have e := Option.some.inj h; subst e; exact ⟨rfl, rfl⟩)
  · replace h := it_neg hc h
    refine ok_aload_n dX0_add_7 0 rfl ?_
    refine okS_getR dX0_add_8 fl_X0_11 pr_138_0 ?_
    refine ok_aload_n dX0_add_11 0 rfl ?_
    refine okS_getI dX0_add_12 fl_X0_21 pi_138_3 ?_
    refine ok_iload_n dX0_add_15 1 rfl ?_
    obtain ⟨hi3, h⟩ := it_some h
    refine okS_iastore dX0_add_16 pa_139 hi3 ?_
    refine ok_aload_n dX0_add_17 0 rfl ?_
    refine okS_getR dX0_add_18 fl_X0_15 pr_138_1 ?_
    refine ok_aload_n dX0_add_21 0 rfl ?_
    refine okS_getI dX0_add_22 fl_X0_21 pi_138_3 ?_
    refine ok_iload_n dX0_add_25 2 rfl ?_
    obtain ⟨hi4, h⟩ := it_some h
    refine okS_iastore dX0_add_26 pa_140 hi4 ?_
    refine ok_aload_n dX0_add_27 0 rfl ?_
    refine okS_getR dX0_add_28 fl_X0_18 pr_138_2 ?_
    refine ok_aload_n dX0_add_31 0 rfl ?_
    refine okS_getI dX0_add_32 fl_X0_21 pi_138_3 ?_
    refine ok_iload_n dX0_add_35 3 rfl ?_
    obtain ⟨hi5, h⟩ := it_some h
    refine okS_iastore dX0_add_36 pa_141 hi5 ?_
    refine ok_aload_n dX0_add_37 0 rfl ?_
    refine ok_dup dX0_add_38 rfl ?_
    refine okS_getI dX0_add_39 fl_X0_21 pi_138_3 ?_
    refine ok_iconst (v := 1) dX0_add_42 ic_1 ?_
    refine ok_iadd dX0_add_43 ?_
    refine okS_putI dX0_add_44 fl_X0_21 pi_138_3 ⟨rfl, rfl⟩ ?_
    exact okS_retv dX0_add_47 rfl (by have e := Option.some.inj h; subst e; exact ⟨rfl, rfl⟩)
def f_X0_clear (S : Mm)  : Option (Mm) :=
  some (wr S 138 3 0)
set_option maxRecDepth 100000 in
set_option maxHeartbeats 4000000 in
theorem t_X0_clear {S : Mm} {out : Mm} (h : f_X0_clear S  = some out) : Rs D_X0_clear [.ref 138] S none out := by
  refine rs_of (by decide) rfl (Nat.le_of_ble_eq_true rfl) ?_
  unfold f_X0_clear at h
  show Ok D_X0_clear (0, 0) (0, 0) 0 [(0, .ref 138)] [] (St S) _
  refine ok_aload_n dX0_clear_0 0 rfl ?_
  refine ok_iconst (v := 0) dX0_clear_1 ic_0 ?_
  refine okS_putI dX0_clear_2 fl_X0_21 pi_138_3 ⟨rfl, rfl⟩ ?_
  exact okS_retv dX0_clear_5 rfl (by have e := Option.some.inj h; subst e; exact ⟨rfl, rfl⟩)
