def f_X6_dayCount (S : Mm)  : Option (Int32) :=
  some (S.1 1 3)
set_option maxRecDepth 100000 in
set_option maxHeartbeats 4000000 in
theorem t_X6_dayCount {S : Mm} {out : Int32} (h : f_X6_dayCount S  = some out) : Rs D_X6_dayCount [.ref 1] S (some (.int out)) S := by
  refine rs_of (by decide) rfl (Nat.le_of_ble_eq_true rfl) ?_
  unfold f_X6_dayCount at h
  show Ok D_X6_dayCount (0, 0) (0, 0) 0 [(0, .ref 1)] [] (St S) _
  refine ok_aload_n dX6_dayCount_0 0 rfl ?_
  refine okS_getI dX6_dayCount_1 fl_X6_29 pi_1_3 ?_
  exact okS_ret dX6_dayCount_4 rfl rfl (by have e := Option.some.inj h; subst e; exact ⟨rfl, rfl⟩)
def f_X6_count (S : Mm)  : Option (Int32) :=
  some (S.1 1 4)
set_option maxRecDepth 100000 in
set_option maxHeartbeats 4000000 in
theorem t_X6_count {S : Mm} {out : Int32} (h : f_X6_count S  = some out) : Rs D_X6_count [.ref 1] S (some (.int out)) S := by
  refine rs_of (by decide) rfl (Nat.le_of_ble_eq_true rfl) ?_
  unfold f_X6_count at h
  show Ok D_X6_count (0, 0) (0, 0) 0 [(0, .ref 1)] [] (St S) _
  refine ok_aload_n dX6_count_0 0 rfl ?_
  refine okS_getI dX6_count_1 fl_X6_33 pi_1_4 ?_
  exact okS_ret dX6_count_4 rfl rfl (by have e := Option.some.inj h; subst e; exact ⟨rfl, rfl⟩)
def f_X6_hasRoom (S : Mm)  : Option (Int32) :=
  (if 40 ≤ (S.1 1 4) then some 0 else some 1)
set_option maxRecDepth 100000 in
set_option maxHeartbeats 4000000 in
theorem t_X6_hasRoom {S : Mm} {out : Int32} (h : f_X6_hasRoom S  = some out) : Rs D_X6_hasRoom [.ref 1] S (some (.int out)) S := by
  refine rs_of (by decide) rfl (Nat.le_of_ble_eq_true rfl) ?_
  unfold f_X6_hasRoom at h
  show Ok D_X6_hasRoom (0, 0) (0, 0) 0 [(0, .ref 1)] [] (St S) _
  refine ok_aload_n dX6_hasRoom_0 0 rfl ?_
  refine okS_getI dX6_hasRoom_1 fl_X6_33 pi_1_4 ?_
  refine ok_bipush (v := 40) dX6_hasRoom_4 bi_40 ?_
  refine ok_icmp_ge (tgt := 13) dX6_hasRoom_6 (by decide) (fun hc => ?_) (fun hc => ?_)
  · replace h := it_pos hc h
    refine ok_iconst (v := 0) dX6_hasRoom_13 ic_0 ?_
    exact okS_ret dX6_hasRoom_14 rfl (by decide) (by have e := Option.some.inj h; subst e; exact ⟨rfl, rfl⟩)
  · replace h := it_neg hc h
    refine ok_iconst (v := 1) dX6_hasRoom_9 ic_1 ?_
    refine ok_goto (tgt := 14) dX6_hasRoom_10 (by decide) ?_
    exact okS_ret dX6_hasRoom_14 rfl (by decide) (by have e := Option.some.inj h; subst e; exact ⟨rfl, rfl⟩)
def f_X6_add (S : Mm) (a1 : Int32) (a2 : Int32) : Option (Mm) :=
  ((f_X6_hasRoom S).bind fun r1 => (if r1 = 0 then some S else (if inb (S.1 1 4) 40 then (if inb ((wr S 3 (S.1 1 4).toNatClampNeg a1).1 1 4) 40 then some (wr (wr (wr S 3 (S.1 1 4).toNatClampNeg a1) 4 ((wr S 3 (S.1 1 4).toNatClampNeg a1).1 1 4).toNatClampNeg a2) 1 4 (((wr (wr S 3 (S.1 1 4).toNatClampNeg a1) 4 ((wr S 3 (S.1 1 4).toNatClampNeg a1).1 1 4).toNatClampNeg a2).1 1 4) + 1)) else none) else none)))
set_option maxRecDepth 100000 in
set_option maxHeartbeats 4000000 in
theorem t_X6_add {S : Mm} {a1 : Int32} {a2 : Int32} {out : Mm} (h : f_X6_add S a1 a2 = some out) : Rs D_X6_add [.ref 1, .int a1, .int a2] S none out := by
  refine rs_of (by decide) rfl (Nat.le_of_ble_eq_true rfl) ?_
  unfold f_X6_add at h
  show Ok D_X6_add (0, 0) (0, 0) 0 [(0, .ref 1), (1, .int a1), (2, .int a2)] [] (St S) _
  refine ok_aload_n dX6_add_0 0 rfl ?_
  obtain ⟨r1, e2, h⟩ := it_bind h
  refine okS_V (as := []) (st := []) (r := some (.int r1)) (S' := S) dX6_add_1 cv_X6_62 rfl po_1 (Nat.le_of_ble_eq_true rfl) ⟨⟨by decide, by decide⟩, rfl, rfl⟩ (t_X6_hasRoom e2) ?_
  show Ok D_X6_add (0, 0) (0, 0) 4 [(0, .ref 1), (1, .int a1), (2, .int a2)] [.int r1] (St S) _
  refine ok_if_eq (tgt := 37) dX6_add_4 (by decide) (fun hc => ?_) (fun hc => ?_)
  · replace h := it_pos hc h
    exact okS_retv dX6_add_37 rfl (by have e := Option.some.inj h; subst e; exact ⟨rfl, rfl⟩)
  · replace h := it_neg hc h
    refine ok_aload_n dX6_add_7 0 rfl ?_
    refine okS_getR dX6_add_8 fl_X6_23 pr_1_1 ?_
    refine ok_aload_n dX6_add_11 0 rfl ?_
    refine okS_getI dX6_add_12 fl_X6_33 pi_1_4 ?_
    refine ok_iload_n dX6_add_15 1 rfl ?_
    obtain ⟨hi3, h⟩ := it_some h
    refine okS_iastore dX6_add_16 pa_3 hi3 ?_
    refine ok_aload_n dX6_add_17 0 rfl ?_
    refine okS_getR dX6_add_18 fl_X6_26 pr_1_2 ?_
    refine ok_aload_n dX6_add_21 0 rfl ?_
    refine okS_getI dX6_add_22 fl_X6_33 pi_1_4 ?_
    refine ok_iload_n dX6_add_25 2 rfl ?_
    obtain ⟨hi4, h⟩ := it_some h
    refine okS_iastore dX6_add_26 pa_4 hi4 ?_
    refine ok_aload_n dX6_add_27 0 rfl ?_
    refine ok_dup dX6_add_28 rfl ?_
    refine okS_getI dX6_add_29 fl_X6_33 pi_1_4 ?_
    refine ok_iconst (v := 1) dX6_add_32 ic_1 ?_
    refine ok_iadd dX6_add_33 ?_
    refine okS_putI dX6_add_34 fl_X6_33 pi_1_4 ⟨rfl, rfl⟩ ?_
    exact okS_retv dX6_add_37 rfl (by have e := Option.some.inj h; subst e; exact ⟨rfl, rfl⟩)
def f_X6_levels (S : Mm)  : Option (Int32) :=
  some (S.1 2 0)
set_option maxRecDepth 100000 in
set_option maxHeartbeats 4000000 in
theorem t_X6_levels {S : Mm} {out : Int32} (h : f_X6_levels S  = some out) : Rs D_X6_levels [.ref 1] S (some (.int out)) S := by
  refine rs_of (by decide) rfl (Nat.le_of_ble_eq_true rfl) ?_
  unfold f_X6_levels at h
  show Ok D_X6_levels (0, 0) (0, 0) 0 [(0, .ref 1)] [] (St S) _
  refine ok_aload_n dX6_levels_0 0 rfl ?_
  refine okS_getR dX6_levels_1 fl_X6_20 pr_1_0 ?_
  refine ok_iconst (v := 0) dX6_levels_4 ic_0 ?_
  refine okS_ialoadL (j := 0) dX6_levels_5 pa_2 (by decide) tnl_0 ?_
  exact okS_ret dX6_levels_6 rfl rfl (by have e := Option.some.inj h; subst e; exact ⟨rfl, rfl⟩)
def f_X6_base (S : Mm)  : Option (Int32) :=
  some (S.1 2 1)
set_option maxRecDepth 100000 in
set_option maxHeartbeats 4000000 in
theorem t_X6_base {S : Mm} {out : Int32} (h : f_X6_base S  = some out) : Rs D_X6_base [.ref 1] S (some (.int out)) S := by
  refine rs_of (by decide) rfl (Nat.le_of_ble_eq_true rfl) ?_
  unfold f_X6_base at h
  show Ok D_X6_base (0, 0) (0, 0) 0 [(0, .ref 1)] [] (St S) _
  refine ok_aload_n dX6_base_0 0 rfl ?_
  refine okS_getR dX6_base_1 fl_X6_20 pr_1_0 ?_
  refine ok_iconst (v := 1) dX6_base_4 ic_1 ?_
  refine okS_ialoadL (j := 1) dX6_base_5 pa_2 (by decide) tnl_1 ?_
  exact okS_ret dX6_base_6 rfl rfl (by have e := Option.some.inj h; subst e; exact ⟨rfl, rfl⟩)
def f_X6_step (S : Mm)  : Option (Int32) :=
  some (S.1 2 2)
set_option maxRecDepth 100000 in
set_option maxHeartbeats 4000000 in
theorem t_X6_step {S : Mm} {out : Int32} (h : f_X6_step S  = some out) : Rs D_X6_step [.ref 1] S (some (.int out)) S := by
  refine rs_of (by decide) rfl (Nat.le_of_ble_eq_true rfl) ?_
  unfold f_X6_step at h
  show Ok D_X6_step (0, 0) (0, 0) 0 [(0, .ref 1)] [] (St S) _
  refine ok_aload_n dX6_step_0 0 rfl ?_
  refine okS_getR dX6_step_1 fl_X6_20 pr_1_0 ?_
  refine ok_iconst (v := 2) dX6_step_4 ic_2 ?_
  refine okS_ialoadL (j := 2) dX6_step_5 pa_2 (by decide) tnl_2 ?_
  exact okS_ret dX6_step_6 rfl rfl (by have e := Option.some.inj h; subst e; exact ⟨rfl, rfl⟩)
def f_X6_rise (S : Mm)  : Option (Int32) :=
  some (S.1 2 3)
set_option maxRecDepth 100000 in
set_option maxHeartbeats 4000000 in
theorem t_X6_rise {S : Mm} {out : Int32} (h : f_X6_rise S  = some out) : Rs D_X6_rise [.ref 1] S (some (.int out)) S := by
  refine rs_of (by decide) rfl (Nat.le_of_ble_eq_true rfl) ?_
  unfold f_X6_rise at h
  show Ok D_X6_rise (0, 0) (0, 0) 0 [(0, .ref 1)] [] (St S) _
  refine ok_aload_n dX6_rise_0 0 rfl ?_
  refine okS_getR dX6_rise_1 fl_X6_20 pr_1_0 ?_
  refine ok_iconst (v := 3) dX6_rise_4 ic_3 ?_
  refine okS_ialoadL (j := 3) dX6_rise_5 pa_2 (by decide) tnl_3 ?_
  exact okS_ret dX6_rise_6 rfl rfl (by have e := Option.some.inj h; subst e; exact ⟨rfl, rfl⟩)
def lp_X6_countWithOn_5 (k : Int32 → Int32 → Option (Int32)) (S : Mm) (c1 : Int32) (c2 : Int32) : Nat → Int32 → Int32 → Option (Int32)
  | 0, _, _ => none
  | fuel + 1, x3, x4 => (if (S.1 1 4) ≤ x4 then k x3 x4 else (if inb x4 40 then (if (S.1 3 x4.toNatClampNeg) = c2 then (if inb x4 40 then (if ((S.1 4 x4.toNatClampNeg) &&& c1) = c1 then lp_X6_countWithOn_5 k S c1 c2 fuel (x3 + 1) (x4 + 1) else lp_X6_countWithOn_5 k S c1 c2 fuel x3 (x4 + 1)) else none) else lp_X6_countWithOn_5 k S c1 c2 fuel x3 (x4 + 1)) else none))
def f_X6_countWithOn (S : Mm) (a1 : Int32) (a2 : Int32) : Option (Int32) :=
  lp_X6_countWithOn_5 (fun y3_3 y4_4 => some y3_3) S a1 a2 100000 0 0
set_option maxRecDepth 100000 in
set_option maxHeartbeats 4000000 in
theorem tlp_X6_countWithOn_5 {k : Int32 → Int32 → Option (Int32)} {S : Mm} {c1 : Int32} {c2 : Int32} (hk : ∀ (x3 x4 : Int32) (out : Int32), k x3 x4 = some out → Ok D_X6_countWithOn (0, 0) (0, 0) 47 [(0, .ref 1), (1, .int c1), (2, .int c2), (3, .int x3), (4, .int x4)] [] (St S) (An (some (.int out)) S)) : ∀ (fuel : Nat) (x3 x4 : Int32) (out : Int32), lp_X6_countWithOn_5 k S c1 c2 fuel x3 x4 = some out → Ok D_X6_countWithOn (0, 0) (0, 0) 5 [(0, .ref 1), (1, .int c1), (2, .int c2), (3, .int x3), (4, .int x4)] [] (St S) (An (some (.int out)) S) := by
  intro fuel
  induction fuel with
  | zero => intro x3 x4 out h; cases h
  | succ fuel ih =>
    intro x3 x4 out h
    rw [lp_X6_countWithOn_5] at h
    refine ok_iload dX6_countWithOn_5 4 rfl ?_
    refine ok_aload_n dX6_countWithOn_7 0 rfl ?_
    refine okS_getI dX6_countWithOn_8 fl_X6_33 pi_1_4 ?_
    refine ok_icmp_ge (tgt := 47) dX6_countWithOn_11 (by decide) (fun hc => ?_) (fun hc => ?_)
    · replace h := it_pos hc h
      refine ok_perm [0, 1, 2, 3, 4] rfl ?_
      exact hk _ _ _ h
    · replace h := it_neg hc h
      refine ok_aload_n dX6_countWithOn_14 0 rfl ?_
      refine okS_getR dX6_countWithOn_15 fl_X6_23 pr_1_1 ?_
      refine ok_iload dX6_countWithOn_18 4 rfl ?_
      obtain ⟨hi1, h⟩ := it_some h
      refine okS_iaload dX6_countWithOn_20 pa_3 hi1 ?_
      refine ok_iload_n dX6_countWithOn_21 2 rfl ?_
      refine ok_icmp_ne (tgt := 41) dX6_countWithOn_22 (by decide) (fun hc => ?_) (fun hc => ?_)
      · replace h := it_neg hc h
        refine ok_iinc (v := x4 + 1) (L' := [(4, .int (x4 + 1)), (0, .ref 1), (1, .int c1), (2, .int c2), (3, .int x3)]) dX6_countWithOn_41 4 rfl (ii_1 _) (by decide) rfl ?_
        refine ok_goto (tgt := 5) dX6_countWithOn_44 (by decide) ?_
        refine ok_perm [1, 2, 3, 4, 0] rfl ?_
        exact ih _ _ _ h
      · replace h := it_pos hc h
        refine ok_aload_n dX6_countWithOn_25 0 rfl ?_
        refine okS_getR dX6_countWithOn_26 fl_X6_26 pr_1_2 ?_
        refine ok_iload dX6_countWithOn_29 4 rfl ?_
        obtain ⟨hi2, h⟩ := it_some h
        refine okS_iaload dX6_countWithOn_31 pa_4 hi2 ?_
        refine ok_iload_n dX6_countWithOn_32 1 rfl ?_
        refine ok_iand dX6_countWithOn_33 ?_
        refine ok_iload_n dX6_countWithOn_34 1 rfl ?_
        refine ok_icmp_ne (tgt := 41) dX6_countWithOn_35 (by decide) (fun hc => ?_) (fun hc => ?_)
        · replace h := it_neg hc h
          refine ok_iinc (v := x4 + 1) (L' := [(4, .int (x4 + 1)), (0, .ref 1), (1, .int c1), (2, .int c2), (3, .int x3)]) dX6_countWithOn_41 4 rfl (ii_1 _) (by decide) rfl ?_
          refine ok_goto (tgt := 5) dX6_countWithOn_44 (by decide) ?_
          refine ok_perm [1, 2, 3, 4, 0] rfl ?_
          exact ih _ _ _ h
        · replace h := it_pos hc h
          refine ok_iinc (v := x3 + 1) (L' := [(3, .int (x3 + 1)), (0, .ref 1), (1, .int c1), (2, .int c2), (4, .int x4)]) dX6_countWithOn_38 3 rfl (ii_1 _) (by decide) rfl ?_
          refine ok_iinc (v := x4 + 1) (L' := [(4, .int (x4 + 1)), (3, .int (x3 + 1)), (0, .ref 1), (1, .int c1), (2, .int c2)]) dX6_countWithOn_41 4 rfl (ii_1 _) (by decide) rfl ?_
          refine ok_goto (tgt := 5) dX6_countWithOn_44 (by decide) ?_
          refine ok_perm [2, 3, 4, 1, 0] rfl ?_
          exact ih _ _ _ h
set_option maxRecDepth 100000 in
set_option maxHeartbeats 4000000 in
theorem t_X6_countWithOn {S : Mm} {a1 : Int32} {a2 : Int32} {out : Int32} (h : f_X6_countWithOn S a1 a2 = some out) : Rs D_X6_countWithOn [.ref 1, .int a1, .int a2] S (some (.int out)) S := by
  refine rs_of (by decide) rfl (Nat.le_of_ble_eq_true rfl) ?_
  unfold f_X6_countWithOn at h
  show Ok D_X6_countWithOn (0, 0) (0, 0) 0 [(0, .ref 1), (1, .int a1), (2, .int a2)] [] (St S) _
  refine ok_iconst (v := 0) dX6_countWithOn_0 ic_0 ?_
  refine ok_istore_n (L' := [(3, .int 0), (0, .ref 1), (1, .int a1), (2, .int a2)]) dX6_countWithOn_1 (by decide) rfl ?_
  refine ok_iconst (v := 0) dX6_countWithOn_2 ic_0 ?_
  refine ok_istore (L' := [(4, .int 0), (3, .int 0), (0, .ref 1), (1, .int a1), (2, .int a2)]) dX6_countWithOn_3 (by decide) rfl ?_
  refine ok_perm [2, 3, 4, 1, 0] rfl ?_
  refine tlp_X6_countWithOn_5 (fun y3_3 y4_4 out5 h => ?_) _ _ _ _ h
  refine ok_iload_n dX6_countWithOn_47 3 rfl ?_
  exact okS_ret dX6_countWithOn_48 rfl rfl (by have e := Option.some.inj h; subst e; exact ⟨rfl, rfl⟩)
def lp_X6_countWith_4 (k : Int32 → Int32 → Option (Int32)) (S : Mm) (c1 : Int32) : Nat → Int32 → Int32 → Option (Int32)
  | 0, _, _ => none
  | fuel + 1, x2, x3 => (if (S.1 1 4) ≤ x3 then k x2 x3 else (if inb x3 40 then (if ((S.1 4 x3.toNatClampNeg) &&& c1) = c1 then lp_X6_countWith_4 k S c1 fuel (x2 + 1) (x3 + 1) else lp_X6_countWith_4 k S c1 fuel x2 (x3 + 1)) else none))
def f_X6_countWith (S : Mm) (a1 : Int32) : Option (Int32) :=
  lp_X6_countWith_4 (fun y2_2 y3_3 => some y2_2) S a1 100000 0 0
set_option maxRecDepth 100000 in
set_option maxHeartbeats 4000000 in
theorem tlp_X6_countWith_4 {k : Int32 → Int32 → Option (Int32)} {S : Mm} {c1 : Int32} (hk : ∀ (x2 x3 : Int32) (out : Int32), k x2 x3 = some out → Ok D_X6_countWith (0, 0) (0, 0) 33 [(0, .ref 1), (1, .int c1), (2, .int x2), (3, .int x3)] [] (St S) (An (some (.int out)) S)) : ∀ (fuel : Nat) (x2 x3 : Int32) (out : Int32), lp_X6_countWith_4 k S c1 fuel x2 x3 = some out → Ok D_X6_countWith (0, 0) (0, 0) 4 [(0, .ref 1), (1, .int c1), (2, .int x2), (3, .int x3)] [] (St S) (An (some (.int out)) S) := by
  intro fuel
  induction fuel with
  | zero => intro x2 x3 out h; cases h
  | succ fuel ih =>
    intro x2 x3 out h
    rw [lp_X6_countWith_4] at h
    refine ok_iload_n dX6_countWith_4 3 rfl ?_
    refine ok_aload_n dX6_countWith_5 0 rfl ?_
    refine okS_getI dX6_countWith_6 fl_X6_33 pi_1_4 ?_
    refine ok_icmp_ge (tgt := 33) dX6_countWith_9 (by decide) (fun hc => ?_) (fun hc => ?_)
    · replace h := it_pos hc h
      refine ok_perm [0, 1, 2, 3] rfl ?_
      exact hk _ _ _ h
    · replace h := it_neg hc h
      refine ok_aload_n dX6_countWith_12 0 rfl ?_
      refine okS_getR dX6_countWith_13 fl_X6_26 pr_1_2 ?_
      refine ok_iload_n dX6_countWith_16 3 rfl ?_
      obtain ⟨hi1, h⟩ := it_some h
      refine okS_iaload dX6_countWith_17 pa_4 hi1 ?_
      refine ok_iload_n dX6_countWith_18 1 rfl ?_
      refine ok_iand dX6_countWith_19 ?_
      refine ok_iload_n dX6_countWith_20 1 rfl ?_
      refine ok_icmp_ne (tgt := 27) dX6_countWith_21 (by decide) (fun hc => ?_) (fun hc => ?_)
      · replace h := it_neg hc h
        refine ok_iinc (v := x3 + 1) (L' := [(3, .int (x3 + 1)), (0, .ref 1), (1, .int c1), (2, .int x2)]) dX6_countWith_27 3 rfl (ii_1 _) (by decide) rfl ?_
        refine ok_goto (tgt := 4) dX6_countWith_30 (by decide) ?_
        refine ok_perm [1, 2, 3, 0] rfl ?_
        exact ih _ _ _ h
      · replace h := it_pos hc h
        refine ok_iinc (v := x2 + 1) (L' := [(2, .int (x2 + 1)), (0, .ref 1), (1, .int c1), (3, .int x3)]) dX6_countWith_24 2 rfl (ii_1 _) (by decide) rfl ?_
        refine ok_iinc (v := x3 + 1) (L' := [(3, .int (x3 + 1)), (2, .int (x2 + 1)), (0, .ref 1), (1, .int c1)]) dX6_countWith_27 3 rfl (ii_1 _) (by decide) rfl ?_
        refine ok_goto (tgt := 4) dX6_countWith_30 (by decide) ?_
        refine ok_perm [2, 3, 1, 0] rfl ?_
        exact ih _ _ _ h
set_option maxRecDepth 100000 in
set_option maxHeartbeats 4000000 in
theorem t_X6_countWith {S : Mm} {a1 : Int32} {out : Int32} (h : f_X6_countWith S a1 = some out) : Rs D_X6_countWith [.ref 1, .int a1] S (some (.int out)) S := by
  refine rs_of (by decide) rfl (Nat.le_of_ble_eq_true rfl) ?_
  unfold f_X6_countWith at h
  show Ok D_X6_countWith (0, 0) (0, 0) 0 [(0, .ref 1), (1, .int a1)] [] (St S) _
  refine ok_iconst (v := 0) dX6_countWith_0 ic_0 ?_
  refine ok_istore_n (L' := [(2, .int 0), (0, .ref 1), (1, .int a1)]) dX6_countWith_1 (by decide) rfl ?_
  refine ok_iconst (v := 0) dX6_countWith_2 ic_0 ?_
  refine ok_istore_n (L' := [(3, .int 0), (2, .int 0), (0, .ref 1), (1, .int a1)]) dX6_countWith_3 (by decide) rfl ?_
  refine ok_perm [2, 3, 1, 0] rfl ?_
  refine tlp_X6_countWith_4 (fun y2_2 y3_3 out4 h => ?_) _ _ _ _ h
  refine ok_iload_n dX6_countWith_33 2 rfl ?_
  exact okS_ret dX6_countWith_34 rfl rfl (by have e := Option.some.inj h; subst e; exact ⟨rfl, rfl⟩)
def f_X6_hasPiece (S : Mm) (a1 : Int32) : Option (Int32) :=
  (if a1 < 0 then some 0 else (if (S.1 1 4) ≤ a1 then some 0 else some 1))
set_option maxRecDepth 100000 in
set_option maxHeartbeats 4000000 in
theorem t_X6_hasPiece {S : Mm} {a1 : Int32} {out : Int32} (h : f_X6_hasPiece S a1 = some out) : Rs D_X6_hasPiece [.ref 1, .int a1] S (some (.int out)) S := by
  refine rs_of (by decide) rfl (Nat.le_of_ble_eq_true rfl) ?_
  unfold f_X6_hasPiece at h
  show Ok D_X6_hasPiece (0, 0) (0, 0) 0 [(0, .ref 1), (1, .int a1)] [] (St S) _
  refine ok_iload_n dX6_hasPiece_0 1 rfl ?_
  refine ok_if_lt (tgt := 16) dX6_hasPiece_1 (by decide) (fun hc => ?_) (fun hc => ?_)
  · replace h := it_pos hc h
    refine ok_iconst (v := 0) dX6_hasPiece_16 ic_0 ?_
    exact okS_ret dX6_hasPiece_17 rfl (by decide) (by have e := Option.some.inj h; subst e; exact ⟨rfl, rfl⟩)
  · replace h := it_neg hc h
    refine ok_iload_n dX6_hasPiece_4 1 rfl ?_
    refine ok_aload_n dX6_hasPiece_5 0 rfl ?_
    refine okS_getI dX6_hasPiece_6 fl_X6_33 pi_1_4 ?_
    refine ok_icmp_ge (tgt := 16) dX6_hasPiece_9 (by decide) (fun hc => ?_) (fun hc => ?_)
    · replace h := it_pos hc h
      refine ok_iconst (v := 0) dX6_hasPiece_16 ic_0 ?_
      exact okS_ret dX6_hasPiece_17 rfl (by decide) (by have e := Option.some.inj h; subst e; exact ⟨rfl, rfl⟩)
    · replace h := it_neg hc h
      refine ok_iconst (v := 1) dX6_hasPiece_12 ic_1 ?_
      refine ok_goto (tgt := 17) dX6_hasPiece_13 (by decide) ?_
      exact okS_ret dX6_hasPiece_17 rfl (by decide) (by have e := Option.some.inj h; subst e; exact ⟨rfl, rfl⟩)
def f_X6_dayOf (S : Mm) (a1 : Int32) : Option (Int32) :=
  ((f_X6_hasPiece S a1).bind fun r1 => (if r1 = 0 then some (-1) else (if inb a1 40 then some (S.1 3 a1.toNatClampNeg) else none)))
set_option maxRecDepth 100000 in
set_option maxHeartbeats 4000000 in
theorem t_X6_dayOf {S : Mm} {a1 : Int32} {out : Int32} (h : f_X6_dayOf S a1 = some out) : Rs D_X6_dayOf [.ref 1, .int a1] S (some (.int out)) S := by
  refine rs_of (by decide) rfl (Nat.le_of_ble_eq_true rfl) ?_
  unfold f_X6_dayOf at h
  show Ok D_X6_dayOf (0, 0) (0, 0) 0 [(0, .ref 1), (1, .int a1)] [] (St S) _
  refine ok_aload_n dX6_dayOf_0 0 rfl ?_
  refine ok_iload_n dX6_dayOf_1 1 rfl ?_
  obtain ⟨r1, e2, h⟩ := it_bind h
  refine okS_V (as := [.int a1]) (st := []) (r := some (.int r1)) (S' := S) dX6_dayOf_2 cv_X6_59 rfl po_1 (Nat.le_of_ble_eq_true rfl) ⟨⟨by decide, by decide⟩, rfl, rfl⟩ (t_X6_hasPiece e2) ?_
  show Ok D_X6_dayOf (0, 0) (0, 0) 5 [(0, .ref 1), (1, .int a1)] [.int r1] (St S) _
  refine ok_if_eq (tgt := 17) dX6_dayOf_5 (by decide) (fun hc => ?_) (fun hc => ?_)
  · replace h := it_pos hc h
    refine ok_iconst (v := (-1)) dX6_dayOf_17 ic_m1 ?_
    exact okS_ret dX6_dayOf_18 rfl rfl (by have e := Option.some.inj h; subst e; exact ⟨rfl, rfl⟩)
  · replace h := it_neg hc h
    refine ok_aload_n dX6_dayOf_8 0 rfl ?_
    refine okS_getR dX6_dayOf_9 fl_X6_23 pr_1_1 ?_
    refine ok_iload_n dX6_dayOf_12 1 rfl ?_
    obtain ⟨hi3, h⟩ := it_some h
    refine okS_iaload dX6_dayOf_13 pa_3 hi3 ?_
    refine ok_goto (tgt := 18) dX6_dayOf_14 (by decide) ?_
    exact okS_ret dX6_dayOf_18 rfl rfl (by have e := Option.some.inj h; subst e; exact ⟨rfl, rfl⟩)
def f_X6_setOf (S : Mm) (a1 : Int32) : Option (Int32) :=
  ((f_X6_hasPiece S a1).bind fun r1 => (if r1 = 0 then some 0 else (if inb a1 40 then some (S.1 4 a1.toNatClampNeg) else none)))
set_option maxRecDepth 100000 in
set_option maxHeartbeats 4000000 in
theorem t_X6_setOf {S : Mm} {a1 : Int32} {out : Int32} (h : f_X6_setOf S a1 = some out) : Rs D_X6_setOf [.ref 1, .int a1] S (some (.int out)) S := by
  refine rs_of (by decide) rfl (Nat.le_of_ble_eq_true rfl) ?_
  unfold f_X6_setOf at h
  show Ok D_X6_setOf (0, 0) (0, 0) 0 [(0, .ref 1), (1, .int a1)] [] (St S) _
  refine ok_aload_n dX6_setOf_0 0 rfl ?_
  refine ok_iload_n dX6_setOf_1 1 rfl ?_
  obtain ⟨r1, e2, h⟩ := it_bind h
  refine okS_V (as := [.int a1]) (st := []) (r := some (.int r1)) (S' := S) dX6_setOf_2 cv_X6_59 rfl po_1 (Nat.le_of_ble_eq_true rfl) ⟨⟨by decide, by decide⟩, rfl, rfl⟩ (t_X6_hasPiece e2) ?_
  show Ok D_X6_setOf (0, 0) (0, 0) 5 [(0, .ref 1), (1, .int a1)] [.int r1] (St S) _
  refine ok_if_eq (tgt := 17) dX6_setOf_5 (by decide) (fun hc => ?_) (fun hc => ?_)
  · replace h := it_pos hc h
    refine ok_iconst (v := 0) dX6_setOf_17 ic_0 ?_
    exact okS_ret dX6_setOf_18 rfl rfl (by have e := Option.some.inj h; subst e; exact ⟨rfl, rfl⟩)
  · replace h := it_neg hc h
    refine ok_aload_n dX6_setOf_8 0 rfl ?_
    refine okS_getR dX6_setOf_9 fl_X6_26 pr_1_2 ?_
    refine ok_iload_n dX6_setOf_12 1 rfl ?_
    obtain ⟨hi3, h⟩ := it_some h
    refine okS_iaload dX6_setOf_13 pa_4 hi3 ?_
    refine ok_goto (tgt := 18) dX6_setOf_14 (by decide) ?_
    exact okS_ret dX6_setOf_18 rfl rfl (by have e := Option.some.inj h; subst e; exact ⟨rfl, rfl⟩)
def f_X6_hasDay (S : Mm) (a1 : Int32) : Option (Int32) :=
  (if a1 < 0 then some 0 else (if (S.1 1 3) ≤ a1 then some 0 else some 1))
set_option maxRecDepth 100000 in
set_option maxHeartbeats 4000000 in
theorem t_X6_hasDay {S : Mm} {a1 : Int32} {out : Int32} (h : f_X6_hasDay S a1 = some out) : Rs D_X6_hasDay [.ref 1, .int a1] S (some (.int out)) S := by
  refine rs_of (by decide) rfl (Nat.le_of_ble_eq_true rfl) ?_
  unfold f_X6_hasDay at h
  show Ok D_X6_hasDay (0, 0) (0, 0) 0 [(0, .ref 1), (1, .int a1)] [] (St S) _
  refine ok_iload_n dX6_hasDay_0 1 rfl ?_
  refine ok_if_lt (tgt := 16) dX6_hasDay_1 (by decide) (fun hc => ?_) (fun hc => ?_)
  · replace h := it_pos hc h
    refine ok_iconst (v := 0) dX6_hasDay_16 ic_0 ?_
    exact okS_ret dX6_hasDay_17 rfl (by decide) (by have e := Option.some.inj h; subst e; exact ⟨rfl, rfl⟩)
  · replace h := it_neg hc h
    refine ok_iload_n dX6_hasDay_4 1 rfl ?_
    refine ok_aload_n dX6_hasDay_5 0 rfl ?_
    refine okS_getI dX6_hasDay_6 fl_X6_29 pi_1_3 ?_
    refine ok_icmp_ge (tgt := 16) dX6_hasDay_9 (by decide) (fun hc => ?_) (fun hc => ?_)
    · replace h := it_pos hc h
      refine ok_iconst (v := 0) dX6_hasDay_16 ic_0 ?_
      exact okS_ret dX6_hasDay_17 rfl (by decide) (by have e := Option.some.inj h; subst e; exact ⟨rfl, rfl⟩)
    · replace h := it_neg hc h
      refine ok_iconst (v := 1) dX6_hasDay_12 ic_1 ?_
      refine ok_goto (tgt := 17) dX6_hasDay_13 (by decide) ?_
      exact okS_ret dX6_hasDay_17 rfl (by decide) (by have e := Option.some.inj h; subst e; exact ⟨rfl, rfl⟩)
def f_X6_hasLevel (S : Mm) (a1 : Int32) : Option (Int32) :=
  (if a1 < 0 then some 0 else (if (S.1 2 0) < a1 then some 0 else some 1))
set_option maxRecDepth 100000 in
set_option maxHeartbeats 4000000 in
theorem t_X6_hasLevel {S : Mm} {a1 : Int32} {out : Int32} (h : f_X6_hasLevel S a1 = some out) : Rs D_X6_hasLevel [.ref 1, .int a1] S (some (.int out)) S := by
  refine rs_of (by decide) rfl (Nat.le_of_ble_eq_true rfl) ?_
  unfold f_X6_hasLevel at h
  show Ok D_X6_hasLevel (0, 0) (0, 0) 0 [(0, .ref 1), (1, .int a1)] [] (St S) _
  refine ok_iload_n dX6_hasLevel_0 1 rfl ?_
  refine ok_if_lt (tgt := 18) dX6_hasLevel_1 (by decide) (fun hc => ?_) (fun hc => ?_)
  · replace h := it_pos hc h
    refine ok_iconst (v := 0) dX6_hasLevel_18 ic_0 ?_
    exact okS_ret dX6_hasLevel_19 rfl (by decide) (by have e := Option.some.inj h; subst e; exact ⟨rfl, rfl⟩)
  · replace h := it_neg hc h
    refine ok_iload_n dX6_hasLevel_4 1 rfl ?_
    refine ok_aload_n dX6_hasLevel_5 0 rfl ?_
    refine okS_getR dX6_hasLevel_6 fl_X6_20 pr_1_0 ?_
    refine ok_iconst (v := 0) dX6_hasLevel_9 ic_0 ?_
    refine okS_ialoadL (j := 0) dX6_hasLevel_10 pa_2 (by decide) tnl_0 ?_
    refine ok_icmp_gt (tgt := 18) dX6_hasLevel_11 (by decide) (fun hc => ?_) (fun hc => ?_)
    · replace h := it_pos hc h
      refine ok_iconst (v := 0) dX6_hasLevel_18 ic_0 ?_
      exact okS_ret dX6_hasLevel_19 rfl (by decide) (by have e := Option.some.inj h; subst e; exact ⟨rfl, rfl⟩)
    · replace h := it_neg hc h
      refine ok_iconst (v := 1) dX6_hasLevel_14 ic_1 ?_
      refine ok_goto (tgt := 19) dX6_hasLevel_15 (by decide) ?_
      exact okS_ret dX6_hasLevel_19 rfl (by decide) (by have e := Option.some.inj h; subst e; exact ⟨rfl, rfl⟩)
def lp_X6_remove_13 (k : Int32 → Mm → Option (Mm)) (c1 : Int32) : Nat → Int32 → Mm → Option (Mm)
  | 0, _, _ => none
  | fuel + 1, x2, S => (if (S.1 1 4) ≤ x2 then k x2 S else (if inb x2 40 then (if inb (x2 - 1) 40 then (if inb x2 40 then (if inb (x2 - 1) 40 then lp_X6_remove_13 k c1 fuel (x2 + 1) (wr (wr S 3 (x2 - 1).toNatClampNeg (S.1 3 x2.toNatClampNeg)) 4 (x2 - 1).toNatClampNeg ((wr S 3 (x2 - 1).toNatClampNeg (S.1 3 x2.toNatClampNeg)).1 4 x2.toNatClampNeg)) else none) else none) else none) else none))
def f_X6_remove (S : Mm) (a1 : Int32) : Option (Mm) :=
  ((f_X6_hasPiece S a1).bind fun r1 => (if r1 = 0 then some S else lp_X6_remove_13 (fun y2_7 S8 => some (wr S8 1 4 ((S8.1 1 4) - 1))) a1 100000 (a1 + 1) S))
set_option maxRecDepth 100000 in
set_option maxHeartbeats 4000000 in
theorem tlp_X6_remove_13 {k : Int32 → Mm → Option (Mm)} {c1 : Int32} (hk : ∀ (x2 : Int32) (S : Mm) (out : Mm), k x2 S = some out → Ok D_X6_remove (0, 0) (0, 0) 55 [(0, .ref 1), (1, .int c1), (2, .int x2)] [] (St S) (An none out)) : ∀ (fuel : Nat) (x2 : Int32) (S : Mm) (out : Mm), lp_X6_remove_13 k c1 fuel x2 S = some out → Ok D_X6_remove (0, 0) (0, 0) 13 [(0, .ref 1), (1, .int c1), (2, .int x2)] [] (St S) (An none out) := by
  intro fuel
  induction fuel with
  | zero => intro x2 S out h; cases h
  | succ fuel ih =>
    intro x2 S out h
    rw [lp_X6_remove_13] at h
    refine ok_iload_n dX6_remove_13 2 rfl ?_
    refine ok_aload_n dX6_remove_14 0 rfl ?_
    refine okS_getI dX6_remove_15 fl_X6_33 pi_1_4 ?_
    refine ok_icmp_ge (tgt := 55) dX6_remove_18 (by decide) (fun hc => ?_) (fun hc => ?_)
    · replace h := it_pos hc h
      refine ok_perm [0, 1, 2] rfl ?_
      exact hk _ _ _ h
    · replace h := it_neg hc h
      refine ok_aload_n dX6_remove_21 0 rfl ?_
      refine okS_getR dX6_remove_22 fl_X6_23 pr_1_1 ?_
      refine ok_iload_n dX6_remove_25 2 rfl ?_
      refine ok_iconst (v := 1) dX6_remove_26 ic_1 ?_
      refine ok_isub dX6_remove_27 ?_
      refine ok_aload_n dX6_remove_28 0 rfl ?_
      refine okS_getR dX6_remove_29 fl_X6_23 pr_1_1 ?_
      refine ok_iload_n dX6_remove_32 2 rfl ?_
      obtain ⟨hi3, h⟩ := it_some h
      refine okS_iaload dX6_remove_33 pa_3 hi3 ?_
      obtain ⟨hi4, h⟩ := it_some h
      refine okS_iastore dX6_remove_34 pa_3 hi4 ?_
      refine ok_aload_n dX6_remove_35 0 rfl ?_
      refine okS_getR dX6_remove_36 fl_X6_26 pr_1_2 ?_
      refine ok_iload_n dX6_remove_39 2 rfl ?_
      refine ok_iconst (v := 1) dX6_remove_40 ic_1 ?_
      refine ok_isub dX6_remove_41 ?_
      refine ok_aload_n dX6_remove_42 0 rfl ?_
      refine okS_getR dX6_remove_43 fl_X6_26 pr_1_2 ?_
      refine ok_iload_n dX6_remove_46 2 rfl ?_
      obtain ⟨hi5, h⟩ := it_some h
      refine okS_iaload dX6_remove_47 pa_4 hi5 ?_
      obtain ⟨hi6, h⟩ := it_some h
      refine okS_iastore dX6_remove_48 pa_4 hi6 ?_
      refine ok_iinc (v := x2 + 1) (L' := [(2, .int (x2 + 1)), (0, .ref 1), (1, .int c1)]) dX6_remove_49 2 rfl (ii_1 _) (by decide) rfl ?_
      refine ok_goto (tgt := 13) dX6_remove_52 (by decide) ?_
      refine ok_perm [1, 2, 0] rfl ?_
      exact ih _ _ _ h
set_option maxRecDepth 100000 in
set_option maxHeartbeats 4000000 in
theorem t_X6_remove {S : Mm} {a1 : Int32} {out : Mm} (h : f_X6_remove S a1 = some out) : Rs D_X6_remove [.ref 1, .int a1] S none out := by
  refine rs_of (by decide) rfl (Nat.le_of_ble_eq_true rfl) ?_
  unfold f_X6_remove at h
  show Ok D_X6_remove (0, 0) (0, 0) 0 [(0, .ref 1), (1, .int a1)] [] (St S) _
  refine ok_aload_n dX6_remove_0 0 rfl ?_
  refine ok_iload_n dX6_remove_1 1 rfl ?_
  obtain ⟨r1, e2, h⟩ := it_bind h
  refine okS_V (as := [.int a1]) (st := []) (r := some (.int r1)) (S' := S) dX6_remove_2 cv_X6_59 rfl po_1 (Nat.le_of_ble_eq_true rfl) ⟨⟨by decide, by decide⟩, rfl, rfl⟩ (t_X6_hasPiece e2) ?_
  show Ok D_X6_remove (0, 0) (0, 0) 5 [(0, .ref 1), (1, .int a1)] [.int r1] (St S) _
  refine ok_if_ne (tgt := 9) dX6_remove_5 (by decide) (fun hc => ?_) (fun hc => ?_)
  · replace h := it_neg hc h
    refine ok_iload_n dX6_remove_9 1 rfl ?_
    refine ok_iconst (v := 1) dX6_remove_10 ic_1 ?_
    refine ok_iadd dX6_remove_11 ?_
    refine ok_istore_n (L' := [(2, .int (a1 + 1)), (0, .ref 1), (1, .int a1)]) dX6_remove_12 (by decide) rfl ?_
    refine ok_perm [1, 2, 0] rfl ?_
    refine tlp_X6_remove_13 (fun y2_7 S8 out9 h => ?_) _ _ _ _ h
    refine ok_aload_n dX6_remove_55 0 rfl ?_
    refine ok_dup dX6_remove_56 rfl ?_
    refine okS_getI dX6_remove_57 fl_X6_33 pi_1_4 ?_
    refine ok_iconst (v := 1) dX6_remove_60 ic_1 ?_
    refine ok_isub dX6_remove_61 ?_
    refine okS_putI dX6_remove_62 fl_X6_33 pi_1_4 ⟨rfl, rfl⟩ ?_
    exact okS_retv dX6_remove_65 rfl (by have e := Option.some.inj h; subst e; exact ⟨rfl, rfl⟩)
  · replace h := it_pos hc h
    exact okS_retv dX6_remove_8 rfl (by have e := Option.some.inj h; subst e; exact ⟨rfl, rfl⟩)
def f_X6_putOn (S : Mm) (a1 : Int32) (a2 : Int32) : Option (Mm) :=
  ((f_X6_hasPiece S a1).bind fun r1 => (if r1 = 0 then some S else (if inb a1 40 then some (wr S 3 a1.toNatClampNeg a2) else none)))
set_option maxRecDepth 100000 in
set_option maxHeartbeats 4000000 in
theorem t_X6_putOn {S : Mm} {a1 : Int32} {a2 : Int32} {out : Mm} (h : f_X6_putOn S a1 a2 = some out) : Rs D_X6_putOn [.ref 1, .int a1, .int a2] S none out := by
  refine rs_of (by decide) rfl (Nat.le_of_ble_eq_true rfl) ?_
  unfold f_X6_putOn at h
  show Ok D_X6_putOn (0, 0) (0, 0) 0 [(0, .ref 1), (1, .int a1), (2, .int a2)] [] (St S) _
  refine ok_aload_n dX6_putOn_0 0 rfl ?_
  refine ok_iload_n dX6_putOn_1 1 rfl ?_
  obtain ⟨r1, e2, h⟩ := it_bind h
  refine okS_V (as := [.int a1]) (st := []) (r := some (.int r1)) (S' := S) dX6_putOn_2 cv_X6_59 rfl po_1 (Nat.le_of_ble_eq_true rfl) ⟨⟨by decide, by decide⟩, rfl, rfl⟩ (t_X6_hasPiece e2) ?_
  show Ok D_X6_putOn (0, 0) (0, 0) 5 [(0, .ref 1), (1, .int a1), (2, .int a2)] [.int r1] (St S) _
  refine ok_if_eq (tgt := 15) dX6_putOn_5 (by decide) (fun hc => ?_) (fun hc => ?_)
  · replace h := it_pos hc h
    exact okS_retv dX6_putOn_15 rfl (by have e := Option.some.inj h; subst e; exact ⟨rfl, rfl⟩)
  · replace h := it_neg hc h
    refine ok_aload_n dX6_putOn_8 0 rfl ?_
    refine okS_getR dX6_putOn_9 fl_X6_23 pr_1_1 ?_
    refine ok_iload_n dX6_putOn_12 1 rfl ?_
    refine ok_iload_n dX6_putOn_13 2 rfl ?_
    obtain ⟨hi3, h⟩ := it_some h
    refine okS_iastore dX6_putOn_14 pa_3 hi3 ?_
    exact okS_retv dX6_putOn_15 rfl (by have e := Option.some.inj h; subst e; exact ⟨rfl, rfl⟩)
def lp_X6_hasPieceFrom_2 (k : Int32 → Option (Int32)) (S : Mm) (c1 : Int32) : Nat → Int32 → Option (Int32)
  | 0, _ => none
  | fuel + 1, x2 => (if (S.1 1 4) ≤ x2 then k x2 else (if inb x2 40 then (if (S.1 3 x2.toNatClampNeg) < c1 then lp_X6_hasPieceFrom_2 k S c1 fuel (x2 + 1) else some 1) else none))
def f_X6_hasPieceFrom (S : Mm) (a1 : Int32) : Option (Int32) :=
  lp_X6_hasPieceFrom_2 (fun y2_2 => some 0) S a1 100000 0
set_option maxRecDepth 100000 in
set_option maxHeartbeats 4000000 in
theorem tlp_X6_hasPieceFrom_2 {k : Int32 → Option (Int32)} {S : Mm} {c1 : Int32} (hk : ∀ (x2 : Int32) (out : Int32), k x2 = some out → Ok D_X6_hasPieceFrom (0, 0) (0, 0) 28 [(0, .ref 1), (1, .int c1), (2, .int x2)] [] (St S) (An (some (.int out)) S)) : ∀ (fuel : Nat) (x2 : Int32) (out : Int32), lp_X6_hasPieceFrom_2 k S c1 fuel x2 = some out → Ok D_X6_hasPieceFrom (0, 0) (0, 0) 2 [(0, .ref 1), (1, .int c1), (2, .int x2)] [] (St S) (An (some (.int out)) S) := by
  intro fuel
  induction fuel with
  | zero => intro x2 out h; cases h
  | succ fuel ih =>
    intro x2 out h
    rw [lp_X6_hasPieceFrom_2] at h
    refine ok_iload_n dX6_hasPieceFrom_2 2 rfl ?_
    refine ok_aload_n dX6_hasPieceFrom_3 0 rfl ?_
    refine okS_getI dX6_hasPieceFrom_4 fl_X6_33 pi_1_4 ?_
    refine ok_icmp_ge (tgt := 28) dX6_hasPieceFrom_7 (by decide) (fun hc => ?_) (fun hc => ?_)
    · replace h := it_pos hc h
      refine ok_perm [0, 1, 2] rfl ?_
      exact hk _ _ h
    · replace h := it_neg hc h
      refine ok_aload_n dX6_hasPieceFrom_10 0 rfl ?_
      refine okS_getR dX6_hasPieceFrom_11 fl_X6_23 pr_1_1 ?_
      refine ok_iload_n dX6_hasPieceFrom_14 2 rfl ?_
      obtain ⟨hi1, h⟩ := it_some h
      refine okS_iaload dX6_hasPieceFrom_15 pa_3 hi1 ?_
      refine ok_iload_n dX6_hasPieceFrom_16 1 rfl ?_
      refine ok_icmp_lt (tgt := 22) dX6_hasPieceFrom_17 (by decide) (fun hc => ?_) (fun hc => ?_)
      · replace h := it_pos hc h
        refine ok_iinc (v := x2 + 1) (L' := [(2, .int (x2 + 1)), (0, .ref 1), (1, .int c1)]) dX6_hasPieceFrom_22 2 rfl (ii_1 _) (by decide) rfl ?_
        refine ok_goto (tgt := 2) dX6_hasPieceFrom_25 (by decide) ?_
        refine ok_perm [1, 2, 0] rfl ?_
        exact ih _ _ h
      · replace h := it_neg hc h
        refine ok_iconst (v := 1) dX6_hasPieceFrom_20 ic_1 ?_
        exact okS_ret dX6_hasPieceFrom_21 rfl (by decide) (by have e := Option.some.inj h; subst e; exact ⟨rfl, rfl⟩)
set_option maxRecDepth 100000 in
set_option maxHeartbeats 4000000 in
theorem t_X6_hasPieceFrom {S : Mm} {a1 : Int32} {out : Int32} (h : f_X6_hasPieceFrom S a1 = some out) : Rs D_X6_hasPieceFrom [.ref 1, .int a1] S (some (.int out)) S := by
  refine rs_of (by decide) rfl (Nat.le_of_ble_eq_true rfl) ?_
  unfold f_X6_hasPieceFrom at h
  show Ok D_X6_hasPieceFrom (0, 0) (0, 0) 0 [(0, .ref 1), (1, .int a1)] [] (St S) _
  refine ok_iconst (v := 0) dX6_hasPieceFrom_0 ic_0 ?_
  refine ok_istore_n (L' := [(2, .int 0), (0, .ref 1), (1, .int a1)]) dX6_hasPieceFrom_1 (by decide) rfl ?_
  refine ok_perm [1, 2, 0] rfl ?_
  refine tlp_X6_hasPieceFrom_2 (fun y2_2 out3 h => ?_) _ _ _ h
  refine ok_iconst (v := 0) dX6_hasPieceFrom_28 ic_0 ?_
  exact okS_ret dX6_hasPieceFrom_29 rfl (by decide) (by have e := Option.some.inj h; subst e; exact ⟨rfl, rfl⟩)
def f_X6_setDayCount (S : Mm) (a1 : Int32) : Option (Mm) :=
  some (wr S 1 3 (if 1 < (if 12 < a1 then 12 else a1) then (if 12 < a1 then 12 else a1) else 1))
set_option maxRecDepth 100000 in
set_option maxHeartbeats 4000000 in
theorem t_X6_setDayCount {S : Mm} {a1 : Int32} {out : Mm} (h : f_X6_setDayCount S a1 = some out) : Rs D_X6_setDayCount [.ref 1, .int a1] S none out := by
  refine rs_of (by decide) rfl (Nat.le_of_ble_eq_true rfl) ?_
  unfold f_X6_setDayCount at h
  show Ok D_X6_setDayCount (0, 0) (0, 0) 0 [(0, .ref 1), (1, .int a1)] [] (St S) _
  refine ok_aload_n dX6_setDayCount_0 0 rfl ?_
  refine ok_iconst (v := 1) dX6_setDayCount_1 ic_1 ?_
  refine ok_iload_n dX6_setDayCount_2 1 rfl ?_
  refine ok_bipush (v := 12) dX6_setDayCount_3 bi_12 ?_
  refine ok_min dX6_setDayCount_5 cv_X6_50 ⟨by decide, Nat.le_of_ble_eq_true rfl, by decide, by decide⟩ ?_
  refine ok_max dX6_setDayCount_8 cv_X6_56 ⟨by decide, Nat.le_of_ble_eq_true rfl, by decide, by decide⟩ ?_
  refine okS_putI dX6_setDayCount_11 fl_X6_29 pi_1_3 ⟨rfl, rfl⟩ ?_
  exact okS_retv dX6_setDayCount_14 rfl (by have e := Option.some.inj h; subst e; exact ⟨rfl, rfl⟩)
def f_X6_termOf (S : Mm) (a1 : Int32) : Option (Int32) :=
  ((f_X6_isTerm S a1).bind fun r1 => (if r1 = 0 then some (-1) else (if inb a1 4 then some (S.1 2 a1.toNatClampNeg) else none)))
set_option maxRecDepth 100000 in
set_option maxHeartbeats 4000000 in
theorem t_X6_termOf {S : Mm} {a1 : Int32} {out : Int32} (h : f_X6_termOf S a1 = some out) : Rs D_X6_termOf [.ref 1, .int a1] S (some (.int out)) S := by
  refine rs_of (by decide) rfl (Nat.le_of_ble_eq_true rfl) ?_
  unfold f_X6_termOf at h
  show Ok D_X6_termOf (0, 0) (0, 0) 0 [(0, .ref 1), (1, .int a1)] [] (St S) _
  refine ok_iload_n dX6_termOf_0 1 rfl ?_
  obtain ⟨r1, e2, h⟩ := it_bind h
  refine okS_S (as := [.int a1]) (st := []) (r := some (.int r1)) (S' := S) dX6_termOf_1 cv_X6_36 rfl (Nat.le_of_ble_eq_true rfl) ⟨⟨by decide, by decide⟩, rfl, rfl⟩ (t_X6_isTerm e2) ?_
  show Ok D_X6_termOf (0, 0) (0, 0) 4 [(0, .ref 1), (1, .int a1)] [.int r1] (St S) _
  refine ok_if_eq (tgt := 16) dX6_termOf_4 (by decide) (fun hc => ?_) (fun hc => ?_)
  · replace h := it_pos hc h
    refine ok_iconst (v := (-1)) dX6_termOf_16 ic_m1 ?_
    exact okS_ret dX6_termOf_17 rfl rfl (by have e := Option.some.inj h; subst e; exact ⟨rfl, rfl⟩)
  · replace h := it_neg hc h
    refine ok_aload_n dX6_termOf_7 0 rfl ?_
    refine okS_getR dX6_termOf_8 fl_X6_20 pr_1_0 ?_
    refine ok_iload_n dX6_termOf_11 1 rfl ?_
    obtain ⟨hi3, h⟩ := it_some h
    refine okS_iaload dX6_termOf_12 pa_2 hi3 ?_
    refine ok_goto (tgt := 17) dX6_termOf_13 (by decide) ?_
    exact okS_ret dX6_termOf_17 rfl rfl (by have e := Option.some.inj h; subst e; exact ⟨rfl, rfl⟩)
def f_X6_setTerm (S : Mm) (a1 : Int32) (a2 : Int32) : Option (Mm) :=
  ((f_X6_isInBounds S a1 a2).bind fun r1 => (if r1 = 0 then some S else (if inb a1 4 then some (wr S 2 a1.toNatClampNeg a2) else none)))
set_option maxRecDepth 100000 in
set_option maxHeartbeats 4000000 in
theorem t_X6_setTerm {S : Mm} {a1 : Int32} {a2 : Int32} {out : Mm} (h : f_X6_setTerm S a1 a2 = some out) : Rs D_X6_setTerm [.ref 1, .int a1, .int a2] S none out := by
  refine rs_of (by decide) rfl (Nat.le_of_ble_eq_true rfl) ?_
  unfold f_X6_setTerm at h
  show Ok D_X6_setTerm (0, 0) (0, 0) 0 [(0, .ref 1), (1, .int a1), (2, .int a2)] [] (St S) _
  refine ok_iload_n dX6_setTerm_0 1 rfl ?_
  refine ok_iload_n dX6_setTerm_1 2 rfl ?_
  obtain ⟨r1, e2, h⟩ := it_bind h
  refine okS_S (as := [.int a1, .int a2]) (st := []) (r := some (.int r1)) (S' := S) dX6_setTerm_2 cv_X6_46 rfl (Nat.le_of_ble_eq_true rfl) ⟨⟨by decide, by decide⟩, rfl, rfl⟩ (t_X6_isInBounds e2) ?_
  show Ok D_X6_setTerm (0, 0) (0, 0) 5 [(0, .ref 1), (1, .int a1), (2, .int a2)] [.int r1] (St S) _
  refine ok_if_eq (tgt := 15) dX6_setTerm_5 (by decide) (fun hc => ?_) (fun hc => ?_)
  · replace h := it_pos hc h
    exact okS_retv dX6_setTerm_15 rfl (by have e := Option.some.inj h; subst e; exact ⟨rfl, rfl⟩)
  · replace h := it_neg hc h
    refine ok_aload_n dX6_setTerm_8 0 rfl ?_
    refine okS_getR dX6_setTerm_9 fl_X6_20 pr_1_0 ?_
    refine ok_iload_n dX6_setTerm_12 1 rfl ?_
    refine ok_iload_n dX6_setTerm_13 2 rfl ?_
    obtain ⟨hi3, h⟩ := it_some h
    refine okS_iastore dX6_setTerm_14 pa_2 hi3 ?_
    exact okS_retv dX6_setTerm_15 rfl (by have e := Option.some.inj h; subst e; exact ⟨rfl, rfl⟩)
