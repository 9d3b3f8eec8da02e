def f_X5_costFrom (S : Mm) (a2 : Int32) (a3 : Int32) (a4 : Int32) : Option (Int32) :=
  ((f_X8_isDay S a2).bind fun r1 => (if r1 = 0 then some 0 else (if a4 < 0 then some 0 else (if 3 < a4 then some 0 else (if inb a2 12 then (if inb a4 4 then ((f_X8_costOfRise S a3 a4).bind fun r5 => some ((S.1 (38 + a2.toNatClampNeg) a4.toNatClampNeg) + r5)) else none) else none)))))
set_option maxRecDepth 100000 in
set_option maxHeartbeats 4000000 in
theorem t_X5_costFrom {S : Mm} {a2 : Int32} {a3 : Int32} {a4 : Int32} {out : Int32} (h : f_X5_costFrom S a2 a3 a4 = some out) : Rs D_X5_costFrom [.ref 26, .ref 6, .int a2, .int a3, .int a4] S (some (.int out)) S := by
  refine rs_of (by decide) rfl (Nat.le_of_ble_eq_true rfl) ?_
  unfold f_X5_costFrom at h
  show Ok D_X5_costFrom (0, 0) (0, 0) 0 [(0, .ref 26), (1, .ref 6), (2, .int a2), (3, .int a3), (4, .int a4)] [] (St S) _
  refine ok_iload_n dX5_costFrom_0 2 rfl ?_
  obtain ⟨r1, e2, h⟩ := it_bind h
  refine okS_S (as := [.int a2]) (st := []) (r := some (.int r1)) (S' := S) dX5_costFrom_1 cv_X5_42 rfl (Nat.le_of_ble_eq_true rfl) ⟨⟨by decide, by decide⟩, rfl, rfl⟩ (t_X8_isDay e2) ?_
  show Ok D_X5_costFrom (0, 0) (0, 0) 4 [(0, .ref 26), (1, .ref 6), (2, .int a2), (3, .int a3), (4, .int a4)] [.int r1] (St S) _
  refine ok_if_eq (tgt := 22) dX5_costFrom_4 (by decide) (fun hc => ?_) (fun hc => ?_)
  · replace h := it_pos hc h
    refine ok_iconst (v := 0) dX5_costFrom_22 ic_0 ?_
    refine ok_istore (L' := [(5, .int 0), (0, .ref 26), (1, .ref 6), (2, .int a2), (3, .int a3), (4, .int a4)]) dX5_costFrom_23 (by decide) rfl ?_
    refine ok_iload dX5_costFrom_25 0 rfl ?_
    refine ok_if_eq (tgt := 50) dX5_costFrom_27 (by decide) (fun hc => ?_) (fun hc => absurd hc (by decide))
    refine ok_iconst (v := 0) dX5_costFrom_50 ic_0 ?_
    exact okS_ret dX5_costFrom_51 rfl rfl (by have e := Option.some.inj h; subst e; exact ⟨rfl, rfl⟩)
  · replace h := it_neg hc h
    refine ok_iload dX5_costFrom_7 4 rfl ?_
    refine ok_if_lt (tgt := 22) dX5_costFrom_9 (by decide) (fun hc => ?_) (fun hc => ?_)
    · replace h := it_pos hc h
      refine ok_iconst (v := 0) dX5_costFrom_22 ic_0 ?_
      refine ok_istore (L' := [(5, .int 0), (0, .ref 26), (1, .ref 6), (2, .int a2), (3, .int a3), (4, .int a4)]) dX5_costFrom_23 (by decide) rfl ?_
      refine ok_iload dX5_costFrom_25 0 rfl ?_
      refine ok_if_eq (tgt := 50) dX5_costFrom_27 (by decide) (fun hc => ?_) (fun hc => absurd hc (by decide))
      refine ok_iconst (v := 0) dX5_costFrom_50 ic_0 ?_
      exact okS_ret dX5_costFrom_51 rfl rfl (by have e := Option.some.inj h; subst e; exact ⟨rfl, rfl⟩)
    · replace h := it_neg hc h
      refine ok_iload dX5_costFrom_12 4 rfl ?_
      refine ok_iconst (v := 3) dX5_costFrom_14 ic_3 ?_
      refine ok_icmp_gt (tgt := 22) dX5_costFrom_15 (by decide) (fun hc => ?_) (fun hc => ?_)
      · replace h := it_pos hc h
        refine ok_iconst (v := 0) dX5_costFrom_22 ic_0 ?_
        refine ok_istore (L' := [(5, .int 0), (0, .ref 26), (1, .ref 6), (2, .int a2), (3, .int a3), (4, .int a4)]) dX5_costFrom_23 (by decide) rfl ?_
        refine ok_iload dX5_costFrom_25 0 rfl ?_
        refine ok_if_eq (tgt := 50) dX5_costFrom_27 (by decide) (fun hc => ?_) (fun hc => absurd hc (by decide))
        refine ok_iconst (v := 0) dX5_costFrom_50 ic_0 ?_
        exact okS_ret dX5_costFrom_51 rfl rfl (by have e := Option.some.inj h; subst e; exact ⟨rfl, rfl⟩)
      · replace h := it_neg hc h
        refine ok_iconst (v := 1) dX5_costFrom_18 ic_1 ?_
        refine ok_goto (tgt := 23) dX5_costFrom_19 (by decide) ?_
        refine ok_istore (L' := [(5, .int 1), (0, .ref 26), (1, .ref 6), (2, .int a2), (3, .int a3), (4, .int a4)]) dX5_costFrom_23 (by decide) rfl ?_
        refine ok_iload dX5_costFrom_25 0 rfl ?_
        refine ok_if_eq (tgt := 50) dX5_costFrom_27 (by decide) (fun hc => absurd hc (by decide)) (fun hc => ?_)
        refine ok_aload_n dX5_costFrom_30 1 rfl ?_
        refine okS_getR dX5_costFrom_31 fl_X5_20 pr_26_2 ?_
        refine ok_iload_n dX5_costFrom_34 3 rfl ?_
        obtain ⟨hi3, h⟩ := it_some h
        refine okS_row dX5_costFrom_35 pg_37 hi3 ?_
        refine ok_iload dX5_costFrom_36 5 rfl ?_
        obtain ⟨hi4, h⟩ := it_some h
        refine okS_iaload dX5_costFrom_38 (pq_37 _ (inb_lt hi3)) hi4 ?_
        refine ok_aload_n dX5_costFrom_39 2 rfl ?_
        refine ok_iload_n dX5_costFrom_40 4 rfl ?_
        refine ok_iload dX5_costFrom_41 5 rfl ?_
        obtain ⟨r5, e6, h⟩ := it_bind h
        refine okS_V (as := [.int a3, .int a4]) (st := [.int (S.1 (38 + a2.toNatClampNeg) a4.toNatClampNeg)]) (r := some (.int r5)) (S' := S) dX5_costFrom_43 cv_X5_58 rfl po_6 (Nat.le_of_ble_eq_true rfl) ⟨⟨by decide, by decide⟩, rfl, rfl⟩ (t_X8_costOfRise e6) ?_
        show Ok D_X5_costFrom (0, 0) (0, 0) 46 [(5, .int 1), (0, .ref 26), (1, .ref 6), (2, .int a2), (3, .int a3), (4, .int a4)] [.int r5, .int (S.1 (38 + a2.toNatClampNeg) a4.toNatClampNeg)] (St S) _
        refine ok_iadd dX5_costFrom_46 ?_
        refine ok_goto (tgt := 51) dX5_costFrom_47 (by decide) ?_
        exact okS_ret dX5_costFrom_51 rfl rfl (by have e := Option.some.inj h; subst e; exact ⟨rfl, rfl⟩)
def lp_X5_leastFrom_6 (k : Int32 → Int32 → Option (Int32)) (S : Mm) (c2 : Int32) (c3 : Int32) : Nat → Int32 → Int32 → Option (Int32)
  | 0, _, _ => none
  | fuel + 1, x4, x5 => ((f_X8_highest S).bind fun r1 => (if r1 < x5 then k x4 x5 else ((f_X5_costFrom S c2 c3 x5).bind fun r3 => ((f_X5_costFrom S c2 c3 x4).bind fun r5 => (if r5 ≤ r3 then lp_X5_leastFrom_6 k S c2 c3 fuel x4 (x5 + 1) else lp_X5_leastFrom_6 k S c2 c3 fuel x5 (x5 + 1))))))
def f_X5_leastFrom (S : Mm) (a2 : Int32) (a3 : Int32) : Option (Int32) :=
  lp_X5_leastFrom_6 (fun y4_7 y5_8 => some y4_7) S a2 a3 100000 0 1
set_option maxRecDepth 100000 in
set_option maxHeartbeats 4000000 in
theorem tlp_X5_leastFrom_6 {k : Int32 → Int32 → Option (Int32)} {S : Mm} {c2 : Int32} {c3 : Int32} (hk : ∀ (x4 x5 : Int32) (out : Int32), k x4 x5 = some out → Ok D_X5_leastFrom (0, 0) (0, 0) 46 [(0, .ref 26), (1, .ref 6), (2, .int c2), (3, .int c3), (4, .int x4), (5, .int x5)] [] (St S) (An (some (.int out)) S)) : ∀ (fuel : Nat) (x4 x5 : Int32) (out : Int32), lp_X5_leastFrom_6 k S c2 c3 fuel x4 x5 = some out → Ok D_X5_leastFrom (0, 0) (0, 0) 6 [(0, .ref 26), (1, .ref 6), (2, .int c2), (3, .int c3), (4, .int x4), (5, .int x5)] [] (St S) (An (some (.int out)) S) := by
  intro fuel
  induction fuel with
  | zero => intro x4 x5 out h; cases h
  | succ fuel ih =>
    intro x4 x5 out h
    rw [lp_X5_leastFrom_6] at h
    refine ok_iload dX5_leastFrom_6 5 rfl ?_
    refine ok_aload_n dX5_leastFrom_8 1 rfl ?_
    obtain ⟨r1, e2, h⟩ := it_bind h
    refine okS_V (as := []) (st := [.int x5]) (r := some (.int r1)) (S' := S) dX5_leastFrom_9 cv_X5_51 rfl po_6 (Nat.le_of_ble_eq_true rfl) ⟨⟨by decide, by decide⟩, rfl, rfl⟩ (t_X8_highest e2) ?_
    show Ok D_X5_leastFrom (0, 0) (0, 0) 12 [(0, .ref 26), (1, .ref 6), (2, .int c2), (3, .int c3), (4, .int x4), (5, .int x5)] [.int r1, .int x5] (St S) _
    refine ok_icmp_gt (tgt := 46) dX5_leastFrom_12 (by decide) (fun hc => ?_) (fun hc => ?_)
    · replace h := it_pos hc h
      refine ok_perm [0, 1, 2, 3, 4, 5] rfl ?_
      exact hk _ _ _ h
    · replace h := it_neg hc h
      refine ok_aload_n dX5_leastFrom_15 0 rfl ?_
      refine ok_aload_n dX5_leastFrom_16 1 rfl ?_
      refine ok_iload_n dX5_leastFrom_17 2 rfl ?_
      refine ok_iload_n dX5_leastFrom_18 3 rfl ?_
      refine ok_iload dX5_leastFrom_19 5 rfl ?_
      obtain ⟨r3, e4, h⟩ := it_bind h
      refine okS_V (as := [.ref 6, .int c2, .int c3, .int x5]) (st := []) (r := some (.int r3)) (S' := S) dX5_leastFrom_21 cv_X5_31 rfl po_26 (Nat.le_of_ble_eq_true rfl) ⟨⟨by decide, by decide⟩, rfl, rfl⟩ (t_X5_costFrom e4) ?_
      show Ok D_X5_leastFrom (0, 0) (0, 0) 24 [(0, .ref 26), (1, .ref 6), (2, .int c2), (3, .int c3), (4, .int x4), (5, .int x5)] [.int r3] (St S) _
      refine ok_aload_n dX5_leastFrom_24 0 rfl ?_
      refine ok_aload_n dX5_leastFrom_25 1 rfl ?_
      refine ok_iload_n dX5_leastFrom_26 2 rfl ?_
      refine ok_iload_n dX5_leastFrom_27 3 rfl ?_
      refine ok_iload dX5_leastFrom_28 4 rfl ?_
      obtain ⟨r5, e6, h⟩ := it_bind h
      refine okS_V (as := [.ref 6, .int c2, .int c3, .int x4]) (st := [.int r3]) (r := some (.int r5)) (S' := S) dX5_leastFrom_30 cv_X5_31 rfl po_26 (Nat.le_of_ble_eq_true rfl) ⟨⟨by decide, by decide⟩, rfl, rfl⟩ (t_X5_costFrom e6) ?_
      show Ok D_X5_leastFrom (0, 0) (0, 0) 33 [(0, .ref 26), (1, .ref 6), (2, .int c2), (3, .int c3), (4, .int x4), (5, .int x5)] [.int r5, .int r3] (St S) _
      refine ok_icmp_ge (tgt := 40) dX5_leastFrom_33 (by decide) (fun hc => ?_) (fun hc => ?_)
      · replace h := it_pos hc h
        refine ok_iinc (v := x5 + 1) (L' := [(5, .int (x5 + 1)), (0, .ref 26), (1, .ref 6), (2, .int c2), (3, .int c3), (4, .int x4)]) dX5_leastFrom_40 5 rfl (ii_1 _) (by decide) rfl ?_
        refine ok_goto (tgt := 6) dX5_leastFrom_43 (by decide) ?_
        refine ok_perm [1, 2, 3, 4, 5, 0] rfl ?_
        exact ih _ _ _ h
      · replace h := it_neg hc h
        refine ok_iload dX5_leastFrom_36 5 rfl ?_
        refine ok_istore (L' := [(4, .int x5), (0, .ref 26), (1, .ref 6), (2, .int c2), (3, .int c3), (5, .int x5)]) dX5_leastFrom_38 (by decide) rfl ?_
        refine ok_iinc (v := x5 + 1) (L' := [(5, .int (x5 + 1)), (4, .int x5), (0, .ref 26), (1, .ref 6), (2, .int c2), (3, .int c3)]) dX5_leastFrom_40 5 rfl (ii_1 _) (by decide) rfl ?_
        refine ok_goto (tgt := 6) dX5_leastFrom_43 (by decide) ?_
        refine ok_perm [2, 3, 4, 5, 1, 0] rfl ?_
        exact ih _ _ _ h
set_option maxRecDepth 100000 in
set_option maxHeartbeats 4000000 in
theorem t_X5_leastFrom {S : Mm} {a2 : Int32} {a3 : Int32} {out : Int32} (h : f_X5_leastFrom S a2 a3 = some out) : Rs D_X5_leastFrom [.ref 26, .ref 6, .int a2, .int a3] S (some (.int out)) S := by
  refine rs_of (by decide) rfl (Nat.le_of_ble_eq_true rfl) ?_
  unfold f_X5_leastFrom at h
  show Ok D_X5_leastFrom (0, 0) (0, 0) 0 [(0, .ref 26), (1, .ref 6), (2, .int a2), (3, .int a3)] [] (St S) _
  refine ok_iconst (v := 0) dX5_leastFrom_0 ic_0 ?_
  refine ok_istore (L' := [(4, .int 0), (0, .ref 26), (1, .ref 6), (2, .int a2), (3, .int a3)]) dX5_leastFrom_1 (by decide) rfl ?_
  refine ok_iconst (v := 1) dX5_leastFrom_3 ic_1 ?_
  refine ok_istore (L' := [(5, .int 1), (4, .int 0), (0, .ref 26), (1, .ref 6), (2, .int a2), (3, .int a3)]) dX5_leastFrom_4 (by decide) rfl ?_
  refine ok_perm [2, 3, 4, 5, 1, 0] rfl ?_
  refine tlp_X5_leastFrom_6 (fun y4_7 y5_8 out9 h => ?_) _ _ _ _ h
  refine ok_iload dX5_leastFrom_46 4 rfl ?_
  exact okS_ret dX5_leastFrom_48 rfl rfl (by have e := Option.some.inj h; subst e; exact ⟨rfl, rfl⟩)
def lp_X5_costRests_18 (k : Int32 → Mm → Option (Mm)) (c2 : Int32) (c3 : Int32) (c4 : Int32) : Nat → Int32 → Mm → Option (Mm)
  | 0, _, _ => none
  | fuel + 1, x5, S => ((f_X8_highest S).bind fun r3 => (if r3 < x5 then k x5 S else (if c4 = c3 then (if inb c4 12 then ((f_X8_unlikely S c2 c4 x5).bind fun r14 => (if inb x5 4 then lp_X5_costRests_18 k c2 c3 c4 fuel (x5 + 1) (wr S (38 + c4.toNatClampNeg) x5.toNatClampNeg (r14 + 0)) else none)) else none) else ((f_X5_leastFrom S (c4 + 1) x5).bind fun r5 => ((f_X5_costFrom S (c4 + 1) x5 r5).bind fun r7 => (if inb c4 12 then ((f_X8_unlikely S c2 c4 x5).bind fun r10 => (if inb x5 4 then lp_X5_costRests_18 k c2 c3 c4 fuel (x5 + 1) (wr S (38 + c4.toNatClampNeg) x5.toNatClampNeg (r10 + r7)) else none)) else none))))))
def lp_X5_costRests_10 (k : Int32 → Mm → Option (Mm)) (c2 : Int32) (c3 : Int32) : Nat → Int32 → Mm → Option (Mm)
  | 0, _, _ => none
  | fuel + 1, x4, S => (if x4 < 0 then k x4 S else lp_X5_costRests_18 (fun y5_17 S18 => lp_X5_costRests_10 k c2 c3 fuel (x4 + (-1)) S18) c2 c3 x4 100000 0 S)
def f_X5_costRests (S : Mm) (a2 : Int32) : Option (Mm) :=
  ((f_X8_dayCount S).bind fun r1 => lp_X5_costRests_10 (fun y4_20 S21 => some S21) a2 (r1 - 1) 100000 (r1 - 1) S)
set_option maxRecDepth 100000 in
set_option maxHeartbeats 4000000 in
theorem tlp_X5_costRests_18 {k : Int32 → Mm → Option (Mm)} {c2 : Int32} {c3 : Int32} {c4 : Int32} (hk : ∀ (x5 : Int32) (S : Mm) (out : Mm), k x5 S = some out → Ok D_X5_costRests (0, 0) (0, 0) 89 [(0, .ref 26), (1, .ref 6), (2, .int c2), (3, .int c3), (4, .int c4), (5, .int x5)] [] (St S) (An none out)) : ∀ (fuel : Nat) (x5 : Int32) (S : Mm) (out : Mm), lp_X5_costRests_18 k c2 c3 c4 fuel x5 S = some out → Ok D_X5_costRests (0, 0) (0, 0) 18 [(0, .ref 26), (1, .ref 6), (2, .int c2), (3, .int c3), (4, .int c4), (5, .int x5)] [] (St S) (An none out) := by
  intro fuel
  induction fuel with
  | zero => intro x5 S out h; cases h
  | succ fuel ih =>
    intro x5 S out h
    rw [lp_X5_costRests_18] at h
    refine ok_iload dX5_costRests_18 5 rfl ?_
    refine ok_aload_n dX5_costRests_20 1 rfl ?_
    obtain ⟨r3, e4, h⟩ := it_bind h
    refine okS_V (as := []) (st := [.int x5]) (r := some (.int r3)) (S' := S) dX5_costRests_21 cv_X5_51 rfl po_6 (Nat.le_of_ble_eq_true rfl) ⟨⟨by decide, by decide⟩, rfl, rfl⟩ (t_X8_highest e4) ?_
    show Ok D_X5_costRests (0, 0) (0, 0) 24 [(0, .ref 26), (1, .ref 6), (2, .int c2), (3, .int c3), (4, .int c4), (5, .int x5)] [.int r3, .int x5] (St S) _
    refine ok_icmp_gt (tgt := 89) dX5_costRests_24 (by decide) (fun hc => ?_) (fun hc => ?_)
    · replace h := it_pos hc h
      refine ok_perm [0, 1, 2, 3, 4, 5] rfl ?_
      exact hk _ _ _ h
    · replace h := it_neg hc h
      refine ok_iload dX5_costRests_27 4 rfl ?_
      refine ok_iload_n dX5_costRests_29 3 rfl ?_
      refine ok_icmp_ne (tgt := 37) dX5_costRests_30 (by decide) (fun hc => ?_) (fun hc => ?_)
      · replace h := it_neg hc h
        refine ok_aload_n dX5_costRests_37 0 rfl ?_
        refine ok_aload_n dX5_costRests_38 1 rfl ?_
        refine ok_iload dX5_costRests_39 4 rfl ?_
        refine ok_iconst (v := 1) dX5_costRests_41 ic_1 ?_
        refine ok_iadd dX5_costRests_42 ?_
        refine ok_iload dX5_costRests_43 5 rfl ?_
        refine ok_aload_n dX5_costRests_45 0 rfl ?_
        refine ok_aload_n dX5_costRests_46 1 rfl ?_
        refine ok_iload dX5_costRests_47 4 rfl ?_
        refine ok_iconst (v := 1) dX5_costRests_49 ic_1 ?_
        refine ok_iadd dX5_costRests_50 ?_
        refine ok_iload dX5_costRests_51 5 rfl ?_
        obtain ⟨r5, e6, h⟩ := it_bind h
        refine okS_V (as := [.ref 6, .int (c4 + 1), .int x5]) (st := [.int x5, .int (c4 + 1), .ref 6, .ref 26]) (r := some (.int r5)) (S' := S) dX5_costRests_53 cv_X5_27 rfl po_26 (Nat.le_of_ble_eq_true rfl) ⟨⟨by decide, by decide⟩, rfl, rfl⟩ (t_X5_leastFrom e6) ?_
        show Ok D_X5_costRests (0, 0) (0, 0) 56 [(0, .ref 26), (1, .ref 6), (2, .int c2), (3, .int c3), (4, .int c4), (5, .int x5)] [.int r5, .int x5, .int (c4 + 1), .ref 6, .ref 26] (St S) _
        obtain ⟨r7, e8, h⟩ := it_bind h
        refine okS_V (as := [.ref 6, .int (c4 + 1), .int x5, .int r5]) (st := []) (r := some (.int r7)) (S' := S) dX5_costRests_56 cv_X5_31 rfl po_26 (Nat.le_of_ble_eq_true rfl) ⟨⟨by decide, by decide⟩, rfl, rfl⟩ (t_X5_costFrom e8) ?_
        show Ok D_X5_costRests (0, 0) (0, 0) 59 [(0, .ref 26), (1, .ref 6), (2, .int c2), (3, .int c3), (4, .int c4), (5, .int x5)] [.int r7] (St S) _
        refine ok_istore (L' := [(6, .int r7), (0, .ref 26), (1, .ref 6), (2, .int c2), (3, .int c3), (4, .int c4), (5, .int x5)]) dX5_costRests_59 (by decide) rfl ?_
        refine ok_aload_n dX5_costRests_61 1 rfl ?_
        refine okS_getR dX5_costRests_62 fl_X5_20 pr_26_2 ?_
        refine ok_iload dX5_costRests_65 5 rfl ?_
        obtain ⟨hi9, h⟩ := it_some h
        refine okS_row dX5_costRests_67 pg_37 hi9 ?_
        refine ok_iload dX5_costRests_68 6 rfl ?_
        refine ok_aload_n dX5_costRests_70 2 rfl ?_
        refine ok_iload_n dX5_costRests_71 3 rfl ?_
        refine ok_iload dX5_costRests_72 5 rfl ?_
        refine ok_iload dX5_costRests_74 6 rfl ?_
        obtain ⟨r10, e11, h⟩ := it_bind h
        refine okS_V (as := [.int c2, .int c4, .int x5]) (st := [.int x5, .ref (38 + c4.toNatClampNeg)]) (r := some (.int r10)) (S' := S) dX5_costRests_76 cv_X5_54 rfl po_6 (Nat.le_of_ble_eq_true rfl) ⟨⟨by decide, by decide⟩, rfl, rfl⟩ (t_X8_unlikely e11) ?_
        show Ok D_X5_costRests (0, 0) (0, 0) 79 [(6, .int r7), (0, .ref 26), (1, .ref 6), (2, .int c2), (3, .int c3), (4, .int c4), (5, .int x5)] [.int r10, .int x5, .ref (38 + c4.toNatClampNeg)] (St S) _
        refine ok_iload dX5_costRests_79 0 rfl ?_
        refine ok_iadd dX5_costRests_81 ?_
        obtain ⟨hi12, h⟩ := it_some h
        refine okS_iastore dX5_costRests_82 (pq_37 _ (inb_lt hi9)) hi12 ?_
        refine ok_iinc (v := x5 + 1) (L' := [(5, .int (x5 + 1)), (6, .int r7), (0, .ref 26), (1, .ref 6), (2, .int c2), (3, .int c3), (4, .int c4)]) dX5_costRests_83 6 rfl (ii_1 _) (by decide) rfl ?_
        refine ok_goto (tgt := 18) dX5_costRests_86 (by decide) ?_
        refine ok_perm [2, 3, 4, 5, 6, 0] rfl ?_
        exact ih _ _ _ h
      · replace h := it_pos hc h
        refine ok_iconst (v := 0) dX5_costRests_33 ic_0 ?_
        refine ok_goto (tgt := 59) dX5_costRests_34 (by decide) ?_
        refine ok_istore (L' := [(6, .int 0), (0, .ref 26), (1, .ref 6), (2, .int c2), (3, .int c3), (4, .int c4), (5, .int x5)]) dX5_costRests_59 (by decide) rfl ?_
        refine ok_aload_n dX5_costRests_61 1 rfl ?_
        refine okS_getR dX5_costRests_62 fl_X5_20 pr_26_2 ?_
        refine ok_iload dX5_costRests_65 5 rfl ?_
        obtain ⟨hi13, h⟩ := it_some h
        refine okS_row dX5_costRests_67 pg_37 hi13 ?_
        refine ok_iload dX5_costRests_68 6 rfl ?_
        refine ok_aload_n dX5_costRests_70 2 rfl ?_
        refine ok_iload_n dX5_costRests_71 3 rfl ?_
        refine ok_iload dX5_costRests_72 5 rfl ?_
        refine ok_iload dX5_costRests_74 6 rfl ?_
        obtain ⟨r14, e15, h⟩ := it_bind h
        refine okS_V (as := [.int c2, .int c4, .int x5]) (st := [.int x5, .ref (38 + c4.toNatClampNeg)]) (r := some (.int r14)) (S' := S) dX5_costRests_76 cv_X5_54 rfl po_6 (Nat.le_of_ble_eq_true rfl) ⟨⟨by decide, by decide⟩, rfl, rfl⟩ (t_X8_unlikely e15) ?_
        show Ok D_X5_costRests (0, 0) (0, 0) 79 [(6, .int 0), (0, .ref 26), (1, .ref 6), (2, .int c2), (3, .int c3), (4, .int c4), (5, .int x5)] [.int r14, .int x5, .ref (38 + c4.toNatClampNeg)] (St S) _
        refine ok_iload dX5_costRests_79 0 rfl ?_
        refine ok_iadd dX5_costRests_81 ?_
        obtain ⟨hi16, h⟩ := it_some h
        refine okS_iastore dX5_costRests_82 (pq_37 _ (inb_lt hi13)) hi16 ?_
        refine ok_iinc (v := x5 + 1) (L' := [(5, .int (x5 + 1)), (6, .int 0), (0, .ref 26), (1, .ref 6), (2, .int c2), (3, .int c3), (4, .int c4)]) dX5_costRests_83 6 rfl (ii_1 _) (by decide) rfl ?_
        refine ok_goto (tgt := 18) dX5_costRests_86 (by decide) ?_
        refine ok_perm [2, 3, 4, 5, 6, 0] rfl ?_
        exact ih _ _ _ h
set_option maxRecDepth 100000 in
set_option maxHeartbeats 4000000 in
theorem tlp_X5_costRests_10 {k : Int32 → Mm → Option (Mm)} {c2 : Int32} {c3 : Int32} (hk : ∀ (x4 : Int32) (S : Mm) (out : Mm), k x4 S = some out → Ok D_X5_costRests (0, 0) (0, 0) 95 [(0, .ref 26), (1, .ref 6), (2, .int c2), (3, .int c3), (4, .int x4)] [] (St S) (An none out)) : ∀ (fuel : Nat) (x4 : Int32) (S : Mm) (out : Mm), lp_X5_costRests_10 k c2 c3 fuel x4 S = some out → Ok D_X5_costRests (0, 0) (0, 0) 10 [(0, .ref 26), (1, .ref 6), (2, .int c2), (3, .int c3), (4, .int x4)] [] (St S) (An none out) := by
  intro fuel
  induction fuel with
  | zero => intro x4 S out h; cases h
  | succ fuel ih =>
    intro x4 S out h
    rw [lp_X5_costRests_10] at h
    refine ok_iload dX5_costRests_10 4 rfl ?_
    refine ok_if_lt (tgt := 95) dX5_costRests_12 (by decide) (fun hc => ?_) (fun hc => ?_)
    · replace h := it_pos hc h
      refine ok_perm [0, 1, 2, 3, 4] rfl ?_
      exact hk _ _ _ h
    · replace h := it_neg hc h
      refine ok_iconst (v := 0) dX5_costRests_15 ic_0 ?_
      refine ok_istore (L' := [(5, .int 0), (0, .ref 26), (1, .ref 6), (2, .int c2), (3, .int c3), (4, .int x4)]) dX5_costRests_16 (by decide) rfl ?_
      refine ok_perm [1, 2, 3, 4, 5, 0] rfl ?_
      refine tlp_X5_costRests_18 (fun y5_17 S18 out19 h => ?_) _ _ _ _ h
      refine ok_iinc (v := x4 + (-1)) (L' := [(4, .int (x4 + (-1))), (0, .ref 26), (1, .ref 6), (2, .int c2), (3, .int c3), (5, .int y5_17)]) dX5_costRests_89 4 rfl (ii_m1 _) (by decide) rfl ?_
      refine ok_goto (tgt := 10) dX5_costRests_92 (by decide) ?_
      refine ok_perm [1, 2, 3, 4, 0] rfl ?_
      exact ih _ _ _ h
set_option maxRecDepth 100000 in
set_option maxHeartbeats 4000000 in
theorem t_X5_costRests {S : Mm} {a2 : Int32} {out : Mm} (h : f_X5_costRests S a2 = some out) : Rs D_X5_costRests [.ref 26, .ref 6, .int a2] S none out := by
  refine rs_of (by decide) rfl (Nat.le_of_ble_eq_true rfl) ?_
  unfold f_X5_costRests at h
  show Ok D_X5_costRests (0, 0) (0, 0) 0 [(0, .ref 26), (1, .ref 6), (2, .int a2)] [] (St S) _
  refine ok_aload_n dX5_costRests_0 1 rfl ?_
  obtain ⟨r1, e2, h⟩ := it_bind h
  refine okS_V (as := []) (st := []) (r := some (.int r1)) (S' := S) dX5_costRests_1 cv_X5_47 rfl po_6 (Nat.le_of_ble_eq_true rfl) ⟨⟨by decide, by decide⟩, rfl, rfl⟩ (t_X8_dayCount e2) ?_
  show Ok D_X5_costRests (0, 0) (0, 0) 4 [(0, .ref 26), (1, .ref 6), (2, .int a2)] [.int r1] (St S) _
  refine ok_iconst (v := 1) dX5_costRests_4 ic_1 ?_
  refine ok_isub dX5_costRests_5 ?_
  refine ok_istore_n (L' := [(3, .int (r1 - 1)), (0, .ref 26), (1, .ref 6), (2, .int a2)]) dX5_costRests_6 (by decide) rfl ?_
  refine ok_iload_n dX5_costRests_7 0 rfl ?_
  refine ok_istore (L' := [(4, .int (r1 - 1)), (3, .int (r1 - 1)), (0, .ref 26), (1, .ref 6), (2, .int a2)]) dX5_costRests_8 (by decide) rfl ?_
  refine ok_perm [2, 3, 4, 1, 0] rfl ?_
  refine tlp_X5_costRests_10 (fun y4_20 S21 out22 h => ?_) _ _ _ _ h
  exact okS_retv dX5_costRests_95 rfl (by have e := Option.some.inj h; subst e; exact ⟨rfl, rfl⟩)
def lp_X5_walk_5 (k : Int32 → Int32 → Mm → Option (Mm)) (c2 : Int32) : Nat → Int32 → Int32 → Mm → Option (Mm)
  | 0, _, _, _ => none
  | fuel + 1, x3, x4, S => ((f_X8_dayCount S).bind fun r1 => (if r1 ≤ x4 then k x3 x4 S else ((f_X5_leastFrom S x4 x3).bind fun r3 => (if inb c2 8 then (if inb x4 12 then lp_X5_walk_5 k c2 fuel r3 (x4 + 1) (wr S (28 + c2.toNatClampNeg) x4.toNatClampNeg r3) else none) else none))))
def f_X5_walk (S : Mm) (a2 : Int32) : Option (Mm) :=
  lp_X5_walk_5 (fun y3_7 y4_8 S9 => some S9) a2 100000 0 0 S
set_option maxRecDepth 100000 in
set_option maxHeartbeats 4000000 in
theorem tlp_X5_walk_5 {k : Int32 → Int32 → Mm → Option (Mm)} {c2 : Int32} (hk : ∀ (x3 x4 : Int32) (S : Mm) (out : Mm), k x3 x4 S = some out → Ok D_X5_walk (0, 0) (0, 0) 39 [(0, .ref 26), (1, .ref 6), (2, .int c2), (3, .int x3), (4, .int x4)] [] (St S) (An none out)) : ∀ (fuel : Nat) (x3 x4 : Int32) (S : Mm) (out : Mm), lp_X5_walk_5 k c2 fuel x3 x4 S = some out → Ok D_X5_walk (0, 0) (0, 0) 5 [(0, .ref 26), (1, .ref 6), (2, .int c2), (3, .int x3), (4, .int x4)] [] (St S) (An none out) := by
  intro fuel
  induction fuel with
  | zero => intro x3 x4 S out h; cases h
  | succ fuel ih =>
    intro x3 x4 S out h
    rw [lp_X5_walk_5] at h
    refine ok_iload dX5_walk_5 4 rfl ?_
    refine ok_aload_n dX5_walk_7 1 rfl ?_
    obtain ⟨r1, e2, h⟩ := it_bind h
    refine okS_V (as := []) (st := [.int x4]) (r := some (.int r1)) (S' := S) dX5_walk_8 cv_X5_47 rfl po_6 (Nat.le_of_ble_eq_true rfl) ⟨⟨by decide, by decide⟩, rfl, rfl⟩ (t_X8_dayCount e2) ?_
    show Ok D_X5_walk (0, 0) (0, 0) 11 [(0, .ref 26), (1, .ref 6), (2, .int c2), (3, .int x3), (4, .int x4)] [.int r1, .int x4] (St S) _
    refine ok_icmp_ge (tgt := 39) dX5_walk_11 (by decide) (fun hc => ?_) (fun hc => ?_)
    · replace h := it_pos hc h
      refine ok_perm [0, 1, 2, 3, 4] rfl ?_
      exact hk _ _ _ _ h
    · replace h := it_neg hc h
      refine ok_aload_n dX5_walk_14 0 rfl ?_
      refine ok_aload_n dX5_walk_15 1 rfl ?_
      refine ok_iload dX5_walk_16 4 rfl ?_
      refine ok_iload_n dX5_walk_18 3 rfl ?_
      obtain ⟨r3, e4, h⟩ := it_bind h
      refine okS_V (as := [.ref 6, .int x4, .int x3]) (st := []) (r := some (.int r3)) (S' := S) dX5_walk_19 cv_X5_27 rfl po_26 (Nat.le_of_ble_eq_true rfl) ⟨⟨by decide, by decide⟩, rfl, rfl⟩ (t_X5_leastFrom e4) ?_
      show Ok D_X5_walk (0, 0) (0, 0) 22 [(0, .ref 26), (1, .ref 6), (2, .int c2), (3, .int x3), (4, .int x4)] [.int r3] (St S) _
      refine ok_istore_n (L' := [(3, .int r3), (0, .ref 26), (1, .ref 6), (2, .int c2), (4, .int x4)]) dX5_walk_22 (by decide) rfl ?_
      refine ok_aload_n dX5_walk_23 1 rfl ?_
      refine okS_getR dX5_walk_24 fl_X5_11 pr_26_0 ?_
      refine ok_iload_n dX5_walk_27 3 rfl ?_
      obtain ⟨hi5, h⟩ := it_some h
      refine okS_row dX5_walk_28 pg_27 hi5 ?_
      refine ok_iload dX5_walk_29 4 rfl ?_
      refine ok_iload_n dX5_walk_31 0 rfl ?_
      obtain ⟨hi6, h⟩ := it_some h
      refine okS_iastore dX5_walk_32 (pq_27 _ (inb_lt hi5)) hi6 ?_
      refine ok_iinc (v := x4 + 1) (L' := [(4, .int (x4 + 1)), (3, .int r3), (0, .ref 26), (1, .ref 6), (2, .int c2)]) dX5_walk_33 4 rfl (ii_1 _) (by decide) rfl ?_
      refine ok_goto (tgt := 5) dX5_walk_36 (by decide) ?_
      refine ok_perm [2, 3, 4, 1, 0] rfl ?_
      exact ih _ _ _ _ h
set_option maxRecDepth 100000 in
set_option maxHeartbeats 4000000 in
theorem t_X5_walk {S : Mm} {a2 : Int32} {out : Mm} (h : f_X5_walk S a2 = some out) : Rs D_X5_walk [.ref 26, .ref 6, .int a2] S none out := by
  refine rs_of (by decide) rfl (Nat.le_of_ble_eq_true rfl) ?_
  unfold f_X5_walk at h
  show Ok D_X5_walk (0, 0) (0, 0) 0 [(0, .ref 26), (1, .ref 6), (2, .int a2)] [] (St S) _
  refine ok_iconst (v := 0) dX5_walk_0 ic_0 ?_
  refine ok_istore_n (L' := [(3, .int 0), (0, .ref 26), (1, .ref 6), (2, .int a2)]) dX5_walk_1 (by decide) rfl ?_
  refine ok_iconst (v := 0) dX5_walk_2 ic_0 ?_
  refine ok_istore (L' := [(4, .int 0), (3, .int 0), (0, .ref 26), (1, .ref 6), (2, .int a2)]) dX5_walk_3 (by decide) rfl ?_
  refine ok_perm [2, 3, 4, 1, 0] rfl ?_
  refine tlp_X5_walk_5 (fun y3_7 y4_8 S9 out10 h => ?_) _ _ _ _ _ h
  exact okS_retv dX5_walk_39 rfl (by have e := Option.some.inj h; subst e; exact ⟨rfl, rfl⟩)
def lp_X5_findAll_2 (k : Int32 → Mm → Option (Mm)) : Nat → Int32 → Mm → Option (Mm)
  | 0, _, _ => none
  | fuel + 1, x2, S => (if 8 ≤ x2 then k x2 S else ((f_X5_costRests S x2).bind fun r1 => ((f_X5_leastFrom r1 0 0).bind fun r3 => ((f_X5_costFrom r1 0 0 r3).bind fun r5 => (if inb x2 8 then ((f_X5_walk (wr r1 36 x2.toNatClampNeg r5) x2).bind fun r8 => lp_X5_findAll_2 k fuel (x2 + 1) r8) else none)))))
def f_X5_findAll (S : Mm)  : Option (Mm) :=
  lp_X5_findAll_2 (fun y2_10 S11 => some S11) 100000 0 S
set_option maxRecDepth 100000 in
set_option maxHeartbeats 4000000 in
theorem tlp_X5_findAll_2 {k : Int32 → Mm → Option (Mm)} (hk : ∀ (x2 : Int32) (S : Mm) (out : Mm), k x2 S = some out → Ok D_X5_findAll (0, 0) (0, 0) 46 [(0, .ref 26), (1, .ref 6), (2, .int x2)] [] (St S) (An none out)) : ∀ (fuel : Nat) (x2 : Int32) (S : Mm) (out : Mm), lp_X5_findAll_2 k fuel x2 S = some out → Ok D_X5_findAll (0, 0) (0, 0) 2 [(0, .ref 26), (1, .ref 6), (2, .int x2)] [] (St S) (An none out) := by
  intro fuel
  induction fuel with
  | zero => intro x2 S out h; cases h
  | succ fuel ih =>
    intro x2 S out h
    rw [lp_X5_findAll_2] at h
    refine ok_iload_n dX5_findAll_2 2 rfl ?_
    refine ok_bipush (v := 8) dX5_findAll_3 bi_8 ?_
    refine ok_icmp_ge (tgt := 46) dX5_findAll_5 (by decide) (fun hc => ?_) (fun hc => ?_)
    · replace h := it_pos hc h
      refine ok_perm [0, 1, 2] rfl ?_
      exact hk _ _ _ h
    · replace h := it_neg hc h
      refine ok_aload_n dX5_findAll_8 0 rfl ?_
      refine ok_aload_n dX5_findAll_9 1 rfl ?_
      refine ok_iload_n dX5_findAll_10 2 rfl ?_
      obtain ⟨r1, e2, h⟩ := it_bind h
      refine okS_V (as := [.ref 6, .int x2]) (st := []) (r := none) (S' := r1) dX5_findAll_11 cv_X5_23 rfl po_26 (Nat.le_of_ble_eq_true rfl) ⟨⟨by decide, by decide⟩, rfl, rfl⟩ (t_X5_costRests e2) ?_
      show Ok D_X5_findAll (0, 0) (0, 0) 14 [(0, .ref 26), (1, .ref 6), (2, .int x2)] [] (St r1) _
      refine ok_aload_n dX5_findAll_14 0 rfl ?_
      refine okS_getR dX5_findAll_15 fl_X5_16 pr_26_1 ?_
      refine ok_iload_n dX5_findAll_18 2 rfl ?_
      refine ok_aload_n dX5_findAll_19 0 rfl ?_
      refine ok_aload_n dX5_findAll_20 1 rfl ?_
      refine ok_iconst (v := 0) dX5_findAll_21 ic_0 ?_
      refine ok_iconst (v := 0) dX5_findAll_22 ic_0 ?_
      refine ok_aload_n dX5_findAll_23 0 rfl ?_
      refine ok_aload_n dX5_findAll_24 1 rfl ?_
      refine ok_iconst (v := 0) dX5_findAll_25 ic_0 ?_
      refine ok_iconst (v := 0) dX5_findAll_26 ic_0 ?_
      obtain ⟨r3, e4, h⟩ := it_bind h
      refine okS_V (as := [.ref 6, .int 0, .int 0]) (st := [.int 0, .int 0, .ref 6, .ref 26, .int x2, .ref 36]) (r := some (.int r3)) (S' := r1) dX5_findAll_27 cv_X5_27 rfl po_26 (Nat.le_of_ble_eq_true rfl) ⟨⟨by decide, by decide⟩, rfl, rfl⟩ (t_X5_leastFrom e4) ?_
      show Ok D_X5_findAll (0, 0) (0, 0) 30 [(0, .ref 26), (1, .ref 6), (2, .int x2)] [.int r3, .int 0, .int 0, .ref 6, .ref 26, .int x2, .ref 36] (St r1) _
      obtain ⟨r5, e6, h⟩ := it_bind h
      refine okS_V (as := [.ref 6, .int 0, .int 0, .int r3]) (st := [.int x2, .ref 36]) (r := some (.int r5)) (S' := r1) dX5_findAll_30 cv_X5_31 rfl po_26 (Nat.le_of_ble_eq_true rfl) ⟨⟨by decide, by decide⟩, rfl, rfl⟩ (t_X5_costFrom e6) ?_
      show Ok D_X5_findAll (0, 0) (0, 0) 33 [(0, .ref 26), (1, .ref 6), (2, .int x2)] [.int r5, .int x2, .ref 36] (St r1) _
      obtain ⟨hi7, h⟩ := it_some h
      refine okS_iastore dX5_findAll_33 pa_36 hi7 ?_
      refine ok_aload_n dX5_findAll_34 0 rfl ?_
      refine ok_aload_n dX5_findAll_35 1 rfl ?_
      refine ok_iload_n dX5_findAll_36 2 rfl ?_
      obtain ⟨r8, e9, h⟩ := it_bind h
      refine okS_V (as := [.ref 6, .int x2]) (st := []) (r := none) (S' := r8) dX5_findAll_37 cv_X5_35 rfl po_26 (Nat.le_of_ble_eq_true rfl) ⟨⟨by decide, by decide⟩, rfl, rfl⟩ (t_X5_walk e9) ?_
      show Ok D_X5_findAll (0, 0) (0, 0) 40 [(0, .ref 26), (1, .ref 6), (2, .int x2)] [] (St r8) _
      refine ok_iinc (v := x2 + 1) (L' := [(2, .int (x2 + 1)), (0, .ref 26), (1, .ref 6)]) dX5_findAll_40 2 rfl (ii_1 _) (by decide) rfl ?_
      refine ok_goto (tgt := 2) dX5_findAll_43 (by decide) ?_
      refine ok_perm [1, 2, 0] rfl ?_
      exact ih _ _ _ h
set_option maxRecDepth 100000 in
set_option maxHeartbeats 4000000 in
theorem t_X5_findAll {S : Mm} {out : Mm} (h : f_X5_findAll S  = some out) : Rs D_X5_findAll [.ref 26, .ref 6] S none out := by
  refine rs_of (by decide) rfl (Nat.le_of_ble_eq_true rfl) ?_
  unfold f_X5_findAll at h
  show Ok D_X5_findAll (0, 0) (0, 0) 0 [(0, .ref 26), (1, .ref 6)] [] (St S) _
  refine ok_iconst (v := 0) dX5_findAll_0 ic_0 ?_
  refine ok_istore_n (L' := [(2, .int 0), (0, .ref 26), (1, .ref 6)]) dX5_findAll_1 (by decide) rfl ?_
  refine ok_perm [1, 2, 0] rfl ?_
  refine tlp_X5_findAll_2 (fun y2_10 S11 out12 h => ?_) _ _ _ _ h
  exact okS_retv dX5_findAll_46 rfl (by have e := Option.some.inj h; subst e; exact ⟨rfl, rfl⟩)
def f_X5_of (S : Mm) (a1 : Int32) (a2 : Int32) : Option (Int32) :=
  ((f_X10_isWord S a1).bind fun r1 => (if r1 = 0 then some 0 else ((f_X8_isDay S a2).bind fun r3 => (if r3 = 0 then some 0 else (if inb a1 8 then (if inb a2 12 then some (S.1 (28 + a1.toNatClampNeg) a2.toNatClampNeg) else none) else none)))))
set_option maxRecDepth 100000 in
set_option maxHeartbeats 4000000 in
theorem t_X5_of {S : Mm} {a1 : Int32} {a2 : Int32} {out : Int32} (h : f_X5_of S a1 a2 = some out) : Rs D_X5_of [.ref 26, .int a1, .int a2] S (some (.int out)) S := by
  refine rs_of (by decide) rfl (Nat.le_of_ble_eq_true rfl) ?_
  unfold f_X5_of at h
  show Ok D_X5_of (0, 0) (0, 0) 0 [(0, .ref 26), (1, .int a1), (2, .int a2)] [] (St S) _
  refine ok_iload_n dX5_of_0 1 rfl ?_
  obtain ⟨r1, e2, h⟩ := it_bind h
  refine okS_SN (as := [.int a1]) (st := []) (r := some (.int r1)) (S' := S) dX5_of_1 cv_X5_38 rfl (Nat.le_of_ble_eq_true rfl) ⟨⟨by decide, by decide⟩, rfl, rfl⟩ (t_X10_isWord e2) ?_
  show Ok D_X5_of (0, 0) (0, 0) 4 [(0, .ref 26), (1, .int a1), (2, .int a2)] [.int r1] (St S) _
  refine ok_if_eq (tgt := 25) dX5_of_4 (by decide) (fun hc => ?_) (fun hc => ?_)
  · replace h := it_pos hc h
    refine ok_iconst (v := 0) dX5_of_25 ic_0 ?_
    exact okS_ret dX5_of_26 rfl rfl (by have e := Option.some.inj h; subst e; exact ⟨rfl, rfl⟩)
  · replace h := it_neg hc h
    refine ok_iload_n dX5_of_7 2 rfl ?_
    obtain ⟨r3, e4, h⟩ := it_bind h
    refine okS_S (as := [.int a2]) (st := []) (r := some (.int r3)) (S' := S) dX5_of_8 cv_X5_42 rfl (Nat.le_of_ble_eq_true rfl) ⟨⟨by decide, by decide⟩, rfl, rfl⟩ (t_X8_isDay e4) ?_
    show Ok D_X5_of (0, 0) (0, 0) 11 [(0, .ref 26), (1, .int a1), (2, .int a2)] [.int r3] (St S) _
    refine ok_if_eq (tgt := 25) dX5_of_11 (by decide) (fun hc => ?_) (fun hc => ?_)
    · replace h := it_pos hc h
      refine ok_iconst (v := 0) dX5_of_25 ic_0 ?_
      exact okS_ret dX5_of_26 rfl rfl (by have e := Option.some.inj h; subst e; exact ⟨rfl, rfl⟩)
    · replace h := it_neg hc h
      refine ok_aload_n dX5_of_14 0 rfl ?_
      refine okS_getR dX5_of_15 fl_X5_11 pr_26_0 ?_
      refine ok_iload_n dX5_of_18 1 rfl ?_
      obtain ⟨hi5, h⟩ := it_some h
      refine okS_row dX5_of_19 pg_27 hi5 ?_
      refine ok_iload_n dX5_of_20 2 rfl ?_
      obtain ⟨hi6, h⟩ := it_some h
      refine okS_iaload dX5_of_21 (pq_27 _ (inb_lt hi5)) hi6 ?_
      refine ok_goto (tgt := 26) dX5_of_22 (by decide) ?_
      exact okS_ret dX5_of_26 rfl rfl (by have e := Option.some.inj h; subst e; exact ⟨rfl, rfl⟩)
def f_X5_costOf (S : Mm) (a1 : Int32) : Option (Int32) :=
  ((f_X10_isWord S a1).bind fun r1 => (if r1 = 0 then some 0 else (if inb a1 8 then some (S.1 36 a1.toNatClampNeg) else none)))
set_option maxRecDepth 100000 in
set_option maxHeartbeats 4000000 in
theorem t_X5_costOf {S : Mm} {a1 : Int32} {out : Int32} (h : f_X5_costOf S a1 = some out) : Rs D_X5_costOf [.ref 26, .int a1] S (some (.int out)) S := by
  refine rs_of (by decide) rfl (Nat.le_of_ble_eq_true rfl) ?_
  unfold f_X5_costOf at h
  show Ok D_X5_costOf (0, 0) (0, 0) 0 [(0, .ref 26), (1, .int a1)] [] (St S) _
  refine ok_iload_n dX5_costOf_0 1 rfl ?_
  obtain ⟨r1, e2, h⟩ := it_bind h
  refine okS_SN (as := [.int a1]) (st := []) (r := some (.int r1)) (S' := S) dX5_costOf_1 cv_X5_38 rfl (Nat.le_of_ble_eq_true rfl) ⟨⟨by decide, by decide⟩, rfl, rfl⟩ (t_X10_isWord e2) ?_
  show Ok D_X5_costOf (0, 0) (0, 0) 4 [(0, .ref 26), (1, .int a1)] [.int r1] (St S) _
  refine ok_if_eq (tgt := 16) dX5_costOf_4 (by decide) (fun hc => ?_) (fun hc => ?_)
  · replace h := it_pos hc h
    refine ok_iconst (v := 0) dX5_costOf_16 ic_0 ?_
    exact okS_ret dX5_costOf_17 rfl rfl (by have e := Option.some.inj h; subst e; exact ⟨rfl, rfl⟩)
  · replace h := it_neg hc h
    refine ok_aload_n dX5_costOf_7 0 rfl ?_
    refine okS_getR dX5_costOf_8 fl_X5_16 pr_26_1 ?_
    refine ok_iload_n dX5_costOf_11 1 rfl ?_
    obtain ⟨hi3, h⟩ := it_some h
    refine okS_iaload dX5_costOf_12 pa_36 hi3 ?_
    refine ok_goto (tgt := 17) dX5_costOf_13 (by decide) ?_
    exact okS_ret dX5_costOf_17 rfl rfl (by have e := Option.some.inj h; subst e; exact ⟨rfl, rfl⟩)
