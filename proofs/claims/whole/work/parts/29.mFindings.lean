def lp_X2_hot_4 (k : Int32 → Int32 → Option (Int32)) (S : Mm) (c1 : Int32) : Nat → Int32 → Int32 → Option (Int32)
  | 0, _, _ => none
  | fuel + 1, x2, x3 => (if 8 ≤ x3 then k x2 x3 else ((f_X5_of S x3 c1).bind fun r1 => (if r1 ≤ 0 then lp_X2_hot_4 k S c1 fuel x2 (x3 + 1) else ((f_X10_setOfWord S x3).bind fun r3 => lp_X2_hot_4 k S c1 fuel (x2 ||| r3) (x3 + 1)))))
def f_X2_hot (S : Mm) (a1 : Int32) : Option (Int32) :=
  lp_X2_hot_4 (fun y2_5 y3_6 => some y2_5) S a1 100000 0 0
set_option maxRecDepth 100000 in
set_option maxHeartbeats 4000000 in
theorem tlp_X2_hot_4 {k : Int32 → Int32 → Option (Int32)} {S : Mm} {c1 : Int32} (hk : ∀ (x2 x3 : Int32) (out : Int32), k x2 x3 = some out → Ok D_X2_hot (0, 0) (0, 0) 35 [(0, .ref 5), (1, .int c1), (2, .int x2), (3, .int x3)] [] (St S) (An (some (.int out)) S)) : ∀ (fuel : Nat) (x2 x3 : Int32) (out : Int32), lp_X2_hot_4 k S c1 fuel x2 x3 = some out → Ok D_X2_hot (0, 0) (0, 0) 4 [(0, .ref 5), (1, .int c1), (2, .int x2), (3, .int x3)] [] (St S) (An (some (.int out)) S) := by
  intro fuel
  induction fuel with
  | zero => intro x2 x3 out h; cases h
  | succ fuel ih =>
    intro x2 x3 out h
    rw [lp_X2_hot_4] at h
    refine ok_iload_n dX2_hot_4 3 rfl ?_
    refine ok_bipush (v := 8) dX2_hot_5 bi_8 ?_
    refine ok_icmp_ge (tgt := 35) dX2_hot_7 (by decide) (fun hc => ?_) (fun hc => ?_)
    · replace h := it_pos hc h
      refine ok_perm [0, 1, 2, 3] rfl ?_
      exact hk _ _ _ h
    · replace h := it_neg hc h
      refine ok_aload_n dX2_hot_10 0 rfl ?_
      refine okS_getR dX2_hot_11 fl_X2_21 pr_5_1 ?_
      refine ok_iload_n dX2_hot_14 3 rfl ?_
      refine ok_iload_n dX2_hot_15 1 rfl ?_
      obtain ⟨r1, e2, h⟩ := it_bind h
      refine okS_V (as := [.int x3, .int c1]) (st := []) (r := some (.int r1)) (S' := S) dX2_hot_16 cv_X2_39 rfl po_26 (Nat.le_of_ble_eq_true rfl) ⟨⟨by decide, by decide⟩, rfl, rfl⟩ (t_X5_of e2) ?_
      show Ok D_X2_hot (0, 0) (0, 0) 19 [(0, .ref 5), (1, .int c1), (2, .int x2), (3, .int x3)] [.int r1] (St S) _
      refine ok_if_le (tgt := 29) dX2_hot_19 (by decide) (fun hc => ?_) (fun hc => ?_)
      · replace h := it_pos hc h
        refine ok_iinc (v := x3 + 1) (L' := [(3, .int (x3 + 1)), (0, .ref 5), (1, .int c1), (2, .int x2)]) dX2_hot_29 3 rfl (ii_1 _) (by decide) rfl ?_
        refine ok_goto (tgt := 4) dX2_hot_32 (by decide) ?_
        refine ok_perm [1, 2, 3, 0] rfl ?_
        exact ih _ _ _ h
      · replace h := it_neg hc h
        refine ok_iload_n dX2_hot_22 2 rfl ?_
        refine ok_iload_n dX2_hot_23 3 rfl ?_
        obtain ⟨r3, e4, h⟩ := it_bind h
        refine okS_SN (as := [.int x3]) (st := [.int x2]) (r := some (.int r3)) (S' := S) dX2_hot_24 cv_X2_43 rfl (Nat.le_of_ble_eq_true rfl) ⟨⟨by decide, by decide⟩, rfl, rfl⟩ (t_X10_setOfWord e4) ?_
        show Ok D_X2_hot (0, 0) (0, 0) 27 [(0, .ref 5), (1, .int c1), (2, .int x2), (3, .int x3)] [.int r3, .int x2] (St S) _
        refine ok_ior dX2_hot_27 ?_
        refine ok_istore_n (L' := [(2, .int (x2 ||| r3)), (0, .ref 5), (1, .int c1), (3, .int x3)]) dX2_hot_28 (by decide) rfl ?_
        refine ok_iinc (v := x3 + 1) (L' := [(3, .int (x3 + 1)), (2, .int (x2 ||| r3)), (0, .ref 5), (1, .int c1)]) dX2_hot_29 3 rfl (ii_1 _) (by decide) rfl ?_
        refine ok_goto (tgt := 4) dX2_hot_32 (by decide) ?_
        refine ok_perm [2, 3, 1, 0] rfl ?_
        exact ih _ _ _ h
set_option maxRecDepth 100000 in
set_option maxHeartbeats 4000000 in
theorem t_X2_hot {S : Mm} {a1 : Int32} {out : Int32} (h : f_X2_hot S a1 = some out) : Rs D_X2_hot [.ref 5, .int a1] S (some (.int out)) S := by
  refine rs_of (by decide) rfl (Nat.le_of_ble_eq_true rfl) ?_
  unfold f_X2_hot at h
  show Ok D_X2_hot (0, 0) (0, 0) 0 [(0, .ref 5), (1, .int a1)] [] (St S) _
  refine ok_iconst (v := 0) dX2_hot_0 ic_0 ?_
  refine ok_istore_n (L' := [(2, .int 0), (0, .ref 5), (1, .int a1)]) dX2_hot_1 (by decide) rfl ?_
  refine ok_iconst (v := 0) dX2_hot_2 ic_0 ?_
  refine ok_istore_n (L' := [(3, .int 0), (2, .int 0), (0, .ref 5), (1, .int a1)]) dX2_hot_3 (by decide) rfl ?_
  refine ok_perm [2, 3, 1, 0] rfl ?_
  refine tlp_X2_hot_4 (fun y2_5 y3_6 out7 h => ?_) _ _ _ _ h
  refine ok_iload_n dX2_hot_35 2 rfl ?_
  exact okS_ret dX2_hot_36 rfl rfl (by have e := Option.some.inj h; subst e; exact ⟨rfl, rfl⟩)
def f_X2_isAbove (S : Mm) (a1 : Int32) (a2 : Int32) (a3 : Int32) : Option (Int32) :=
  ((f_X5_of S a1 a3).bind fun r1 => ((f_X5_of S a2 a3).bind fun r3 => (if r1 = r3 then ((f_X8_count S a1 a3).bind fun r5 => ((f_X8_count S a2 a3).bind fun r7 => (if r5 ≤ r7 then some 0 else some 1))) else ((f_X5_of S a1 a3).bind fun r9 => ((f_X5_of S a2 a3).bind fun r11 => (if r9 ≤ r11 then some 0 else some 1))))))
set_option maxRecDepth 100000 in
set_option maxHeartbeats 4000000 in
theorem t_X2_isAbove {S : Mm} {a1 : Int32} {a2 : Int32} {a3 : Int32} {out : Int32} (h : f_X2_isAbove S a1 a2 a3 = some out) : Rs D_X2_isAbove [.ref 5, .int a1, .int a2, .int a3] S (some (.int out)) S := by
  refine rs_of (by decide) rfl (Nat.le_of_ble_eq_true rfl) ?_
  unfold f_X2_isAbove at h
  show Ok D_X2_isAbove (0, 0) (0, 0) 0 [(0, .ref 5), (1, .int a1), (2, .int a2), (3, .int a3)] [] (St S) _
  refine ok_aload_n dX2_isAbove_0 0 rfl ?_
  refine okS_getR dX2_isAbove_1 fl_X2_21 pr_5_1 ?_
  refine ok_iload_n dX2_isAbove_4 1 rfl ?_
  refine ok_iload_n dX2_isAbove_5 3 rfl ?_
  obtain ⟨r1, e2, h⟩ := it_bind h
  refine okS_V (as := [.int a1, .int a3]) (st := []) (r := some (.int r1)) (S' := S) dX2_isAbove_6 cv_X2_39 rfl po_26 (Nat.le_of_ble_eq_true rfl) ⟨⟨by decide, by decide⟩, rfl, rfl⟩ (t_X5_of e2) ?_
  show Ok D_X2_isAbove (0, 0) (0, 0) 9 [(0, .ref 5), (1, .int a1), (2, .int a2), (3, .int a3)] [.int r1] (St S) _
  refine ok_aload_n dX2_isAbove_9 0 rfl ?_
  refine okS_getR dX2_isAbove_10 fl_X2_21 pr_5_1 ?_
  refine ok_iload_n dX2_isAbove_13 2 rfl ?_
  refine ok_iload_n dX2_isAbove_14 3 rfl ?_
  obtain ⟨r3, e4, h⟩ := it_bind h
  refine okS_V (as := [.int a2, .int a3]) (st := [.int r1]) (r := some (.int r3)) (S' := S) dX2_isAbove_15 cv_X2_39 rfl po_26 (Nat.le_of_ble_eq_true rfl) ⟨⟨by decide, by decide⟩, rfl, rfl⟩ (t_X5_of e4) ?_
  show Ok D_X2_isAbove (0, 0) (0, 0) 18 [(0, .ref 5), (1, .int a1), (2, .int a2), (3, .int a3)] [.int r3, .int r1] (St S) _
  refine ok_icmp_eq (tgt := 48) dX2_isAbove_18 (by decide) (fun hc => ?_) (fun hc => ?_)
  · replace h := it_pos hc h
    refine ok_aload_n dX2_isAbove_48 0 rfl ?_
    refine okS_getR dX2_isAbove_49 fl_X2_12 pr_5_0 ?_
    refine ok_iload_n dX2_isAbove_52 1 rfl ?_
    refine ok_iload_n dX2_isAbove_53 3 rfl ?_
    obtain ⟨r5, e6, h⟩ := it_bind h
    refine okS_V (as := [.int a1, .int a3]) (st := []) (r := some (.int r5)) (S' := S) dX2_isAbove_54 cv_X2_51 rfl po_6 (Nat.le_of_ble_eq_true rfl) ⟨⟨by decide, by decide⟩, rfl, rfl⟩ (t_X8_count e6) ?_
    show Ok D_X2_isAbove (0, 0) (0, 0) 57 [(0, .ref 5), (1, .int a1), (2, .int a2), (3, .int a3)] [.int r5] (St S) _
    refine ok_aload_n dX2_isAbove_57 0 rfl ?_
    refine okS_getR dX2_isAbove_58 fl_X2_12 pr_5_0 ?_
    refine ok_iload_n dX2_isAbove_61 2 rfl ?_
    refine ok_iload_n dX2_isAbove_62 3 rfl ?_
    obtain ⟨r7, e8, h⟩ := it_bind h
    refine okS_V (as := [.int a2, .int a3]) (st := [.int r5]) (r := some (.int r7)) (S' := S) dX2_isAbove_63 cv_X2_51 rfl po_6 (Nat.le_of_ble_eq_true rfl) ⟨⟨by decide, by decide⟩, rfl, rfl⟩ (t_X8_count e8) ?_
    show Ok D_X2_isAbove (0, 0) (0, 0) 66 [(0, .ref 5), (1, .int a1), (2, .int a2), (3, .int a3)] [.int r7, .int r5] (St S) _
    refine ok_icmp_le (tgt := 73) dX2_isAbove_66 (by decide) (fun hc => ?_) (fun hc => ?_)
    · replace h := it_pos hc h
      refine ok_iconst (v := 0) dX2_isAbove_73 ic_0 ?_
      exact okS_ret dX2_isAbove_74 rfl (by decide) (by have e := Option.some.inj h; subst e; exact ⟨rfl, rfl⟩)
    · replace h := it_neg hc h
      refine ok_iconst (v := 1) dX2_isAbove_69 ic_1 ?_
      refine ok_goto (tgt := 74) dX2_isAbove_70 (by decide) ?_
      exact okS_ret dX2_isAbove_74 rfl (by decide) (by have e := Option.some.inj h; subst e; exact ⟨rfl, rfl⟩)
  · replace h := it_neg hc h
    refine ok_aload_n dX2_isAbove_21 0 rfl ?_
    refine okS_getR dX2_isAbove_22 fl_X2_21 pr_5_1 ?_
    refine ok_iload_n dX2_isAbove_25 1 rfl ?_
    refine ok_iload_n dX2_isAbove_26 3 rfl ?_
    obtain ⟨r9, e10, h⟩ := it_bind h
    refine okS_V (as := [.int a1, .int a3]) (st := []) (r := some (.int r9)) (S' := S) dX2_isAbove_27 cv_X2_39 rfl po_26 (Nat.le_of_ble_eq_true rfl) ⟨⟨by decide, by decide⟩, rfl, rfl⟩ (t_X5_of e10) ?_
    show Ok D_X2_isAbove (0, 0) (0, 0) 30 [(0, .ref 5), (1, .int a1), (2, .int a2), (3, .int a3)] [.int r9] (St S) _
    refine ok_aload_n dX2_isAbove_30 0 rfl ?_
    refine okS_getR dX2_isAbove_31 fl_X2_21 pr_5_1 ?_
    refine ok_iload_n dX2_isAbove_34 2 rfl ?_
    refine ok_iload_n dX2_isAbove_35 3 rfl ?_
    obtain ⟨r11, e12, h⟩ := it_bind h
    refine okS_V (as := [.int a2, .int a3]) (st := [.int r9]) (r := some (.int r11)) (S' := S) dX2_isAbove_36 cv_X2_39 rfl po_26 (Nat.le_of_ble_eq_true rfl) ⟨⟨by decide, by decide⟩, rfl, rfl⟩ (t_X5_of e12) ?_
    show Ok D_X2_isAbove (0, 0) (0, 0) 39 [(0, .ref 5), (1, .int a1), (2, .int a2), (3, .int a3)] [.int r11, .int r9] (St S) _
    refine ok_icmp_le (tgt := 46) dX2_isAbove_39 (by decide) (fun hc => ?_) (fun hc => ?_)
    · replace h := it_pos hc h
      refine ok_iconst (v := 0) dX2_isAbove_46 ic_0 ?_
      exact okS_ret dX2_isAbove_47 rfl (by decide) (by have e := Option.some.inj h; subst e; exact ⟨rfl, rfl⟩)
    · replace h := it_neg hc h
      refine ok_iconst (v := 1) dX2_isAbove_42 ic_1 ?_
      refine ok_goto (tgt := 47) dX2_isAbove_43 (by decide) ?_
      exact okS_ret dX2_isAbove_47 rfl (by decide) (by have e := Option.some.inj h; subst e; exact ⟨rfl, rfl⟩)
def lp_X2_top_4 (k : Int32 → Int32 → Option (Int32)) (S : Mm) (c1 : Int32) : Nat → Int32 → Int32 → Option (Int32)
  | 0, _, _ => none
  | fuel + 1, x2, x3 => (if 8 ≤ x3 then k x2 x3 else ((f_X5_of S x3 c1).bind fun r1 => (if r1 ≤ 0 then lp_X2_top_4 k S c1 fuel x2 (x3 + 1) else (if x2 = (-1) then lp_X2_top_4 k S c1 fuel x3 (x3 + 1) else ((f_X2_isAbove S x3 x2 c1).bind fun r3 => (if r3 = 0 then lp_X2_top_4 k S c1 fuel x2 (x3 + 1) else lp_X2_top_4 k S c1 fuel x3 (x3 + 1)))))))
def f_X2_top (S : Mm) (a1 : Int32) : Option (Int32) :=
  lp_X2_top_4 (fun y2_5 y3_6 => some y2_5) S a1 100000 (-1) 0
set_option maxRecDepth 100000 in
set_option maxHeartbeats 4000000 in
theorem tlp_X2_top_4 {k : Int32 → Int32 → Option (Int32)} {S : Mm} {c1 : Int32} (hk : ∀ (x2 x3 : Int32) (out : Int32), k x2 x3 = some out → Ok D_X2_top (0, 0) (0, 0) 45 [(0, .ref 5), (1, .int c1), (2, .int x2), (3, .int x3)] [] (St S) (An (some (.int out)) S)) : ∀ (fuel : Nat) (x2 x3 : Int32) (out : Int32), lp_X2_top_4 k S c1 fuel x2 x3 = some out → Ok D_X2_top (0, 0) (0, 0) 4 [(0, .ref 5), (1, .int c1), (2, .int x2), (3, .int x3)] [] (St S) (An (some (.int out)) S) := by
  intro fuel
  induction fuel with
  | zero => intro x2 x3 out h; cases h
  | succ fuel ih =>
    intro x2 x3 out h
    rw [lp_X2_top_4] at h
    refine ok_iload_n dX2_top_4 3 rfl ?_
    refine ok_bipush (v := 8) dX2_top_5 bi_8 ?_
    refine ok_icmp_ge (tgt := 45) dX2_top_7 (by decide) (fun hc => ?_) (fun hc => ?_)
    · replace h := it_pos hc h
      refine ok_perm [0, 1, 2, 3] rfl ?_
      exact hk _ _ _ h
    · replace h := it_neg hc h
      refine ok_aload_n dX2_top_10 0 rfl ?_
      refine okS_getR dX2_top_11 fl_X2_21 pr_5_1 ?_
      refine ok_iload_n dX2_top_14 3 rfl ?_
      refine ok_iload_n dX2_top_15 1 rfl ?_
      obtain ⟨r1, e2, h⟩ := it_bind h
      refine okS_V (as := [.int x3, .int c1]) (st := []) (r := some (.int r1)) (S' := S) dX2_top_16 cv_X2_39 rfl po_26 (Nat.le_of_ble_eq_true rfl) ⟨⟨by decide, by decide⟩, rfl, rfl⟩ (t_X5_of e2) ?_
      show Ok D_X2_top (0, 0) (0, 0) 19 [(0, .ref 5), (1, .int c1), (2, .int x2), (3, .int x3)] [.int r1] (St S) _
      refine ok_if_le (tgt := 39) dX2_top_19 (by decide) (fun hc => ?_) (fun hc => ?_)
      · replace h := it_pos hc h
        refine ok_iinc (v := x3 + 1) (L' := [(3, .int (x3 + 1)), (0, .ref 5), (1, .int c1), (2, .int x2)]) dX2_top_39 3 rfl (ii_1 _) (by decide) rfl ?_
        refine ok_goto (tgt := 4) dX2_top_42 (by decide) ?_
        refine ok_perm [1, 2, 3, 0] rfl ?_
        exact ih _ _ _ h
      · replace h := it_neg hc h
        refine ok_iload_n dX2_top_22 2 rfl ?_
        refine ok_iconst (v := (-1)) dX2_top_23 ic_m1 ?_
        refine ok_icmp_eq (tgt := 37) dX2_top_24 (by decide) (fun hc => ?_) (fun hc => ?_)
        · replace h := it_pos hc h
          refine ok_iload_n dX2_top_37 3 rfl ?_
          refine ok_istore_n (L' := [(2, .int x3), (0, .ref 5), (1, .int c1), (3, .int x3)]) dX2_top_38 (by decide) rfl ?_
          refine ok_iinc (v := x3 + 1) (L' := [(3, .int (x3 + 1)), (2, .int x3), (0, .ref 5), (1, .int c1)]) dX2_top_39 3 rfl (ii_1 _) (by decide) rfl ?_
          refine ok_goto (tgt := 4) dX2_top_42 (by decide) ?_
          refine ok_perm [2, 3, 1, 0] rfl ?_
          exact ih _ _ _ h
        · replace h := it_neg hc h
          refine ok_aload_n dX2_top_27 0 rfl ?_
          refine ok_iload_n dX2_top_28 3 rfl ?_
          refine ok_iload_n dX2_top_29 2 rfl ?_
          refine ok_iload_n dX2_top_30 1 rfl ?_
          obtain ⟨r3, e4, h⟩ := it_bind h
          refine okS_V (as := [.int x3, .int x2, .int c1]) (st := []) (r := some (.int r3)) (S' := S) dX2_top_31 cv_X2_47 rfl po_5 (Nat.le_of_ble_eq_true rfl) ⟨⟨by decide, by decide⟩, rfl, rfl⟩ (t_X2_isAbove e4) ?_
          show Ok D_X2_top (0, 0) (0, 0) 34 [(0, .ref 5), (1, .int c1), (2, .int x2), (3, .int x3)] [.int r3] (St S) _
          refine ok_if_eq (tgt := 39) dX2_top_34 (by decide) (fun hc => ?_) (fun hc => ?_)
          · replace h := it_pos hc h
            refine ok_iinc (v := x3 + 1) (L' := [(3, .int (x3 + 1)), (0, .ref 5), (1, .int c1), (2, .int x2)]) dX2_top_39 3 rfl (ii_1 _) (by decide) rfl ?_
            refine ok_goto (tgt := 4) dX2_top_42 (by decide) ?_
            refine ok_perm [1, 2, 3, 0] rfl ?_
            exact ih _ _ _ h
          · replace h := it_neg hc h
            refine ok_iload_n dX2_top_37 3 rfl ?_
            refine ok_istore_n (L' := [(2, .int x3), (0, .ref 5), (1, .int c1), (3, .int x3)]) dX2_top_38 (by decide) rfl ?_
            refine ok_iinc (v := x3 + 1) (L' := [(3, .int (x3 + 1)), (2, .int x3), (0, .ref 5), (1, .int c1)]) dX2_top_39 3 rfl (ii_1 _) (by decide) rfl ?_
            refine ok_goto (tgt := 4) dX2_top_42 (by decide) ?_
            refine ok_perm [2, 3, 1, 0] rfl ?_
            exact ih _ _ _ h
set_option maxRecDepth 100000 in
set_option maxHeartbeats 4000000 in
theorem t_X2_top {S : Mm} {a1 : Int32} {out : Int32} (h : f_X2_top S a1 = some out) : Rs D_X2_top [.ref 5, .int a1] S (some (.int out)) S := by
  refine rs_of (by decide) rfl (Nat.le_of_ble_eq_true rfl) ?_
  unfold f_X2_top at h
  show Ok D_X2_top (0, 0) (0, 0) 0 [(0, .ref 5), (1, .int a1)] [] (St S) _
  refine ok_iconst (v := (-1)) dX2_top_0 ic_m1 ?_
  refine ok_istore_n (L' := [(2, .int (-1)), (0, .ref 5), (1, .int a1)]) dX2_top_1 (by decide) rfl ?_
  refine ok_iconst (v := 0) dX2_top_2 ic_0 ?_
  refine ok_istore_n (L' := [(3, .int 0), (2, .int (-1)), (0, .ref 5), (1, .int a1)]) dX2_top_3 (by decide) rfl ?_
  refine ok_perm [2, 3, 1, 0] rfl ?_
  refine tlp_X2_top_4 (fun y2_5 y3_6 out7 h => ?_) _ _ _ _ h
  refine ok_iload_n dX2_top_45 2 rfl ?_
  exact okS_ret dX2_top_46 rfl rfl (by have e := Option.some.inj h; subst e; exact ⟨rfl, rfl⟩)
