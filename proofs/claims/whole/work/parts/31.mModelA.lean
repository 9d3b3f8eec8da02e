def f_X11_in (S : Mm) (a1 : Int64) (a2 : Int64) (a3 : Int64) : Option (Int32) :=
  (if (lg_cmp a1 a2) < 0 then some 0 else (if 0 < (lg_cmp a1 a3) then some 0 else some 1))
set_option maxRecDepth 100000 in
set_option maxHeartbeats 4000000 in
theorem t_X11_in {S : Mm} {a1 : Int64} {a2 : Int64} {a3 : Int64} {out : Int32} (h : f_X11_in S a1 a2 a3 = some out) : Rs D_X11_in [.long a1, .long a2, .long a3] S (some (.int out)) S := by
  refine rs_of (by decide) rfl (Nat.le_of_ble_eq_true rfl) ?_
  unfold f_X11_in at h
  show Ok D_X11_in (0, 0) (0, 0) 0 [(0, .long a1), (2, .long a2), (4, .long a3)] [] (St S) _
  refine ok_lload_n dX11_in_0 0 rfl ?_
  refine ok_lload_n dX11_in_1 1 rfl ?_
  refine ok_lcmp dX11_in_2 ?_
  refine ok_if_lt (tgt := 17) dX11_in_3 (by decide) (fun hc => ?_) (fun hc => ?_)
  · replace h := it_pos hc h
    refine ok_iconst (v := 0) dX11_in_17 ic_0 ?_
    exact okS_ret dX11_in_18 rfl (by decide) (by have e := Option.some.inj h; subst e; exact ⟨rfl, rfl⟩)
  · replace h := it_neg hc h
    refine ok_lload_n dX11_in_6 0 rfl ?_
    refine ok_lload dX11_in_7 2 rfl ?_
    refine ok_lcmp dX11_in_9 ?_
    refine ok_if_gt (tgt := 17) dX11_in_10 (by decide) (fun hc => ?_) (fun hc => ?_)
    · replace h := it_pos hc h
      refine ok_iconst (v := 0) dX11_in_17 ic_0 ?_
      exact okS_ret dX11_in_18 rfl (by decide) (by have e := Option.some.inj h; subst e; exact ⟨rfl, rfl⟩)
    · replace h := it_neg hc h
      refine ok_iconst (v := 1) dX11_in_13 ic_1 ?_
      refine ok_goto (tgt := 18) dX11_in_14 (by decide) ?_
      exact okS_ret dX11_in_18 rfl (by decide) (by have e := Option.some.inj h; subst e; exact ⟨rfl, rfl⟩)
def f_X11_has (S : Mm) (a1 : Int32) (a2 : Int32) : Option (Int32) :=
  (if ((a1 >>> (a2 &&& 31)) &&& 1) = 1 then some 1 else some 0)
set_option maxRecDepth 100000 in
set_option maxHeartbeats 4000000 in
theorem t_X11_has {S : Mm} {a1 : Int32} {a2 : Int32} {out : Int32} (h : f_X11_has S a1 a2 = some out) : Rs D_X11_has [.int a1, .int a2] S (some (.int out)) S := by
  refine rs_of (by decide) rfl (Nat.le_of_ble_eq_true rfl) ?_
  unfold f_X11_has at h
  show Ok D_X11_has (0, 0) (0, 0) 0 [(0, .int a1), (1, .int a2)] [] (St S) _
  refine ok_iload_n dX11_has_0 0 rfl ?_
  refine ok_iload_n dX11_has_1 1 rfl ?_
  refine ok_ishr dX11_has_2 ?_
  refine ok_iconst (v := 1) dX11_has_3 ic_1 ?_
  refine ok_iand dX11_has_4 ?_
  refine ok_iconst (v := 1) dX11_has_5 ic_1 ?_
  refine ok_icmp_ne (tgt := 13) dX11_has_6 (by decide) (fun hc => ?_) (fun hc => ?_)
  · replace h := it_neg hc h
    refine ok_iconst (v := 0) dX11_has_13 ic_0 ?_
    exact okS_ret dX11_has_14 rfl (by decide) (by have e := Option.some.inj h; subst e; exact ⟨rfl, rfl⟩)
  · replace h := it_pos hc h
    refine ok_iconst (v := 1) dX11_has_9 ic_1 ?_
    refine ok_goto (tgt := 14) dX11_has_10 (by decide) ?_
    exact okS_ret dX11_has_14 rfl (by decide) (by have e := Option.some.inj h; subst e; exact ⟨rfl, rfl⟩)
def lp_X11_copyRow_2 (k : Int32 → Mm → Option (Mm)) (c1 : Int32) (c2 : Int32) : Nat → Int32 → Mm → Option (Mm)
  | 0, _, _ => none
  | fuel + 1, x3, S => (if 86 ≤ x3 then k x3 S else (if inb (c1 + x3) 1634 then (if inb (c2 + x3) 1634 then lp_X11_copyRow_2 k c1 c2 fuel (x3 + 1) (wr S 154 (c2 + x3).toNatClampNeg (S.1 154 (c1 + x3).toNatClampNeg)) else none) else none))
def f_X11_copyRow (S : Mm) (a1 : Int32) (a2 : Int32) : Option (Mm) :=
  lp_X11_copyRow_2 (fun y3_3 S4 => some S4) a1 a2 100000 0 S
set_option maxRecDepth 100000 in
set_option maxHeartbeats 4000000 in
theorem tlp_X11_copyRow_2 {k : Int32 → Mm → Option (Mm)} {c1 : Int32} {c2 : Int32} (hk : ∀ (x3 : Int32) (S : Mm) (out : Mm), k x3 S = some out → Ok D_X11_copyRow (0, 0) (0, 0) 30 [(0, .ref 153), (1, .int c1), (2, .int c2), (3, .int x3)] [] (St S) (An none out)) : ∀ (fuel : Nat) (x3 : Int32) (S : Mm) (out : Mm), lp_X11_copyRow_2 k c1 c2 fuel x3 S = some out → Ok D_X11_copyRow (0, 0) (0, 0) 2 [(0, .ref 153), (1, .int c1), (2, .int c2), (3, .int x3)] [] (St S) (An none out) := by
  intro fuel
  induction fuel with
  | zero => intro x3 S out h; cases h
  | succ fuel ih =>
    intro x3 S out h
    rw [lp_X11_copyRow_2] at h
    refine ok_iload_n dX11_copyRow_2 3 rfl ?_
    refine ok_bipush (v := 86) dX11_copyRow_3 bi_86 ?_
    refine ok_icmp_ge (tgt := 30) dX11_copyRow_5 (by decide) (fun hc => ?_) (fun hc => ?_)
    · replace h := it_pos hc h
      refine ok_perm [0, 1, 2, 3] rfl ?_
      exact hk _ _ _ h
    · replace h := it_neg hc h
      refine ok_aload_n dX11_copyRow_8 0 rfl ?_
      refine okS_getR dX11_copyRow_9 fl_X11_7 pr_153_0 ?_
      refine ok_iload_n dX11_copyRow_12 2 rfl ?_
      refine ok_iload_n dX11_copyRow_13 3 rfl ?_
      refine ok_iadd dX11_copyRow_14 ?_
      refine ok_aload_n dX11_copyRow_15 0 rfl ?_
      refine okS_getR dX11_copyRow_16 fl_X11_7 pr_153_0 ?_
      refine ok_iload_n dX11_copyRow_19 1 rfl ?_
      refine ok_iload_n dX11_copyRow_20 3 rfl ?_
      refine ok_iadd dX11_copyRow_21 ?_
      obtain ⟨hi1, h⟩ := it_some h
      refine okS_iaload dX11_copyRow_22 pa_154 hi1 ?_
      obtain ⟨hi2, h⟩ := it_some h
      refine okS_iastore dX11_copyRow_23 pa_154 hi2 ?_
      refine ok_iinc (v := x3 + 1) (L' := [(3, .int (x3 + 1)), (0, .ref 153), (1, .int c1), (2, .int c2)]) dX11_copyRow_24 3 rfl (ii_1 _) (by decide) rfl ?_
      refine ok_goto (tgt := 2) dX11_copyRow_27 (by decide) ?_
      refine ok_perm [1, 2, 3, 0] rfl ?_
      exact ih _ _ _ h
set_option maxRecDepth 100000 in
set_option maxHeartbeats 4000000 in
theorem t_X11_copyRow {S : Mm} {a1 : Int32} {a2 : Int32} {out : Mm} (h : f_X11_copyRow S a1 a2 = some out) : Rs D_X11_copyRow [.ref 153, .int a1, .int a2] S none out := by
  refine rs_of (by decide) rfl (Nat.le_of_ble_eq_true rfl) ?_
  unfold f_X11_copyRow at h
  show Ok D_X11_copyRow (0, 0) (0, 0) 0 [(0, .ref 153), (1, .int a1), (2, .int a2)] [] (St S) _
  refine ok_iconst (v := 0) dX11_copyRow_0 ic_0 ?_
  refine ok_istore_n (L' := [(3, .int 0), (0, .ref 153), (1, .int a1), (2, .int a2)]) dX11_copyRow_1 (by decide) rfl ?_
  refine ok_perm [1, 2, 3, 0] rfl ?_
  refine tlp_X11_copyRow_2 (fun y3_3 S4 out5 h => ?_) _ _ _ _ h
  exact okS_retv dX11_copyRow_30 rfl (by have e := Option.some.inj h; subst e; exact ⟨rfl, rfl⟩)
def lp_X11_remember_3 (k : Int32 → Mm → Option (Mm)) : Nat → Int32 → Mm → Option (Mm)
  | 0, _, _ => none
  | fuel + 1, x1, S => (if x1 ≤ 0 then k x1 S else ((f_X11_copyRow S (86 * (x1 - 1)) (86 * x1)).bind fun r1 => lp_X11_remember_3 k fuel (x1 + (-1)) r1))
def f_X11_remember (S : Mm)  : Option (Mm) :=
  lp_X11_remember_3 (fun y1_3 S4 => (if 16 ≤ (S4.1 153 1) then some (wr S4 153 1 16) else some (wr S4 153 1 ((S4.1 153 1) + 1)))) 100000 16 S
set_option maxRecDepth 100000 in
set_option maxHeartbeats 4000000 in
theorem tlp_X11_remember_3 {k : Int32 → Mm → Option (Mm)} (hk : ∀ (x1 : Int32) (S : Mm) (out : Mm), k x1 S = some out → Ok D_X11_remember (0, 0) (0, 0) 27 [(0, .ref 153), (1, .int x1)] [] (St S) (An none out)) : ∀ (fuel : Nat) (x1 : Int32) (S : Mm) (out : Mm), lp_X11_remember_3 k fuel x1 S = some out → Ok D_X11_remember (0, 0) (0, 0) 3 [(0, .ref 153), (1, .int x1)] [] (St S) (An none out) := by
  intro fuel
  induction fuel with
  | zero => intro x1 S out h; cases h
  | succ fuel ih =>
    intro x1 S out h
    rw [lp_X11_remember_3] at h
    refine ok_iload_n dX11_remember_3 1 rfl ?_
    refine ok_if_le (tgt := 27) dX11_remember_4 (by decide) (fun hc => ?_) (fun hc => ?_)
    · replace h := it_pos hc h
      refine ok_perm [0, 1] rfl ?_
      exact hk _ _ _ h
    · replace h := it_neg hc h
      refine ok_aload_n dX11_remember_7 0 rfl ?_
      refine ok_bipush (v := 86) dX11_remember_8 bi_86 ?_
      refine ok_iload_n dX11_remember_10 1 rfl ?_
      refine ok_iconst (v := 1) dX11_remember_11 ic_1 ?_
      refine ok_isub dX11_remember_12 ?_
      refine ok_imul dX11_remember_13 ?_
      refine ok_bipush (v := 86) dX11_remember_14 bi_86 ?_
      refine ok_iload_n dX11_remember_16 1 rfl ?_
      refine ok_imul dX11_remember_17 ?_
      obtain ⟨r1, e2, h⟩ := it_bind h
      refine okS_V (as := [.int (86 * (x1 - 1)), .int (86 * x1)]) (st := []) (r := none) (S' := r1) dX11_remember_18 cv_X11_59 rfl po_153 (Nat.le_of_ble_eq_true rfl) ⟨⟨by decide, by decide⟩, rfl, rfl⟩ (t_X11_copyRow e2) ?_
      show Ok D_X11_remember (0, 0) (0, 0) 21 [(0, .ref 153), (1, .int x1)] [] (St r1) _
      refine ok_iinc (v := x1 + (-1)) (L' := [(1, .int (x1 + (-1))), (0, .ref 153)]) dX11_remember_21 1 rfl (ii_m1 _) (by decide) rfl ?_
      refine ok_goto (tgt := 3) dX11_remember_24 (by decide) ?_
      refine ok_perm [1, 0] rfl ?_
      exact ih _ _ _ h
set_option maxRecDepth 100000 in
set_option maxHeartbeats 4000000 in
theorem t_X11_remember {S : Mm} {out : Mm} (h : f_X11_remember S  = some out) : Rs D_X11_remember [.ref 153] S none out := by
  refine rs_of (by decide) rfl (Nat.le_of_ble_eq_true rfl) ?_
  unfold f_X11_remember at h
  show Ok D_X11_remember (0, 0) (0, 0) 0 [(0, .ref 153)] [] (St S) _
  refine ok_bipush (v := 16) dX11_remember_0 bi_16 ?_
  refine ok_istore_n (L' := [(1, .int 16), (0, .ref 153)]) dX11_remember_2 (by decide) rfl ?_
  refine ok_perm [1, 0] rfl ?_
  refine tlp_X11_remember_3 (fun y1_3 S4 out5 h => ?_) _ _ _ _ h
  refine ok_aload_n dX11_remember_27 0 rfl ?_
  refine ok_aload_n dX11_remember_28 0 rfl ?_
  refine okS_getI dX11_remember_29 fl_X11_63 pi_153_1 ?_
  refine ok_bipush (v := 16) dX11_remember_32 bi_16 ?_
  refine ok_icmp_ge (tgt := 46) dX11_remember_34 (by decide) (fun hc => ?_) (fun hc => ?_)
  · replace h := it_pos hc h
    refine ok_bipush (v := 16) dX11_remember_46 bi_16 ?_
    refine okS_putI dX11_remember_48 fl_X11_63 pi_153_1 ⟨rfl, rfl⟩ ?_
    exact okS_retv dX11_remember_51 rfl (by have e := Option.some.inj h; subst e; exact ⟨rfl, rfl⟩)
  · replace h := it_neg hc h
    refine ok_aload_n dX11_remember_37 0 rfl ?_
    refine okS_getI dX11_remember_38 fl_X11_63 pi_153_1 ?_
    refine ok_iconst (v := 1) dX11_remember_41 ic_1 ?_
    refine ok_iadd dX11_remember_42 ?_
    refine ok_goto (tgt := 48) dX11_remember_43 (by decide) ?_
    refine okS_putI dX11_remember_48 fl_X11_63 pi_153_1 ⟨rfl, rfl⟩ ?_
    exact okS_retv dX11_remember_51 rfl (by have e := Option.some.inj h; subst e; exact ⟨rfl, rfl⟩)
def lp_X11_count_5 (k : Int32 → Int32 → Option (Int32)) (S : Mm) (c1 : Int32) (c2 : Int32) : Nat → Int32 → Int32 → Option (Int32)
  | 0, _, _ => none
  | fuel + 1, x3, x4 => (if (S.1 154 1) ≤ x4 then k x3 x4 else (if c1 < 0 then (if inb (46 + x4) 1634 then (if ((S.1 154 (46 + x4).toNatClampNeg) &&& c2) = c2 then lp_X11_count_5 k S c1 c2 fuel (x3 + 1) (x4 + 1) else lp_X11_count_5 k S c1 c2 fuel (x3 + 0) (x4 + 1)) else none) else (if inb (6 + x4) 1634 then (if (S.1 154 (6 + x4).toNatClampNeg) = c1 then (if inb (46 + x4) 1634 then (if ((S.1 154 (46 + x4).toNatClampNeg) &&& c2) = c2 then lp_X11_count_5 k S c1 c2 fuel (x3 + 1) (x4 + 1) else lp_X11_count_5 k S c1 c2 fuel (x3 + 0) (x4 + 1)) else none) else lp_X11_count_5 k S c1 c2 fuel (x3 + 0) (x4 + 1)) else none)))
def f_X11_count (S : Mm) (a1 : Int32) (a2 : Int32) : Option (Int32) :=
  lp_X11_count_5 (fun y3_4 y4_5 => some y3_4) S a1 a2 100000 0 0
set_option maxRecDepth 100000 in
set_option maxHeartbeats 4000000 in
theorem tlp_X11_count_5 {k : Int32 → Int32 → Option (Int32)} {S : Mm} {c1 : Int32} {c2 : Int32} (hk : ∀ (x3 x4 : Int32) (out : Int32), k x3 x4 = some out → Ok D_X11_count (0, 0) (0, 0) 64 [(0, .ref 153), (1, .int c1), (2, .int c2), (3, .int x3), (4, .int x4)] [] (St S) (An (some (.int out)) S)) : ∀ (fuel : Nat) (x3 x4 : Int32) (out : Int32), lp_X11_count_5 k S c1 c2 fuel x3 x4 = some out → Ok D_X11_count (0, 0) (0, 0) 5 [(0, .ref 153), (1, .int c1), (2, .int c2), (3, .int x3), (4, .int x4)] [] (St S) (An (some (.int out)) S) := by
  intro fuel
  induction fuel with
  | zero => intro x3 x4 out h; cases h
  | succ fuel ih =>
    intro x3 x4 out h
    rw [lp_X11_count_5] at h
    refine ok_iload dX11_count_5 4 rfl ?_
    refine ok_aload_n dX11_count_7 0 rfl ?_
    refine okS_getR dX11_count_8 fl_X11_7 pr_153_0 ?_
    refine ok_iconst (v := 1) dX11_count_11 ic_1 ?_
    refine okS_ialoadL (j := 1) dX11_count_12 pa_154 (by decide) tnl_1 ?_
    refine ok_icmp_ge (tgt := 64) dX11_count_13 (by decide) (fun hc => ?_) (fun hc => ?_)
    · replace h := it_pos hc h
      refine ok_perm [0, 1, 2, 3, 4] rfl ?_
      exact hk _ _ _ h
    · replace h := it_neg hc h
      refine ok_iload_n dX11_count_16 3 rfl ?_
      refine ok_iload_n dX11_count_17 1 rfl ?_
      refine ok_if_lt (tgt := 35) dX11_count_18 (by decide) (fun hc => ?_) (fun hc => ?_)
      · replace h := it_pos hc h
        refine ok_aload_n dX11_count_35 0 rfl ?_
        refine okS_getR dX11_count_36 fl_X11_7 pr_153_0 ?_
        refine ok_bipush (v := 46) dX11_count_39 bi_46 ?_
        refine ok_iload dX11_count_41 4 rfl ?_
        refine ok_iadd dX11_count_43 ?_
        obtain ⟨hi1, h⟩ := it_some h
        refine okS_iaload dX11_count_44 pa_154 hi1 ?_
        refine ok_iload_n dX11_count_45 2 rfl ?_
        refine ok_iand dX11_count_46 ?_
        refine ok_iload_n dX11_count_47 2 rfl ?_
        refine ok_icmp_ne (tgt := 55) dX11_count_48 (by decide) (fun hc => ?_) (fun hc => ?_)
        · replace h := it_neg hc h
          refine ok_iconst (v := 0) dX11_count_55 ic_0 ?_
          refine ok_iadd dX11_count_56 ?_
          refine ok_istore_n (L' := [(3, .int (x3 + 0)), (0, .ref 153), (1, .int c1), (2, .int c2), (4, .int x4)]) dX11_count_57 (by decide) rfl ?_
          refine ok_iinc (v := x4 + 1) (L' := [(4, .int (x4 + 1)), (3, .int (x3 + 0)), (0, .ref 153), (1, .int c1), (2, .int c2)]) dX11_count_58 4 rfl (ii_1 _) (by decide) rfl ?_
          refine ok_goto (tgt := 5) dX11_count_61 (by decide) ?_
          refine ok_perm [2, 3, 4, 1, 0] rfl ?_
          exact ih _ _ _ h
        · replace h := it_pos hc h
          refine ok_iconst (v := 1) dX11_count_51 ic_1 ?_
          refine ok_goto (tgt := 56) dX11_count_52 (by decide) ?_
          refine ok_iadd dX11_count_56 ?_
          refine ok_istore_n (L' := [(3, .int (x3 + 1)), (0, .ref 153), (1, .int c1), (2, .int c2), (4, .int x4)]) dX11_count_57 (by decide) rfl ?_
          refine ok_iinc (v := x4 + 1) (L' := [(4, .int (x4 + 1)), (3, .int (x3 + 1)), (0, .ref 153), (1, .int c1), (2, .int c2)]) dX11_count_58 4 rfl (ii_1 _) (by decide) rfl ?_
          refine ok_goto (tgt := 5) dX11_count_61 (by decide) ?_
          refine ok_perm [2, 3, 4, 1, 0] rfl ?_
          exact ih _ _ _ h
      · replace h := it_neg hc h
        refine ok_aload_n dX11_count_21 0 rfl ?_
        refine okS_getR dX11_count_22 fl_X11_7 pr_153_0 ?_
        refine ok_bipush (v := 6) dX11_count_25 bi_6 ?_
        refine ok_iload dX11_count_27 4 rfl ?_
        refine ok_iadd dX11_count_29 ?_
        obtain ⟨hi2, h⟩ := it_some h
        refine okS_iaload dX11_count_30 pa_154 hi2 ?_
        refine ok_iload_n dX11_count_31 1 rfl ?_
        refine ok_icmp_ne (tgt := 55) dX11_count_32 (by decide) (fun hc => ?_) (fun hc => ?_)
        · replace h := it_neg hc h
          refine ok_iconst (v := 0) dX11_count_55 ic_0 ?_
          refine ok_iadd dX11_count_56 ?_
          refine ok_istore_n (L' := [(3, .int (x3 + 0)), (0, .ref 153), (1, .int c1), (2, .int c2), (4, .int x4)]) dX11_count_57 (by decide) rfl ?_
          refine ok_iinc (v := x4 + 1) (L' := [(4, .int (x4 + 1)), (3, .int (x3 + 0)), (0, .ref 153), (1, .int c1), (2, .int c2)]) dX11_count_58 4 rfl (ii_1 _) (by decide) rfl ?_
          refine ok_goto (tgt := 5) dX11_count_61 (by decide) ?_
          refine ok_perm [2, 3, 4, 1, 0] rfl ?_
          exact ih _ _ _ h
        · replace h := it_pos hc h
          refine ok_aload_n dX11_count_35 0 rfl ?_
          refine okS_getR dX11_count_36 fl_X11_7 pr_153_0 ?_
          refine ok_bipush (v := 46) dX11_count_39 bi_46 ?_
          refine ok_iload dX11_count_41 4 rfl ?_
          refine ok_iadd dX11_count_43 ?_
          obtain ⟨hi3, h⟩ := it_some h
          refine okS_iaload dX11_count_44 pa_154 hi3 ?_
          refine ok_iload_n dX11_count_45 2 rfl ?_
          refine ok_iand dX11_count_46 ?_
          refine ok_iload_n dX11_count_47 2 rfl ?_
          refine ok_icmp_ne (tgt := 55) dX11_count_48 (by decide) (fun hc => ?_) (fun hc => ?_)
          · replace h := it_neg hc h
            refine ok_iconst (v := 0) dX11_count_55 ic_0 ?_
            refine ok_iadd dX11_count_56 ?_
            refine ok_istore_n (L' := [(3, .int (x3 + 0)), (0, .ref 153), (1, .int c1), (2, .int c2), (4, .int x4)]) dX11_count_57 (by decide) rfl ?_
            refine ok_iinc (v := x4 + 1) (L' := [(4, .int (x4 + 1)), (3, .int (x3 + 0)), (0, .ref 153), (1, .int c1), (2, .int c2)]) dX11_count_58 4 rfl (ii_1 _) (by decide) rfl ?_
            refine ok_goto (tgt := 5) dX11_count_61 (by decide) ?_
            refine ok_perm [2, 3, 4, 1, 0] rfl ?_
            exact ih _ _ _ h
          · replace h := it_pos hc h
            refine ok_iconst (v := 1) dX11_count_51 ic_1 ?_
            refine ok_goto (tgt := 56) dX11_count_52 (by decide) ?_
            refine ok_iadd dX11_count_56 ?_
            refine ok_istore_n (L' := [(3, .int (x3 + 1)), (0, .ref 153), (1, .int c1), (2, .int c2), (4, .int x4)]) dX11_count_57 (by decide) rfl ?_
            refine ok_iinc (v := x4 + 1) (L' := [(4, .int (x4 + 1)), (3, .int (x3 + 1)), (0, .ref 153), (1, .int c1), (2, .int c2)]) dX11_count_58 4 rfl (ii_1 _) (by decide) rfl ?_
            refine ok_goto (tgt := 5) dX11_count_61 (by decide) ?_
            refine ok_perm [2, 3, 4, 1, 0] rfl ?_
            exact ih _ _ _ h
set_option maxRecDepth 100000 in
set_option maxHeartbeats 4000000 in
theorem t_X11_count {S : Mm} {a1 : Int32} {a2 : Int32} {out : Int32} (h : f_X11_count S a1 a2 = some out) : Rs D_X11_count [.ref 153, .int a1, .int a2] S (some (.int out)) S := by
  refine rs_of (by decide) rfl (Nat.le_of_ble_eq_true rfl) ?_
  unfold f_X11_count at h
  show Ok D_X11_count (0, 0) (0, 0) 0 [(0, .ref 153), (1, .int a1), (2, .int a2)] [] (St S) _
  refine ok_iconst (v := 0) dX11_count_0 ic_0 ?_
  refine ok_istore_n (L' := [(3, .int 0), (0, .ref 153), (1, .int a1), (2, .int a2)]) dX11_count_1 (by decide) rfl ?_
  refine ok_iconst (v := 0) dX11_count_2 ic_0 ?_
  refine ok_istore (L' := [(4, .int 0), (3, .int 0), (0, .ref 153), (1, .int a1), (2, .int a2)]) dX11_count_3 (by decide) rfl ?_
  refine ok_perm [2, 3, 4, 1, 0] rfl ?_
  refine tlp_X11_count_5 (fun y3_4 y4_5 out6 h => ?_) _ _ _ _ h
  refine ok_iload_n dX11_count_64 3 rfl ?_
  exact okS_ret dX11_count_65 rfl rfl (by have e := Option.some.inj h; subst e; exact ⟨rfl, rfl⟩)
def f_X11_wanted (S : Mm) (a1 : Int32) (a2 : Int32) (a3 : Int32) : Option (Int32) :=
  (if (S.1 154 1) = 0 then some (0 + (a3 * (S.1 154 4))) else ((f_X11_count S a2 0).bind fun r1 => ((f_X11_count S (-1) (1 <<< (a1 &&& 31))).bind fun r3 => (if ¬ (S.1 154 1) = 0 then some (((r1 * r3) / (S.1 154 1)) + (a3 * (S.1 154 4))) else none))))
set_option maxRecDepth 100000 in
set_option maxHeartbeats 4000000 in
theorem t_X11_wanted {S : Mm} {a1 : Int32} {a2 : Int32} {a3 : Int32} {out : Int32} (h : f_X11_wanted S a1 a2 a3 = some out) : Rs D_X11_wanted [.ref 153, .int a1, .int a2, .int a3] S (some (.int out)) S := by
  refine rs_of (by decide) rfl (Nat.le_of_ble_eq_true rfl) ?_
  unfold f_X11_wanted at h
  show Ok D_X11_wanted (0, 0) (0, 0) 0 [(0, .ref 153), (1, .int a1), (2, .int a2), (3, .int a3)] [] (St S) _
  refine ok_aload_n dX11_wanted_0 0 rfl ?_
  refine okS_getR dX11_wanted_1 fl_X11_7 pr_153_0 ?_
  refine ok_iconst (v := 1) dX11_wanted_4 ic_1 ?_
  refine okS_ialoadL (j := 1) dX11_wanted_5 pa_154 (by decide) tnl_1 ?_
  refine ok_if_ne (tgt := 13) dX11_wanted_6 (by decide) (fun hc => ?_) (fun hc => ?_)
  · replace h := it_neg hc h
    refine ok_aload_n dX11_wanted_13 0 rfl ?_
    refine ok_iload_n dX11_wanted_14 2 rfl ?_
    refine ok_iconst (v := 0) dX11_wanted_15 ic_0 ?_
    obtain ⟨r1, e2, h⟩ := it_bind h
    refine okS_V (as := [.int a2, .int 0]) (st := []) (r := some (.int r1)) (S' := S) dX11_wanted_16 cv_X11_66 rfl po_153 (Nat.le_of_ble_eq_true rfl) ⟨⟨by decide, by decide⟩, rfl, rfl⟩ (t_X11_count e2) ?_
    show Ok D_X11_wanted (0, 0) (0, 0) 19 [(0, .ref 153), (1, .int a1), (2, .int a2), (3, .int a3)] [.int r1] (St S) _
    refine ok_aload_n dX11_wanted_19 0 rfl ?_
    refine ok_iconst (v := (-1)) dX11_wanted_20 ic_m1 ?_
    refine ok_iconst (v := 1) dX11_wanted_21 ic_1 ?_
    refine ok_iload_n dX11_wanted_22 1 rfl ?_
    refine ok_ishl dX11_wanted_23 ?_
    obtain ⟨r3, e4, h⟩ := it_bind h
    refine okS_V (as := [.int (-1), .int (1 <<< (a1 &&& 31))]) (st := [.int r1]) (r := some (.int r3)) (S' := S) dX11_wanted_24 cv_X11_66 rfl po_153 (Nat.le_of_ble_eq_true rfl) ⟨⟨by decide, by decide⟩, rfl, rfl⟩ (t_X11_count e4) ?_
    show Ok D_X11_wanted (0, 0) (0, 0) 27 [(0, .ref 153), (1, .int a1), (2, .int a2), (3, .int a3)] [.int r3, .int r1] (St S) _
    refine ok_imul dX11_wanted_27 ?_
    refine ok_aload_n dX11_wanted_28 0 rfl ?_
    refine okS_getR dX11_wanted_29 fl_X11_7 pr_153_0 ?_
    refine ok_iconst (v := 1) dX11_wanted_32 ic_1 ?_
    refine okS_ialoadL (j := 1) dX11_wanted_33 pa_154 (by decide) tnl_1 ?_
    obtain ⟨hi, h⟩ := it_some h
    refine ok_idiv dX11_wanted_34 hi ?_
    refine ok_istore (L' := [(4, .int ((r1 * r3) / (S.1 154 1))), (0, .ref 153), (1, .int a1), (2, .int a2), (3, .int a3)]) dX11_wanted_35 (by decide) rfl ?_
    refine ok_iload dX11_wanted_37 0 rfl ?_
    refine ok_iload_n dX11_wanted_39 4 rfl ?_
    refine ok_aload_n dX11_wanted_40 1 rfl ?_
    refine okS_getR dX11_wanted_41 fl_X11_7 pr_153_0 ?_
    refine ok_iconst (v := 4) dX11_wanted_44 ic_4 ?_
    refine okS_ialoadL (j := 4) dX11_wanted_45 pa_154 (by decide) tnl_4 ?_
    refine ok_imul dX11_wanted_46 ?_
    refine ok_iadd dX11_wanted_47 ?_
    exact okS_ret dX11_wanted_48 rfl rfl (by have e := Option.some.inj h; subst e; exact ⟨rfl, rfl⟩)
  · replace h := it_pos hc h
    refine ok_iconst (v := 0) dX11_wanted_9 ic_0 ?_
    refine ok_goto (tgt := 35) dX11_wanted_10 (by decide) ?_
    refine ok_istore (L' := [(4, .int 0), (0, .ref 153), (1, .int a1), (2, .int a2), (3, .int a3)]) dX11_wanted_35 (by decide) rfl ?_
    refine ok_iload dX11_wanted_37 0 rfl ?_
    refine ok_iload_n dX11_wanted_39 4 rfl ?_
    refine ok_aload_n dX11_wanted_40 1 rfl ?_
    refine okS_getR dX11_wanted_41 fl_X11_7 pr_153_0 ?_
    refine ok_iconst (v := 4) dX11_wanted_44 ic_4 ?_
    refine okS_ialoadL (j := 4) dX11_wanted_45 pa_154 (by decide) tnl_4 ?_
    refine ok_imul dX11_wanted_46 ?_
    refine ok_iadd dX11_wanted_47 ?_
    exact okS_ret dX11_wanted_48 rfl rfl (by have e := Option.some.inj h; subst e; exact ⟨rfl, rfl⟩)
def f_X11_unlikely (S : Mm) (a1 : Int32) (a2 : Int32) (a3 : Int32) : Option (Int32) :=
  ((f_X11_count S a2 (1 <<< (a1 &&& 31))).bind fun r1 => ((f_X11_wanted S a1 a2 a3).bind fun r3 => (if 0 ≤ (r1 - r3) then some ((S.1 154 3) * (r1 - r3)) else some ((S.1 154 3) * (-(r1 - r3))))))
set_option maxRecDepth 100000 in
set_option maxHeartbeats 4000000 in
theorem t_X11_unlikely {S : Mm} {a1 : Int32} {a2 : Int32} {a3 : Int32} {out : Int32} (h : f_X11_unlikely S a1 a2 a3 = some out) : Rs D_X11_unlikely [.ref 153, .int a1, .int a2, .int a3] S (some (.int out)) S := by
  refine rs_of (by decide) rfl (Nat.le_of_ble_eq_true rfl) ?_
  unfold f_X11_unlikely at h
  show Ok D_X11_unlikely (0, 0) (0, 0) 0 [(0, .ref 153), (1, .int a1), (2, .int a2), (3, .int a3)] [] (St S) _
  refine ok_aload_n dX11_unlikely_0 0 rfl ?_
  refine ok_iload_n dX11_unlikely_1 2 rfl ?_
  refine ok_iconst (v := 1) dX11_unlikely_2 ic_1 ?_
  refine ok_iload_n dX11_unlikely_3 1 rfl ?_
  refine ok_ishl dX11_unlikely_4 ?_
  obtain ⟨r1, e2, h⟩ := it_bind h
  refine okS_V (as := [.int a2, .int (1 <<< (a1 &&& 31))]) (st := []) (r := some (.int r1)) (S' := S) dX11_unlikely_5 cv_X11_66 rfl po_153 (Nat.le_of_ble_eq_true rfl) ⟨⟨by decide, by decide⟩, rfl, rfl⟩ (t_X11_count e2) ?_
  show Ok D_X11_unlikely (0, 0) (0, 0) 8 [(0, .ref 153), (1, .int a1), (2, .int a2), (3, .int a3)] [.int r1] (St S) _
  refine ok_aload_n dX11_unlikely_8 0 rfl ?_
  refine ok_iload_n dX11_unlikely_9 1 rfl ?_
  refine ok_iload_n dX11_unlikely_10 2 rfl ?_
  refine ok_iload_n dX11_unlikely_11 3 rfl ?_
  obtain ⟨r3, e4, h⟩ := it_bind h
  refine okS_V (as := [.int a1, .int a2, .int a3]) (st := [.int r1]) (r := some (.int r3)) (S' := S) dX11_unlikely_12 cv_X11_70 rfl po_153 (Nat.le_of_ble_eq_true rfl) ⟨⟨by decide, by decide⟩, rfl, rfl⟩ (t_X11_wanted e4) ?_
  show Ok D_X11_unlikely (0, 0) (0, 0) 15 [(0, .ref 153), (1, .int a1), (2, .int a2), (3, .int a3)] [.int r3, .int r1] (St S) _
  refine ok_isub dX11_unlikely_15 ?_
  refine ok_istore (L' := [(4, .int (r1 - r3)), (0, .ref 153), (1, .int a1), (2, .int a2), (3, .int a3)]) dX11_unlikely_16 (by decide) rfl ?_
  refine ok_aload_n dX11_unlikely_18 1 rfl ?_
  refine okS_getR dX11_unlikely_19 fl_X11_7 pr_153_0 ?_
  refine ok_iconst (v := 3) dX11_unlikely_22 ic_3 ?_
  refine okS_ialoadL (j := 3) dX11_unlikely_23 pa_154 (by decide) tnl_3 ?_
  refine ok_iload dX11_unlikely_24 0 rfl ?_
  refine ok_if_ge (tgt := 35) dX11_unlikely_26 (by decide) (fun hc => ?_) (fun hc => ?_)
  · replace h := it_pos hc h
    refine ok_iload dX11_unlikely_35 0 rfl ?_
    refine ok_imul dX11_unlikely_37 ?_
    exact okS_ret dX11_unlikely_38 rfl rfl (by have e := Option.some.inj h; subst e; exact ⟨rfl, rfl⟩)
  · replace h := it_neg hc h
    refine ok_iload dX11_unlikely_29 0 rfl ?_
    refine ok_ineg dX11_unlikely_31 ?_
    refine ok_goto (tgt := 37) dX11_unlikely_32 (by decide) ?_
    refine ok_imul dX11_unlikely_37 ?_
    exact okS_ret dX11_unlikely_38 rfl rfl (by have e := Option.some.inj h; subst e; exact ⟨rfl, rfl⟩)
def f_X11_through (S : Mm) (a1 : Int32) (a2 : Int32) (a3 : Int32) (a4 : Int32) : Option (Int32) :=
  (if a4 ≤ a3 then ((f_X11_unlikely S a1 a2 a4).bind fun r1 => (if inb ((4 * (a2 + 1)) + a4) 52 then some ((r1 + ((S.1 154 5) * 0)) + (S.1 160 ((4 * (a2 + 1)) + a4).toNatClampNeg)) else none)) else ((f_X11_unlikely S a1 a2 a4).bind fun r4 => (if inb ((4 * (a2 + 1)) + a4) 52 then some ((r4 + ((S.1 154 5) * (a4 - a3))) + (S.1 160 ((4 * (a2 + 1)) + a4).toNatClampNeg)) else none)))
set_option maxRecDepth 100000 in
set_option maxHeartbeats 4000000 in
theorem t_X11_through {S : Mm} {a1 : Int32} {a2 : Int32} {a3 : Int32} {a4 : Int32} {out : Int32} (h : f_X11_through S a1 a2 a3 a4 = some out) : Rs D_X11_through [.ref 153, .int a1, .int a2, .int a3, .int a4] S (some (.int out)) S := by
  refine rs_of (by decide) rfl (Nat.le_of_ble_eq_true rfl) ?_
  unfold f_X11_through at h
  show Ok D_X11_through (0, 0) (0, 0) 0 [(0, .ref 153), (1, .int a1), (2, .int a2), (3, .int a3), (4, .int a4)] [] (St S) _
  refine ok_iload dX11_through_0 4 rfl ?_
  refine ok_iload_n dX11_through_2 3 rfl ?_
  refine ok_icmp_le (tgt := 13) dX11_through_3 (by decide) (fun hc => ?_) (fun hc => ?_)
  · replace h := it_pos hc h
    refine ok_iconst (v := 0) dX11_through_13 ic_0 ?_
    refine ok_istore (L' := [(5, .int 0), (0, .ref 153), (1, .int a1), (2, .int a2), (3, .int a3), (4, .int a4)]) dX11_through_14 (by decide) rfl ?_
    refine ok_aload_n dX11_through_16 1 rfl ?_
    refine ok_iload_n dX11_through_17 2 rfl ?_
    refine ok_iload_n dX11_through_18 3 rfl ?_
    refine ok_iload dX11_through_19 5 rfl ?_
    obtain ⟨r1, e2, h⟩ := it_bind h
    refine okS_V (as := [.int a1, .int a2, .int a4]) (st := []) (r := some (.int r1)) (S' := S) dX11_through_21 cv_X11_74 rfl po_153 (Nat.le_of_ble_eq_true rfl) ⟨⟨by decide, by decide⟩, rfl, rfl⟩ (t_X11_unlikely e2) ?_
    show Ok D_X11_through (0, 0) (0, 0) 24 [(5, .int 0), (0, .ref 153), (1, .int a1), (2, .int a2), (3, .int a3), (4, .int a4)] [.int r1] (St S) _
    refine ok_aload_n dX11_through_24 1 rfl ?_
    refine okS_getR dX11_through_25 fl_X11_7 pr_153_0 ?_
    refine ok_iconst (v := 5) dX11_through_28 ic_5 ?_
    refine okS_ialoadL (j := 5) dX11_through_29 pa_154 (by decide) tnl_5 ?_
    refine ok_iload dX11_through_30 0 rfl ?_
    refine ok_imul dX11_through_32 ?_
    refine ok_iadd dX11_through_33 ?_
    refine ok_aload_n dX11_through_34 1 rfl ?_
    refine okS_getR dX11_through_35 fl_X11_32 pr_153_12 ?_
    refine ok_iconst (v := 4) dX11_through_38 ic_4 ?_
    refine ok_iload_n dX11_through_39 3 rfl ?_
    refine ok_iconst (v := 1) dX11_through_40 ic_1 ?_
    refine ok_iadd dX11_through_41 ?_
    refine ok_imul dX11_through_42 ?_
    refine ok_iload dX11_through_43 5 rfl ?_
    refine ok_iadd dX11_through_45 ?_
    obtain ⟨hi3, h⟩ := it_some h
    refine okS_iaload dX11_through_46 pa_160 hi3 ?_
    refine ok_iadd dX11_through_47 ?_
    exact okS_ret dX11_through_48 rfl rfl (by have e := Option.some.inj h; subst e; exact ⟨rfl, rfl⟩)
  · replace h := it_neg hc h
    refine ok_iload dX11_through_6 4 rfl ?_
    refine ok_iload_n dX11_through_8 3 rfl ?_
    refine ok_isub dX11_through_9 ?_
    refine ok_goto (tgt := 14) dX11_through_10 (by decide) ?_
    refine ok_istore (L' := [(5, .int (a4 - a3)), (0, .ref 153), (1, .int a1), (2, .int a2), (3, .int a3), (4, .int a4)]) dX11_through_14 (by decide) rfl ?_
    refine ok_aload_n dX11_through_16 1 rfl ?_
    refine ok_iload_n dX11_through_17 2 rfl ?_
    refine ok_iload_n dX11_through_18 3 rfl ?_
    refine ok_iload dX11_through_19 5 rfl ?_
    obtain ⟨r4, e5, h⟩ := it_bind h
    refine okS_V (as := [.int a1, .int a2, .int a4]) (st := []) (r := some (.int r4)) (S' := S) dX11_through_21 cv_X11_74 rfl po_153 (Nat.le_of_ble_eq_true rfl) ⟨⟨by decide, by decide⟩, rfl, rfl⟩ (t_X11_unlikely e5) ?_
    show Ok D_X11_through (0, 0) (0, 0) 24 [(5, .int (a4 - a3)), (0, .ref 153), (1, .int a1), (2, .int a2), (3, .int a3), (4, .int a4)] [.int r4] (St S) _
    refine ok_aload_n dX11_through_24 1 rfl ?_
    refine okS_getR dX11_through_25 fl_X11_7 pr_153_0 ?_
    refine ok_iconst (v := 5) dX11_through_28 ic_5 ?_
    refine okS_ialoadL (j := 5) dX11_through_29 pa_154 (by decide) tnl_5 ?_
    refine ok_iload dX11_through_30 0 rfl ?_
    refine ok_imul dX11_through_32 ?_
    refine ok_iadd dX11_through_33 ?_
    refine ok_aload_n dX11_through_34 1 rfl ?_
    refine okS_getR dX11_through_35 fl_X11_32 pr_153_12 ?_
    refine ok_iconst (v := 4) dX11_through_38 ic_4 ?_
    refine ok_iload_n dX11_through_39 3 rfl ?_
    refine ok_iconst (v := 1) dX11_through_40 ic_1 ?_
    refine ok_iadd dX11_through_41 ?_
    refine ok_imul dX11_through_42 ?_
    refine ok_iload dX11_through_43 5 rfl ?_
    refine ok_iadd dX11_through_45 ?_
    obtain ⟨hi6, h⟩ := it_some h
    refine okS_iaload dX11_through_46 pa_160 hi6 ?_
    refine ok_iadd dX11_through_47 ?_
    exact okS_ret dX11_through_48 rfl rfl (by have e := Option.some.inj h; subst e; exact ⟨rfl, rfl⟩)
def lp_X11_bestLevel_6 (k : Int32 → Int32 → Option (Int32)) (S : Mm) (c1 : Int32) (c2 : Int32) (c3 : Int32) : Nat → Int32 → Int32 → Option (Int32)
  | 0, _, _ => none
  | fuel + 1, x4, x5 => (if (S.1 154 2) < x5 then k x4 x5 else ((f_X11_through S c1 c2 c3 x5).bind fun r1 => ((f_X11_through S c1 c2 c3 x4).bind fun r3 => (if r3 ≤ r1 then lp_X11_bestLevel_6 k S c1 c2 c3 fuel x4 (x5 + 1) else lp_X11_bestLevel_6 k S c1 c2 c3 fuel x5 (x5 + 1)))))
def f_X11_bestLevel (S : Mm) (a1 : Int32) (a2 : Int32) (a3 : Int32) : Option (Int32) :=
  lp_X11_bestLevel_6 (fun y4_5 y5_6 => some y4_5) S a1 a2 a3 100000 0 1
set_option maxRecDepth 100000 in
set_option maxHeartbeats 4000000 in
theorem tlp_X11_bestLevel_6 {k : Int32 → Int32 → Option (Int32)} {S : Mm} {c1 : Int32} {c2 : Int32} {c3 : Int32} (hk : ∀ (x4 x5 : Int32) (out : Int32), k x4 x5 = some out → Ok D_X11_bestLevel (0, 0) (0, 0) 53 [(0, .ref 153), (1, .int c1), (2, .int c2), (3, .int c3), (4, .int x4), (5, .int x5)] [] (St S) (An (some (.int out)) S)) : ∀ (fuel : Nat) (x4 x5 : Int32) (out : Int32), lp_X11_bestLevel_6 k S c1 c2 c3 fuel x4 x5 = some out → Ok D_X11_bestLevel (0, 0) (0, 0) 6 [(0, .ref 153), (1, .int c1), (2, .int c2), (3, .int c3), (4, .int x4), (5, .int x5)] [] (St S) (An (some (.int out)) S) := by
  intro fuel
  induction fuel with
  | zero => intro x4 x5 out h; cases h
  | succ fuel ih =>
    intro x4 x5 out h
    rw [lp_X11_bestLevel_6] at h
    refine ok_iload dX11_bestLevel_6 5 rfl ?_
    refine ok_aload_n dX11_bestLevel_8 0 rfl ?_
    refine okS_getR dX11_bestLevel_9 fl_X11_7 pr_153_0 ?_
    refine ok_iconst (v := 2) dX11_bestLevel_12 ic_2 ?_
    refine okS_ialoadL (j := 2) dX11_bestLevel_13 pa_154 (by decide) tnl_2 ?_
    refine ok_icmp_gt (tgt := 53) dX11_bestLevel_14 (by decide) (fun hc => ?_) (fun hc => ?_)
    · replace h := it_pos hc h
      refine ok_perm [0, 1, 2, 3, 4, 5] rfl ?_
      exact hk _ _ _ h
    · replace h := it_neg hc h
      refine ok_aload_n dX11_bestLevel_17 0 rfl ?_
      refine ok_iload_n dX11_bestLevel_18 1 rfl ?_
      refine ok_iload_n dX11_bestLevel_19 2 rfl ?_
      refine ok_iload_n dX11_bestLevel_20 3 rfl ?_
      refine ok_iload dX11_bestLevel_21 5 rfl ?_
      obtain ⟨r1, e2, h⟩ := it_bind h
      refine okS_V (as := [.int c1, .int c2, .int c3, .int x5]) (st := []) (r := some (.int r1)) (S' := S) dX11_bestLevel_23 cv_X11_77 rfl po_153 (Nat.le_of_ble_eq_true rfl) ⟨⟨by decide, by decide⟩, rfl, rfl⟩ (t_X11_through e2) ?_
      show Ok D_X11_bestLevel (0, 0) (0, 0) 26 [(0, .ref 153), (1, .int c1), (2, .int c2), (3, .int c3), (4, .int x4), (5, .int x5)] [.int r1] (St S) _
      refine ok_aload_n dX11_bestLevel_26 0 rfl ?_
      refine ok_iload_n dX11_bestLevel_27 1 rfl ?_
      refine ok_iload_n dX11_bestLevel_28 2 rfl ?_
      refine ok_iload_n dX11_bestLevel_29 3 rfl ?_
      refine ok_iload dX11_bestLevel_30 4 rfl ?_
      obtain ⟨r3, e4, h⟩ := it_bind h
      refine okS_V (as := [.int c1, .int c2, .int c3, .int x4]) (st := [.int r1]) (r := some (.int r3)) (S' := S) dX11_bestLevel_32 cv_X11_77 rfl po_153 (Nat.le_of_ble_eq_true rfl) ⟨⟨by decide, by decide⟩, rfl, rfl⟩ (t_X11_through e4) ?_
      show Ok D_X11_bestLevel (0, 0) (0, 0) 35 [(0, .ref 153), (1, .int c1), (2, .int c2), (3, .int c3), (4, .int x4), (5, .int x5)] [.int r3, .int r1] (St S) _
      refine ok_icmp_ge (tgt := 43) dX11_bestLevel_35 (by decide) (fun hc => ?_) (fun hc => ?_)
      · replace h := it_pos hc h
        refine ok_iload dX11_bestLevel_43 4 rfl ?_
        refine ok_istore (L' := [(4, .int x4), (0, .ref 153), (1, .int c1), (2, .int c2), (3, .int c3), (5, .int x5)]) dX11_bestLevel_45 (by decide) rfl ?_
        refine ok_iinc (v := x5 + 1) (L' := [(5, .int (x5 + 1)), (4, .int x4), (0, .ref 153), (1, .int c1), (2, .int c2), (3, .int c3)]) dX11_bestLevel_47 5 rfl (ii_1 _) (by decide) rfl ?_
        refine ok_goto (tgt := 6) dX11_bestLevel_50 (by decide) ?_
        refine ok_perm [2, 3, 4, 5, 1, 0] rfl ?_
        exact ih _ _ _ h
      · replace h := it_neg hc h
        refine ok_iload dX11_bestLevel_38 5 rfl ?_
        refine ok_goto (tgt := 45) dX11_bestLevel_40 (by decide) ?_
        refine ok_istore (L' := [(4, .int x5), (0, .ref 153), (1, .int c1), (2, .int c2), (3, .int c3), (5, .int x5)]) dX11_bestLevel_45 (by decide) rfl ?_
        refine ok_iinc (v := x5 + 1) (L' := [(5, .int (x5 + 1)), (4, .int x5), (0, .ref 153), (1, .int c1), (2, .int c2), (3, .int c3)]) dX11_bestLevel_47 5 rfl (ii_1 _) (by decide) rfl ?_
        refine ok_goto (tgt := 6) dX11_bestLevel_50 (by decide) ?_
        refine ok_perm [2, 3, 4, 5, 1, 0] rfl ?_
        exact ih _ _ _ h
set_option maxRecDepth 100000 in
set_option maxHeartbeats 4000000 in
theorem t_X11_bestLevel {S : Mm} {a1 : Int32} {a2 : Int32} {a3 : Int32} {out : Int32} (h : f_X11_bestLevel S a1 a2 a3 = some out) : Rs D_X11_bestLevel [.ref 153, .int a1, .int a2, .int a3] S (some (.int out)) S := by
  refine rs_of (by decide) rfl (Nat.le_of_ble_eq_true rfl) ?_
  unfold f_X11_bestLevel at h
  show Ok D_X11_bestLevel (0, 0) (0, 0) 0 [(0, .ref 153), (1, .int a1), (2, .int a2), (3, .int a3)] [] (St S) _
  refine ok_iconst (v := 0) dX11_bestLevel_0 ic_0 ?_
  refine ok_istore (L' := [(4, .int 0), (0, .ref 153), (1, .int a1), (2, .int a2), (3, .int a3)]) dX11_bestLevel_1 (by decide) rfl ?_
  refine ok_iconst (v := 1) dX11_bestLevel_3 ic_1 ?_
  refine ok_istore (L' := [(5, .int 1), (4, .int 0), (0, .ref 153), (1, .int a1), (2, .int a2), (3, .int a3)]) dX11_bestLevel_4 (by decide) rfl ?_
  refine ok_perm [2, 3, 4, 5, 1, 0] rfl ?_
  refine tlp_X11_bestLevel_6 (fun y4_5 y5_6 out7 h => ?_) _ _ _ _ h
  refine ok_iload dX11_bestLevel_53 4 rfl ?_
  exact okS_ret dX11_bestLevel_55 rfl rfl (by have e := Option.some.inj h; subst e; exact ⟨rfl, rfl⟩)
def lp_X11_layLevels_2 (k : Int32 → Mm → Option (Mm)) (c1 : Int32) : Nat → Int32 → Mm → Option (Mm)
  | 0, _, _ => none
  | fuel + 1, x2, S => (if 4 ≤ x2 then k x2 S else (if inb ((4 * (S.1 154 0)) + x2) 52 then lp_X11_layLevels_2 k c1 fuel (x2 + 1) (wr S 160 ((4 * (S.1 154 0)) + x2).toNatClampNeg 0) else none))
def lp_X11_layLevels_44 (k : Int32 → Mm → Option (Mm)) (c1 : Int32) (c2 : Int32) : Nat → Int32 → Mm → Option (Mm)
  | 0, _, _ => none
  | fuel + 1, x3, S => (if (S.1 154 2) < x3 then k x3 S else ((f_X11_bestLevel S c1 c2 x3).bind fun r5 => ((f_X11_through S c1 c2 x3 r5).bind fun r7 => (if inb ((4 * c2) + x3) 52 then lp_X11_layLevels_44 k c1 c2 fuel (x3 + 1) (wr S 160 ((4 * c2) + x3).toNatClampNeg r7) else none))))
def lp_X11_layLevels_38 (k : Int32 → Mm → Option (Mm)) (c1 : Int32) : Nat → Int32 → Mm → Option (Mm)
  | 0, _, _ => none
  | fuel + 1, x2, S => (if x2 < 0 then k x2 S else lp_X11_layLevels_44 (fun y3_10 S11 => lp_X11_layLevels_38 k c1 fuel (x2 + (-1)) S11) c1 x2 100000 0 S)
def lp_X11_layLevels_94 (k : Int32 → Int32 → Mm → Option (Mm)) (c1 : Int32) : Nat → Int32 → Int32 → Mm → Option (Mm)
  | 0, _, _, _ => none
  | fuel + 1, x2, x3, S => (if (S.1 154 0) ≤ x3 then k x2 x3 S else ((f_X11_bestLevel S c1 x3 x2).bind fun r16 => (if inb x3 12 then (if inb x3 12 then lp_X11_layLevels_94 k c1 fuel ((wr S 161 x3.toNatClampNeg r16).1 161 x3.toNatClampNeg) (x3 + 1) (wr S 161 x3.toNatClampNeg r16) else none) else none)))
def f_X11_layLevels (S : Mm) (a1 : Int32) : Option (Mm) :=
  lp_X11_layLevels_2 (fun y2_2 S3 => lp_X11_layLevels_38 (fun y2_13 S14 => lp_X11_layLevels_94 (fun y2_20 y3_21 S22 => some S22) a1 100000 0 0 S14) a1 100000 ((S3.1 154 0) - 1) S3) a1 100000 0 S
set_option maxRecDepth 100000 in
set_option maxHeartbeats 4000000 in
theorem tlp_X11_layLevels_2 {k : Int32 → Mm → Option (Mm)} {c1 : Int32} (hk : ∀ (x2 : Int32) (S : Mm) (out : Mm), k x2 S = some out → Ok D_X11_layLevels (0, 0) (0, 0) 29 [(0, .ref 153), (1, .int c1), (2, .int x2)] [] (St S) (An none out)) : ∀ (fuel : Nat) (x2 : Int32) (S : Mm) (out : Mm), lp_X11_layLevels_2 k c1 fuel x2 S = some out → Ok D_X11_layLevels (0, 0) (0, 0) 2 [(0, .ref 153), (1, .int c1), (2, .int x2)] [] (St S) (An none out) := by
  intro fuel
  induction fuel with
  | zero => intro x2 S out h; cases h
  | succ fuel ih =>
    intro x2 S out h
    rw [lp_X11_layLevels_2] at h
    refine ok_iload_n dX11_layLevels_2 2 rfl ?_
    refine ok_iconst (v := 4) dX11_layLevels_3 ic_4 ?_
    refine ok_icmp_ge (tgt := 29) dX11_layLevels_4 (by decide) (fun hc => ?_) (fun hc => ?_)
    · replace h := it_pos hc h
      refine ok_perm [0, 1, 2] rfl ?_
      exact hk _ _ _ h
    · replace h := it_neg hc h
      refine ok_aload_n dX11_layLevels_7 0 rfl ?_
      refine okS_getR dX11_layLevels_8 fl_X11_32 pr_153_12 ?_
      refine ok_iconst (v := 4) dX11_layLevels_11 ic_4 ?_
      refine ok_aload_n dX11_layLevels_12 0 rfl ?_
      refine okS_getR dX11_layLevels_13 fl_X11_7 pr_153_0 ?_
      refine ok_iconst (v := 0) dX11_layLevels_16 ic_0 ?_
      refine okS_ialoadL (j := 0) dX11_layLevels_17 pa_154 (by decide) tnl_0 ?_
      refine ok_imul dX11_layLevels_18 ?_
      refine ok_iload_n dX11_layLevels_19 2 rfl ?_
      refine ok_iadd dX11_layLevels_20 ?_
      refine ok_iconst (v := 0) dX11_layLevels_21 ic_0 ?_
      obtain ⟨hi1, h⟩ := it_some h
      refine okS_iastore dX11_layLevels_22 pa_160 hi1 ?_
      refine ok_iinc (v := x2 + 1) (L' := [(2, .int (x2 + 1)), (0, .ref 153), (1, .int c1)]) dX11_layLevels_23 2 rfl (ii_1 _) (by decide) rfl ?_
      refine ok_goto (tgt := 2) dX11_layLevels_26 (by decide) ?_
      refine ok_perm [1, 2, 0] rfl ?_
      exact ih _ _ _ h
set_option maxRecDepth 100000 in
set_option maxHeartbeats 4000000 in
theorem tlp_X11_layLevels_44 {k : Int32 → Mm → Option (Mm)} {c1 : Int32} {c2 : Int32} (hk : ∀ (x3 : Int32) (S : Mm) (out : Mm), k x3 S = some out → Ok D_X11_layLevels (0, 0) (0, 0) 84 [(0, .ref 153), (1, .int c1), (2, .int c2), (3, .int x3)] [] (St S) (An none out)) : ∀ (fuel : Nat) (x3 : Int32) (S : Mm) (out : Mm), lp_X11_layLevels_44 k c1 c2 fuel x3 S = some out → Ok D_X11_layLevels (0, 0) (0, 0) 44 [(0, .ref 153), (1, .int c1), (2, .int c2), (3, .int x3)] [] (St S) (An none out) := by
  intro fuel
  induction fuel with
  | zero => intro x3 S out h; cases h
  | succ fuel ih =>
    intro x3 S out h
    rw [lp_X11_layLevels_44] at h
    refine ok_iload_n dX11_layLevels_44 3 rfl ?_
    refine ok_aload_n dX11_layLevels_45 0 rfl ?_
    refine okS_getR dX11_layLevels_46 fl_X11_7 pr_153_0 ?_
    refine ok_iconst (v := 2) dX11_layLevels_49 ic_2 ?_
    refine okS_ialoadL (j := 2) dX11_layLevels_50 pa_154 (by decide) tnl_2 ?_
    refine ok_icmp_gt (tgt := 84) dX11_layLevels_51 (by decide) (fun hc => ?_) (fun hc => ?_)
    · replace h := it_pos hc h
      refine ok_perm [0, 1, 2, 3] rfl ?_
      exact hk _ _ _ h
    · replace h := it_neg hc h
      refine ok_aload_n dX11_layLevels_54 0 rfl ?_
      refine okS_getR dX11_layLevels_55 fl_X11_32 pr_153_12 ?_
      refine ok_iconst (v := 4) dX11_layLevels_58 ic_4 ?_
      refine ok_iload_n dX11_layLevels_59 2 rfl ?_
      refine ok_imul dX11_layLevels_60 ?_
      refine ok_iload_n dX11_layLevels_61 3 rfl ?_
      refine ok_iadd dX11_layLevels_62 ?_
      refine ok_aload_n dX11_layLevels_63 0 rfl ?_
      refine ok_iload_n dX11_layLevels_64 1 rfl ?_
      refine ok_iload_n dX11_layLevels_65 2 rfl ?_
      refine ok_iload_n dX11_layLevels_66 3 rfl ?_
      refine ok_aload_n dX11_layLevels_67 0 rfl ?_
      refine ok_iload_n dX11_layLevels_68 1 rfl ?_
      refine ok_iload_n dX11_layLevels_69 2 rfl ?_
      refine ok_iload_n dX11_layLevels_70 3 rfl ?_
      obtain ⟨r5, e6, h⟩ := it_bind h
      refine okS_V (as := [.int c1, .int c2, .int x3]) (st := [.int x3, .int c2, .int c1, .ref 153, .int ((4 * c2) + x3), .ref 160]) (r := some (.int r5)) (S' := S) dX11_layLevels_71 cv_X11_81 rfl po_153 (Nat.le_of_ble_eq_true rfl) ⟨⟨by decide, by decide⟩, rfl, rfl⟩ (t_X11_bestLevel e6) ?_
      show Ok D_X11_layLevels (0, 0) (0, 0) 74 [(0, .ref 153), (1, .int c1), (2, .int c2), (3, .int x3)] [.int r5, .int x3, .int c2, .int c1, .ref 153, .int ((4 * c2) + x3), .ref 160] (St S) _
      obtain ⟨r7, e8, h⟩ := it_bind h
      refine okS_V (as := [.int c1, .int c2, .int x3, .int r5]) (st := [.int ((4 * c2) + x3), .ref 160]) (r := some (.int r7)) (S' := S) dX11_layLevels_74 cv_X11_77 rfl po_153 (Nat.le_of_ble_eq_true rfl) ⟨⟨by decide, by decide⟩, rfl, rfl⟩ (t_X11_through e8) ?_
      show Ok D_X11_layLevels (0, 0) (0, 0) 77 [(0, .ref 153), (1, .int c1), (2, .int c2), (3, .int x3)] [.int r7, .int ((4 * c2) + x3), .ref 160] (St S) _
      obtain ⟨hi9, h⟩ := it_some h
      refine okS_iastore dX11_layLevels_77 pa_160 hi9 ?_
      refine ok_iinc (v := x3 + 1) (L' := [(3, .int (x3 + 1)), (0, .ref 153), (1, .int c1), (2, .int c2)]) dX11_layLevels_78 3 rfl (ii_1 _) (by decide) rfl ?_
      refine ok_goto (tgt := 44) dX11_layLevels_81 (by decide) ?_
      refine ok_perm [1, 2, 3, 0] rfl ?_
      exact ih _ _ _ h
set_option maxRecDepth 100000 in
set_option maxHeartbeats 4000000 in
theorem tlp_X11_layLevels_38 {k : Int32 → Mm → Option (Mm)} {c1 : Int32} (hk : ∀ (x2 : Int32) (S : Mm) (out : Mm), k x2 S = some out → Ok D_X11_layLevels (0, 0) (0, 0) 90 [(0, .ref 153), (1, .int c1), (2, .int x2)] [] (St S) (An none out)) : ∀ (fuel : Nat) (x2 : Int32) (S : Mm) (out : Mm), lp_X11_layLevels_38 k c1 fuel x2 S = some out → Ok D_X11_layLevels (0, 0) (0, 0) 38 [(0, .ref 153), (1, .int c1), (2, .int x2)] [] (St S) (An none out) := by
  intro fuel
  induction fuel with
  | zero => intro x2 S out h; cases h
  | succ fuel ih =>
    intro x2 S out h
    rw [lp_X11_layLevels_38] at h
    refine ok_iload_n dX11_layLevels_38 2 rfl ?_
    refine ok_if_lt (tgt := 90) dX11_layLevels_39 (by decide) (fun hc => ?_) (fun hc => ?_)
    · replace h := it_pos hc h
      refine ok_perm [0, 1, 2] rfl ?_
      exact hk _ _ _ h
    · replace h := it_neg hc h
      refine ok_iconst (v := 0) dX11_layLevels_42 ic_0 ?_
      refine ok_istore_n (L' := [(3, .int 0), (0, .ref 153), (1, .int c1), (2, .int x2)]) dX11_layLevels_43 (by decide) rfl ?_
      refine ok_perm [1, 2, 3, 0] rfl ?_
      refine tlp_X11_layLevels_44 (fun y3_10 S11 out12 h => ?_) _ _ _ _ h
      refine ok_iinc (v := x2 + (-1)) (L' := [(2, .int (x2 + (-1))), (0, .ref 153), (1, .int c1), (3, .int y3_10)]) dX11_layLevels_84 2 rfl (ii_m1 _) (by decide) rfl ?_
      refine ok_goto (tgt := 38) dX11_layLevels_87 (by decide) ?_
      refine ok_perm [1, 2, 0] rfl ?_
      exact ih _ _ _ h
set_option maxRecDepth 100000 in
set_option maxHeartbeats 4000000 in
theorem tlp_X11_layLevels_94 {k : Int32 → Int32 → Mm → Option (Mm)} {c1 : Int32} (hk : ∀ (x2 x3 : Int32) (S : Mm) (out : Mm), k x2 x3 S = some out → Ok D_X11_layLevels (0, 0) (0, 0) 130 [(0, .ref 153), (1, .int c1), (2, .int x2), (3, .int x3)] [] (St S) (An none out)) : ∀ (fuel : Nat) (x2 x3 : Int32) (S : Mm) (out : Mm), lp_X11_layLevels_94 k c1 fuel x2 x3 S = some out → Ok D_X11_layLevels (0, 0) (0, 0) 94 [(0, .ref 153), (1, .int c1), (2, .int x2), (3, .int x3)] [] (St S) (An none out) := by
  intro fuel
  induction fuel with
  | zero => intro x2 x3 S out h; cases h
  | succ fuel ih =>
    intro x2 x3 S out h
    rw [lp_X11_layLevels_94] at h
    refine ok_iload_n dX11_layLevels_94 3 rfl ?_
    refine ok_aload_n dX11_layLevels_95 0 rfl ?_
    refine okS_getR dX11_layLevels_96 fl_X11_7 pr_153_0 ?_
    refine ok_iconst (v := 0) dX11_layLevels_99 ic_0 ?_
    refine okS_ialoadL (j := 0) dX11_layLevels_100 pa_154 (by decide) tnl_0 ?_
    refine ok_icmp_ge (tgt := 130) dX11_layLevels_101 (by decide) (fun hc => ?_) (fun hc => ?_)
    · replace h := it_pos hc h
      refine ok_perm [0, 1, 2, 3] rfl ?_
      exact hk _ _ _ _ h
    · replace h := it_neg hc h
      refine ok_aload_n dX11_layLevels_104 0 rfl ?_
      refine okS_getR dX11_layLevels_105 fl_X11_35 pr_153_13 ?_
      refine ok_iload_n dX11_layLevels_108 3 rfl ?_
      refine ok_aload_n dX11_layLevels_109 0 rfl ?_
      refine ok_iload_n dX11_layLevels_110 1 rfl ?_
      refine ok_iload_n dX11_layLevels_111 3 rfl ?_
      refine ok_iload_n dX11_layLevels_112 2 rfl ?_
      obtain ⟨r16, e17, h⟩ := it_bind h
      refine okS_V (as := [.int c1, .int x3, .int x2]) (st := [.int x3, .ref 161]) (r := some (.int r16)) (S' := S) dX11_layLevels_113 cv_X11_81 rfl po_153 (Nat.le_of_ble_eq_true rfl) ⟨⟨by decide, by decide⟩, rfl, rfl⟩ (t_X11_bestLevel e17) ?_
      show Ok D_X11_layLevels (0, 0) (0, 0) 116 [(0, .ref 153), (1, .int c1), (2, .int x2), (3, .int x3)] [.int r16, .int x3, .ref 161] (St S) _
      obtain ⟨hi18, h⟩ := it_some h
      refine okS_iastore dX11_layLevels_116 pa_161 hi18 ?_
      refine ok_aload_n dX11_layLevels_117 0 rfl ?_
      refine okS_getR dX11_layLevels_118 fl_X11_35 pr_153_13 ?_
      refine ok_iload_n dX11_layLevels_121 3 rfl ?_
      obtain ⟨hi19, h⟩ := it_some h
      refine okS_iaload dX11_layLevels_122 pa_161 hi19 ?_
      refine ok_istore_n (L' := [(2, .int ((wr S 161 x3.toNatClampNeg r16).1 161 x3.toNatClampNeg)), (0, .ref 153), (1, .int c1), (3, .int x3)]) dX11_layLevels_123 (by decide) rfl ?_
      refine ok_iinc (v := x3 + 1) (L' := [(3, .int (x3 + 1)), (2, .int ((wr S 161 x3.toNatClampNeg r16).1 161 x3.toNatClampNeg)), (0, .ref 153), (1, .int c1)]) dX11_layLevels_124 3 rfl (ii_1 _) (by decide) rfl ?_
      refine ok_goto (tgt := 94) dX11_layLevels_127 (by decide) ?_
      refine ok_perm [2, 3, 1, 0] rfl ?_
      exact ih _ _ _ _ h
set_option maxRecDepth 100000 in
set_option maxHeartbeats 4000000 in
theorem t_X11_layLevels {S : Mm} {a1 : Int32} {out : Mm} (h : f_X11_layLevels S a1 = some out) : Rs D_X11_layLevels [.ref 153, .int a1] S none out := by
  refine rs_of (by decide) rfl (Nat.le_of_ble_eq_true rfl) ?_
  unfold f_X11_layLevels at h
  show Ok D_X11_layLevels (0, 0) (0, 0) 0 [(0, .ref 153), (1, .int a1)] [] (St S) _
  refine ok_iconst (v := 0) dX11_layLevels_0 ic_0 ?_
  refine ok_istore_n (L' := [(2, .int 0), (0, .ref 153), (1, .int a1)]) dX11_layLevels_1 (by decide) rfl ?_
  refine ok_perm [1, 2, 0] rfl ?_
  refine tlp_X11_layLevels_2 (fun y2_2 S3 out4 h => ?_) _ _ _ _ h
  refine ok_aload_n dX11_layLevels_29 0 rfl ?_
  refine okS_getR dX11_layLevels_30 fl_X11_7 pr_153_0 ?_
  refine ok_iconst (v := 0) dX11_layLevels_33 ic_0 ?_
  refine okS_ialoadL (j := 0) dX11_layLevels_34 pa_154 (by decide) tnl_0 ?_
  refine ok_iconst (v := 1) dX11_layLevels_35 ic_1 ?_
  refine ok_isub dX11_layLevels_36 ?_
  refine ok_istore_n (L' := [(2, .int ((S3.1 154 0) - 1)), (0, .ref 153), (1, .int a1)]) dX11_layLevels_37 (by decide) rfl ?_
  refine ok_perm [1, 2, 0] rfl ?_
  refine tlp_X11_layLevels_38 (fun y2_13 S14 out15 h => ?_) _ _ _ _ h
  refine ok_iconst (v := 0) dX11_layLevels_90 ic_0 ?_
  refine ok_istore_n (L' := [(2, .int 0), (0, .ref 153), (1, .int a1)]) dX11_layLevels_91 (by decide) rfl ?_
  refine ok_iconst (v := 0) dX11_layLevels_92 ic_0 ?_
  refine ok_istore_n (L' := [(3, .int 0), (2, .int 0), (0, .ref 153), (1, .int a1)]) dX11_layLevels_93 (by decide) rfl ?_
  refine ok_perm [2, 3, 1, 0] rfl ?_
  refine tlp_X11_layLevels_94 (fun y2_20 y3_21 S22 out23 h => ?_) _ _ _ _ _ h
  exact okS_retv dX11_layLevels_130 rfl (by have e := Option.some.inj h; subst e; exact ⟨rfl, rfl⟩)
def f_X11_levelOf (S : Mm) (a1 : Int32) (a2 : Int32) : Option (Int32 × Mm) :=
  ((f_X11_layLevels S a1).bind fun r1 => (if inb a2 12 then some (r1.1 161 a2.toNatClampNeg, r1) else none))
set_option maxRecDepth 100000 in
set_option maxHeartbeats 4000000 in
theorem t_X11_levelOf {S : Mm} {a1 : Int32} {a2 : Int32} {out : Int32 × Mm} (h : f_X11_levelOf S a1 a2 = some out) : Rs D_X11_levelOf [.ref 153, .int a1, .int a2] S (some (.int out.1)) out.2 := by
  refine rs_of (by decide) rfl (Nat.le_of_ble_eq_true rfl) ?_
  unfold f_X11_levelOf at h
  show Ok D_X11_levelOf (0, 0) (0, 0) 0 [(0, .ref 153), (1, .int a1), (2, .int a2)] [] (St S) _
  refine ok_aload_n dX11_levelOf_0 0 rfl ?_
  refine ok_iload_n dX11_levelOf_1 1 rfl ?_
  obtain ⟨r1, e2, h⟩ := it_bind h
  refine okS_V (as := [.int a1]) (st := []) (r := none) (S' := r1) dX11_levelOf_2 cv_X11_84 rfl po_153 (Nat.le_of_ble_eq_true rfl) ⟨⟨by decide, by decide⟩, rfl, rfl⟩ (t_X11_layLevels e2) ?_
  show Ok D_X11_levelOf (0, 0) (0, 0) 5 [(0, .ref 153), (1, .int a1), (2, .int a2)] [] (St r1) _
  refine ok_aload_n dX11_levelOf_5 0 rfl ?_
  refine okS_getR dX11_levelOf_6 fl_X11_35 pr_153_13 ?_
  refine ok_iload_n dX11_levelOf_9 2 rfl ?_
  obtain ⟨hi3, h⟩ := it_some h
  refine okS_iaload dX11_levelOf_10 pa_161 hi3 ?_
  exact okS_ret dX11_levelOf_11 rfl rfl (by have e := Option.some.inj h; subst e; exact ⟨rfl, rfl⟩)
def lp_X11_addFlares_5 (k : Int32 → Int32 → Mm → Option (Mm)) (c1 : Int32) (c2 : Int32) : Nat → Int32 → Int32 → Mm → Option (Mm)
  | 0, _, _, _ => none
  | fuel + 1, x3, x4, S => (if (S.1 154 0) < x4 then k x3 x4 S else (if (S.1 154 0) ≤ x4 then (if x3 < 0 then lp_X11_addFlares_5 k c1 c2 fuel x3 (x4 + 1) S else (if 160 ≤ (S.1 153 19) then lp_X11_addFlares_5 k c1 c2 fuel x3 (x4 + 1) S else (if inb (S.1 153 19) 160 then (if inb ((wr S 162 (S.1 153 19).toNatClampNeg c1).1 153 19) 160 then (if inb ((wr (wr S 162 (S.1 153 19).toNatClampNeg c1) 163 ((wr S 162 (S.1 153 19).toNatClampNeg c1).1 153 19).toNatClampNeg c2).1 153 19) 160 then (if inb ((wr (wr (wr S 162 (S.1 153 19).toNatClampNeg c1) 163 ((wr S 162 (S.1 153 19).toNatClampNeg c1).1 153 19).toNatClampNeg c2) 164 ((wr (wr S 162 (S.1 153 19).toNatClampNeg c1) 163 ((wr S 162 (S.1 153 19).toNatClampNeg c1).1 153 19).toNatClampNeg c2).1 153 19).toNatClampNeg x3).1 153 19) 160 then lp_X11_addFlares_5 k c1 c2 fuel (-1) (x4 + 1) (wr (wr (wr (wr (wr S 162 (S.1 153 19).toNatClampNeg c1) 163 ((wr S 162 (S.1 153 19).toNatClampNeg c1).1 153 19).toNatClampNeg c2) 164 ((wr (wr S 162 (S.1 153 19).toNatClampNeg c1) 163 ((wr S 162 (S.1 153 19).toNatClampNeg c1).1 153 19).toNatClampNeg c2).1 153 19).toNatClampNeg x3) 165 ((wr (wr (wr S 162 (S.1 153 19).toNatClampNeg c1) 163 ((wr S 162 (S.1 153 19).toNatClampNeg c1).1 153 19).toNatClampNeg c2) 164 ((wr (wr S 162 (S.1 153 19).toNatClampNeg c1) 163 ((wr S 162 (S.1 153 19).toNatClampNeg c1).1 153 19).toNatClampNeg c2).1 153 19).toNatClampNeg x3).1 153 19).toNatClampNeg (x4 - 1)) 153 19 (((wr (wr (wr (wr S 162 (S.1 153 19).toNatClampNeg c1) 163 ((wr S 162 (S.1 153 19).toNatClampNeg c1).1 153 19).toNatClampNeg c2) 164 ((wr (wr S 162 (S.1 153 19).toNatClampNeg c1) 163 ((wr S 162 (S.1 153 19).toNatClampNeg c1).1 153 19).toNatClampNeg c2).1 153 19).toNatClampNeg x3) 165 ((wr (wr (wr S 162 (S.1 153 19).toNatClampNeg c1) 163 ((wr S 162 (S.1 153 19).toNatClampNeg c1).1 153 19).toNatClampNeg c2) 164 ((wr (wr S 162 (S.1 153 19).toNatClampNeg c1) 163 ((wr S 162 (S.1 153 19).toNatClampNeg c1).1 153 19).toNatClampNeg c2).1 153 19).toNatClampNeg x3).1 153 19).toNatClampNeg (x4 - 1)).1 153 19) + 1)) else none) else none) else none) else none))) else (if inb x4 12 then (if (S.1 161 x4.toNatClampNeg) < c2 then (if x3 < 0 then lp_X11_addFlares_5 k c1 c2 fuel x3 (x4 + 1) S else (if 160 ≤ (S.1 153 19) then lp_X11_addFlares_5 k c1 c2 fuel x3 (x4 + 1) S else (if inb (S.1 153 19) 160 then (if inb ((wr S 162 (S.1 153 19).toNatClampNeg c1).1 153 19) 160 then (if inb ((wr (wr S 162 (S.1 153 19).toNatClampNeg c1) 163 ((wr S 162 (S.1 153 19).toNatClampNeg c1).1 153 19).toNatClampNeg c2).1 153 19) 160 then (if inb ((wr (wr (wr S 162 (S.1 153 19).toNatClampNeg c1) 163 ((wr S 162 (S.1 153 19).toNatClampNeg c1).1 153 19).toNatClampNeg c2) 164 ((wr (wr S 162 (S.1 153 19).toNatClampNeg c1) 163 ((wr S 162 (S.1 153 19).toNatClampNeg c1).1 153 19).toNatClampNeg c2).1 153 19).toNatClampNeg x3).1 153 19) 160 then lp_X11_addFlares_5 k c1 c2 fuel (-1) (x4 + 1) (wr (wr (wr (wr (wr S 162 (S.1 153 19).toNatClampNeg c1) 163 ((wr S 162 (S.1 153 19).toNatClampNeg c1).1 153 19).toNatClampNeg c2) 164 ((wr (wr S 162 (S.1 153 19).toNatClampNeg c1) 163 ((wr S 162 (S.1 153 19).toNatClampNeg c1).1 153 19).toNatClampNeg c2).1 153 19).toNatClampNeg x3) 165 ((wr (wr (wr S 162 (S.1 153 19).toNatClampNeg c1) 163 ((wr S 162 (S.1 153 19).toNatClampNeg c1).1 153 19).toNatClampNeg c2) 164 ((wr (wr S 162 (S.1 153 19).toNatClampNeg c1) 163 ((wr S 162 (S.1 153 19).toNatClampNeg c1).1 153 19).toNatClampNeg c2).1 153 19).toNatClampNeg x3).1 153 19).toNatClampNeg (x4 - 1)) 153 19 (((wr (wr (wr (wr S 162 (S.1 153 19).toNatClampNeg c1) 163 ((wr S 162 (S.1 153 19).toNatClampNeg c1).1 153 19).toNatClampNeg c2) 164 ((wr (wr S 162 (S.1 153 19).toNatClampNeg c1) 163 ((wr S 162 (S.1 153 19).toNatClampNeg c1).1 153 19).toNatClampNeg c2).1 153 19).toNatClampNeg x3) 165 ((wr (wr (wr S 162 (S.1 153 19).toNatClampNeg c1) 163 ((wr S 162 (S.1 153 19).toNatClampNeg c1).1 153 19).toNatClampNeg c2) 164 ((wr (wr S 162 (S.1 153 19).toNatClampNeg c1) 163 ((wr S 162 (S.1 153 19).toNatClampNeg c1).1 153 19).toNatClampNeg c2).1 153 19).toNatClampNeg x3).1 153 19).toNatClampNeg (x4 - 1)).1 153 19) + 1)) else none) else none) else none) else none))) else (if 0 ≤ x3 then lp_X11_addFlares_5 k c1 c2 fuel x3 (x4 + 1) S else lp_X11_addFlares_5 k c1 c2 fuel x4 (x4 + 1) S)) else none)))
def f_X11_addFlares (S : Mm) (a1 : Int32) (a2 : Int32) : Option (Mm) :=
  lp_X11_addFlares_5 (fun y3_10 y4_11 S12 => some S12) a1 a2 100000 (-1) 0 S
set_option maxRecDepth 100000 in
set_option maxHeartbeats 4000000 in
theorem tlp_X11_addFlares_5 {k : Int32 → Int32 → Mm → Option (Mm)} {c1 : Int32} {c2 : Int32} (hk : ∀ (x3 x4 : Int32) (S : Mm) (out : Mm), k x3 x4 S = some out → Ok D_X11_addFlares (0, 0) (0, 0) 137 [(0, .ref 153), (1, .int c1), (2, .int c2), (3, .int x3), (4, .int x4)] [] (St S) (An none out)) : ∀ (fuel : Nat) (x3 x4 : Int32) (S : Mm) (out : Mm), lp_X11_addFlares_5 k c1 c2 fuel x3 x4 S = some out → Ok D_X11_addFlares (0, 0) (0, 0) 5 [(0, .ref 153), (1, .int c1), (2, .int c2), (3, .int x3), (4, .int x4)] [] (St S) (An none out) := by
  intro fuel
  induction fuel with
  | zero => intro x3 x4 S out h; cases h
  | succ fuel ih =>
    intro x3 x4 S out h
    rw [lp_X11_addFlares_5] at h
    refine ok_iload dX11_addFlares_5 4 rfl ?_
    refine ok_aload_n dX11_addFlares_7 0 rfl ?_
    refine okS_getR dX11_addFlares_8 fl_X11_7 pr_153_0 ?_
    refine ok_iconst (v := 0) dX11_addFlares_11 ic_0 ?_
    refine okS_ialoadL (j := 0) dX11_addFlares_12 pa_154 (by decide) tnl_0 ?_
    refine ok_icmp_gt (tgt := 137) dX11_addFlares_13 (by decide) (fun hc => ?_) (fun hc => ?_)
    · replace h := it_pos hc h
      refine ok_perm [0, 1, 2, 3, 4] rfl ?_
      exact hk _ _ _ _ h
    · replace h := it_neg hc h
      refine ok_iload dX11_addFlares_16 4 rfl ?_
      refine ok_aload_n dX11_addFlares_18 0 rfl ?_
      refine okS_getR dX11_addFlares_19 fl_X11_7 pr_153_0 ?_
      refine ok_iconst (v := 0) dX11_addFlares_22 ic_0 ?_
      refine okS_ialoadL (j := 0) dX11_addFlares_23 pa_154 (by decide) tnl_0 ?_
      refine ok_icmp_ge (tgt := 42) dX11_addFlares_24 (by decide) (fun hc => ?_) (fun hc => ?_)
      · replace h := it_pos hc h
        refine ok_iconst (v := 0) dX11_addFlares_42 ic_0 ?_
        refine ok_istore (L' := [(5, .int 0), (0, .ref 153), (1, .int c1), (2, .int c2), (3, .int x3), (4, .int x4)]) dX11_addFlares_43 (by decide) rfl ?_
        refine ok_iload dX11_addFlares_45 0 rfl ?_
        refine ok_if_eq (tgt := 57) dX11_addFlares_47 (by decide) (fun hc => ?_) (fun hc => absurd hc (by decide))
        refine ok_iload dX11_addFlares_57 0 rfl ?_
        refine ok_if_ne (tgt := 131) dX11_addFlares_59 (by decide) (fun hc => absurd hc (by decide)) (fun hc => ?_)
        refine ok_iload_n dX11_addFlares_62 4 rfl ?_
        refine ok_if_lt (tgt := 131) dX11_addFlares_63 (by decide) (fun hc => ?_) (fun hc => ?_)
        · replace h := it_pos hc h
          refine ok_iinc (v := x4 + 1) (L' := [(4, .int (x4 + 1)), (5, .int 0), (0, .ref 153), (1, .int c1), (2, .int c2), (3, .int x3)]) dX11_addFlares_131 5 rfl (ii_1 _) (by decide) rfl ?_
          refine ok_goto (tgt := 5) dX11_addFlares_134 (by decide) ?_
          refine ok_perm [2, 3, 4, 5, 0] rfl ?_
          exact ih _ _ _ _ h
        · replace h := it_neg hc h
          refine ok_aload_n dX11_addFlares_66 1 rfl ?_
          refine okS_getI dX11_addFlares_67 fl_X11_88 pi_153_19 ?_
          refine ok_sipush (v := 160) dX11_addFlares_70 si_160 ?_
          refine ok_icmp_ge (tgt := 131) dX11_addFlares_73 (by decide) (fun hc => ?_) (fun hc => ?_)
          · replace h := it_pos hc h
            refine ok_iinc (v := x4 + 1) (L' := [(4, .int (x4 + 1)), (5, .int 0), (0, .ref 153), (1, .int c1), (2, .int c2), (3, .int x3)]) dX11_addFlares_131 5 rfl (ii_1 _) (by decide) rfl ?_
            refine ok_goto (tgt := 5) dX11_addFlares_134 (by decide) ?_
            refine ok_perm [2, 3, 4, 5, 0] rfl ?_
            exact ih _ _ _ _ h
          · replace h := it_neg hc h
            refine ok_aload_n dX11_addFlares_76 1 rfl ?_
            refine okS_getR dX11_addFlares_77 fl_X11_38 pr_153_14 ?_
            refine ok_aload_n dX11_addFlares_80 1 rfl ?_
            refine okS_getI dX11_addFlares_81 fl_X11_88 pi_153_19 ?_
            refine ok_iload_n dX11_addFlares_84 2 rfl ?_
            obtain ⟨hi1, h⟩ := it_some h
            refine okS_iastore dX11_addFlares_85 pa_162 hi1 ?_
            refine ok_aload_n dX11_addFlares_86 1 rfl ?_
            refine okS_getR dX11_addFlares_87 fl_X11_41 pr_153_15 ?_
            refine ok_aload_n dX11_addFlares_90 1 rfl ?_
            refine okS_getI dX11_addFlares_91 fl_X11_88 pi_153_19 ?_
            refine ok_iload_n dX11_addFlares_94 3 rfl ?_
            obtain ⟨hi2, h⟩ := it_some h
            refine okS_iastore dX11_addFlares_95 pa_163 hi2 ?_
            refine ok_aload_n dX11_addFlares_96 1 rfl ?_
            refine okS_getR dX11_addFlares_97 fl_X11_44 pr_153_16 ?_
            refine ok_aload_n dX11_addFlares_100 1 rfl ?_
            refine okS_getI dX11_addFlares_101 fl_X11_88 pi_153_19 ?_
            refine ok_iload_n dX11_addFlares_104 4 rfl ?_
            obtain ⟨hi3, h⟩ := it_some h
            refine okS_iastore dX11_addFlares_105 pa_164 hi3 ?_
            refine ok_aload_n dX11_addFlares_106 1 rfl ?_
            refine okS_getR dX11_addFlares_107 fl_X11_47 pr_153_17 ?_
            refine ok_aload_n dX11_addFlares_110 1 rfl ?_
            refine okS_getI dX11_addFlares_111 fl_X11_88 pi_153_19 ?_
            refine ok_iload dX11_addFlares_114 5 rfl ?_
            refine ok_iconst (v := 1) dX11_addFlares_116 ic_1 ?_
            refine ok_isub dX11_addFlares_117 ?_
            obtain ⟨hi4, h⟩ := it_some h
            refine okS_iastore dX11_addFlares_118 pa_165 hi4 ?_
            refine ok_aload_n dX11_addFlares_119 1 rfl ?_
            refine ok_dup dX11_addFlares_120 rfl ?_
            refine okS_getI dX11_addFlares_121 fl_X11_88 pi_153_19 ?_
            refine ok_iconst (v := 1) dX11_addFlares_124 ic_1 ?_
            refine ok_iadd dX11_addFlares_125 ?_
            refine okS_putI dX11_addFlares_126 fl_X11_88 pi_153_19 ⟨rfl, rfl⟩ ?_
            refine ok_iconst (v := (-1)) dX11_addFlares_129 ic_m1 ?_
            refine ok_istore_n (L' := [(3, .int (-1)), (5, .int 0), (0, .ref 153), (1, .int c1), (2, .int c2), (4, .int x4)]) dX11_addFlares_130 (by decide) rfl ?_
            refine ok_iinc (v := x4 + 1) (L' := [(4, .int (x4 + 1)), (3, .int (-1)), (5, .int 0), (0, .ref 153), (1, .int c1), (2, .int c2)]) dX11_addFlares_131 5 rfl (ii_1 _) (by decide) rfl ?_
            refine ok_goto (tgt := 5) dX11_addFlares_134 (by decide) ?_
            refine ok_perm [3, 4, 5, 1, 0] rfl ?_
            exact ih _ _ _ _ h
      · replace h := it_neg hc h
        refine ok_aload_n dX11_addFlares_27 0 rfl ?_
        refine okS_getR dX11_addFlares_28 fl_X11_35 pr_153_13 ?_
        refine ok_iload dX11_addFlares_31 4 rfl ?_
        obtain ⟨hi5, h⟩ := it_some h
        refine okS_iaload dX11_addFlares_33 pa_161 hi5 ?_
        refine ok_iload_n dX11_addFlares_34 2 rfl ?_
        refine ok_icmp_lt (tgt := 42) dX11_addFlares_35 (by decide) (fun hc => ?_) (fun hc => ?_)
        · replace h := it_pos hc h
          refine ok_iconst (v := 0) dX11_addFlares_42 ic_0 ?_
          refine ok_istore (L' := [(5, .int 0), (0, .ref 153), (1, .int c1), (2, .int c2), (3, .int x3), (4, .int x4)]) dX11_addFlares_43 (by decide) rfl ?_
          refine ok_iload dX11_addFlares_45 0 rfl ?_
          refine ok_if_eq (tgt := 57) dX11_addFlares_47 (by decide) (fun hc => ?_) (fun hc => absurd hc (by decide))
          refine ok_iload dX11_addFlares_57 0 rfl ?_
          refine ok_if_ne (tgt := 131) dX11_addFlares_59 (by decide) (fun hc => absurd hc (by decide)) (fun hc => ?_)
          refine ok_iload_n dX11_addFlares_62 4 rfl ?_
          refine ok_if_lt (tgt := 131) dX11_addFlares_63 (by decide) (fun hc => ?_) (fun hc => ?_)
          · replace h := it_pos hc h
            refine ok_iinc (v := x4 + 1) (L' := [(4, .int (x4 + 1)), (5, .int 0), (0, .ref 153), (1, .int c1), (2, .int c2), (3, .int x3)]) dX11_addFlares_131 5 rfl (ii_1 _) (by decide) rfl ?_
            refine ok_goto (tgt := 5) dX11_addFlares_134 (by decide) ?_
            refine ok_perm [2, 3, 4, 5, 0] rfl ?_
            exact ih _ _ _ _ h
          · replace h := it_neg hc h
            refine ok_aload_n dX11_addFlares_66 1 rfl ?_
            refine okS_getI dX11_addFlares_67 fl_X11_88 pi_153_19 ?_
            refine ok_sipush (v := 160) dX11_addFlares_70 si_160 ?_
            refine ok_icmp_ge (tgt := 131) dX11_addFlares_73 (by decide) (fun hc => ?_) (fun hc => ?_)
            · replace h := it_pos hc h
              refine ok_iinc (v := x4 + 1) (L' := [(4, .int (x4 + 1)), (5, .int 0), (0, .ref 153), (1, .int c1), (2, .int c2), (3, .int x3)]) dX11_addFlares_131 5 rfl (ii_1 _) (by decide) rfl ?_
              refine ok_goto (tgt := 5) dX11_addFlares_134 (by decide) ?_
              refine ok_perm [2, 3, 4, 5, 0] rfl ?_
              exact ih _ _ _ _ h
            · replace h := it_neg hc h
              refine ok_aload_n dX11_addFlares_76 1 rfl ?_
              refine okS_getR dX11_addFlares_77 fl_X11_38 pr_153_14 ?_
              refine ok_aload_n dX11_addFlares_80 1 rfl ?_
              refine okS_getI dX11_addFlares_81 fl_X11_88 pi_153_19 ?_
              refine ok_iload_n dX11_addFlares_84 2 rfl ?_
              obtain ⟨hi6, h⟩ := it_some h
              refine okS_iastore dX11_addFlares_85 pa_162 hi6 ?_
              refine ok_aload_n dX11_addFlares_86 1 rfl ?_
              refine okS_getR dX11_addFlares_87 fl_X11_41 pr_153_15 ?_
              refine ok_aload_n dX11_addFlares_90 1 rfl ?_
              refine okS_getI dX11_addFlares_91 fl_X11_88 pi_153_19 ?_
              refine ok_iload_n dX11_addFlares_94 3 rfl ?_
              obtain ⟨hi7, h⟩ := it_some h
              refine okS_iastore dX11_addFlares_95 pa_163 hi7 ?_
              refine ok_aload_n dX11_addFlares_96 1 rfl ?_
              refine okS_getR dX11_addFlares_97 fl_X11_44 pr_153_16 ?_
              refine ok_aload_n dX11_addFlares_100 1 rfl ?_
              refine okS_getI dX11_addFlares_101 fl_X11_88 pi_153_19 ?_
              refine ok_iload_n dX11_addFlares_104 4 rfl ?_
              obtain ⟨hi8, h⟩ := it_some h
              refine okS_iastore dX11_addFlares_105 pa_164 hi8 ?_
              refine ok_aload_n dX11_addFlares_106 1 rfl ?_
              refine okS_getR dX11_addFlares_107 fl_X11_47 pr_153_17 ?_
              refine ok_aload_n dX11_addFlares_110 1 rfl ?_
              refine okS_getI dX11_addFlares_111 fl_X11_88 pi_153_19 ?_
              refine ok_iload dX11_addFlares_114 5 rfl ?_
              refine ok_iconst (v := 1) dX11_addFlares_116 ic_1 ?_
              refine ok_isub dX11_addFlares_117 ?_
              obtain ⟨hi9, h⟩ := it_some h
              refine okS_iastore dX11_addFlares_118 pa_165 hi9 ?_
              refine ok_aload_n dX11_addFlares_119 1 rfl ?_
              refine ok_dup dX11_addFlares_120 rfl ?_
              refine okS_getI dX11_addFlares_121 fl_X11_88 pi_153_19 ?_
              refine ok_iconst (v := 1) dX11_addFlares_124 ic_1 ?_
              refine ok_iadd dX11_addFlares_125 ?_
              refine okS_putI dX11_addFlares_126 fl_X11_88 pi_153_19 ⟨rfl, rfl⟩ ?_
              refine ok_iconst (v := (-1)) dX11_addFlares_129 ic_m1 ?_
              refine ok_istore_n (L' := [(3, .int (-1)), (5, .int 0), (0, .ref 153), (1, .int c1), (2, .int c2), (4, .int x4)]) dX11_addFlares_130 (by decide) rfl ?_
              refine ok_iinc (v := x4 + 1) (L' := [(4, .int (x4 + 1)), (3, .int (-1)), (5, .int 0), (0, .ref 153), (1, .int c1), (2, .int c2)]) dX11_addFlares_131 5 rfl (ii_1 _) (by decide) rfl ?_
              refine ok_goto (tgt := 5) dX11_addFlares_134 (by decide) ?_
              refine ok_perm [3, 4, 5, 1, 0] rfl ?_
              exact ih _ _ _ _ h
        · replace h := it_neg hc h
          refine ok_iconst (v := 1) dX11_addFlares_38 ic_1 ?_
          refine ok_goto (tgt := 43) dX11_addFlares_39 (by decide) ?_
          refine ok_istore (L' := [(5, .int 1), (0, .ref 153), (1, .int c1), (2, .int c2), (3, .int x3), (4, .int x4)]) dX11_addFlares_43 (by decide) rfl ?_
          refine ok_iload dX11_addFlares_45 0 rfl ?_
          refine ok_if_eq (tgt := 57) dX11_addFlares_47 (by decide) (fun hc => absurd hc (by decide)) (fun hc => ?_)
          refine ok_iload_n dX11_addFlares_50 4 rfl ?_
          refine ok_if_ge (tgt := 57) dX11_addFlares_51 (by decide) (fun hc => ?_) (fun hc => ?_)
          · replace h := it_pos hc h
            refine ok_iload dX11_addFlares_57 0 rfl ?_
            refine ok_if_ne (tgt := 131) dX11_addFlares_59 (by decide) (fun hc => ?_) (fun hc => absurd hc (by decide))
            refine ok_iinc (v := x4 + 1) (L' := [(4, .int (x4 + 1)), (5, .int 1), (0, .ref 153), (1, .int c1), (2, .int c2), (3, .int x3)]) dX11_addFlares_131 5 rfl (ii_1 _) (by decide) rfl ?_
            refine ok_goto (tgt := 5) dX11_addFlares_134 (by decide) ?_
            refine ok_perm [2, 3, 4, 5, 0] rfl ?_
            exact ih _ _ _ _ h
          · replace h := it_neg hc h
            refine ok_iload dX11_addFlares_54 5 rfl ?_
            refine ok_istore_n (L' := [(3, .int x4), (5, .int 1), (0, .ref 153), (1, .int c1), (2, .int c2), (4, .int x4)]) dX11_addFlares_56 (by decide) rfl ?_
            refine ok_iload dX11_addFlares_57 1 rfl ?_
            refine ok_if_ne (tgt := 131) dX11_addFlares_59 (by decide) (fun hc => ?_) (fun hc => absurd hc (by decide))
            refine ok_iinc (v := x4 + 1) (L' := [(4, .int (x4 + 1)), (3, .int x4), (5, .int 1), (0, .ref 153), (1, .int c1), (2, .int c2)]) dX11_addFlares_131 5 rfl (ii_1 _) (by decide) rfl ?_
            refine ok_goto (tgt := 5) dX11_addFlares_134 (by decide) ?_
            refine ok_perm [3, 4, 5, 1, 0] rfl ?_
            exact ih _ _ _ _ h
set_option maxRecDepth 100000 in
set_option maxHeartbeats 4000000 in
theorem t_X11_addFlares {S : Mm} {a1 : Int32} {a2 : Int32} {out : Mm} (h : f_X11_addFlares S a1 a2 = some out) : Rs D_X11_addFlares [.ref 153, .int a1, .int a2] S none out := by
  refine rs_of (by decide) rfl (Nat.le_of_ble_eq_true rfl) ?_
  unfold f_X11_addFlares at h
  show Ok D_X11_addFlares (0, 0) (0, 0) 0 [(0, .ref 153), (1, .int a1), (2, .int a2)] [] (St S) _
  refine ok_iconst (v := (-1)) dX11_addFlares_0 ic_m1 ?_
  refine ok_istore_n (L' := [(3, .int (-1)), (0, .ref 153), (1, .int a1), (2, .int a2)]) dX11_addFlares_1 (by decide) rfl ?_
  refine ok_iconst (v := 0) dX11_addFlares_2 ic_0 ?_
  refine ok_istore (L' := [(4, .int 0), (3, .int (-1)), (0, .ref 153), (1, .int a1), (2, .int a2)]) dX11_addFlares_3 (by decide) rfl ?_
  refine ok_perm [2, 3, 4, 1, 0] rfl ?_
  refine tlp_X11_addFlares_5 (fun y3_10 y4_11 S12 out13 h => ?_) _ _ _ _ _ h
  exact okS_retv dX11_addFlares_137 rfl (by have e := Option.some.inj h; subst e; exact ⟨rfl, rfl⟩)
def lp_X11_layFlares_20 (k : Int32 → Mm → Option (Mm)) (c1 : Int32) : Nat → Int32 → Mm → Option (Mm)
  | 0, _, _ => none
  | fuel + 1, x2, S => (if (S.1 154 2) < x2 then k x2 S else ((f_X11_addFlares S c1 x2).bind fun r3 => lp_X11_layFlares_20 k c1 fuel (x2 + 1) r3))
def lp_X11_layFlares_7 (k : Int32 → Mm → Option (Mm)) : Nat → Int32 → Mm → Option (Mm)
  | 0, _, _ => none
  | fuel + 1, x1, S => (if 8 ≤ x1 then k x1 S else ((f_X11_layLevels S x1).bind fun r1 => lp_X11_layFlares_20 (fun y2_5 S6 => lp_X11_layFlares_7 k fuel (x1 + 1) S6) x1 100000 1 r1))
def f_X11_layFlares (S : Mm)  : Option (Mm) :=
  lp_X11_layFlares_7 (fun y1_8 S9 => some S9) 100000 0 (wr S 153 19 0)
set_option maxRecDepth 100000 in
set_option maxHeartbeats 4000000 in
theorem tlp_X11_layFlares_20 {k : Int32 → Mm → Option (Mm)} {c1 : Int32} (hk : ∀ (x2 : Int32) (S : Mm) (out : Mm), k x2 S = some out → Ok D_X11_layFlares (0, 0) (0, 0) 42 [(0, .ref 153), (1, .int c1), (2, .int x2)] [] (St S) (An none out)) : ∀ (fuel : Nat) (x2 : Int32) (S : Mm) (out : Mm), lp_X11_layFlares_20 k c1 fuel x2 S = some out → Ok D_X11_layFlares (0, 0) (0, 0) 20 [(0, .ref 153), (1, .int c1), (2, .int x2)] [] (St S) (An none out) := by
  intro fuel
  induction fuel with
  | zero => intro x2 S out h; cases h
  | succ fuel ih =>
    intro x2 S out h
    rw [lp_X11_layFlares_20] at h
    refine ok_iload_n dX11_layFlares_20 2 rfl ?_
    refine ok_aload_n dX11_layFlares_21 0 rfl ?_
    refine okS_getR dX11_layFlares_22 fl_X11_7 pr_153_0 ?_
    refine ok_iconst (v := 2) dX11_layFlares_25 ic_2 ?_
    refine okS_ialoadL (j := 2) dX11_layFlares_26 pa_154 (by decide) tnl_2 ?_
    refine ok_icmp_gt (tgt := 42) dX11_layFlares_27 (by decide) (fun hc => ?_) (fun hc => ?_)
    · replace h := it_pos hc h
      refine ok_perm [0, 1, 2] rfl ?_
      exact hk _ _ _ h
    · replace h := it_neg hc h
      refine ok_aload_n dX11_layFlares_30 0 rfl ?_
      refine ok_iload_n dX11_layFlares_31 1 rfl ?_
      refine ok_iload_n dX11_layFlares_32 2 rfl ?_
      obtain ⟨r3, e4, h⟩ := it_bind h
      refine okS_V (as := [.int c1, .int x2]) (st := []) (r := none) (S' := r3) dX11_layFlares_33 cv_X11_91 rfl po_153 (Nat.le_of_ble_eq_true rfl) ⟨⟨by decide, by decide⟩, rfl, rfl⟩ (t_X11_addFlares e4) ?_
      show Ok D_X11_layFlares (0, 0) (0, 0) 36 [(0, .ref 153), (1, .int c1), (2, .int x2)] [] (St r3) _
      refine ok_iinc (v := x2 + 1) (L' := [(2, .int (x2 + 1)), (0, .ref 153), (1, .int c1)]) dX11_layFlares_36 2 rfl (ii_1 _) (by decide) rfl ?_
      refine ok_goto (tgt := 20) dX11_layFlares_39 (by decide) ?_
      refine ok_perm [1, 2, 0] rfl ?_
      exact ih _ _ _ h
set_option maxRecDepth 100000 in
set_option maxHeartbeats 4000000 in
theorem tlp_X11_layFlares_7 {k : Int32 → Mm → Option (Mm)} (hk : ∀ (x1 : Int32) (S : Mm) (out : Mm), k x1 S = some out → Ok D_X11_layFlares (0, 0) (0, 0) 48 [(0, .ref 153), (1, .int x1)] [] (St S) (An none out)) : ∀ (fuel : Nat) (x1 : Int32) (S : Mm) (out : Mm), lp_X11_layFlares_7 k fuel x1 S = some out → Ok D_X11_layFlares (0, 0) (0, 0) 7 [(0, .ref 153), (1, .int x1)] [] (St S) (An none out) := by
  intro fuel
  induction fuel with
  | zero => intro x1 S out h; cases h
  | succ fuel ih =>
    intro x1 S out h
    rw [lp_X11_layFlares_7] at h
    refine ok_iload_n dX11_layFlares_7 1 rfl ?_
    refine ok_bipush (v := 8) dX11_layFlares_8 bi_8 ?_
    refine ok_icmp_ge (tgt := 48) dX11_layFlares_10 (by decide) (fun hc => ?_) (fun hc => ?_)
    · replace h := it_pos hc h
      refine ok_perm [0, 1] rfl ?_
      exact hk _ _ _ h
    · replace h := it_neg hc h
      refine ok_aload_n dX11_layFlares_13 0 rfl ?_
      refine ok_iload_n dX11_layFlares_14 1 rfl ?_
      obtain ⟨r1, e2, h⟩ := it_bind h
      refine okS_V (as := [.int x1]) (st := []) (r := none) (S' := r1) dX11_layFlares_15 cv_X11_84 rfl po_153 (Nat.le_of_ble_eq_true rfl) ⟨⟨by decide, by decide⟩, rfl, rfl⟩ (t_X11_layLevels e2) ?_
      show Ok D_X11_layFlares (0, 0) (0, 0) 18 [(0, .ref 153), (1, .int x1)] [] (St r1) _
      refine ok_iconst (v := 1) dX11_layFlares_18 ic_1 ?_
      refine ok_istore_n (L' := [(2, .int 1), (0, .ref 153), (1, .int x1)]) dX11_layFlares_19 (by decide) rfl ?_
      refine ok_perm [1, 2, 0] rfl ?_
      refine tlp_X11_layFlares_20 (fun y2_5 S6 out7 h => ?_) _ _ _ _ h
      refine ok_iinc (v := x1 + 1) (L' := [(1, .int (x1 + 1)), (0, .ref 153), (2, .int y2_5)]) dX11_layFlares_42 1 rfl (ii_1 _) (by decide) rfl ?_
      refine ok_goto (tgt := 7) dX11_layFlares_45 (by decide) ?_
      refine ok_perm [1, 0] rfl ?_
      exact ih _ _ _ h
set_option maxRecDepth 100000 in
set_option maxHeartbeats 4000000 in
theorem t_X11_layFlares {S : Mm} {out : Mm} (h : f_X11_layFlares S  = some out) : Rs D_X11_layFlares [.ref 153] S none out := by
  refine rs_of (by decide) rfl (Nat.le_of_ble_eq_true rfl) ?_
  unfold f_X11_layFlares at h
  show Ok D_X11_layFlares (0, 0) (0, 0) 0 [(0, .ref 153)] [] (St S) _
  refine ok_aload_n dX11_layFlares_0 0 rfl ?_
  refine ok_iconst (v := 0) dX11_layFlares_1 ic_0 ?_
  refine okS_putI dX11_layFlares_2 fl_X11_88 pi_153_19 ⟨rfl, rfl⟩ ?_
  refine ok_iconst (v := 0) dX11_layFlares_5 ic_0 ?_
  refine ok_istore_n (L' := [(1, .int 0), (0, .ref 153)]) dX11_layFlares_6 (by decide) rfl ?_
  refine ok_perm [1, 0] rfl ?_
  refine tlp_X11_layFlares_7 (fun y1_8 S9 out10 h => ?_) _ _ _ _ h
  exact okS_retv dX11_layFlares_48 rfl (by have e := Option.some.inj h; subst e; exact ⟨rfl, rfl⟩)
def f_X11_isIn (S : Mm) (a1 : Int32) (a2 : Int32) : Option (Int32) :=
  (if inb a1 160 then (if inb a1 160 then ((f_X11_in S a2.toInt64 ((S.1 164 a1.toNatClampNeg).toInt64) ((S.1 165 a1.toNatClampNeg).toInt64)).bind fun r3 => (if r3 = 0 ∨ r3 = 1 then some r3 else none)) else none) else none)
set_option maxRecDepth 100000 in
set_option maxHeartbeats 4000000 in
theorem t_X11_isIn {S : Mm} {a1 : Int32} {a2 : Int32} {out : Int32} (h : f_X11_isIn S a1 a2 = some out) : Rs D_X11_isIn [.ref 153, .int a1, .int a2] S (some (.int out)) S := by
  refine rs_of (by decide) rfl (Nat.le_of_ble_eq_true rfl) ?_
  unfold f_X11_isIn at h
  show Ok D_X11_isIn (0, 0) (0, 0) 0 [(0, .ref 153), (1, .int a1), (2, .int a2)] [] (St S) _
  refine ok_iload_n dX11_isIn_0 2 rfl ?_
  refine ok_i2l dX11_isIn_1 ?_
  refine ok_aload_n dX11_isIn_2 0 rfl ?_
  refine okS_getR dX11_isIn_3 fl_X11_44 pr_153_16 ?_
  refine ok_iload_n dX11_isIn_6 1 rfl ?_
  obtain ⟨hi1, h⟩ := it_some h
  refine okS_iaload dX11_isIn_7 pa_164 hi1 ?_
  refine ok_i2l dX11_isIn_8 ?_
  refine ok_aload_n dX11_isIn_9 0 rfl ?_
  refine okS_getR dX11_isIn_10 fl_X11_47 pr_153_17 ?_
  refine ok_iload_n dX11_isIn_13 1 rfl ?_
  obtain ⟨hi2, h⟩ := it_some h
  refine okS_iaload dX11_isIn_14 pa_165 hi2 ?_
  refine ok_i2l dX11_isIn_15 ?_
  obtain ⟨r3, e4, h⟩ := it_bind h
  refine okS_S (as := [.long a2.toInt64, .long ((S.1 164 a1.toNatClampNeg).toInt64), .long ((S.1 165 a1.toNatClampNeg).toInt64)]) (st := []) (r := some (.int r3)) (S' := S) dX11_isIn_16 cv_X11_94 rfl (Nat.le_of_ble_eq_true rfl) ⟨⟨by decide, by decide⟩, rfl, rfl⟩ (t_X11_in e4) ?_
  show Ok D_X11_isIn (0, 0) (0, 0) 19 [(0, .ref 153), (1, .int a1), (2, .int a2)] [.int r3] (St S) _
  obtain ⟨hb, h⟩ := it_some h
  exact okS_ret dX11_isIn_19 rfl (nb hb) (by have e := Option.some.inj h; subst e; exact ⟨rfl, rfl⟩)
def lp_X11_areTied_24 (k : Int32 → Int32 → Option (Int32)) (S : Mm) (c1 : Int32) (c2 : Int32) (c4 : Int32) : Nat → Int32 → Int32 → Option (Int32)
  | 0, _, _ => none
  | fuel + 1, x3, x5 => (if (S.1 154 1) ≤ x5 then k x3 x5 else (if x3 = 0 then (if inb (6 + x5) 1634 then ((f_X11_isIn S c1 (S.1 154 (6 + x5).toNatClampNeg)).bind fun r4 => (if r4 = 0 then lp_X11_areTied_24 k S c1 c2 c4 fuel 0 (x5 + 1) else (if inb (6 + x5) 1634 then ((f_X11_isIn S c2 (S.1 154 (6 + x5).toNatClampNeg)).bind fun r7 => (if r7 = 0 then lp_X11_areTied_24 k S c1 c2 c4 fuel 0 (x5 + 1) else (if inb (46 + x5) 1634 then (if ((S.1 154 (46 + x5).toNatClampNeg) &&& c4) = c4 then lp_X11_areTied_24 k S c1 c2 c4 fuel 1 (x5 + 1) else lp_X11_areTied_24 k S c1 c2 c4 fuel 0 (x5 + 1)) else none))) else none))) else none) else lp_X11_areTied_24 k S c1 c2 c4 fuel 1 (x5 + 1)))
def f_X11_areTied (S : Mm) (a1 : Int32) (a2 : Int32) : Option (Int32) :=
  (if inb a1 160 then (if inb a2 160 then lp_X11_areTied_24 (fun y3_10 y5_11 => (if y3_10 = 0 then some 0 else (if inb a1 160 then (if inb a2 160 then (if (S.1 162 a1.toNatClampNeg) = (S.1 162 a2.toNatClampNeg) then some 0 else (if inb a1 160 then (if (S.1 163 a1.toNatClampNeg) = 1 then (if inb a2 160 then (if (S.1 163 a2.toNatClampNeg) = 1 then some 1 else some 0) else none) else some 0) else none)) else none) else none))) S a1 a2 ((1 <<< ((S.1 162 a1.toNatClampNeg) &&& 31)) ||| (1 <<< ((S.1 162 a2.toNatClampNeg) &&& 31))) 100000 0 0 else none) else none)
set_option maxRecDepth 100000 in
set_option maxHeartbeats 4000000 in
theorem tlp_X11_areTied_24 {k : Int32 → Int32 → Option (Int32)} {S : Mm} {c1 : Int32} {c2 : Int32} {c4 : Int32} (hk : ∀ (x3 x5 : Int32) (out : Int32), k x3 x5 = some out → Ok D_X11_areTied (0, 0) (0, 0) 105 [(0, .ref 153), (1, .int c1), (2, .int c2), (3, .int x3), (4, .int c4), (5, .int x5)] [] (St S) (An (some (.int out)) S)) : ∀ (fuel : Nat) (x3 x5 : Int32) (out : Int32), lp_X11_areTied_24 k S c1 c2 c4 fuel x3 x5 = some out → Ok D_X11_areTied (0, 0) (0, 0) 24 [(0, .ref 153), (1, .int c1), (2, .int c2), (3, .int x3), (4, .int c4), (5, .int x5)] [] (St S) (An (some (.int out)) S) := by
  intro fuel
  induction fuel with
  | zero => intro x3 x5 out h; cases h
  | succ fuel ih =>
    intro x3 x5 out h
    rw [lp_X11_areTied_24] at h
    refine ok_iload dX11_areTied_24 5 rfl ?_
    refine ok_aload_n dX11_areTied_26 0 rfl ?_
    refine okS_getR dX11_areTied_27 fl_X11_7 pr_153_0 ?_
    refine ok_iconst (v := 1) dX11_areTied_30 ic_1 ?_
    refine okS_ialoadL (j := 1) dX11_areTied_31 pa_154 (by decide) tnl_1 ?_
    refine ok_icmp_ge (tgt := 105) dX11_areTied_32 (by decide) (fun hc => ?_) (fun hc => ?_)
    · replace h := it_pos hc h
      refine ok_perm [0, 1, 2, 3, 4, 5] rfl ?_
      exact hk _ _ _ h
    · replace h := it_neg hc h
      refine ok_iload_n dX11_areTied_35 3 rfl ?_
      refine ok_if_ne (tgt := 93) dX11_areTied_36 (by decide) (fun hc => ?_) (fun hc => ?_)
      · replace h := it_neg hc h
        refine ok_iconst (v := 1) dX11_areTied_93 ic_1 ?_
        refine ok_goto (tgt := 98) dX11_areTied_94 (by decide) ?_
        refine ok_istore_n (L' := [(3, .int 1), (0, .ref 153), (1, .int c1), (2, .int c2), (4, .int c4), (5, .int x5)]) dX11_areTied_98 (by decide) rfl ?_
        refine ok_iinc (v := x5 + 1) (L' := [(5, .int (x5 + 1)), (3, .int 1), (0, .ref 153), (1, .int c1), (2, .int c2), (4, .int c4)]) dX11_areTied_99 5 rfl (ii_1 _) (by decide) rfl ?_
        refine ok_goto (tgt := 24) dX11_areTied_102 (by decide) ?_
        refine ok_perm [2, 3, 4, 1, 5, 0] rfl ?_
        exact ih _ _ _ h
      · replace h := it_pos hc h
        refine ok_aload_n dX11_areTied_39 0 rfl ?_
        refine ok_iload_n dX11_areTied_40 1 rfl ?_
        refine ok_aload_n dX11_areTied_41 0 rfl ?_
        refine okS_getR dX11_areTied_42 fl_X11_7 pr_153_0 ?_
        refine ok_bipush (v := 6) dX11_areTied_45 bi_6 ?_
        refine ok_iload dX11_areTied_47 5 rfl ?_
        refine ok_iadd dX11_areTied_49 ?_
        obtain ⟨hi3, h⟩ := it_some h
        refine okS_iaload dX11_areTied_50 pa_154 hi3 ?_
        obtain ⟨r4, e5, h⟩ := it_bind h
        refine okS_V (as := [.int c1, .int (S.1 154 (6 + x5).toNatClampNeg)]) (st := []) (r := some (.int r4)) (S' := S) dX11_areTied_51 cv_X11_98 rfl po_153 (Nat.le_of_ble_eq_true rfl) ⟨⟨by decide, by decide⟩, rfl, rfl⟩ (t_X11_isIn e5) ?_
        show Ok D_X11_areTied (0, 0) (0, 0) 54 [(0, .ref 153), (1, .int c1), (2, .int c2), (3, .int x3), (4, .int c4), (5, .int x5)] [.int r4] (St S) _
        refine ok_if_eq (tgt := 97) dX11_areTied_54 (by decide) (fun hc => ?_) (fun hc => ?_)
        · replace h := it_pos hc h
          refine ok_iconst (v := 0) dX11_areTied_97 ic_0 ?_
          refine ok_istore_n (L' := [(3, .int 0), (0, .ref 153), (1, .int c1), (2, .int c2), (4, .int c4), (5, .int x5)]) dX11_areTied_98 (by decide) rfl ?_
          refine ok_iinc (v := x5 + 1) (L' := [(5, .int (x5 + 1)), (3, .int 0), (0, .ref 153), (1, .int c1), (2, .int c2), (4, .int c4)]) dX11_areTied_99 5 rfl (ii_1 _) (by decide) rfl ?_
          refine ok_goto (tgt := 24) dX11_areTied_102 (by decide) ?_
          refine ok_perm [2, 3, 4, 1, 5, 0] rfl ?_
          exact ih _ _ _ h
        · replace h := it_neg hc h
          refine ok_aload_n dX11_areTied_57 0 rfl ?_
          refine ok_iload_n dX11_areTied_58 2 rfl ?_
          refine ok_aload_n dX11_areTied_59 0 rfl ?_
          refine okS_getR dX11_areTied_60 fl_X11_7 pr_153_0 ?_
          refine ok_bipush (v := 6) dX11_areTied_63 bi_6 ?_
          refine ok_iload dX11_areTied_65 5 rfl ?_
          refine ok_iadd dX11_areTied_67 ?_
          obtain ⟨hi6, h⟩ := it_some h
          refine okS_iaload dX11_areTied_68 pa_154 hi6 ?_
          obtain ⟨r7, e8, h⟩ := it_bind h
          refine okS_V (as := [.int c2, .int (S.1 154 (6 + x5).toNatClampNeg)]) (st := []) (r := some (.int r7)) (S' := S) dX11_areTied_69 cv_X11_98 rfl po_153 (Nat.le_of_ble_eq_true rfl) ⟨⟨by decide, by decide⟩, rfl, rfl⟩ (t_X11_isIn e8) ?_
          show Ok D_X11_areTied (0, 0) (0, 0) 72 [(0, .ref 153), (1, .int c1), (2, .int c2), (3, .int x3), (4, .int c4), (5, .int x5)] [.int r7] (St S) _
          refine ok_if_eq (tgt := 97) dX11_areTied_72 (by decide) (fun hc => ?_) (fun hc => ?_)
          · replace h := it_pos hc h
            refine ok_iconst (v := 0) dX11_areTied_97 ic_0 ?_
            refine ok_istore_n (L' := [(3, .int 0), (0, .ref 153), (1, .int c1), (2, .int c2), (4, .int c4), (5, .int x5)]) dX11_areTied_98 (by decide) rfl ?_
            refine ok_iinc (v := x5 + 1) (L' := [(5, .int (x5 + 1)), (3, .int 0), (0, .ref 153), (1, .int c1), (2, .int c2), (4, .int c4)]) dX11_areTied_99 5 rfl (ii_1 _) (by decide) rfl ?_
            refine ok_goto (tgt := 24) dX11_areTied_102 (by decide) ?_
            refine ok_perm [2, 3, 4, 1, 5, 0] rfl ?_
            exact ih _ _ _ h
          · replace h := it_neg hc h
            refine ok_aload_n dX11_areTied_75 0 rfl ?_
            refine okS_getR dX11_areTied_76 fl_X11_7 pr_153_0 ?_
            refine ok_bipush (v := 46) dX11_areTied_79 bi_46 ?_
            refine ok_iload dX11_areTied_81 5 rfl ?_
            refine ok_iadd dX11_areTied_83 ?_
            obtain ⟨hi9, h⟩ := it_some h
            refine okS_iaload dX11_areTied_84 pa_154 hi9 ?_
            refine ok_iload dX11_areTied_85 4 rfl ?_
            refine ok_iand dX11_areTied_87 ?_
            refine ok_iload dX11_areTied_88 4 rfl ?_
            refine ok_icmp_ne (tgt := 97) dX11_areTied_90 (by decide) (fun hc => ?_) (fun hc => ?_)
            · replace h := it_neg hc h
              refine ok_iconst (v := 0) dX11_areTied_97 ic_0 ?_
              refine ok_istore_n (L' := [(3, .int 0), (0, .ref 153), (1, .int c1), (2, .int c2), (4, .int c4), (5, .int x5)]) dX11_areTied_98 (by decide) rfl ?_
              refine ok_iinc (v := x5 + 1) (L' := [(5, .int (x5 + 1)), (3, .int 0), (0, .ref 153), (1, .int c1), (2, .int c2), (4, .int c4)]) dX11_areTied_99 5 rfl (ii_1 _) (by decide) rfl ?_
              refine ok_goto (tgt := 24) dX11_areTied_102 (by decide) ?_
              refine ok_perm [2, 3, 4, 1, 5, 0] rfl ?_
              exact ih _ _ _ h
            · replace h := it_pos hc h
              refine ok_iconst (v := 1) dX11_areTied_93 ic_1 ?_
              refine ok_goto (tgt := 98) dX11_areTied_94 (by decide) ?_
              refine ok_istore_n (L' := [(3, .int 1), (0, .ref 153), (1, .int c1), (2, .int c2), (4, .int c4), (5, .int x5)]) dX11_areTied_98 (by decide) rfl ?_
              refine ok_iinc (v := x5 + 1) (L' := [(5, .int (x5 + 1)), (3, .int 1), (0, .ref 153), (1, .int c1), (2, .int c2), (4, .int c4)]) dX11_areTied_99 5 rfl (ii_1 _) (by decide) rfl ?_
              refine ok_goto (tgt := 24) dX11_areTied_102 (by decide) ?_
              refine ok_perm [2, 3, 4, 1, 5, 0] rfl ?_
              exact ih _ _ _ h
set_option maxRecDepth 100000 in
set_option maxHeartbeats 4000000 in
theorem t_X11_areTied {S : Mm} {a1 : Int32} {a2 : Int32} {out : Int32} (h : f_X11_areTied S a1 a2 = some out) : Rs D_X11_areTied [.ref 153, .int a1, .int a2] S (some (.int out)) S := by
  refine rs_of (by decide) rfl (Nat.le_of_ble_eq_true rfl) ?_
  unfold f_X11_areTied at h
  show Ok D_X11_areTied (0, 0) (0, 0) 0 [(0, .ref 153), (1, .int a1), (2, .int a2)] [] (St S) _
  refine ok_iconst (v := 0) dX11_areTied_0 ic_0 ?_
  refine ok_istore_n (L' := [(3, .int 0), (0, .ref 153), (1, .int a1), (2, .int a2)]) dX11_areTied_1 (by decide) rfl ?_
  refine ok_iconst (v := 1) dX11_areTied_2 ic_1 ?_
  refine ok_aload_n dX11_areTied_3 1 rfl ?_
  refine okS_getR dX11_areTied_4 fl_X11_38 pr_153_14 ?_
  refine ok_iload_n dX11_areTied_7 2 rfl ?_
  obtain ⟨hi1, h⟩ := it_some h
  refine okS_iaload dX11_areTied_8 pa_162 hi1 ?_
  refine ok_ishl dX11_areTied_9 ?_
  refine ok_iconst (v := 1) dX11_areTied_10 ic_1 ?_
  refine ok_aload_n dX11_areTied_11 1 rfl ?_
  refine okS_getR dX11_areTied_12 fl_X11_38 pr_153_14 ?_
  refine ok_iload_n dX11_areTied_15 3 rfl ?_
  obtain ⟨hi2, h⟩ := it_some h
  refine okS_iaload dX11_areTied_16 pa_162 hi2 ?_
  refine ok_ishl dX11_areTied_17 ?_
  refine ok_ior dX11_areTied_18 ?_
  refine ok_istore (L' := [(4, .int ((1 <<< ((S.1 162 a1.toNatClampNeg) &&& 31)) ||| (1 <<< ((S.1 162 a2.toNatClampNeg) &&& 31)))), (3, .int 0), (0, .ref 153), (1, .int a1), (2, .int a2)]) dX11_areTied_19 (by decide) rfl ?_
  refine ok_iconst (v := 0) dX11_areTied_21 ic_0 ?_
  refine ok_istore (L' := [(5, .int 0), (4, .int ((1 <<< ((S.1 162 a1.toNatClampNeg) &&& 31)) ||| (1 <<< ((S.1 162 a2.toNatClampNeg) &&& 31)))), (3, .int 0), (0, .ref 153), (1, .int a1), (2, .int a2)]) dX11_areTied_22 (by decide) rfl ?_
  refine ok_perm [3, 4, 5, 2, 1, 0] rfl ?_
  refine tlp_X11_areTied_24 (fun y3_10 y5_11 out12 h => ?_) _ _ _ _ h
  refine ok_iload_n dX11_areTied_105 3 rfl ?_
  refine ok_if_eq (tgt := 148) dX11_areTied_106 (by decide) (fun hc => ?_) (fun hc => ?_)
  · replace h := it_pos hc h
    refine ok_iconst (v := 0) dX11_areTied_148 ic_0 ?_
    exact okS_ret dX11_areTied_149 rfl (by decide) (by have e := Option.some.inj h; subst e; exact ⟨rfl, rfl⟩)
  · replace h := it_neg hc h
    refine ok_aload_n dX11_areTied_109 0 rfl ?_
    refine okS_getR dX11_areTied_110 fl_X11_38 pr_153_14 ?_
    refine ok_iload_n dX11_areTied_113 1 rfl ?_
    obtain ⟨hi13, h⟩ := it_some h
    refine okS_iaload dX11_areTied_114 pa_162 hi13 ?_
    refine ok_aload_n dX11_areTied_115 0 rfl ?_
    refine okS_getR dX11_areTied_116 fl_X11_38 pr_153_14 ?_
    refine ok_iload_n dX11_areTied_119 2 rfl ?_
    obtain ⟨hi14, h⟩ := it_some h
    refine okS_iaload dX11_areTied_120 pa_162 hi14 ?_
    refine ok_icmp_eq (tgt := 148) dX11_areTied_121 (by decide) (fun hc => ?_) (fun hc => ?_)
    · replace h := it_pos hc h
      refine ok_iconst (v := 0) dX11_areTied_148 ic_0 ?_
      exact okS_ret dX11_areTied_149 rfl (by decide) (by have e := Option.some.inj h; subst e; exact ⟨rfl, rfl⟩)
    · replace h := it_neg hc h
      refine ok_aload_n dX11_areTied_124 0 rfl ?_
      refine okS_getR dX11_areTied_125 fl_X11_41 pr_153_15 ?_
      refine ok_iload_n dX11_areTied_128 1 rfl ?_
      obtain ⟨hi15, h⟩ := it_some h
      refine okS_iaload dX11_areTied_129 pa_163 hi15 ?_
      refine ok_iconst (v := 1) dX11_areTied_130 ic_1 ?_
      refine ok_icmp_ne (tgt := 148) dX11_areTied_131 (by decide) (fun hc => ?_) (fun hc => ?_)
      · replace h := it_neg hc h
        refine ok_iconst (v := 0) dX11_areTied_148 ic_0 ?_
        exact okS_ret dX11_areTied_149 rfl (by decide) (by have e := Option.some.inj h; subst e; exact ⟨rfl, rfl⟩)
      · replace h := it_pos hc h
        refine ok_aload_n dX11_areTied_134 0 rfl ?_
        refine okS_getR dX11_areTied_135 fl_X11_41 pr_153_15 ?_
        refine ok_iload_n dX11_areTied_138 2 rfl ?_
        obtain ⟨hi16, h⟩ := it_some h
        refine okS_iaload dX11_areTied_139 pa_163 hi16 ?_
        refine ok_iconst (v := 1) dX11_areTied_140 ic_1 ?_
        refine ok_icmp_ne (tgt := 148) dX11_areTied_141 (by decide) (fun hc => ?_) (fun hc => ?_)
        · replace h := it_neg hc h
          refine ok_iconst (v := 0) dX11_areTied_148 ic_0 ?_
          exact okS_ret dX11_areTied_149 rfl (by decide) (by have e := Option.some.inj h; subst e; exact ⟨rfl, rfl⟩)
        · replace h := it_pos hc h
          refine ok_iconst (v := 1) dX11_areTied_144 ic_1 ?_
          refine ok_goto (tgt := 149) dX11_areTied_145 (by decide) ?_
          exact okS_ret dX11_areTied_149 rfl (by decide) (by have e := Option.some.inj h; subst e; exact ⟨rfl, rfl⟩)
def lp_X11_layHeaps_6 (k : Int32 → Mm → Option (Mm)) : Nat → Int32 → Mm → Option (Mm)
  | 0, _, _ => none
  | fuel + 1, x1, S => (if (S.1 153 19) ≤ x1 then k x1 S else (if inb x1 160 then lp_X11_layHeaps_6 k fuel (x1 + 1) (wr S 166 x1.toNatClampNeg x1) else none))
def lp_X11_layHeaps_47 (k : Int32 → Int32 → Mm → Option (Mm)) (c2 : Int32) : Nat → Int32 → Int32 → Mm → Option (Mm)
  | 0, _, _, _ => none
  | fuel + 1, x1, x3, S => (if (S.1 153 19) ≤ x3 then k x1 x3 S else (if inb x3 160 then (if inb c2 160 then (if (S.1 166 c2.toNatClampNeg) ≤ (S.1 166 x3.toNatClampNeg) then lp_X11_layHeaps_47 k c2 fuel x1 (x3 + 1) S else ((f_X11_areTied S c2 x3).bind fun r9 => (if r9 = 0 then lp_X11_layHeaps_47 k c2 fuel x1 (x3 + 1) S else (if inb x3 160 then (if inb c2 160 then lp_X11_layHeaps_47 k c2 fuel 1 (x3 + 1) (wr S 166 c2.toNatClampNeg (S.1 166 x3.toNatClampNeg)) else none) else none)))) else none) else none))
def lp_X11_layHeaps_37 (k : Int32 → Int32 → Mm → Option (Mm)) : Nat → Int32 → Int32 → Mm → Option (Mm)
  | 0, _, _, _ => none
  | fuel + 1, x1, x2, S => (if (S.1 153 19) ≤ x2 then k x1 x2 S else lp_X11_layHeaps_47 (fun y1_13 y3_14 S15 => lp_X11_layHeaps_37 k fuel y1_13 (x2 + 1) S15) x2 100000 x1 0 S)
def lp_X11_layHeaps_29 (k : Int32 → Mm → Option (Mm)) : Nat → Int32 → Mm → Option (Mm)
  | 0, _, _ => none
  | fuel + 1, x1, S => (if x1 = 0 then k x1 S else lp_X11_layHeaps_37 (fun y1_17 y2_18 S19 => lp_X11_layHeaps_29 k fuel y1_17 S19) 100000 0 0 S)
def f_X11_layHeaps (S : Mm)  : Option (Mm) :=
  ((f_X11_layFlares S).bind fun r1 => lp_X11_layHeaps_6 (fun y1_4 S5 => lp_X11_layHeaps_29 (fun y1_21 S22 => some S22) 100000 1 S5) 100000 0 r1)
set_option maxRecDepth 100000 in
set_option maxHeartbeats 4000000 in
theorem tlp_X11_layHeaps_6 {k : Int32 → Mm → Option (Mm)} (hk : ∀ (x1 : Int32) (S : Mm) (out : Mm), k x1 S = some out → Ok D_X11_layHeaps (0, 0) (0, 0) 27 [(0, .ref 153), (1, .int x1)] [] (St S) (An none out)) : ∀ (fuel : Nat) (x1 : Int32) (S : Mm) (out : Mm), lp_X11_layHeaps_6 k fuel x1 S = some out → Ok D_X11_layHeaps (0, 0) (0, 0) 6 [(0, .ref 153), (1, .int x1)] [] (St S) (An none out) := by
  intro fuel
  induction fuel with
  | zero => intro x1 S out h; cases h
  | succ fuel ih =>
    intro x1 S out h
    rw [lp_X11_layHeaps_6] at h
    refine ok_iload_n dX11_layHeaps_6 1 rfl ?_
    refine ok_aload_n dX11_layHeaps_7 0 rfl ?_
    refine okS_getI dX11_layHeaps_8 fl_X11_88 pi_153_19 ?_
    refine ok_icmp_ge (tgt := 27) dX11_layHeaps_11 (by decide) (fun hc => ?_) (fun hc => ?_)
    · replace h := it_pos hc h
      refine ok_perm [0, 1] rfl ?_
      exact hk _ _ _ h
    · replace h := it_neg hc h
      refine ok_aload_n dX11_layHeaps_14 0 rfl ?_
      refine okS_getR dX11_layHeaps_15 fl_X11_50 pr_153_18 ?_
      refine ok_iload_n dX11_layHeaps_18 1 rfl ?_
      refine ok_iload_n dX11_layHeaps_19 1 rfl ?_
      obtain ⟨hi3, h⟩ := it_some h
      refine okS_iastore dX11_layHeaps_20 pa_166 hi3 ?_
      refine ok_iinc (v := x1 + 1) (L' := [(1, .int (x1 + 1)), (0, .ref 153)]) dX11_layHeaps_21 1 rfl (ii_1 _) (by decide) rfl ?_
      refine ok_goto (tgt := 6) dX11_layHeaps_24 (by decide) ?_
      refine ok_perm [1, 0] rfl ?_
      exact ih _ _ _ h
set_option maxRecDepth 100000 in
set_option maxHeartbeats 4000000 in
theorem tlp_X11_layHeaps_47 {k : Int32 → Int32 → Mm → Option (Mm)} {c2 : Int32} (hk : ∀ (x1 x3 : Int32) (S : Mm) (out : Mm), k x1 x3 S = some out → Ok D_X11_layHeaps (0, 0) (0, 0) 99 [(0, .ref 153), (1, .int x1), (2, .int c2), (3, .int x3)] [] (St S) (An none out)) : ∀ (fuel : Nat) (x1 x3 : Int32) (S : Mm) (out : Mm), lp_X11_layHeaps_47 k c2 fuel x1 x3 S = some out → Ok D_X11_layHeaps (0, 0) (0, 0) 47 [(0, .ref 153), (1, .int x1), (2, .int c2), (3, .int x3)] [] (St S) (An none out) := by
  intro fuel
  induction fuel with
  | zero => intro x1 x3 S out h; cases h
  | succ fuel ih =>
    intro x1 x3 S out h
    rw [lp_X11_layHeaps_47] at h
    refine ok_iload_n dX11_layHeaps_47 3 rfl ?_
    refine ok_aload_n dX11_layHeaps_48 0 rfl ?_
    refine okS_getI dX11_layHeaps_49 fl_X11_88 pi_153_19 ?_
    refine ok_icmp_ge (tgt := 99) dX11_layHeaps_52 (by decide) (fun hc => ?_) (fun hc => ?_)
    · replace h := it_pos hc h
      refine ok_perm [0, 1, 2, 3] rfl ?_
      exact hk _ _ _ _ h
    · replace h := it_neg hc h
      refine ok_aload_n dX11_layHeaps_55 0 rfl ?_
      refine okS_getR dX11_layHeaps_56 fl_X11_50 pr_153_18 ?_
      refine ok_iload_n dX11_layHeaps_59 3 rfl ?_
      obtain ⟨hi7, h⟩ := it_some h
      refine okS_iaload dX11_layHeaps_60 pa_166 hi7 ?_
      refine ok_aload_n dX11_layHeaps_61 0 rfl ?_
      refine okS_getR dX11_layHeaps_62 fl_X11_50 pr_153_18 ?_
      refine ok_iload_n dX11_layHeaps_65 2 rfl ?_
      obtain ⟨hi8, h⟩ := it_some h
      refine okS_iaload dX11_layHeaps_66 pa_166 hi8 ?_
      refine ok_icmp_ge (tgt := 93) dX11_layHeaps_67 (by decide) (fun hc => ?_) (fun hc => ?_)
      · replace h := it_pos hc h
        refine ok_iinc (v := x3 + 1) (L' := [(3, .int (x3 + 1)), (0, .ref 153), (1, .int x1), (2, .int c2)]) dX11_layHeaps_93 3 rfl (ii_1 _) (by decide) rfl ?_
        refine ok_goto (tgt := 47) dX11_layHeaps_96 (by decide) ?_
        refine ok_perm [1, 2, 3, 0] rfl ?_
        exact ih _ _ _ _ h
      · replace h := it_neg hc h
        refine ok_aload_n dX11_layHeaps_70 0 rfl ?_
        refine ok_iload_n dX11_layHeaps_71 2 rfl ?_
        refine ok_iload_n dX11_layHeaps_72 3 rfl ?_
        obtain ⟨r9, e10, h⟩ := it_bind h
        refine okS_V (as := [.int c2, .int x3]) (st := []) (r := some (.int r9)) (S' := S) dX11_layHeaps_73 cv_X11_105 rfl po_153 (Nat.le_of_ble_eq_true rfl) ⟨⟨by decide, by decide⟩, rfl, rfl⟩ (t_X11_areTied e10) ?_
        show Ok D_X11_layHeaps (0, 0) (0, 0) 76 [(0, .ref 153), (1, .int x1), (2, .int c2), (3, .int x3)] [.int r9] (St S) _
        refine ok_if_eq (tgt := 93) dX11_layHeaps_76 (by decide) (fun hc => ?_) (fun hc => ?_)
        · replace h := it_pos hc h
          refine ok_iinc (v := x3 + 1) (L' := [(3, .int (x3 + 1)), (0, .ref 153), (1, .int x1), (2, .int c2)]) dX11_layHeaps_93 3 rfl (ii_1 _) (by decide) rfl ?_
          refine ok_goto (tgt := 47) dX11_layHeaps_96 (by decide) ?_
          refine ok_perm [1, 2, 3, 0] rfl ?_
          exact ih _ _ _ _ h
        · replace h := it_neg hc h
          refine ok_aload_n dX11_layHeaps_79 0 rfl ?_
          refine okS_getR dX11_layHeaps_80 fl_X11_50 pr_153_18 ?_
          refine ok_iload_n dX11_layHeaps_83 2 rfl ?_
          refine ok_aload_n dX11_layHeaps_84 0 rfl ?_
          refine okS_getR dX11_layHeaps_85 fl_X11_50 pr_153_18 ?_
          refine ok_iload_n dX11_layHeaps_88 3 rfl ?_
          obtain ⟨hi11, h⟩ := it_some h
          refine okS_iaload dX11_layHeaps_89 pa_166 hi11 ?_
          obtain ⟨hi12, h⟩ := it_some h
          refine okS_iastore dX11_layHeaps_90 pa_166 hi12 ?_
          refine ok_iconst (v := 1) dX11_layHeaps_91 ic_1 ?_
          refine ok_istore_n (L' := [(1, .int 1), (0, .ref 153), (2, .int c2), (3, .int x3)]) dX11_layHeaps_92 (by decide) rfl ?_
          refine ok_iinc (v := x3 + 1) (L' := [(3, .int (x3 + 1)), (1, .int 1), (0, .ref 153), (2, .int c2)]) dX11_layHeaps_93 3 rfl (ii_1 _) (by decide) rfl ?_
          refine ok_goto (tgt := 47) dX11_layHeaps_96 (by decide) ?_
          refine ok_perm [2, 1, 3, 0] rfl ?_
          exact ih _ _ _ _ h
set_option maxRecDepth 100000 in
set_option maxHeartbeats 4000000 in
theorem tlp_X11_layHeaps_37 {k : Int32 → Int32 → Mm → Option (Mm)} (hk : ∀ (x1 x2 : Int32) (S : Mm) (out : Mm), k x1 x2 S = some out → Ok D_X11_layHeaps (0, 0) (0, 0) 105 [(0, .ref 153), (1, .int x1), (2, .int x2)] [] (St S) (An none out)) : ∀ (fuel : Nat) (x1 x2 : Int32) (S : Mm) (out : Mm), lp_X11_layHeaps_37 k fuel x1 x2 S = some out → Ok D_X11_layHeaps (0, 0) (0, 0) 37 [(0, .ref 153), (1, .int x1), (2, .int x2)] [] (St S) (An none out) := by
  intro fuel
  induction fuel with
  | zero => intro x1 x2 S out h; cases h
  | succ fuel ih =>
    intro x1 x2 S out h
    rw [lp_X11_layHeaps_37] at h
    refine ok_iload_n dX11_layHeaps_37 2 rfl ?_
    refine ok_aload_n dX11_layHeaps_38 0 rfl ?_
    refine okS_getI dX11_layHeaps_39 fl_X11_88 pi_153_19 ?_
    refine ok_icmp_ge (tgt := 105) dX11_layHeaps_42 (by decide) (fun hc => ?_) (fun hc => ?_)
    · replace h := it_pos hc h
      refine ok_perm [0, 1, 2] rfl ?_
      exact hk _ _ _ _ h
    · replace h := it_neg hc h
      refine ok_iconst (v := 0) dX11_layHeaps_45 ic_0 ?_
      refine ok_istore_n (L' := [(3, .int 0), (0, .ref 153), (1, .int x1), (2, .int x2)]) dX11_layHeaps_46 (by decide) rfl ?_
      refine ok_perm [1, 2, 3, 0] rfl ?_
      refine tlp_X11_layHeaps_47 (fun y1_13 y3_14 S15 out16 h => ?_) _ _ _ _ _ h
      refine ok_iinc (v := x2 + 1) (L' := [(2, .int (x2 + 1)), (0, .ref 153), (1, .int y1_13), (3, .int y3_14)]) dX11_layHeaps_99 2 rfl (ii_1 _) (by decide) rfl ?_
      refine ok_goto (tgt := 37) dX11_layHeaps_102 (by decide) ?_
      refine ok_perm [1, 2, 0] rfl ?_
      exact ih _ _ _ _ h
set_option maxRecDepth 100000 in
set_option maxHeartbeats 4000000 in
theorem tlp_X11_layHeaps_29 {k : Int32 → Mm → Option (Mm)} (hk : ∀ (x1 : Int32) (S : Mm) (out : Mm), k x1 S = some out → Ok D_X11_layHeaps (0, 0) (0, 0) 108 [(0, .ref 153), (1, .int x1)] [] (St S) (An none out)) : ∀ (fuel : Nat) (x1 : Int32) (S : Mm) (out : Mm), lp_X11_layHeaps_29 k fuel x1 S = some out → Ok D_X11_layHeaps (0, 0) (0, 0) 29 [(0, .ref 153), (1, .int x1)] [] (St S) (An none out) := by
  intro fuel
  induction fuel with
  | zero => intro x1 S out h; cases h
  | succ fuel ih =>
    intro x1 S out h
    rw [lp_X11_layHeaps_29] at h
    refine ok_iload_n dX11_layHeaps_29 1 rfl ?_
    refine ok_if_eq (tgt := 108) dX11_layHeaps_30 (by decide) (fun hc => ?_) (fun hc => ?_)
    · replace h := it_pos hc h
      refine ok_perm [0, 1] rfl ?_
      exact hk _ _ _ h
    · replace h := it_neg hc h
      refine ok_iconst (v := 0) dX11_layHeaps_33 ic_0 ?_
      refine ok_istore_n (L' := [(1, .int 0), (0, .ref 153)]) dX11_layHeaps_34 (by decide) rfl ?_
      refine ok_iconst (v := 0) dX11_layHeaps_35 ic_0 ?_
      refine ok_istore_n (L' := [(2, .int 0), (1, .int 0), (0, .ref 153)]) dX11_layHeaps_36 (by decide) rfl ?_
      refine ok_perm [2, 1, 0] rfl ?_
      refine tlp_X11_layHeaps_37 (fun y1_17 y2_18 S19 out20 h => ?_) _ _ _ _ _ h
      refine ok_goto (tgt := 29) dX11_layHeaps_105 (by decide) ?_
      refine ok_perm [0, 1] rfl ?_
      exact ih _ _ _ h
set_option maxRecDepth 100000 in
set_option maxHeartbeats 4000000 in
theorem t_X11_layHeaps {S : Mm} {out : Mm} (h : f_X11_layHeaps S  = some out) : Rs D_X11_layHeaps [.ref 153] S none out := by
  refine rs_of (by decide) rfl (Nat.le_of_ble_eq_true rfl) ?_
  unfold f_X11_layHeaps at h
  show Ok D_X11_layHeaps (0, 0) (0, 0) 0 [(0, .ref 153)] [] (St S) _
  refine ok_aload_n dX11_layHeaps_0 0 rfl ?_
  obtain ⟨r1, e2, h⟩ := it_bind h
  refine okS_V (as := []) (st := []) (r := none) (S' := r1) dX11_layHeaps_1 cv_X11_102 rfl po_153 (Nat.le_of_ble_eq_true rfl) ⟨⟨by decide, by decide⟩, rfl, rfl⟩ (t_X11_layFlares e2) ?_
  show Ok D_X11_layHeaps (0, 0) (0, 0) 4 [(0, .ref 153)] [] (St r1) _
  refine ok_iconst (v := 0) dX11_layHeaps_4 ic_0 ?_
  refine ok_istore_n (L' := [(1, .int 0), (0, .ref 153)]) dX11_layHeaps_5 (by decide) rfl ?_
  refine ok_perm [1, 0] rfl ?_
  refine tlp_X11_layHeaps_6 (fun y1_4 S5 out6 h => ?_) _ _ _ _ h
  refine ok_iconst (v := 1) dX11_layHeaps_27 ic_1 ?_
  refine ok_istore_n (L' := [(1, .int 1), (0, .ref 153)]) dX11_layHeaps_28 (by decide) rfl ?_
  refine ok_perm [1, 0] rfl ?_
  refine tlp_X11_layHeaps_29 (fun y1_21 S22 out23 h => ?_) _ _ _ _ h
  exact okS_retv dX11_layHeaps_108 rfl (by have e := Option.some.inj h; subst e; exact ⟨rfl, rfl⟩)
def f_X11_begins (S : Mm) (a1 : Int32) : Option (Int32) :=
  (if inb a1 160 then (if (S.1 163 a1.toNatClampNeg) = 1 then (if inb a1 160 then (if (S.1 166 a1.toNatClampNeg) = a1 then some 1 else some 0) else none) else some 0) else none)
set_option maxRecDepth 100000 in
set_option maxHeartbeats 4000000 in
theorem t_X11_begins {S : Mm} {a1 : Int32} {out : Int32} (h : f_X11_begins S a1 = some out) : Rs D_X11_begins [.ref 153, .int a1] S (some (.int out)) S := by
  refine rs_of (by decide) rfl (Nat.le_of_ble_eq_true rfl) ?_
  unfold f_X11_begins at h
  show Ok D_X11_begins (0, 0) (0, 0) 0 [(0, .ref 153), (1, .int a1)] [] (St S) _
  refine ok_aload_n dX11_begins_0 0 rfl ?_
  refine okS_getR dX11_begins_1 fl_X11_41 pr_153_15 ?_
  refine ok_iload_n dX11_begins_4 1 rfl ?_
  obtain ⟨hi1, h⟩ := it_some h
  refine okS_iaload dX11_begins_5 pa_163 hi1 ?_
  refine ok_iconst (v := 1) dX11_begins_6 ic_1 ?_
  refine ok_icmp_ne (tgt := 24) dX11_begins_7 (by decide) (fun hc => ?_) (fun hc => ?_)
  · replace h := it_neg hc h
    refine ok_iconst (v := 0) dX11_begins_24 ic_0 ?_
    exact okS_ret dX11_begins_25 rfl (by decide) (by have e := Option.some.inj h; subst e; exact ⟨rfl, rfl⟩)
  · replace h := it_pos hc h
    refine ok_aload_n dX11_begins_10 0 rfl ?_
    refine okS_getR dX11_begins_11 fl_X11_50 pr_153_18 ?_
    refine ok_iload_n dX11_begins_14 1 rfl ?_
    obtain ⟨hi2, h⟩ := it_some h
    refine okS_iaload dX11_begins_15 pa_166 hi2 ?_
    refine ok_iload_n dX11_begins_16 1 rfl ?_
    refine ok_icmp_ne (tgt := 24) dX11_begins_17 (by decide) (fun hc => ?_) (fun hc => ?_)
    · replace h := it_neg hc h
      refine ok_iconst (v := 0) dX11_begins_24 ic_0 ?_
      exact okS_ret dX11_begins_25 rfl (by decide) (by have e := Option.some.inj h; subst e; exact ⟨rfl, rfl⟩)
    · replace h := it_pos hc h
      refine ok_iconst (v := 1) dX11_begins_20 ic_1 ?_
      refine ok_goto (tgt := 25) dX11_begins_21 (by decide) ?_
      exact okS_ret dX11_begins_25 rfl (by decide) (by have e := Option.some.inj h; subst e; exact ⟨rfl, rfl⟩)
def lp_X11_stories_8 (k : Int32 → Int32 → Option (Int32 × Mm)) (S : Mm) : Nat → Int32 → Int32 → Option (Int32 × Mm)
  | 0, _, _ => none
  | fuel + 1, x1, x2 => (if (S.1 153 19) ≤ x2 then k x1 x2 else ((f_X11_begins S x2).bind fun r3 => (if r3 = 0 then lp_X11_stories_8 k S fuel (x1 + 0) (x2 + 1) else lp_X11_stories_8 k S fuel (x1 + 1) (x2 + 1))))
def f_X11_stories (S : Mm)  : Option (Int32 × Mm) :=
  ((f_X11_layHeaps S).bind fun r1 => lp_X11_stories_8 (fun y1_5 y2_6 => some (y1_5, r1)) r1 100000 0 0)
set_option maxRecDepth 100000 in
set_option maxHeartbeats 4000000 in
theorem tlp_X11_stories_8 {k : Int32 → Int32 → Option (Int32 × Mm)} {S : Mm} (hk : ∀ (x1 x2 : Int32) (out : Int32 × Mm), k x1 x2 = some out → Ok D_X11_stories (0, 0) (0, 0) 38 [(0, .ref 153), (1, .int x1), (2, .int x2)] [] (St S) (An (some (.int out.1)) out.2)) : ∀ (fuel : Nat) (x1 x2 : Int32) (out : Int32 × Mm), lp_X11_stories_8 k S fuel x1 x2 = some out → Ok D_X11_stories (0, 0) (0, 0) 8 [(0, .ref 153), (1, .int x1), (2, .int x2)] [] (St S) (An (some (.int out.1)) out.2) := by
  intro fuel
  induction fuel with
  | zero => intro x1 x2 out h; cases h
  | succ fuel ih =>
    intro x1 x2 out h
    rw [lp_X11_stories_8] at h
    refine ok_iload_n dX11_stories_8 2 rfl ?_
    refine ok_aload_n dX11_stories_9 0 rfl ?_
    refine okS_getI dX11_stories_10 fl_X11_88 pi_153_19 ?_
    refine ok_icmp_ge (tgt := 38) dX11_stories_13 (by decide) (fun hc => ?_) (fun hc => ?_)
    · replace h := it_pos hc h
      refine ok_perm [0, 1, 2] rfl ?_
      exact hk _ _ _ h
    · replace h := it_neg hc h
      refine ok_iload_n dX11_stories_16 1 rfl ?_
      refine ok_aload_n dX11_stories_17 0 rfl ?_
      refine ok_iload_n dX11_stories_18 2 rfl ?_
      obtain ⟨r3, e4, h⟩ := it_bind h
      refine okS_V (as := [.int x2]) (st := [.int x1]) (r := some (.int r3)) (S' := S) dX11_stories_19 cv_X11_111 rfl po_153 (Nat.le_of_ble_eq_true rfl) ⟨⟨by decide, by decide⟩, rfl, rfl⟩ (t_X11_begins e4) ?_
      show Ok D_X11_stories (0, 0) (0, 0) 22 [(0, .ref 153), (1, .int x1), (2, .int x2)] [.int r3, .int x1] (St S) _
      refine ok_if_eq (tgt := 29) dX11_stories_22 (by decide) (fun hc => ?_) (fun hc => ?_)
      · replace h := it_pos hc h
        refine ok_iconst (v := 0) dX11_stories_29 ic_0 ?_
        refine ok_iadd dX11_stories_30 ?_
        refine ok_istore_n (L' := [(1, .int (x1 + 0)), (0, .ref 153), (2, .int x2)]) dX11_stories_31 (by decide) rfl ?_
        refine ok_iinc (v := x2 + 1) (L' := [(2, .int (x2 + 1)), (1, .int (x1 + 0)), (0, .ref 153)]) dX11_stories_32 2 rfl (ii_1 _) (by decide) rfl ?_
        refine ok_goto (tgt := 8) dX11_stories_35 (by decide) ?_
        refine ok_perm [2, 1, 0] rfl ?_
        exact ih _ _ _ h
      · replace h := it_neg hc h
        refine ok_iconst (v := 1) dX11_stories_25 ic_1 ?_
        refine ok_goto (tgt := 30) dX11_stories_26 (by decide) ?_
        refine ok_iadd dX11_stories_30 ?_
        refine ok_istore_n (L' := [(1, .int (x1 + 1)), (0, .ref 153), (2, .int x2)]) dX11_stories_31 (by decide) rfl ?_
        refine ok_iinc (v := x2 + 1) (L' := [(2, .int (x2 + 1)), (1, .int (x1 + 1)), (0, .ref 153)]) dX11_stories_32 2 rfl (ii_1 _) (by decide) rfl ?_
        refine ok_goto (tgt := 8) dX11_stories_35 (by decide) ?_
        refine ok_perm [2, 1, 0] rfl ?_
        exact ih _ _ _ h
set_option maxRecDepth 100000 in
set_option maxHeartbeats 4000000 in
theorem t_X11_stories {S : Mm} {out : Int32 × Mm} (h : f_X11_stories S  = some out) : Rs D_X11_stories [.ref 153] S (some (.int out.1)) out.2 := by
  refine rs_of (by decide) rfl (Nat.le_of_ble_eq_true rfl) ?_
  unfold f_X11_stories at h
  show Ok D_X11_stories (0, 0) (0, 0) 0 [(0, .ref 153)] [] (St S) _
  refine ok_aload_n dX11_stories_0 0 rfl ?_
  obtain ⟨r1, e2, h⟩ := it_bind h
  refine okS_V (as := []) (st := []) (r := none) (S' := r1) dX11_stories_1 cv_X11_108 rfl po_153 (Nat.le_of_ble_eq_true rfl) ⟨⟨by decide, by decide⟩, rfl, rfl⟩ (t_X11_layHeaps e2) ?_
  show Ok D_X11_stories (0, 0) (0, 0) 4 [(0, .ref 153)] [] (St r1) _
  refine ok_iconst (v := 0) dX11_stories_4 ic_0 ?_
  refine ok_istore_n (L' := [(1, .int 0), (0, .ref 153)]) dX11_stories_5 (by decide) rfl ?_
  refine ok_iconst (v := 0) dX11_stories_6 ic_0 ?_
  refine ok_istore_n (L' := [(2, .int 0), (1, .int 0), (0, .ref 153)]) dX11_stories_7 (by decide) rfl ?_
  refine ok_perm [2, 1, 0] rfl ?_
  refine tlp_X11_stories_8 (fun y1_5 y2_6 out7 h => ?_) _ _ _ _ h
  refine ok_iload_n dX11_stories_38 1 rfl ?_
  exact okS_ret dX11_stories_39 rfl rfl (by have e := Option.some.inj h; subst e; exact ⟨rfl, rfl⟩)
def lp_X11_storyOf_4 (k : Int32 → Int32 → Option (Int32)) (S : Mm) (c1 : Int32) : Nat → Int32 → Int32 → Option (Int32)
  | 0, _, _ => none
  | fuel + 1, x2, x3 => (if inb c1 160 then (if (S.1 166 c1.toNatClampNeg) < x3 then k x2 x3 else ((f_X11_begins S x3).bind fun r2 => (if r2 = 0 then lp_X11_storyOf_4 k S c1 fuel (x2 + 0) (x3 + 1) else lp_X11_storyOf_4 k S c1 fuel (x2 + 1) (x3 + 1)))) else none)
def f_X11_storyOf (S : Mm) (a1 : Int32) : Option (Int32) :=
  lp_X11_storyOf_4 (fun y2_4 y3_5 => (if inb a1 160 then (if (S.1 163 a1.toNatClampNeg) ≤ 1 then some y2_4 else some (-1)) else none)) S a1 100000 (-1) 0
set_option maxRecDepth 100000 in
set_option maxHeartbeats 4000000 in
theorem tlp_X11_storyOf_4 {k : Int32 → Int32 → Option (Int32)} {S : Mm} {c1 : Int32} (hk : ∀ (x2 x3 : Int32) (out : Int32), k x2 x3 = some out → Ok D_X11_storyOf (0, 0) (0, 0) 36 [(0, .ref 153), (1, .int c1), (2, .int x2), (3, .int x3)] [] (St S) (An (some (.int out)) S)) : ∀ (fuel : Nat) (x2 x3 : Int32) (out : Int32), lp_X11_storyOf_4 k S c1 fuel x2 x3 = some out → Ok D_X11_storyOf (0, 0) (0, 0) 4 [(0, .ref 153), (1, .int c1), (2, .int x2), (3, .int x3)] [] (St S) (An (some (.int out)) S) := by
  intro fuel
  induction fuel with
  | zero => intro x2 x3 out h; cases h
  | succ fuel ih =>
    intro x2 x3 out h
    rw [lp_X11_storyOf_4] at h
    refine ok_iload_n dX11_storyOf_4 3 rfl ?_
    refine ok_aload_n dX11_storyOf_5 0 rfl ?_
    refine okS_getR dX11_storyOf_6 fl_X11_50 pr_153_18 ?_
    refine ok_iload_n dX11_storyOf_9 1 rfl ?_
    obtain ⟨hi1, h⟩ := it_some h
    refine okS_iaload dX11_storyOf_10 pa_166 hi1 ?_
    refine ok_icmp_gt (tgt := 36) dX11_storyOf_11 (by decide) (fun hc => ?_) (fun hc => ?_)
    · replace h := it_pos hc h
      refine ok_perm [0, 1, 2, 3] rfl ?_
      exact hk _ _ _ h
    · replace h := it_neg hc h
      refine ok_iload_n dX11_storyOf_14 2 rfl ?_
      refine ok_aload_n dX11_storyOf_15 0 rfl ?_
      refine ok_iload_n dX11_storyOf_16 3 rfl ?_
      obtain ⟨r2, e3, h⟩ := it_bind h
      refine okS_V (as := [.int x3]) (st := [.int x2]) (r := some (.int r2)) (S' := S) dX11_storyOf_17 cv_X11_111 rfl po_153 (Nat.le_of_ble_eq_true rfl) ⟨⟨by decide, by decide⟩, rfl, rfl⟩ (t_X11_begins e3) ?_
      show Ok D_X11_storyOf (0, 0) (0, 0) 20 [(0, .ref 153), (1, .int c1), (2, .int x2), (3, .int x3)] [.int r2, .int x2] (St S) _
      refine ok_if_eq (tgt := 27) dX11_storyOf_20 (by decide) (fun hc => ?_) (fun hc => ?_)
      · replace h := it_pos hc h
        refine ok_iconst (v := 0) dX11_storyOf_27 ic_0 ?_
        refine ok_iadd dX11_storyOf_28 ?_
        refine ok_istore_n (L' := [(2, .int (x2 + 0)), (0, .ref 153), (1, .int c1), (3, .int x3)]) dX11_storyOf_29 (by decide) rfl ?_
        refine ok_iinc (v := x3 + 1) (L' := [(3, .int (x3 + 1)), (2, .int (x2 + 0)), (0, .ref 153), (1, .int c1)]) dX11_storyOf_30 3 rfl (ii_1 _) (by decide) rfl ?_
        refine ok_goto (tgt := 4) dX11_storyOf_33 (by decide) ?_
        refine ok_perm [2, 3, 1, 0] rfl ?_
        exact ih _ _ _ h
      · replace h := it_neg hc h
        refine ok_iconst (v := 1) dX11_storyOf_23 ic_1 ?_
        refine ok_goto (tgt := 28) dX11_storyOf_24 (by decide) ?_
        refine ok_iadd dX11_storyOf_28 ?_
        refine ok_istore_n (L' := [(2, .int (x2 + 1)), (0, .ref 153), (1, .int c1), (3, .int x3)]) dX11_storyOf_29 (by decide) rfl ?_
        refine ok_iinc (v := x3 + 1) (L' := [(3, .int (x3 + 1)), (2, .int (x2 + 1)), (0, .ref 153), (1, .int c1)]) dX11_storyOf_30 3 rfl (ii_1 _) (by decide) rfl ?_
        refine ok_goto (tgt := 4) dX11_storyOf_33 (by decide) ?_
        refine ok_perm [2, 3, 1, 0] rfl ?_
        exact ih _ _ _ h
set_option maxRecDepth 100000 in
set_option maxHeartbeats 4000000 in
theorem t_X11_storyOf {S : Mm} {a1 : Int32} {out : Int32} (h : f_X11_storyOf S a1 = some out) : Rs D_X11_storyOf [.ref 153, .int a1] S (some (.int out)) S := by
  refine rs_of (by decide) rfl (Nat.le_of_ble_eq_true rfl) ?_
  unfold f_X11_storyOf at h
  show Ok D_X11_storyOf (0, 0) (0, 0) 0 [(0, .ref 153), (1, .int a1)] [] (St S) _
  refine ok_iconst (v := (-1)) dX11_storyOf_0 ic_m1 ?_
  refine ok_istore_n (L' := [(2, .int (-1)), (0, .ref 153), (1, .int a1)]) dX11_storyOf_1 (by decide) rfl ?_
  refine ok_iconst (v := 0) dX11_storyOf_2 ic_0 ?_
  refine ok_istore_n (L' := [(3, .int 0), (2, .int (-1)), (0, .ref 153), (1, .int a1)]) dX11_storyOf_3 (by decide) rfl ?_
  refine ok_perm [2, 3, 1, 0] rfl ?_
  refine tlp_X11_storyOf_4 (fun y2_4 y3_5 out6 h => ?_) _ _ _ _ h
  refine ok_aload_n dX11_storyOf_36 0 rfl ?_
  refine okS_getR dX11_storyOf_37 fl_X11_41 pr_153_15 ?_
  refine ok_iload_n dX11_storyOf_40 1 rfl ?_
  obtain ⟨hi7, h⟩ := it_some h
  refine okS_iaload dX11_storyOf_41 pa_163 hi7 ?_
  refine ok_iconst (v := 1) dX11_storyOf_42 ic_1 ?_
  refine ok_icmp_le (tgt := 50) dX11_storyOf_43 (by decide) (fun hc => ?_) (fun hc => ?_)
  · replace h := it_pos hc h
    refine ok_iload_n dX11_storyOf_50 2 rfl ?_
    exact okS_ret dX11_storyOf_51 rfl rfl (by have e := Option.some.inj h; subst e; exact ⟨rfl, rfl⟩)
  · replace h := it_neg hc h
    refine ok_iconst (v := (-1)) dX11_storyOf_46 ic_m1 ?_
    refine ok_goto (tgt := 51) dX11_storyOf_47 (by decide) ?_
    exact okS_ret dX11_storyOf_51 rfl rfl (by have e := Option.some.inj h; subst e; exact ⟨rfl, rfl⟩)
def f_X11_isFigure (S : Mm) (a1 : Int32) : Option (Int32) :=
  ((f_X11_in S a1.toInt64 48 57).bind fun r1 => (if r1 = 0 ∨ r1 = 1 then some r1 else none))
set_option maxRecDepth 100000 in
set_option maxHeartbeats 4000000 in
theorem t_X11_isFigure {S : Mm} {a1 : Int32} {out : Int32} (h : f_X11_isFigure S a1 = some out) : Rs D_X11_isFigure [.int a1] S (some (.int out)) S := by
  refine rs_of (by decide) rfl (Nat.le_of_ble_eq_true rfl) ?_
  unfold f_X11_isFigure at h
  show Ok D_X11_isFigure (0, 0) (0, 0) 0 [(0, .int a1)] [] (St S) _
  refine ok_iload_n dX11_isFigure_0 0 rfl ?_
  refine ok_i2l dX11_isFigure_1 ?_
  refine ok_ldc2 (v := 48) dX11_isFigure_2 wd_1015 ?_
  refine ok_ldc2 (v := 57) dX11_isFigure_5 wd_1016 ?_
  obtain ⟨r1, e2, h⟩ := it_bind h
  refine okS_S (as := [.long a1.toInt64, .long 48, .long 57]) (st := []) (r := some (.int r1)) (S' := S) dX11_isFigure_8 cv_X11_94 rfl (Nat.le_of_ble_eq_true rfl) ⟨⟨by decide, by decide⟩, rfl, rfl⟩ (t_X11_in e2) ?_
  show Ok D_X11_isFigure (0, 0) (0, 0) 11 [(0, .int a1)] [.int r1] (St S) _
  obtain ⟨hb, h⟩ := it_some h
  exact okS_ret dX11_isFigure_11 rfl (nb hb) (by have e := Option.some.inj h; subst e; exact ⟨rfl, rfl⟩)
