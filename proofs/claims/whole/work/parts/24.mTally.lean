def lp_X8_countWord_18 (k : Int32 → Mm → Option (Mm)) (c2 : Int32) (c3 : Int32) (c4 : Int32) : Nat → Int32 → Mm → Option (Mm)
  | 0, _, _ => none
  | fuel + 1, x5, S => (if 12 ≤ x5 then k x5 S else (if inb c2 8 then ((f_X10_setOfWord S c2).bind fun r8 => ((f_X6_countWithOn S r8 x5).bind fun r10 => (if inb x5 12 then (if inb c2 8 then (if 1 ≤ c3 then (if inb x5 12 then (if ¬ c3 = 0 then (if inb x5 12 then lp_X8_countWord_18 k c2 c3 c4 fuel (x5 + 1) (wr (wr S (9 + c2.toNatClampNeg) x5.toNatClampNeg r10) (18 + c2.toNatClampNeg) x5.toNatClampNeg ((((wr S (9 + c2.toNatClampNeg) x5.toNatClampNeg r10).1 7 x5.toNatClampNeg) * c4) / c3)) else none) else none) else none) else (if inb x5 12 then lp_X8_countWord_18 k c2 c3 c4 fuel (x5 + 1) (wr (wr S (9 + c2.toNatClampNeg) x5.toNatClampNeg r10) (18 + c2.toNatClampNeg) x5.toNatClampNeg 0) else none)) else none) else none))) else none))
def f_X8_countWord (S : Mm) (a2 : Int32) : Option (Mm) :=
  ((f_X6_count S).bind fun r1 => ((f_X10_setOfWord S a2).bind fun r3 => ((f_X6_countWith S r3).bind fun r5 => lp_X8_countWord_18 (fun y5_17 S18 => some S18) a2 r1 r5 100000 0 S)))
set_option maxRecDepth 100000 in
set_option maxHeartbeats 4000000 in
theorem tlp_X8_countWord_18 {k : Int32 → Mm → Option (Mm)} {c2 : Int32} {c3 : Int32} {c4 : Int32} (hk : ∀ (x5 : Int32) (S : Mm) (out : Mm), k x5 S = some out → Ok D_X8_countWord (0, 0) (0, 0) 80 [(0, .ref 6), (1, .ref 1), (2, .int c2), (3, .int c3), (4, .int c4), (5, .int x5)] [] (St S) (An none out)) : ∀ (fuel : Nat) (x5 : Int32) (S : Mm) (out : Mm), lp_X8_countWord_18 k c2 c3 c4 fuel x5 S = some out → Ok D_X8_countWord (0, 0) (0, 0) 18 [(0, .ref 6), (1, .ref 1), (2, .int c2), (3, .int c3), (4, .int c4), (5, .int x5)] [] (St S) (An none out) := by
  intro fuel
  induction fuel with
  | zero => intro x5 S out h; cases h
  | succ fuel ih =>
    intro x5 S out h
    rw [lp_X8_countWord_18] at h
    refine ok_iload dX8_countWord_18 5 rfl ?_
    refine ok_bipush (v := 12) dX8_countWord_20 bi_12 ?_
    refine ok_icmp_ge (tgt := 80) dX8_countWord_22 (by decide) (fun hc => ?_) (fun hc => ?_)
    · replace h := it_pos hc h
      refine ok_perm [0, 1, 2, 3, 4, 5] rfl ?_
      exact hk _ _ _ h
    · replace h := it_neg hc h
      refine ok_aload_n dX8_countWord_25 0 rfl ?_
      refine okS_getR dX8_countWord_26 fl_X8_17 pr_6_1 ?_
      refine ok_iload_n dX8_countWord_29 2 rfl ?_
      obtain ⟨hi7, h⟩ := it_some h
      refine okS_row dX8_countWord_30 pg_8 hi7 ?_
      refine ok_iload dX8_countWord_31 5 rfl ?_
      refine ok_aload_n dX8_countWord_33 1 rfl ?_
      refine ok_iload_n dX8_countWord_34 2 rfl ?_
      obtain ⟨r8, e9, h⟩ := it_bind h
      refine okS_SN (as := [.int c2]) (st := [.ref 1, .int x5, .ref (9 + c2.toNatClampNeg)]) (r := some (.int r8)) (S' := S) dX8_countWord_35 cv_X8_64 rfl (Nat.le_of_ble_eq_true rfl) ⟨⟨by decide, by decide⟩, rfl, rfl⟩ (t_X10_setOfWord e9) ?_
      show Ok D_X8_countWord (0, 0) (0, 0) 38 [(0, .ref 6), (1, .ref 1), (2, .int c2), (3, .int c3), (4, .int c4), (5, .int x5)] [.int r8, .ref 1, .int x5, .ref (9 + c2.toNatClampNeg)] (St S) _
      refine ok_iload dX8_countWord_38 5 rfl ?_
      obtain ⟨r10, e11, h⟩ := it_bind h
      refine okS_V (as := [.int r8, .int x5]) (st := [.int x5, .ref (9 + c2.toNatClampNeg)]) (r := some (.int r10)) (S' := S) dX8_countWord_40 cv_X8_53 rfl po_1 (Nat.le_of_ble_eq_true rfl) ⟨⟨by decide, by decide⟩, rfl, rfl⟩ (t_X6_countWithOn e11) ?_
      show Ok D_X8_countWord (0, 0) (0, 0) 43 [(0, .ref 6), (1, .ref 1), (2, .int c2), (3, .int c3), (4, .int c4), (5, .int x5)] [.int r10, .int x5, .ref (9 + c2.toNatClampNeg)] (St S) _
      obtain ⟨hi12, h⟩ := it_some h
      refine okS_iastore dX8_countWord_43 (pq_8 _ (inb_lt hi7)) hi12 ?_
      refine ok_aload_n dX8_countWord_44 0 rfl ?_
      refine okS_getR dX8_countWord_45 fl_X8_20 pr_6_2 ?_
      refine ok_iload_n dX8_countWord_48 2 rfl ?_
      obtain ⟨hi13, h⟩ := it_some h
      refine okS_row dX8_countWord_49 pg_17 hi13 ?_
      refine ok_iload dX8_countWord_50 5 rfl ?_
      refine ok_iload_n dX8_countWord_52 3 rfl ?_
      refine ok_iconst (v := 1) dX8_countWord_53 ic_1 ?_
      refine ok_icmp_ge (tgt := 61) dX8_countWord_54 (by decide) (fun hc => ?_) (fun hc => ?_)
      · replace h := it_pos hc h
        refine ok_aload_n dX8_countWord_61 0 rfl ?_
        refine okS_getR dX8_countWord_62 fl_X8_9 pr_6_0 ?_
        refine ok_iload dX8_countWord_65 5 rfl ?_
        obtain ⟨hi14, h⟩ := it_some h
        refine okS_iaload dX8_countWord_67 pa_7 hi14 ?_
        refine ok_iload dX8_countWord_68 4 rfl ?_
        refine ok_imul dX8_countWord_70 ?_
        refine ok_iload_n dX8_countWord_71 3 rfl ?_
        obtain ⟨hi, h⟩ := it_some h
        refine ok_idiv dX8_countWord_72 hi ?_
        obtain ⟨hi15, h⟩ := it_some h
        refine okS_iastore dX8_countWord_73 (pq_17 _ (inb_lt hi13)) hi15 ?_
        refine ok_iinc (v := x5 + 1) (L' := [(5, .int (x5 + 1)), (0, .ref 6), (1, .ref 1), (2, .int c2), (3, .int c3), (4, .int c4)]) dX8_countWord_74 5 rfl (ii_1 _) (by decide) rfl ?_
        refine ok_goto (tgt := 18) dX8_countWord_77 (by decide) ?_
        refine ok_perm [1, 2, 3, 4, 5, 0] rfl ?_
        exact ih _ _ _ h
      · replace h := it_neg hc h
        refine ok_iconst (v := 0) dX8_countWord_57 ic_0 ?_
        refine ok_goto (tgt := 73) dX8_countWord_58 (by decide) ?_
        obtain ⟨hi16, h⟩ := it_some h
        refine okS_iastore dX8_countWord_73 (pq_17 _ (inb_lt hi13)) hi16 ?_
        refine ok_iinc (v := x5 + 1) (L' := [(5, .int (x5 + 1)), (0, .ref 6), (1, .ref 1), (2, .int c2), (3, .int c3), (4, .int c4)]) dX8_countWord_74 5 rfl (ii_1 _) (by decide) rfl ?_
        refine ok_goto (tgt := 18) dX8_countWord_77 (by decide) ?_
        refine ok_perm [1, 2, 3, 4, 5, 0] rfl ?_
        exact ih _ _ _ h
set_option maxRecDepth 100000 in
set_option maxHeartbeats 4000000 in
theorem t_X8_countWord {S : Mm} {a2 : Int32} {out : Mm} (h : f_X8_countWord S a2 = some out) : Rs D_X8_countWord [.ref 6, .ref 1, .int a2] S none out := by
  refine rs_of (by decide) rfl (Nat.le_of_ble_eq_true rfl) ?_
  unfold f_X8_countWord at h
  show Ok D_X8_countWord (0, 0) (0, 0) 0 [(0, .ref 6), (1, .ref 1), (2, .int a2)] [] (St S) _
  refine ok_aload_n dX8_countWord_0 1 rfl ?_
  obtain ⟨r1, e2, h⟩ := it_bind h
  refine okS_V (as := []) (st := []) (r := some (.int r1)) (S' := S) dX8_countWord_1 cv_X8_61 rfl po_1 (Nat.le_of_ble_eq_true rfl) ⟨⟨by decide, by decide⟩, rfl, rfl⟩ (t_X6_count e2) ?_
  show Ok D_X8_countWord (0, 0) (0, 0) 4 [(0, .ref 6), (1, .ref 1), (2, .int a2)] [.int r1] (St S) _
  refine ok_istore_n (L' := [(3, .int r1), (0, .ref 6), (1, .ref 1), (2, .int a2)]) dX8_countWord_4 (by decide) rfl ?_
  refine ok_aload_n dX8_countWord_5 2 rfl ?_
  refine ok_iload_n dX8_countWord_6 3 rfl ?_
  obtain ⟨r3, e4, h⟩ := it_bind h
  refine okS_SN (as := [.int a2]) (st := [.ref 1]) (r := some (.int r3)) (S' := S) dX8_countWord_7 cv_X8_64 rfl (Nat.le_of_ble_eq_true rfl) ⟨⟨by decide, by decide⟩, rfl, rfl⟩ (t_X10_setOfWord e4) ?_
  show Ok D_X8_countWord (0, 0) (0, 0) 10 [(3, .int r1), (0, .ref 6), (1, .ref 1), (2, .int a2)] [.int r3, .ref 1] (St S) _
  obtain ⟨r5, e6, h⟩ := it_bind h
  refine okS_V (as := [.int r3]) (st := []) (r := some (.int r5)) (S' := S) dX8_countWord_10 cv_X8_68 rfl po_1 (Nat.le_of_ble_eq_true rfl) ⟨⟨by decide, by decide⟩, rfl, rfl⟩ (t_X6_countWith e6) ?_
  show Ok D_X8_countWord (0, 0) (0, 0) 13 [(3, .int r1), (0, .ref 6), (1, .ref 1), (2, .int a2)] [.int r5] (St S) _
  refine ok_istore (L' := [(4, .int r5), (3, .int r1), (0, .ref 6), (1, .ref 1), (2, .int a2)]) dX8_countWord_13 (by decide) rfl ?_
  refine ok_iconst (v := 0) dX8_countWord_15 ic_0 ?_
  refine ok_istore (L' := [(5, .int 0), (4, .int r5), (3, .int r1), (0, .ref 6), (1, .ref 1), (2, .int a2)]) dX8_countWord_16 (by decide) rfl ?_
  refine ok_perm [3, 4, 5, 2, 1, 0] rfl ?_
  refine tlp_X8_countWord_18 (fun y5_17 S18 out19 h => ?_) _ _ _ _ h
  exact okS_retv dX8_countWord_80 rfl (by have e := Option.some.inj h; subst e; exact ⟨rfl, rfl⟩)
def lp_X8_countAll_42 (k : Int32 → Mm → Option (Mm)) : Nat → Int32 → Mm → Option (Mm)
  | 0, _, _ => none
  | fuel + 1, x2, S => (if 12 ≤ x2 then k x2 S else ((f_X6_countWithOn S 0 x2).bind fun r11 => (if inb x2 12 then lp_X8_countAll_42 k fuel (x2 + 1) (wr S 7 x2.toNatClampNeg r11) else none)))
def lp_X8_countAll_68 (k : Int32 → Mm → Option (Mm)) : Nat → Int32 → Mm → Option (Mm)
  | 0, _, _ => none
  | fuel + 1, x2, S => (if 8 ≤ x2 then k x2 S else ((f_X8_countWord S x2).bind fun r17 => lp_X8_countAll_68 k fuel (x2 + 1) r17))
def f_X8_countAll (S : Mm)  : Option (Mm) :=
  ((f_X6_dayCount S).bind fun r1 => ((f_X6_levels (wr S 6 3 r1)).bind fun r3 => ((f_X6_base (wr (wr S 6 3 r1) 6 4 r3)).bind fun r5 => ((f_X6_step (wr (wr (wr S 6 3 r1) 6 4 r3) 6 5 r5)).bind fun r7 => ((f_X6_rise (wr (wr (wr (wr S 6 3 r1) 6 4 r3) 6 5 r5) 6 6 r7)).bind fun r9 => lp_X8_countAll_42 (fun y2_14 S15 => lp_X8_countAll_68 (fun y2_19 S20 => some S20) 100000 0 S15) 100000 0 (wr (wr (wr (wr (wr S 6 3 r1) 6 4 r3) 6 5 r5) 6 6 r7) 6 7 r9))))))
set_option maxRecDepth 100000 in
set_option maxHeartbeats 4000000 in
theorem tlp_X8_countAll_42 {k : Int32 → Mm → Option (Mm)} (hk : ∀ (x2 : Int32) (S : Mm) (out : Mm), k x2 S = some out → Ok D_X8_countAll (0, 0) (0, 0) 66 [(0, .ref 6), (1, .ref 1), (2, .int x2)] [] (St S) (An none out)) : ∀ (fuel : Nat) (x2 : Int32) (S : Mm) (out : Mm), lp_X8_countAll_42 k fuel x2 S = some out → Ok D_X8_countAll (0, 0) (0, 0) 42 [(0, .ref 6), (1, .ref 1), (2, .int x2)] [] (St S) (An none out) := by
  intro fuel
  induction fuel with
  | zero => intro x2 S out h; cases h
  | succ fuel ih =>
    intro x2 S out h
    rw [lp_X8_countAll_42] at h
    refine ok_iload_n dX8_countAll_42 2 rfl ?_
    refine ok_bipush (v := 12) dX8_countAll_43 bi_12 ?_
    refine ok_icmp_ge (tgt := 66) dX8_countAll_45 (by decide) (fun hc => ?_) (fun hc => ?_)
    · replace h := it_pos hc h
      refine ok_perm [0, 1, 2] rfl ?_
      exact hk _ _ _ h
    · replace h := it_neg hc h
      refine ok_aload_n dX8_countAll_48 0 rfl ?_
      refine okS_getR dX8_countAll_49 fl_X8_9 pr_6_0 ?_
      refine ok_iload_n dX8_countAll_52 2 rfl ?_
      refine ok_aload_n dX8_countAll_53 1 rfl ?_
      refine ok_iconst (v := 0) dX8_countAll_54 ic_0 ?_
      refine ok_iload_n dX8_countAll_55 2 rfl ?_
      obtain ⟨r11, e12, h⟩ := it_bind h
      refine okS_V (as := [.int 0, .int x2]) (st := [.int x2, .ref 7]) (r := some (.int r11)) (S' := S) dX8_countAll_56 cv_X8_53 rfl po_1 (Nat.le_of_ble_eq_true rfl) ⟨⟨by decide, by decide⟩, rfl, rfl⟩ (t_X6_countWithOn e12) ?_
      show Ok D_X8_countAll (0, 0) (0, 0) 59 [(0, .ref 6), (1, .ref 1), (2, .int x2)] [.int r11, .int x2, .ref 7] (St S) _
      obtain ⟨hi13, h⟩ := it_some h
      refine okS_iastore dX8_countAll_59 pa_7 hi13 ?_
      refine ok_iinc (v := x2 + 1) (L' := [(2, .int (x2 + 1)), (0, .ref 6), (1, .ref 1)]) dX8_countAll_60 2 rfl (ii_1 _) (by decide) rfl ?_
      refine ok_goto (tgt := 42) dX8_countAll_63 (by decide) ?_
      refine ok_perm [1, 2, 0] rfl ?_
      exact ih _ _ _ h
set_option maxRecDepth 100000 in
set_option maxHeartbeats 4000000 in
theorem tlp_X8_countAll_68 {k : Int32 → Mm → Option (Mm)} (hk : ∀ (x2 : Int32) (S : Mm) (out : Mm), k x2 S = some out → Ok D_X8_countAll (0, 0) (0, 0) 86 [(0, .ref 6), (1, .ref 1), (2, .int x2)] [] (St S) (An none out)) : ∀ (fuel : Nat) (x2 : Int32) (S : Mm) (out : Mm), lp_X8_countAll_68 k fuel x2 S = some out → Ok D_X8_countAll (0, 0) (0, 0) 68 [(0, .ref 6), (1, .ref 1), (2, .int x2)] [] (St S) (An none out) := by
  intro fuel
  induction fuel with
  | zero => intro x2 S out h; cases h
  | succ fuel ih =>
    intro x2 S out h
    rw [lp_X8_countAll_68] at h
    refine ok_iload_n dX8_countAll_68 2 rfl ?_
    refine ok_bipush (v := 8) dX8_countAll_69 bi_8 ?_
    refine ok_icmp_ge (tgt := 86) dX8_countAll_71 (by decide) (fun hc => ?_) (fun hc => ?_)
    · replace h := it_pos hc h
      refine ok_perm [0, 1, 2] rfl ?_
      exact hk _ _ _ h
    · replace h := it_neg hc h
      refine ok_aload_n dX8_countAll_74 0 rfl ?_
      refine ok_aload_n dX8_countAll_75 1 rfl ?_
      refine ok_iload_n dX8_countAll_76 2 rfl ?_
      obtain ⟨r17, e18, h⟩ := it_bind h
      refine okS_V (as := [.ref 1, .int x2]) (st := []) (r := none) (S' := r17) dX8_countAll_77 cv_X8_57 rfl po_6 (Nat.le_of_ble_eq_true rfl) ⟨⟨by decide, by decide⟩, rfl, rfl⟩ (t_X8_countWord e18) ?_
      show Ok D_X8_countAll (0, 0) (0, 0) 80 [(0, .ref 6), (1, .ref 1), (2, .int x2)] [] (St r17) _
      refine ok_iinc (v := x2 + 1) (L' := [(2, .int (x2 + 1)), (0, .ref 6), (1, .ref 1)]) dX8_countAll_80 2 rfl (ii_1 _) (by decide) rfl ?_
      refine ok_goto (tgt := 68) dX8_countAll_83 (by decide) ?_
      refine ok_perm [1, 2, 0] rfl ?_
      exact ih _ _ _ h
set_option maxRecDepth 100000 in
set_option maxHeartbeats 4000000 in
theorem t_X8_countAll {S : Mm} {out : Mm} (h : f_X8_countAll S  = some out) : Rs D_X8_countAll [.ref 6, .ref 1] S none out := by
  refine rs_of (by decide) rfl (Nat.le_of_ble_eq_true rfl) ?_
  unfold f_X8_countAll at h
  show Ok D_X8_countAll (0, 0) (0, 0) 0 [(0, .ref 6), (1, .ref 1)] [] (St S) _
  refine ok_aload_n dX8_countAll_0 0 rfl ?_
  refine ok_aload_n dX8_countAll_1 1 rfl ?_
  obtain ⟨r1, e2, h⟩ := it_bind h
  refine okS_V (as := []) (st := [.ref 6]) (r := some (.int r1)) (S' := S) dX8_countAll_2 cv_X8_39 rfl po_1 (Nat.le_of_ble_eq_true rfl) ⟨⟨by decide, by decide⟩, rfl, rfl⟩ (t_X6_dayCount e2) ?_
  show Ok D_X8_countAll (0, 0) (0, 0) 5 [(0, .ref 6), (1, .ref 1)] [.int r1, .ref 6] (St S) _
  refine okS_putI dX8_countAll_5 fl_X8_23 pi_6_3 ⟨rfl, rfl⟩ ?_
  refine ok_aload_n dX8_countAll_8 0 rfl ?_
  refine ok_aload_n dX8_countAll_9 1 rfl ?_
  obtain ⟨r3, e4, h⟩ := it_bind h
  refine okS_V (as := []) (st := [.ref 6]) (r := some (.int r3)) (S' := (wr S 6 3 r1)) dX8_countAll_10 cv_X8_44 rfl po_1 (Nat.le_of_ble_eq_true rfl) ⟨⟨by decide, by decide⟩, rfl, rfl⟩ (t_X6_levels e4) ?_
  show Ok D_X8_countAll (0, 0) (0, 0) 13 [(0, .ref 6), (1, .ref 1)] [.int r3, .ref 6] (St (wr S 6 3 r1)) _
  refine okS_putI dX8_countAll_13 fl_X8_27 pi_6_4 ⟨rfl, rfl⟩ ?_
  refine ok_aload_n dX8_countAll_16 0 rfl ?_
  refine ok_aload_n dX8_countAll_17 1 rfl ?_
  obtain ⟨r5, e6, h⟩ := it_bind h
  refine okS_V (as := []) (st := [.ref 6]) (r := some (.int r5)) (S' := (wr (wr S 6 3 r1) 6 4 r3)) dX8_countAll_18 cv_X8_47 rfl po_1 (Nat.le_of_ble_eq_true rfl) ⟨⟨by decide, by decide⟩, rfl, rfl⟩ (t_X6_base e6) ?_
  show Ok D_X8_countAll (0, 0) (0, 0) 21 [(0, .ref 6), (1, .ref 1)] [.int r5, .ref 6] (St (wr (wr S 6 3 r1) 6 4 r3)) _
  refine okS_putI dX8_countAll_21 fl_X8_30 pi_6_5 ⟨rfl, rfl⟩ ?_
  refine ok_aload_n dX8_countAll_24 0 rfl ?_
  refine ok_aload_n dX8_countAll_25 1 rfl ?_
  obtain ⟨r7, e8, h⟩ := it_bind h
  refine okS_V (as := []) (st := [.ref 6]) (r := some (.int r7)) (S' := (wr (wr (wr S 6 3 r1) 6 4 r3) 6 5 r5)) dX8_countAll_26 cv_X8_49 rfl po_1 (Nat.le_of_ble_eq_true rfl) ⟨⟨by decide, by decide⟩, rfl, rfl⟩ (t_X6_step e8) ?_
  show Ok D_X8_countAll (0, 0) (0, 0) 29 [(0, .ref 6), (1, .ref 1)] [.int r7, .ref 6] (St (wr (wr (wr S 6 3 r1) 6 4 r3) 6 5 r5)) _
  refine okS_putI dX8_countAll_29 fl_X8_33 pi_6_6 ⟨rfl, rfl⟩ ?_
  refine ok_aload_n dX8_countAll_32 0 rfl ?_
  refine ok_aload_n dX8_countAll_33 1 rfl ?_
  obtain ⟨r9, e10, h⟩ := it_bind h
  refine okS_V (as := []) (st := [.ref 6]) (r := some (.int r9)) (S' := (wr (wr (wr (wr S 6 3 r1) 6 4 r3) 6 5 r5) 6 6 r7)) dX8_countAll_34 cv_X8_51 rfl po_1 (Nat.le_of_ble_eq_true rfl) ⟨⟨by decide, by decide⟩, rfl, rfl⟩ (t_X6_rise e10) ?_
  show Ok D_X8_countAll (0, 0) (0, 0) 37 [(0, .ref 6), (1, .ref 1)] [.int r9, .ref 6] (St (wr (wr (wr (wr S 6 3 r1) 6 4 r3) 6 5 r5) 6 6 r7)) _
  refine okS_putI dX8_countAll_37 fl_X8_36 pi_6_7 ⟨rfl, rfl⟩ ?_
  refine ok_iconst (v := 0) dX8_countAll_40 ic_0 ?_
  refine ok_istore_n (L' := [(2, .int 0), (0, .ref 6), (1, .ref 1)]) dX8_countAll_41 (by decide) rfl ?_
  refine ok_perm [1, 2, 0] rfl ?_
  refine tlp_X8_countAll_42 (fun y2_14 S15 out16 h => ?_) _ _ _ _ h
  refine ok_iconst (v := 0) dX8_countAll_66 ic_0 ?_
  refine ok_istore_n (L' := [(2, .int 0), (0, .ref 6), (1, .ref 1)]) dX8_countAll_67 (by decide) rfl ?_
  refine ok_perm [1, 2, 0] rfl ?_
  refine tlp_X8_countAll_68 (fun y2_19 S20 out21 h => ?_) _ _ _ _ h
  exact okS_retv dX8_countAll_86 rfl (by have e := Option.some.inj h; subst e; exact ⟨rfl, rfl⟩)
def f_X8_dayCount (S : Mm)  : Option (Int32) :=
  some (S.1 6 3)
set_option maxRecDepth 100000 in
set_option maxHeartbeats 4000000 in
theorem t_X8_dayCount {S : Mm} {out : Int32} (h : f_X8_dayCount S  = some out) : Rs D_X8_dayCount [.ref 6] S (some (.int out)) S := by
  refine rs_of (by decide) rfl (Nat.le_of_ble_eq_true rfl) ?_
  unfold f_X8_dayCount at h
  show Ok D_X8_dayCount (0, 0) (0, 0) 0 [(0, .ref 6)] [] (St S) _
  refine ok_aload_n dX8_dayCount_0 0 rfl ?_
  refine okS_getI dX8_dayCount_1 fl_X8_23 pi_6_3 ?_
  exact okS_ret dX8_dayCount_4 rfl rfl (by have e := Option.some.inj h; subst e; exact ⟨rfl, rfl⟩)
def f_X8_highest (S : Mm)  : Option (Int32) :=
  some (S.1 6 4)
set_option maxRecDepth 100000 in
set_option maxHeartbeats 4000000 in
theorem t_X8_highest {S : Mm} {out : Int32} (h : f_X8_highest S  = some out) : Rs D_X8_highest [.ref 6] S (some (.int out)) S := by
  refine rs_of (by decide) rfl (Nat.le_of_ble_eq_true rfl) ?_
  unfold f_X8_highest at h
  show Ok D_X8_highest (0, 0) (0, 0) 0 [(0, .ref 6)] [] (St S) _
  refine ok_aload_n dX8_highest_0 0 rfl ?_
  refine okS_getI dX8_highest_1 fl_X8_27 pi_6_4 ?_
  exact okS_ret dX8_highest_4 rfl rfl (by have e := Option.some.inj h; subst e; exact ⟨rfl, rfl⟩)
def f_X8_isDay (S : Mm) (a1 : Int32) : Option (Int32) :=
  (if a1 < 0 then some 0 else (if 12 ≤ a1 then some 0 else some 1))
set_option maxRecDepth 100000 in
set_option maxHeartbeats 4000000 in
theorem t_X8_isDay {S : Mm} {a1 : Int32} {out : Int32} (h : f_X8_isDay S a1 = some out) : Rs D_X8_isDay [.int a1] S (some (.int out)) S := by
  refine rs_of (by decide) rfl (Nat.le_of_ble_eq_true rfl) ?_
  unfold f_X8_isDay at h
  show Ok D_X8_isDay (0, 0) (0, 0) 0 [(0, .int a1)] [] (St S) _
  refine ok_iload_n dX8_isDay_0 0 rfl ?_
  refine ok_if_lt (tgt := 14) dX8_isDay_1 (by decide) (fun hc => ?_) (fun hc => ?_)
  · replace h := it_pos hc h
    refine ok_iconst (v := 0) dX8_isDay_14 ic_0 ?_
    exact okS_ret dX8_isDay_15 rfl (by decide) (by have e := Option.some.inj h; subst e; exact ⟨rfl, rfl⟩)
  · replace h := it_neg hc h
    refine ok_iload_n dX8_isDay_4 0 rfl ?_
    refine ok_bipush (v := 12) dX8_isDay_5 bi_12 ?_
    refine ok_icmp_ge (tgt := 14) dX8_isDay_7 (by decide) (fun hc => ?_) (fun hc => ?_)
    · replace h := it_pos hc h
      refine ok_iconst (v := 0) dX8_isDay_14 ic_0 ?_
      exact okS_ret dX8_isDay_15 rfl (by decide) (by have e := Option.some.inj h; subst e; exact ⟨rfl, rfl⟩)
    · replace h := it_neg hc h
      refine ok_iconst (v := 1) dX8_isDay_10 ic_1 ?_
      refine ok_goto (tgt := 15) dX8_isDay_11 (by decide) ?_
      exact okS_ret dX8_isDay_15 rfl (by decide) (by have e := Option.some.inj h; subst e; exact ⟨rfl, rfl⟩)
def f_X8_costOfRise (S : Mm) (a1 : Int32) (a2 : Int32) : Option (Int32) :=
  (if a2 ≤ a1 then some 0 else some ((S.1 6 7) * (a2 - a1)))
set_option maxRecDepth 100000 in
set_option maxHeartbeats 4000000 in
theorem t_X8_costOfRise {S : Mm} {a1 : Int32} {a2 : Int32} {out : Int32} (h : f_X8_costOfRise S a1 a2 = some out) : Rs D_X8_costOfRise [.ref 6, .int a1, .int a2] S (some (.int out)) S := by
  refine rs_of (by decide) rfl (Nat.le_of_ble_eq_true rfl) ?_
  unfold f_X8_costOfRise at h
  show Ok D_X8_costOfRise (0, 0) (0, 0) 0 [(0, .ref 6), (1, .int a1), (2, .int a2)] [] (St S) _
  refine ok_iload_n dX8_costOfRise_0 2 rfl ?_
  refine ok_iload_n dX8_costOfRise_1 1 rfl ?_
  refine ok_icmp_le (tgt := 16) dX8_costOfRise_2 (by decide) (fun hc => ?_) (fun hc => ?_)
  · replace h := it_pos hc h
    refine ok_iconst (v := 0) dX8_costOfRise_16 ic_0 ?_
    exact okS_ret dX8_costOfRise_17 rfl rfl (by have e := Option.some.inj h; subst e; exact ⟨rfl, rfl⟩)
  · replace h := it_neg hc h
    refine ok_aload_n dX8_costOfRise_5 0 rfl ?_
    refine okS_getI dX8_costOfRise_6 fl_X8_36 pi_6_7 ?_
    refine ok_iload_n dX8_costOfRise_9 2 rfl ?_
    refine ok_iload_n dX8_costOfRise_10 1 rfl ?_
    refine ok_isub dX8_costOfRise_11 ?_
    refine ok_imul dX8_costOfRise_12 ?_
    refine ok_goto (tgt := 17) dX8_costOfRise_13 (by decide) ?_
    exact okS_ret dX8_costOfRise_17 rfl rfl (by have e := Option.some.inj h; subst e; exact ⟨rfl, rfl⟩)
def f_X8_count (S : Mm) (a1 : Int32) (a2 : Int32) : Option (Int32) :=
  ((f_X10_isWord S a1).bind fun r1 => (if r1 = 0 then some 0 else ((f_X8_isDay S a2).bind fun r3 => (if r3 = 0 then some 0 else (if inb a1 8 then (if inb a2 12 then some (S.1 (9 + a1.toNatClampNeg) a2.toNatClampNeg) else none) else none)))))
set_option maxRecDepth 100000 in
set_option maxHeartbeats 4000000 in
theorem t_X8_count {S : Mm} {a1 : Int32} {a2 : Int32} {out : Int32} (h : f_X8_count S a1 a2 = some out) : Rs D_X8_count [.ref 6, .int a1, .int a2] S (some (.int out)) S := by
  refine rs_of (by decide) rfl (Nat.le_of_ble_eq_true rfl) ?_
  unfold f_X8_count at h
  show Ok D_X8_count (0, 0) (0, 0) 0 [(0, .ref 6), (1, .int a1), (2, .int a2)] [] (St S) _
  refine ok_iload_n dX8_count_0 1 rfl ?_
  obtain ⟨r1, e2, h⟩ := it_bind h
  refine okS_SN (as := [.int a1]) (st := []) (r := some (.int r1)) (S' := S) dX8_count_1 cv_X8_75 rfl (Nat.le_of_ble_eq_true rfl) ⟨⟨by decide, by decide⟩, rfl, rfl⟩ (t_X10_isWord e2) ?_
  show Ok D_X8_count (0, 0) (0, 0) 4 [(0, .ref 6), (1, .int a1), (2, .int a2)] [.int r1] (St S) _
  refine ok_if_eq (tgt := 25) dX8_count_4 (by decide) (fun hc => ?_) (fun hc => ?_)
  · replace h := it_pos hc h
    refine ok_iconst (v := 0) dX8_count_25 ic_0 ?_
    exact okS_ret dX8_count_26 rfl rfl (by have e := Option.some.inj h; subst e; exact ⟨rfl, rfl⟩)
  · replace h := it_neg hc h
    refine ok_iload_n dX8_count_7 2 rfl ?_
    obtain ⟨r3, e4, h⟩ := it_bind h
    refine okS_S (as := [.int a2]) (st := []) (r := some (.int r3)) (S' := S) dX8_count_8 cv_X8_71 rfl (Nat.le_of_ble_eq_true rfl) ⟨⟨by decide, by decide⟩, rfl, rfl⟩ (t_X8_isDay e4) ?_
    show Ok D_X8_count (0, 0) (0, 0) 11 [(0, .ref 6), (1, .int a1), (2, .int a2)] [.int r3] (St S) _
    refine ok_if_eq (tgt := 25) dX8_count_11 (by decide) (fun hc => ?_) (fun hc => ?_)
    · replace h := it_pos hc h
      refine ok_iconst (v := 0) dX8_count_25 ic_0 ?_
      exact okS_ret dX8_count_26 rfl rfl (by have e := Option.some.inj h; subst e; exact ⟨rfl, rfl⟩)
    · replace h := it_neg hc h
      refine ok_aload_n dX8_count_14 0 rfl ?_
      refine okS_getR dX8_count_15 fl_X8_17 pr_6_1 ?_
      refine ok_iload_n dX8_count_18 1 rfl ?_
      obtain ⟨hi5, h⟩ := it_some h
      refine okS_row dX8_count_19 pg_8 hi5 ?_
      refine ok_iload_n dX8_count_20 2 rfl ?_
      obtain ⟨hi6, h⟩ := it_some h
      refine okS_iaload dX8_count_21 (pq_8 _ (inb_lt hi5)) hi6 ?_
      refine ok_goto (tgt := 26) dX8_count_22 (by decide) ?_
      exact okS_ret dX8_count_26 rfl rfl (by have e := Option.some.inj h; subst e; exact ⟨rfl, rfl⟩)
def f_X8_wanted (S : Mm) (a1 : Int32) (a2 : Int32) (a3 : Int32) : Option (Int32) :=
  ((f_X10_isWord S a1).bind fun r1 => (if r1 = 0 then some 0 else ((f_X8_isDay S a2).bind fun r3 => (if r3 = 0 then some 0 else (if inb a1 8 then (if inb a2 12 then some ((S.1 (18 + a1.toNatClampNeg) a2.toNatClampNeg) + (a3 * (S.1 6 6))) else none) else none)))))
set_option maxRecDepth 100000 in
set_option maxHeartbeats 4000000 in
theorem t_X8_wanted {S : Mm} {a1 : Int32} {a2 : Int32} {a3 : Int32} {out : Int32} (h : f_X8_wanted S a1 a2 a3 = some out) : Rs D_X8_wanted [.ref 6, .int a1, .int a2, .int a3] S (some (.int out)) S := by
  refine rs_of (by decide) rfl (Nat.le_of_ble_eq_true rfl) ?_
  unfold f_X8_wanted at h
  show Ok D_X8_wanted (0, 0) (0, 0) 0 [(0, .ref 6), (1, .int a1), (2, .int a2), (3, .int a3)] [] (St S) _
  refine ok_iload_n dX8_wanted_0 1 rfl ?_
  obtain ⟨r1, e2, h⟩ := it_bind h
  refine okS_SN (as := [.int a1]) (st := []) (r := some (.int r1)) (S' := S) dX8_wanted_1 cv_X8_75 rfl (Nat.le_of_ble_eq_true rfl) ⟨⟨by decide, by decide⟩, rfl, rfl⟩ (t_X10_isWord e2) ?_
  show Ok D_X8_wanted (0, 0) (0, 0) 4 [(0, .ref 6), (1, .int a1), (2, .int a2), (3, .int a3)] [.int r1] (St S) _
  refine ok_if_eq (tgt := 32) dX8_wanted_4 (by decide) (fun hc => ?_) (fun hc => ?_)
  · replace h := it_pos hc h
    refine ok_iconst (v := 0) dX8_wanted_32 ic_0 ?_
    exact okS_ret dX8_wanted_33 rfl rfl (by have e := Option.some.inj h; subst e; exact ⟨rfl, rfl⟩)
  · replace h := it_neg hc h
    refine ok_iload_n dX8_wanted_7 2 rfl ?_
    obtain ⟨r3, e4, h⟩ := it_bind h
    refine okS_S (as := [.int a2]) (st := []) (r := some (.int r3)) (S' := S) dX8_wanted_8 cv_X8_71 rfl (Nat.le_of_ble_eq_true rfl) ⟨⟨by decide, by decide⟩, rfl, rfl⟩ (t_X8_isDay e4) ?_
    show Ok D_X8_wanted (0, 0) (0, 0) 11 [(0, .ref 6), (1, .int a1), (2, .int a2), (3, .int a3)] [.int r3] (St S) _
    refine ok_if_eq (tgt := 32) dX8_wanted_11 (by decide) (fun hc => ?_) (fun hc => ?_)
    · replace h := it_pos hc h
      refine ok_iconst (v := 0) dX8_wanted_32 ic_0 ?_
      exact okS_ret dX8_wanted_33 rfl rfl (by have e := Option.some.inj h; subst e; exact ⟨rfl, rfl⟩)
    · replace h := it_neg hc h
      refine ok_aload_n dX8_wanted_14 0 rfl ?_
      refine okS_getR dX8_wanted_15 fl_X8_20 pr_6_2 ?_
      refine ok_iload_n dX8_wanted_18 1 rfl ?_
      obtain ⟨hi5, h⟩ := it_some h
      refine okS_row dX8_wanted_19 pg_17 hi5 ?_
      refine ok_iload_n dX8_wanted_20 2 rfl ?_
      obtain ⟨hi6, h⟩ := it_some h
      refine okS_iaload dX8_wanted_21 (pq_17 _ (inb_lt hi5)) hi6 ?_
      refine ok_iload_n dX8_wanted_22 3 rfl ?_
      refine ok_aload_n dX8_wanted_23 0 rfl ?_
      refine okS_getI dX8_wanted_24 fl_X8_33 pi_6_6 ?_
      refine ok_imul dX8_wanted_27 ?_
      refine ok_iadd dX8_wanted_28 ?_
      refine ok_goto (tgt := 33) dX8_wanted_29 (by decide) ?_
      exact okS_ret dX8_wanted_33 rfl rfl (by have e := Option.some.inj h; subst e; exact ⟨rfl, rfl⟩)
def f_X8_unlikely (S : Mm) (a1 : Int32) (a2 : Int32) (a3 : Int32) : Option (Int32) :=
  ((f_X8_count S a1 a2).bind fun r1 => ((f_X8_wanted S a1 a2 a3).bind fun r3 => some ((S.1 6 5) * (if 0 ≤ (r1 - r3) then (r1 - r3) else 0 - (r1 - r3)))))
set_option maxRecDepth 100000 in
set_option maxHeartbeats 4000000 in
theorem t_X8_unlikely {S : Mm} {a1 : Int32} {a2 : Int32} {a3 : Int32} {out : Int32} (h : f_X8_unlikely S a1 a2 a3 = some out) : Rs D_X8_unlikely [.ref 6, .int a1, .int a2, .int a3] S (some (.int out)) S := by
  refine rs_of (by decide) rfl (Nat.le_of_ble_eq_true rfl) ?_
  unfold f_X8_unlikely at h
  show Ok D_X8_unlikely (0, 0) (0, 0) 0 [(0, .ref 6), (1, .int a1), (2, .int a2), (3, .int a3)] [] (St S) _
  refine ok_aload_n dX8_unlikely_0 0 rfl ?_
  refine okS_getI dX8_unlikely_1 fl_X8_30 pi_6_5 ?_
  refine ok_aload_n dX8_unlikely_4 0 rfl ?_
  refine ok_iload_n dX8_unlikely_5 1 rfl ?_
  refine ok_iload_n dX8_unlikely_6 2 rfl ?_
  obtain ⟨r1, e2, h⟩ := it_bind h
  refine okS_V (as := [.int a1, .int a2]) (st := [.int (S.1 6 5)]) (r := some (.int r1)) (S' := S) dX8_unlikely_7 cv_X8_78 rfl po_6 (Nat.le_of_ble_eq_true rfl) ⟨⟨by decide, by decide⟩, rfl, rfl⟩ (t_X8_count e2) ?_
  show Ok D_X8_unlikely (0, 0) (0, 0) 10 [(0, .ref 6), (1, .int a1), (2, .int a2), (3, .int a3)] [.int r1, .int (S.1 6 5)] (St S) _
  refine ok_aload_n dX8_unlikely_10 0 rfl ?_
  refine ok_iload_n dX8_unlikely_11 1 rfl ?_
  refine ok_iload_n dX8_unlikely_12 2 rfl ?_
  refine ok_iload_n dX8_unlikely_13 3 rfl ?_
  obtain ⟨r3, e4, h⟩ := it_bind h
  refine okS_V (as := [.int a1, .int a2, .int a3]) (st := [.int r1, .int (S.1 6 5)]) (r := some (.int r3)) (S' := S) dX8_unlikely_14 cv_X8_80 rfl po_6 (Nat.le_of_ble_eq_true rfl) ⟨⟨by decide, by decide⟩, rfl, rfl⟩ (t_X8_wanted e4) ?_
  show Ok D_X8_unlikely (0, 0) (0, 0) 17 [(0, .ref 6), (1, .int a1), (2, .int a2), (3, .int a3)] [.int r3, .int r1, .int (S.1 6 5)] (St S) _
  refine ok_isub dX8_unlikely_17 ?_
  refine ok_abs dX8_unlikely_18 cv_X8_84 ⟨by decide, Nat.le_of_ble_eq_true rfl, by decide, by decide⟩ ?_
  refine ok_imul dX8_unlikely_21 ?_
  exact okS_ret dX8_unlikely_22 rfl rfl (by have e := Option.some.inj h; subst e; exact ⟨rfl, rfl⟩)
def f_X8_all (S : Mm) (a1 : Int32) : Option (Int32) :=
  ((f_X8_isDay S a1).bind fun r1 => (if r1 = 0 then some 0 else (if inb a1 12 then some (S.1 7 a1.toNatClampNeg) else none)))
set_option maxRecDepth 100000 in
set_option maxHeartbeats 4000000 in
theorem t_X8_all {S : Mm} {a1 : Int32} {out : Int32} (h : f_X8_all S a1 = some out) : Rs D_X8_all [.ref 6, .int a1] S (some (.int out)) S := by
  refine rs_of (by decide) rfl (Nat.le_of_ble_eq_true rfl) ?_
  unfold f_X8_all at h
  show Ok D_X8_all (0, 0) (0, 0) 0 [(0, .ref 6), (1, .int a1)] [] (St S) _
  refine ok_iload_n dX8_all_0 1 rfl ?_
  obtain ⟨r1, e2, h⟩ := it_bind h
  refine okS_S (as := [.int a1]) (st := []) (r := some (.int r1)) (S' := S) dX8_all_1 cv_X8_71 rfl (Nat.le_of_ble_eq_true rfl) ⟨⟨by decide, by decide⟩, rfl, rfl⟩ (t_X8_isDay e2) ?_
  show Ok D_X8_all (0, 0) (0, 0) 4 [(0, .ref 6), (1, .int a1)] [.int r1] (St S) _
  refine ok_if_eq (tgt := 16) dX8_all_4 (by decide) (fun hc => ?_) (fun hc => ?_)
  · replace h := it_pos hc h
    refine ok_iconst (v := 0) dX8_all_16 ic_0 ?_
    exact okS_ret dX8_all_17 rfl rfl (by have e := Option.some.inj h; subst e; exact ⟨rfl, rfl⟩)
  · replace h := it_neg hc h
    refine ok_aload_n dX8_all_7 0 rfl ?_
    refine okS_getR dX8_all_8 fl_X8_9 pr_6_0 ?_
    refine ok_iload_n dX8_all_11 1 rfl ?_
    obtain ⟨hi3, h⟩ := it_some h
    refine okS_iaload dX8_all_12 pa_7 hi3 ?_
    refine ok_goto (tgt := 17) dX8_all_13 (by decide) ?_
    exact okS_ret dX8_all_17 rfl rfl (by have e := Option.some.inj h; subst e; exact ⟨rfl, rfl⟩)
def lp_X8_costOfSteady_10 (k : Int32 → Int32 → Option (Int32)) (S : Mm) (c1 : Int32) (c2 : Int32) : Nat → Int32 → Int32 → Option (Int32)
  | 0, _, _ => none
  | fuel + 1, x3, x4 => (if (S.1 6 3) ≤ x4 then k x3 x4 else ((f_X8_unlikely S c1 x4 c2).bind fun r3 => lp_X8_costOfSteady_10 k S c1 c2 fuel (x3 + r3) (x4 + 1)))
def f_X8_costOfSteady (S : Mm) (a1 : Int32) (a2 : Int32) : Option (Int32) :=
  ((f_X8_costOfRise S 0 a2).bind fun r1 => lp_X8_costOfSteady_10 (fun y3_5 y4_6 => some y3_5) S a1 a2 100000 r1 0)
set_option maxRecDepth 100000 in
set_option maxHeartbeats 4000000 in
theorem tlp_X8_costOfSteady_10 {k : Int32 → Int32 → Option (Int32)} {S : Mm} {c1 : Int32} {c2 : Int32} (hk : ∀ (x3 x4 : Int32) (out : Int32), k x3 x4 = some out → Ok D_X8_costOfSteady (0, 0) (0, 0) 36 [(0, .ref 6), (1, .int c1), (2, .int c2), (3, .int x3), (4, .int x4)] [] (St S) (An (some (.int out)) S)) : ∀ (fuel : Nat) (x3 x4 : Int32) (out : Int32), lp_X8_costOfSteady_10 k S c1 c2 fuel x3 x4 = some out → Ok D_X8_costOfSteady (0, 0) (0, 0) 10 [(0, .ref 6), (1, .int c1), (2, .int c2), (3, .int x3), (4, .int x4)] [] (St S) (An (some (.int out)) S) := by
  intro fuel
  induction fuel with
  | zero => intro x3 x4 out h; cases h
  | succ fuel ih =>
    intro x3 x4 out h
    rw [lp_X8_costOfSteady_10] at h
    refine ok_iload dX8_costOfSteady_10 4 rfl ?_
    refine ok_aload_n dX8_costOfSteady_12 0 rfl ?_
    refine okS_getI dX8_costOfSteady_13 fl_X8_23 pi_6_3 ?_
    refine ok_icmp_ge (tgt := 36) dX8_costOfSteady_16 (by decide) (fun hc => ?_) (fun hc => ?_)
    · replace h := it_pos hc h
      refine ok_perm [0, 1, 2, 3, 4] rfl ?_
      exact hk _ _ _ h
    · replace h := it_neg hc h
      refine ok_iload_n dX8_costOfSteady_19 3 rfl ?_
      refine ok_aload_n dX8_costOfSteady_20 0 rfl ?_
      refine ok_iload_n dX8_costOfSteady_21 1 rfl ?_
      refine ok_iload dX8_costOfSteady_22 4 rfl ?_
      refine ok_iload_n dX8_costOfSteady_24 2 rfl ?_
      obtain ⟨r3, e4, h⟩ := it_bind h
      refine okS_V (as := [.int c1, .int x4, .int c2]) (st := [.int x3]) (r := some (.int r3)) (S' := S) dX8_costOfSteady_25 cv_X8_92 rfl po_6 (Nat.le_of_ble_eq_true rfl) ⟨⟨by decide, by decide⟩, rfl, rfl⟩ (t_X8_unlikely e4) ?_
      show Ok D_X8_costOfSteady (0, 0) (0, 0) 28 [(0, .ref 6), (1, .int c1), (2, .int c2), (3, .int x3), (4, .int x4)] [.int r3, .int x3] (St S) _
      refine ok_iadd dX8_costOfSteady_28 ?_
      refine ok_istore_n (L' := [(3, .int (x3 + r3)), (0, .ref 6), (1, .int c1), (2, .int c2), (4, .int x4)]) dX8_costOfSteady_29 (by decide) rfl ?_
      refine ok_iinc (v := x4 + 1) (L' := [(4, .int (x4 + 1)), (3, .int (x3 + r3)), (0, .ref 6), (1, .int c1), (2, .int c2)]) dX8_costOfSteady_30 4 rfl (ii_1 _) (by decide) rfl ?_
      refine ok_goto (tgt := 10) dX8_costOfSteady_33 (by decide) ?_
      refine ok_perm [2, 3, 4, 1, 0] rfl ?_
      exact ih _ _ _ h
set_option maxRecDepth 100000 in
set_option maxHeartbeats 4000000 in
theorem t_X8_costOfSteady {S : Mm} {a1 : Int32} {a2 : Int32} {out : Int32} (h : f_X8_costOfSteady S a1 a2 = some out) : Rs D_X8_costOfSteady [.ref 6, .int a1, .int a2] S (some (.int out)) S := by
  refine rs_of (by decide) rfl (Nat.le_of_ble_eq_true rfl) ?_
  unfold f_X8_costOfSteady at h
  show Ok D_X8_costOfSteady (0, 0) (0, 0) 0 [(0, .ref 6), (1, .int a1), (2, .int a2)] [] (St S) _
  refine ok_aload_n dX8_costOfSteady_0 0 rfl ?_
  refine ok_iconst (v := 0) dX8_costOfSteady_1 ic_0 ?_
  refine ok_iload_n dX8_costOfSteady_2 2 rfl ?_
  obtain ⟨r1, e2, h⟩ := it_bind h
  refine okS_V (as := [.int 0, .int a2]) (st := []) (r := some (.int r1)) (S' := S) dX8_costOfSteady_3 cv_X8_89 rfl po_6 (Nat.le_of_ble_eq_true rfl) ⟨⟨by decide, by decide⟩, rfl, rfl⟩ (t_X8_costOfRise e2) ?_
  show Ok D_X8_costOfSteady (0, 0) (0, 0) 6 [(0, .ref 6), (1, .int a1), (2, .int a2)] [.int r1] (St S) _
  refine ok_istore_n (L' := [(3, .int r1), (0, .ref 6), (1, .int a1), (2, .int a2)]) dX8_costOfSteady_6 (by decide) rfl ?_
  refine ok_iconst (v := 0) dX8_costOfSteady_7 ic_0 ?_
  refine ok_istore (L' := [(4, .int 0), (3, .int r1), (0, .ref 6), (1, .int a1), (2, .int a2)]) dX8_costOfSteady_8 (by decide) rfl ?_
  refine ok_perm [2, 3, 4, 1, 0] rfl ?_
  refine tlp_X8_costOfSteady_10 (fun y3_5 y4_6 out7 h => ?_) _ _ _ _ h
  refine ok_iload_n dX8_costOfSteady_36 3 rfl ?_
  exact okS_ret dX8_costOfSteady_37 rfl rfl (by have e := Option.some.inj h; subst e; exact ⟨rfl, rfl⟩)
