def f_X9_hasRoom (S : Mm)  : Option (Int32) :=
  (if 60 ≤ (S.1 68 3) then some 0 else some 1)
set_option maxRecDepth 100000 in
set_option maxHeartbeats 4000000 in
theorem t_X9_hasRoom {S : Mm} {out : Int32} (h : f_X9_hasRoom S  = some out) : Rs D_X9_hasRoom [.ref 68] S (some (.int out)) S := by
  refine rs_of (by decide) rfl (Nat.le_of_ble_eq_true rfl) ?_
  unfold f_X9_hasRoom at h
  show Ok D_X9_hasRoom (0, 0) (0, 0) 0 [(0, .ref 68)] [] (St S) _
  refine ok_aload_n dX9_hasRoom_0 0 rfl ?_
  refine okS_getI dX9_hasRoom_1 fl_X9_21 pi_68_3 ?_
  refine ok_bipush (v := 60) dX9_hasRoom_4 bi_60 ?_
  refine ok_icmp_ge (tgt := 13) dX9_hasRoom_6 (by decide) (fun hc => ?_) (fun hc => ?_)
  · replace h := it_pos hc h
    refine ok_iconst (v := 0) dX9_hasRoom_13 ic_0 ?_
    exact okS_ret dX9_hasRoom_14 rfl (by decide) (by have e := Option.some.inj h; subst e; exact ⟨rfl, rfl⟩)
  · replace h := it_neg hc h
    refine ok_iconst (v := 1) dX9_hasRoom_9 ic_1 ?_
    refine ok_goto (tgt := 14) dX9_hasRoom_10 (by decide) ?_
    exact okS_ret dX9_hasRoom_14 rfl (by decide) (by have e := Option.some.inj h; subst e; exact ⟨rfl, rfl⟩)
def f_X9_add (S : Mm) (a1 : Int32) : Option (Mm) :=
  ((f_X9_hasRoom S).bind fun r1 => (if r1 = 0 then some S else (if inb (S.1 68 3) 60 then some (wr (wr S 69 (S.1 68 3).toNatClampNeg a1) 68 3 (((wr S 69 (S.1 68 3).toNatClampNeg a1).1 68 3) + 1)) else none)))
set_option maxRecDepth 100000 in
set_option maxHeartbeats 4000000 in
theorem t_X9_add {S : Mm} {a1 : Int32} {out : Mm} (h : f_X9_add S a1 = some out) : Rs D_X9_add [.ref 68, .int a1] S none out := by
  refine rs_of (by decide) rfl (Nat.le_of_ble_eq_true rfl) ?_
  unfold f_X9_add at h
  show Ok D_X9_add (0, 0) (0, 0) 0 [(0, .ref 68), (1, .int a1)] [] (St S) _
  refine ok_aload_n dX9_add_0 0 rfl ?_
  obtain ⟨r1, e2, h⟩ := it_bind h
  refine okS_V (as := []) (st := []) (r := some (.int r1)) (S' := S) dX9_add_1 cv_X9_31 rfl po_68 (Nat.le_of_ble_eq_true rfl) ⟨⟨by decide, by decide⟩, rfl, rfl⟩ (t_X9_hasRoom e2) ?_
  show Ok D_X9_add (0, 0) (0, 0) 4 [(0, .ref 68), (1, .int a1)] [.int r1] (St S) _
  refine ok_if_eq (tgt := 27) dX9_add_4 (by decide) (fun hc => ?_) (fun hc => ?_)
  · replace h := it_pos hc h
    exact okS_retv dX9_add_27 rfl (by have e := Option.some.inj h; subst e; exact ⟨rfl, rfl⟩)
  · replace h := it_neg hc h
    refine ok_aload_n dX9_add_7 0 rfl ?_
    refine okS_getR dX9_add_8 fl_X9_11 pr_68_0 ?_
    refine ok_aload_n dX9_add_11 0 rfl ?_
    refine okS_getI dX9_add_12 fl_X9_21 pi_68_3 ?_
    refine ok_iload_n dX9_add_15 1 rfl ?_
    obtain ⟨hi3, h⟩ := it_some h
    refine okS_iastore dX9_add_16 pa_69 hi3 ?_
    refine ok_aload_n dX9_add_17 0 rfl ?_
    refine ok_dup dX9_add_18 rfl ?_
    refine okS_getI dX9_add_19 fl_X9_21 pi_68_3 ?_
    refine ok_iconst (v := 1) dX9_add_22 ic_1 ?_
    refine ok_iadd dX9_add_23 ?_
    refine okS_putI dX9_add_24 fl_X9_21 pi_68_3 ⟨rfl, rfl⟩ ?_
    exact okS_retv dX9_add_27 rfl (by have e := Option.some.inj h; subst e; exact ⟨rfl, rfl⟩)
def f_X9_length (S : Mm)  : Option (Int32) :=
  some (S.1 68 3)
set_option maxRecDepth 100000 in
set_option maxHeartbeats 4000000 in
theorem t_X9_length {S : Mm} {out : Int32} (h : f_X9_length S  = some out) : Rs D_X9_length [.ref 68] S (some (.int out)) S := by
  refine rs_of (by decide) rfl (Nat.le_of_ble_eq_true rfl) ?_
  unfold f_X9_length at h
  show Ok D_X9_length (0, 0) (0, 0) 0 [(0, .ref 68)] [] (St S) _
  refine ok_aload_n dX9_length_0 0 rfl ?_
  refine okS_getI dX9_length_1 fl_X9_21 pi_68_3 ?_
  exact okS_ret dX9_length_4 rfl rfl (by have e := Option.some.inj h; subst e; exact ⟨rfl, rfl⟩)
def f_X9_letterAt (S : Mm) (a1 : Int32) : Option (Int32) :=
  (if a1 < 0 then some (-1) else (if (S.1 68 3) ≤ a1 then some (-1) else (if inb a1 60 then some (S.1 69 a1.toNatClampNeg) else none)))
set_option maxRecDepth 100000 in
set_option maxHeartbeats 4000000 in
theorem t_X9_letterAt {S : Mm} {a1 : Int32} {out : Int32} (h : f_X9_letterAt S a1 = some out) : Rs D_X9_letterAt [.ref 68, .int a1] S (some (.int out)) S := by
  refine rs_of (by decide) rfl (Nat.le_of_ble_eq_true rfl) ?_
  unfold f_X9_letterAt at h
  show Ok D_X9_letterAt (0, 0) (0, 0) 0 [(0, .ref 68), (1, .int a1)] [] (St S) _
  refine ok_iload_n dX9_letterAt_0 1 rfl ?_
  refine ok_if_lt (tgt := 21) dX9_letterAt_1 (by decide) (fun hc => ?_) (fun hc => ?_)
  · replace h := it_pos hc h
    refine ok_iconst (v := (-1)) dX9_letterAt_21 ic_m1 ?_
    exact okS_ret dX9_letterAt_22 rfl rfl (by have e := Option.some.inj h; subst e; exact ⟨rfl, rfl⟩)
  · replace h := it_neg hc h
    refine ok_iload_n dX9_letterAt_4 1 rfl ?_
    refine ok_aload_n dX9_letterAt_5 0 rfl ?_
    refine okS_getI dX9_letterAt_6 fl_X9_21 pi_68_3 ?_
    refine ok_icmp_ge (tgt := 21) dX9_letterAt_9 (by decide) (fun hc => ?_) (fun hc => ?_)
    · replace h := it_pos hc h
      refine ok_iconst (v := (-1)) dX9_letterAt_21 ic_m1 ?_
      exact okS_ret dX9_letterAt_22 rfl rfl (by have e := Option.some.inj h; subst e; exact ⟨rfl, rfl⟩)
    · replace h := it_neg hc h
      refine ok_aload_n dX9_letterAt_12 0 rfl ?_
      refine okS_getR dX9_letterAt_13 fl_X9_11 pr_68_0 ?_
      refine ok_iload_n dX9_letterAt_16 1 rfl ?_
      obtain ⟨hi1, h⟩ := it_some h
      refine okS_iaload dX9_letterAt_17 pa_69 hi1 ?_
      refine ok_goto (tgt := 22) dX9_letterAt_18 (by decide) ?_
      exact okS_ret dX9_letterAt_22 rfl rfl (by have e := Option.some.inj h; subst e; exact ⟨rfl, rfl⟩)
def f_X9_isFigure (S : Mm) (a1 : Int32) : Option (Int32) :=
  (if a1 < 48 then some 0 else (if 57 < a1 then some 0 else some 1))
set_option maxRecDepth 100000 in
set_option maxHeartbeats 4000000 in
theorem t_X9_isFigure {S : Mm} {a1 : Int32} {out : Int32} (h : f_X9_isFigure S a1 = some out) : Rs D_X9_isFigure [.int a1] S (some (.int out)) S := by
  refine rs_of (by decide) rfl (Nat.le_of_ble_eq_true rfl) ?_
  unfold f_X9_isFigure at h
  show Ok D_X9_isFigure (0, 0) (0, 0) 0 [(0, .int a1)] [] (St S) _
  refine ok_iload_n dX9_isFigure_0 0 rfl ?_
  refine ok_bipush (v := 48) dX9_isFigure_1 bi_48 ?_
  refine ok_icmp_lt (tgt := 16) dX9_isFigure_3 (by decide) (fun hc => ?_) (fun hc => ?_)
  · replace h := it_pos hc h
    refine ok_iconst (v := 0) dX9_isFigure_16 ic_0 ?_
    exact okS_ret dX9_isFigure_17 rfl (by decide) (by have e := Option.some.inj h; subst e; exact ⟨rfl, rfl⟩)
  · replace h := it_neg hc h
    refine ok_iload_n dX9_isFigure_6 0 rfl ?_
    refine ok_bipush (v := 57) dX9_isFigure_7 bi_57 ?_
    refine ok_icmp_gt (tgt := 16) dX9_isFigure_9 (by decide) (fun hc => ?_) (fun hc => ?_)
    · replace h := it_pos hc h
      refine ok_iconst (v := 0) dX9_isFigure_16 ic_0 ?_
      exact okS_ret dX9_isFigure_17 rfl (by decide) (by have e := Option.some.inj h; subst e; exact ⟨rfl, rfl⟩)
    · replace h := it_neg hc h
      refine ok_iconst (v := 1) dX9_isFigure_12 ic_1 ?_
      refine ok_goto (tgt := 17) dX9_isFigure_13 (by decide) ?_
      exact okS_ret dX9_isFigure_17 rfl (by decide) (by have e := Option.some.inj h; subst e; exact ⟨rfl, rfl⟩)
def f_X9_hasTwoFigures (S : Mm)  : Option (Int32) :=
  ((f_X9_letterAt S ((S.1 68 5) + 1)).bind fun r1 => ((f_X9_letterAt S (S.1 68 5)).bind fun r3 => (if r3 = 49 then (if r1 = 48 then some 1 else (if r1 = 49 then some 1 else some 0)) else some 0)))
set_option maxRecDepth 100000 in
set_option maxHeartbeats 4000000 in
theorem t_X9_hasTwoFigures {S : Mm} {out : Int32} (h : f_X9_hasTwoFigures S  = some out) : Rs D_X9_hasTwoFigures [.ref 68] S (some (.int out)) S := by
  refine rs_of (by decide) rfl (Nat.le_of_ble_eq_true rfl) ?_
  unfold f_X9_hasTwoFigures at h
  show Ok D_X9_hasTwoFigures (0, 0) (0, 0) 0 [(0, .ref 68)] [] (St S) _
  refine ok_aload_n dX9_hasTwoFigures_0 0 rfl ?_
  refine ok_aload_n dX9_hasTwoFigures_1 0 rfl ?_
  refine okS_getI dX9_hasTwoFigures_2 fl_X9_28 pi_68_5 ?_
  refine ok_iconst (v := 1) dX9_hasTwoFigures_5 ic_1 ?_
  refine ok_iadd dX9_hasTwoFigures_6 ?_
  obtain ⟨r1, e2, h⟩ := it_bind h
  refine okS_V (as := [.int ((S.1 68 5) + 1)]) (st := []) (r := some (.int r1)) (S' := S) dX9_hasTwoFigures_7 cv_X9_39 rfl po_68 (Nat.le_of_ble_eq_true rfl) ⟨⟨by decide, by decide⟩, rfl, rfl⟩ (t_X9_letterAt e2) ?_
  show Ok D_X9_hasTwoFigures (0, 0) (0, 0) 10 [(0, .ref 68)] [.int r1] (St S) _
  refine ok_istore_n (L' := [(1, .int r1), (0, .ref 68)]) dX9_hasTwoFigures_10 (by decide) rfl ?_
  refine ok_aload_n dX9_hasTwoFigures_11 1 rfl ?_
  refine ok_aload_n dX9_hasTwoFigures_12 1 rfl ?_
  refine okS_getI dX9_hasTwoFigures_13 fl_X9_28 pi_68_5 ?_
  obtain ⟨r3, e4, h⟩ := it_bind h
  refine okS_V (as := [.int (S.1 68 5)]) (st := []) (r := some (.int r3)) (S' := S) dX9_hasTwoFigures_16 cv_X9_39 rfl po_68 (Nat.le_of_ble_eq_true rfl) ⟨⟨by decide, by decide⟩, rfl, rfl⟩ (t_X9_letterAt e4) ?_
  show Ok D_X9_hasTwoFigures (0, 0) (0, 0) 19 [(1, .int r1), (0, .ref 68)] [.int r3] (St S) _
  refine ok_bipush (v := 49) dX9_hasTwoFigures_19 bi_49 ?_
  refine ok_icmp_ne (tgt := 40) dX9_hasTwoFigures_21 (by decide) (fun hc => ?_) (fun hc => ?_)
  · replace h := it_neg hc h
    refine ok_iconst (v := 0) dX9_hasTwoFigures_40 ic_0 ?_
    exact okS_ret dX9_hasTwoFigures_41 rfl (by decide) (by have e := Option.some.inj h; subst e; exact ⟨rfl, rfl⟩)
  · replace h := it_pos hc h
    refine ok_iload_n dX9_hasTwoFigures_24 0 rfl ?_
    refine ok_bipush (v := 48) dX9_hasTwoFigures_25 bi_48 ?_
    refine ok_icmp_eq (tgt := 36) dX9_hasTwoFigures_27 (by decide) (fun hc => ?_) (fun hc => ?_)
    · replace h := it_pos hc h
      refine ok_iconst (v := 1) dX9_hasTwoFigures_36 ic_1 ?_
      refine ok_goto (tgt := 41) dX9_hasTwoFigures_37 (by decide) ?_
      exact okS_ret dX9_hasTwoFigures_41 rfl (by decide) (by have e := Option.some.inj h; subst e; exact ⟨rfl, rfl⟩)
    · replace h := it_neg hc h
      refine ok_iload_n dX9_hasTwoFigures_30 0 rfl ?_
      refine ok_bipush (v := 49) dX9_hasTwoFigures_31 bi_49 ?_
      refine ok_icmp_ne (tgt := 40) dX9_hasTwoFigures_33 (by decide) (fun hc => ?_) (fun hc => ?_)
      · replace h := it_neg hc h
        refine ok_iconst (v := 0) dX9_hasTwoFigures_40 ic_0 ?_
        exact okS_ret dX9_hasTwoFigures_41 rfl (by decide) (by have e := Option.some.inj h; subst e; exact ⟨rfl, rfl⟩)
      · replace h := it_pos hc h
        refine ok_iconst (v := 1) dX9_hasTwoFigures_36 ic_1 ?_
        refine ok_goto (tgt := 41) dX9_hasTwoFigures_37 (by decide) ?_
        exact okS_ret dX9_hasTwoFigures_41 rfl (by decide) (by have e := Option.some.inj h; subst e; exact ⟨rfl, rfl⟩)
def f_X9_passes (S : Mm) (a1 : Int32) : Option (Int32 × Mm) :=
  ((f_X9_letterAt S (S.1 68 5)).bind fun r1 => (if r1 = a1 then some (1, wr S 68 5 ((S.1 68 5) + 1)) else some (0, S)))
set_option maxRecDepth 100000 in
set_option maxHeartbeats 4000000 in
theorem t_X9_passes {S : Mm} {a1 : Int32} {out : Int32 × Mm} (h : f_X9_passes S a1 = some out) : Rs D_X9_passes [.ref 68, .int a1] S (some (.int out.1)) out.2 := by
  refine rs_of (by decide) rfl (Nat.le_of_ble_eq_true rfl) ?_
  unfold f_X9_passes at h
  show Ok D_X9_passes (0, 0) (0, 0) 0 [(0, .ref 68), (1, .int a1)] [] (St S) _
  refine ok_aload_n dX9_passes_0 0 rfl ?_
  refine ok_aload_n dX9_passes_1 0 rfl ?_
  refine okS_getI dX9_passes_2 fl_X9_28 pi_68_5 ?_
  obtain ⟨r1, e2, h⟩ := it_bind h
  refine okS_V (as := [.int (S.1 68 5)]) (st := []) (r := some (.int r1)) (S' := S) dX9_passes_5 cv_X9_39 rfl po_68 (Nat.le_of_ble_eq_true rfl) ⟨⟨by decide, by decide⟩, rfl, rfl⟩ (t_X9_letterAt e2) ?_
  show Ok D_X9_passes (0, 0) (0, 0) 8 [(0, .ref 68), (1, .int a1)] [.int r1] (St S) _
  refine ok_iload_n dX9_passes_8 1 rfl ?_
  refine ok_icmp_ne (tgt := 16) dX9_passes_9 (by decide) (fun hc => ?_) (fun hc => ?_)
  · replace h := it_neg hc h
    refine ok_iconst (v := 0) dX9_passes_16 ic_0 ?_
    refine ok_istore_n (L' := [(2, .int 0), (0, .ref 68), (1, .int a1)]) dX9_passes_17 (by decide) rfl ?_
    refine ok_iload_n dX9_passes_18 0 rfl ?_
    refine ok_if_eq (tgt := 32) dX9_passes_19 (by decide) (fun hc => ?_) (fun hc => absurd hc (by decide))
    refine ok_iload_n dX9_passes_32 0 rfl ?_
    exact okS_ret dX9_passes_33 rfl (by decide) (by have e := Option.some.inj h; subst e; exact ⟨rfl, rfl⟩)
  · replace h := it_pos hc h
    refine ok_iconst (v := 1) dX9_passes_12 ic_1 ?_
    refine ok_goto (tgt := 17) dX9_passes_13 (by decide) ?_
    refine ok_istore_n (L' := [(2, .int 1), (0, .ref 68), (1, .int a1)]) dX9_passes_17 (by decide) rfl ?_
    refine ok_iload_n dX9_passes_18 0 rfl ?_
    refine ok_if_eq (tgt := 32) dX9_passes_19 (by decide) (fun hc => absurd hc (by decide)) (fun hc => ?_)
    refine ok_aload_n dX9_passes_22 1 rfl ?_
    refine ok_dup dX9_passes_23 rfl ?_
    refine okS_getI dX9_passes_24 fl_X9_28 pi_68_5 ?_
    refine ok_iconst (v := 1) dX9_passes_27 ic_1 ?_
    refine ok_iadd dX9_passes_28 ?_
    refine okS_putI dX9_passes_29 fl_X9_28 pi_68_5 ⟨rfl, rfl⟩ ?_
    refine ok_iload_n dX9_passes_32 0 rfl ?_
    exact okS_ret dX9_passes_33 rfl (by decide) (by have e := Option.some.inj h; subst e; exact ⟨rfl, rfl⟩)
def lp_X9_readWords_2 (k : Int32 → Mm → Option (Int32 × Mm)) : Nat → Int32 → Mm → Option (Int32 × Mm)
  | 0, _, _ => none
  | fuel + 1, x1, S => (if (S.1 68 3) ≤ (S.1 68 5) then k x1 S else ((f_X9_letterAt S (S.1 68 5)).bind fun r1 => ((f_X10_isWord S (r1 - 97)).bind fun r3 => (if r3 = 0 then k x1 S else ((f_X9_letterAt S (S.1 68 5)).bind fun r5 => ((f_X10_setOfWord S (r5 - 97)).bind fun r7 => lp_X9_readWords_2 k fuel (x1 ||| r7) (wr S 68 5 ((S.1 68 5) + 1))))))))
def f_X9_readWords (S : Mm)  : Option (Int32 × Mm) :=
  lp_X9_readWords_2 (fun y1_9 S10 => some (y1_9, S10)) 100000 0 S
set_option maxRecDepth 100000 in
set_option maxHeartbeats 4000000 in
theorem tlp_X9_readWords_2 {k : Int32 → Mm → Option (Int32 × Mm)} (hk : ∀ (x1 : Int32) (S : Mm) (out : Int32 × Mm), k x1 S = some out → Ok D_X9_readWords (0, 0) (0, 0) 60 [(0, .ref 68), (1, .int x1)] [] (St S) (An (some (.int out.1)) out.2)) : ∀ (fuel : Nat) (x1 : Int32) (S : Mm) (out : Int32 × Mm), lp_X9_readWords_2 k fuel x1 S = some out → Ok D_X9_readWords (0, 0) (0, 0) 2 [(0, .ref 68), (1, .int x1)] [] (St S) (An (some (.int out.1)) out.2) := by
  intro fuel
  induction fuel with
  | zero => intro x1 S out h; cases h
  | succ fuel ih =>
    intro x1 S out h
    rw [lp_X9_readWords_2] at h
    refine ok_aload_n dX9_readWords_2 0 rfl ?_
    refine okS_getI dX9_readWords_3 fl_X9_28 pi_68_5 ?_
    refine ok_aload_n dX9_readWords_6 0 rfl ?_
    refine okS_getI dX9_readWords_7 fl_X9_21 pi_68_3 ?_
    refine ok_icmp_ge (tgt := 60) dX9_readWords_10 (by decide) (fun hc => ?_) (fun hc => ?_)
    · replace h := it_pos hc h
      refine ok_perm [0, 1] rfl ?_
      exact hk _ _ _ h
    · replace h := it_neg hc h
      refine ok_aload_n dX9_readWords_13 0 rfl ?_
      refine ok_aload_n dX9_readWords_14 0 rfl ?_
      refine okS_getI dX9_readWords_15 fl_X9_28 pi_68_5 ?_
      obtain ⟨r1, e2, h⟩ := it_bind h
      refine okS_V (as := [.int (S.1 68 5)]) (st := []) (r := some (.int r1)) (S' := S) dX9_readWords_18 cv_X9_39 rfl po_68 (Nat.le_of_ble_eq_true rfl) ⟨⟨by decide, by decide⟩, rfl, rfl⟩ (t_X9_letterAt e2) ?_
      show Ok D_X9_readWords (0, 0) (0, 0) 21 [(0, .ref 68), (1, .int x1)] [.int r1] (St S) _
      refine ok_bipush (v := 97) dX9_readWords_21 bi_97 ?_
      refine ok_isub dX9_readWords_23 ?_
      obtain ⟨r3, e4, h⟩ := it_bind h
      refine okS_SN (as := [.int (r1 - 97)]) (st := []) (r := some (.int r3)) (S' := S) dX9_readWords_24 cv_X9_58 rfl (Nat.le_of_ble_eq_true rfl) ⟨⟨by decide, by decide⟩, rfl, rfl⟩ (t_X10_isWord e4) ?_
      show Ok D_X9_readWords (0, 0) (0, 0) 27 [(0, .ref 68), (1, .int x1)] [.int r3] (St S) _
      refine ok_if_eq (tgt := 60) dX9_readWords_27 (by decide) (fun hc => ?_) (fun hc => ?_)
      · replace h := it_pos hc h
        refine ok_perm [0, 1] rfl ?_
        exact hk _ _ _ h
      · replace h := it_neg hc h
        refine ok_iload_n dX9_readWords_30 1 rfl ?_
        refine ok_aload_n dX9_readWords_31 0 rfl ?_
        refine ok_aload_n dX9_readWords_32 0 rfl ?_
        refine okS_getI dX9_readWords_33 fl_X9_28 pi_68_5 ?_
        obtain ⟨r5, e6, h⟩ := it_bind h
        refine okS_V (as := [.int (S.1 68 5)]) (st := [.int x1]) (r := some (.int r5)) (S' := S) dX9_readWords_36 cv_X9_39 rfl po_68 (Nat.le_of_ble_eq_true rfl) ⟨⟨by decide, by decide⟩, rfl, rfl⟩ (t_X9_letterAt e6) ?_
        show Ok D_X9_readWords (0, 0) (0, 0) 39 [(0, .ref 68), (1, .int x1)] [.int r5, .int x1] (St S) _
        refine ok_bipush (v := 97) dX9_readWords_39 bi_97 ?_
        refine ok_isub dX9_readWords_41 ?_
        obtain ⟨r7, e8, h⟩ := it_bind h
        refine okS_SN (as := [.int (r5 - 97)]) (st := [.int x1]) (r := some (.int r7)) (S' := S) dX9_readWords_42 cv_X9_61 rfl (Nat.le_of_ble_eq_true rfl) ⟨⟨by decide, by decide⟩, rfl, rfl⟩ (t_X10_setOfWord e8) ?_
        show Ok D_X9_readWords (0, 0) (0, 0) 45 [(0, .ref 68), (1, .int x1)] [.int r7, .int x1] (St S) _
        refine ok_ior dX9_readWords_45 ?_
        refine ok_istore_n (L' := [(1, .int (x1 ||| r7)), (0, .ref 68)]) dX9_readWords_46 (by decide) rfl ?_
        refine ok_aload_n dX9_readWords_47 1 rfl ?_
        refine ok_dup dX9_readWords_48 rfl ?_
        refine okS_getI dX9_readWords_49 fl_X9_28 pi_68_5 ?_
        refine ok_iconst (v := 1) dX9_readWords_52 ic_1 ?_
        refine ok_iadd dX9_readWords_53 ?_
        refine okS_putI dX9_readWords_54 fl_X9_28 pi_68_5 ⟨rfl, rfl⟩ ?_
        refine ok_goto (tgt := 2) dX9_readWords_57 (by decide) ?_
        refine ok_perm [1, 0] rfl ?_
        exact ih _ _ _ h
set_option maxRecDepth 100000 in
set_option maxHeartbeats 4000000 in
theorem t_X9_readWords {S : Mm} {out : Int32 × Mm} (h : f_X9_readWords S  = some out) : Rs D_X9_readWords [.ref 68] S (some (.int out.1)) out.2 := by
  refine rs_of (by decide) rfl (Nat.le_of_ble_eq_true rfl) ?_
  unfold f_X9_readWords at h
  show Ok D_X9_readWords (0, 0) (0, 0) 0 [(0, .ref 68)] [] (St S) _
  refine ok_iconst (v := 0) dX9_readWords_0 ic_0 ?_
  refine ok_istore_n (L' := [(1, .int 0), (0, .ref 68)]) dX9_readWords_1 (by decide) rfl ?_
  refine ok_perm [1, 0] rfl ?_
  refine tlp_X9_readWords_2 (fun y1_9 S10 out11 h => ?_) _ _ _ _ h
  refine ok_iload_n dX9_readWords_60 1 rfl ?_
  exact okS_ret dX9_readWords_61 rfl rfl (by have e := Option.some.inj h; subst e; exact ⟨rfl, rfl⟩)
def f_X9_readPiece (S : Mm) (a1 : Int32) (a2 : Int32) : Option (Int32 × Mm) :=
  ((f_X9_letterAt S (S.1 68 5)).bind fun r1 => ((f_X9_isFigure S r1).bind fun r3 => (if r3 = 0 then some (1, S) else ((f_X9_hasTwoFigures S).bind fun r5 => (if r5 = 0 then ((f_X9_letterAt S (S.1 68 5)).bind fun r7 => (if (r7 - 48) < a1 then (if a2 ≤ (S.1 68 4) then some (3, S) else (if (S.1 68 4) < 20 then (if r5 = 0 then ((f_X9_passes (wr S 68 5 ((S.1 68 5) + 1)) 58).bind fun r9 => (if r9.1 = 0 then some (1, r9.2) else ((f_X9_readWords r9.2).bind fun r11 => ((f_X9_passes r11.2 59).bind fun r13 => (if r13.1 = 0 then some (1, r13.2) else (if inb (r13.2.1 68 4) 20 then (if inb ((wr r13.2 70 (r13.2.1 68 4).toNatClampNeg (r7 - 48)).1 68 4) 20 then some (0, wr (wr (wr r13.2 70 (r13.2.1 68 4).toNatClampNeg (r7 - 48)) 71 ((wr r13.2 70 (r13.2.1 68 4).toNatClampNeg (r7 - 48)).1 68 4).toNatClampNeg r11.1) 68 4 (((wr (wr r13.2 70 (r13.2.1 68 4).toNatClampNeg (r7 - 48)) 71 ((wr r13.2 70 (r13.2.1 68 4).toNatClampNeg (r7 - 48)).1 68 4).toNatClampNeg r11.1).1 68 4) + 1)) else none) else none)))))) else ((f_X9_passes (wr S 68 5 ((S.1 68 5) + 2)) 58).bind fun r17 => (if r17.1 = 0 then some (1, r17.2) else ((f_X9_readWords r17.2).bind fun r19 => ((f_X9_passes r19.2 59).bind fun r21 => (if r21.1 = 0 then some (1, r21.2) else (if inb (r21.2.1 68 4) 20 then (if inb ((wr r21.2 70 (r21.2.1 68 4).toNatClampNeg (r7 - 48)).1 68 4) 20 then some (0, wr (wr (wr r21.2 70 (r21.2.1 68 4).toNatClampNeg (r7 - 48)) 71 ((wr r21.2 70 (r21.2.1 68 4).toNatClampNeg (r7 - 48)).1 68 4).toNatClampNeg r19.1) 68 4 (((wr (wr r21.2 70 (r21.2.1 68 4).toNatClampNeg (r7 - 48)) 71 ((wr r21.2 70 (r21.2.1 68 4).toNatClampNeg (r7 - 48)).1 68 4).toNatClampNeg r19.1).1 68 4) + 1)) else none) else none))))))) else some (3, S))) else some (2, S))) else ((f_X9_letterAt S ((S.1 68 5) + 1)).bind fun r25 => (if ((10 + r25) - 48) < a1 then (if a2 ≤ (S.1 68 4) then some (3, S) else (if (S.1 68 4) < 20 then (if r5 = 0 then ((f_X9_passes (wr S 68 5 ((S.1 68 5) + 1)) 58).bind fun r27 => (if r27.1 = 0 then some (1, r27.2) else ((f_X9_readWords r27.2).bind fun r29 => ((f_X9_passes r29.2 59).bind fun r31 => (if r31.1 = 0 then some (1, r31.2) else (if inb (r31.2.1 68 4) 20 then (if inb ((wr r31.2 70 (r31.2.1 68 4).toNatClampNeg ((10 + r25) - 48)).1 68 4) 20 then some (0, wr (wr (wr r31.2 70 (r31.2.1 68 4).toNatClampNeg ((10 + r25) - 48)) 71 ((wr r31.2 70 (r31.2.1 68 4).toNatClampNeg ((10 + r25) - 48)).1 68 4).toNatClampNeg r29.1) 68 4 (((wr (wr r31.2 70 (r31.2.1 68 4).toNatClampNeg ((10 + r25) - 48)) 71 ((wr r31.2 70 (r31.2.1 68 4).toNatClampNeg ((10 + r25) - 48)).1 68 4).toNatClampNeg r29.1).1 68 4) + 1)) else none) else none)))))) else ((f_X9_passes (wr S 68 5 ((S.1 68 5) + 2)) 58).bind fun r35 => (if r35.1 = 0 then some (1, r35.2) else ((f_X9_readWords r35.2).bind fun r37 => ((f_X9_passes r37.2 59).bind fun r39 => (if r39.1 = 0 then some (1, r39.2) else (if inb (r39.2.1 68 4) 20 then (if inb ((wr r39.2 70 (r39.2.1 68 4).toNatClampNeg ((10 + r25) - 48)).1 68 4) 20 then some (0, wr (wr (wr r39.2 70 (r39.2.1 68 4).toNatClampNeg ((10 + r25) - 48)) 71 ((wr r39.2 70 (r39.2.1 68 4).toNatClampNeg ((10 + r25) - 48)).1 68 4).toNatClampNeg r37.1) 68 4 (((wr (wr r39.2 70 (r39.2.1 68 4).toNatClampNeg ((10 + r25) - 48)) 71 ((wr r39.2 70 (r39.2.1 68 4).toNatClampNeg ((10 + r25) - 48)).1 68 4).toNatClampNeg r37.1).1 68 4) + 1)) else none) else none))))))) else some (3, S))) else some (2, S))))))))
set_option maxRecDepth 100000 in
set_option maxHeartbeats 4000000 in
theorem t_X9_readPiece {S : Mm} {a1 : Int32} {a2 : Int32} {out : Int32 × Mm} (h : f_X9_readPiece S a1 a2 = some out) : Rs D_X9_readPiece [.ref 68, .int a1, .int a2] S (some (.int out.1)) out.2 := by
  refine rs_of (by decide) rfl (Nat.le_of_ble_eq_true rfl) ?_
  unfold f_X9_readPiece at h
  show Ok D_X9_readPiece (0, 0) (0, 0) 0 [(0, .ref 68), (1, .int a1), (2, .int a2)] [] (St S) _
  refine ok_aload_n dX9_readPiece_0 0 rfl ?_
  refine ok_aload_n dX9_readPiece_1 0 rfl ?_
  refine okS_getI dX9_readPiece_2 fl_X9_28 pi_68_5 ?_
  obtain ⟨r1, e2, h⟩ := it_bind h
  refine okS_V (as := [.int (S.1 68 5)]) (st := []) (r := some (.int r1)) (S' := S) dX9_readPiece_5 cv_X9_39 rfl po_68 (Nat.le_of_ble_eq_true rfl) ⟨⟨by decide, by decide⟩, rfl, rfl⟩ (t_X9_letterAt e2) ?_
  show Ok D_X9_readPiece (0, 0) (0, 0) 8 [(0, .ref 68), (1, .int a1), (2, .int a2)] [.int r1] (St S) _
  obtain ⟨r3, e4, h⟩ := it_bind h
  refine okS_S (as := [.int r1]) (st := []) (r := some (.int r3)) (S' := S) dX9_readPiece_8 cv_X9_43 rfl (Nat.le_of_ble_eq_true rfl) ⟨⟨by decide, by decide⟩, rfl, rfl⟩ (t_X9_isFigure e4) ?_
  show Ok D_X9_readPiece (0, 0) (0, 0) 11 [(0, .ref 68), (1, .int a1), (2, .int a2)] [.int r3] (St S) _
  refine ok_if_ne (tgt := 16) dX9_readPiece_11 (by decide) (fun hc => ?_) (fun hc => ?_)
  · replace h := it_neg hc h
    refine ok_aload_n dX9_readPiece_16 0 rfl ?_
    obtain ⟨r5, e6, h⟩ := it_bind h
    refine okS_V (as := []) (st := []) (r := some (.int r5)) (S' := S) dX9_readPiece_17 cv_X9_47 rfl po_68 (Nat.le_of_ble_eq_true rfl) ⟨⟨by decide, by decide⟩, rfl, rfl⟩ (t_X9_hasTwoFigures e6) ?_
    show Ok D_X9_readPiece (0, 0) (0, 0) 20 [(0, .ref 68), (1, .int a1), (2, .int a2)] [.int r5] (St S) _
    refine ok_istore_n (L' := [(3, .int r5), (0, .ref 68), (1, .int a1), (2, .int a2)]) dX9_readPiece_20 (by decide) rfl ?_
    refine ok_iload_n dX9_readPiece_21 0 rfl ?_
    refine ok_if_eq (tgt := 44) dX9_readPiece_22 (by decide) (fun hc => ?_) (fun hc => ?_)
    · replace h := it_pos hc h
      refine ok_aload_n dX9_readPiece_44 1 rfl ?_
      refine ok_aload_n dX9_readPiece_45 1 rfl ?_
      refine okS_getI dX9_readPiece_46 fl_X9_28 pi_68_5 ?_
      obtain ⟨r7, e8, h⟩ := it_bind h
      refine okS_V (as := [.int (S.1 68 5)]) (st := []) (r := some (.int r7)) (S' := S) dX9_readPiece_49 cv_X9_39 rfl po_68 (Nat.le_of_ble_eq_true rfl) ⟨⟨by decide, by decide⟩, rfl, rfl⟩ (t_X9_letterAt e8) ?_
      show Ok D_X9_readPiece (0, 0) (0, 0) 52 [(3, .int r5), (0, .ref 68), (1, .int a1), (2, .int a2)] [.int r7] (St S) _
      refine ok_bipush (v := 48) dX9_readPiece_52 bi_48 ?_
      refine ok_isub dX9_readPiece_54 ?_
      refine ok_istore (L' := [(4, .int (r7 - 48)), (3, .int r5), (0, .ref 68), (1, .int a1), (2, .int a2)]) dX9_readPiece_55 (by decide) rfl ?_
      refine ok_iload dX9_readPiece_57 0 rfl ?_
      refine ok_iload_n dX9_readPiece_59 3 rfl ?_
      refine ok_icmp_lt (tgt := 65) dX9_readPiece_60 (by decide) (fun hc => ?_) (fun hc => ?_)
      · replace h := it_pos hc h
        refine ok_aload_n dX9_readPiece_65 2 rfl ?_
        refine okS_getI dX9_readPiece_66 fl_X9_25 pi_68_4 ?_
        refine ok_iload_n dX9_readPiece_69 4 rfl ?_
        refine ok_icmp_ge (tgt := 82) dX9_readPiece_70 (by decide) (fun hc => ?_) (fun hc => ?_)
        · replace h := it_pos hc h
          refine ok_iconst (v := 3) dX9_readPiece_82 ic_3 ?_
          exact okS_ret dX9_readPiece_83 rfl rfl (by have e := Option.some.inj h; subst e; exact ⟨rfl, rfl⟩)
        · replace h := it_neg hc h
          refine ok_aload_n dX9_readPiece_73 2 rfl ?_
          refine okS_getI dX9_readPiece_74 fl_X9_25 pi_68_4 ?_
          refine ok_bipush (v := 20) dX9_readPiece_77 bi_20 ?_
          refine ok_icmp_lt (tgt := 84) dX9_readPiece_79 (by decide) (fun hc => ?_) (fun hc => ?_)
          · replace h := it_pos hc h
            refine ok_aload_n dX9_readPiece_84 2 rfl ?_
            refine ok_dup dX9_readPiece_85 rfl ?_
            refine okS_getI dX9_readPiece_86 fl_X9_28 pi_68_5 ?_
            refine ok_iload_n dX9_readPiece_89 1 rfl ?_
            refine ok_if_eq (tgt := 97) dX9_readPiece_90 (by decide) (fun hc => ?_) (fun hc => ?_)
            · replace h := it_pos hc h
              refine ok_iconst (v := 1) dX9_readPiece_97 ic_1 ?_
              refine ok_iadd dX9_readPiece_98 ?_
              refine okS_putI dX9_readPiece_99 fl_X9_28 pi_68_5 ⟨rfl, rfl⟩ ?_
              refine ok_aload_n dX9_readPiece_102 2 rfl ?_
              refine ok_bipush (v := 58) dX9_readPiece_103 bi_58 ?_
              obtain ⟨r9, e10, h⟩ := it_bind h
              refine okS_V (as := [.int 58]) (st := []) (r := some (.int r9.1)) (S' := r9.2) dX9_readPiece_105 cv_X9_50 rfl po_68 (Nat.le_of_ble_eq_true rfl) ⟨⟨by decide, by decide⟩, rfl, rfl⟩ (t_X9_passes e10) ?_
              show Ok D_X9_readPiece (0, 0) (0, 0) 108 [(4, .int (r7 - 48)), (3, .int r5), (0, .ref 68), (1, .int a1), (2, .int a2)] [.int r9.1] (St r9.2) _
              refine ok_if_ne (tgt := 113) dX9_readPiece_108 (by decide) (fun hc => ?_) (fun hc => ?_)
              · replace h := it_neg hc h
                refine ok_aload_n dX9_readPiece_113 2 rfl ?_
                obtain ⟨r11, e12, h⟩ := it_bind h
                refine okS_V (as := []) (st := []) (r := some (.int r11.1)) (S' := r11.2) dX9_readPiece_114 cv_X9_54 rfl po_68 (Nat.le_of_ble_eq_true rfl) ⟨⟨by decide, by decide⟩, rfl, rfl⟩ (t_X9_readWords e12) ?_
                show Ok D_X9_readPiece (0, 0) (0, 0) 117 [(4, .int (r7 - 48)), (3, .int r5), (0, .ref 68), (1, .int a1), (2, .int a2)] [.int r11.1] (St r11.2) _
                refine ok_istore (L' := [(5, .int r11.1), (4, .int (r7 - 48)), (3, .int r5), (0, .ref 68), (1, .int a1), (2, .int a2)]) dX9_readPiece_117 (by decide) rfl ?_
                refine ok_aload_n dX9_readPiece_119 3 rfl ?_
                refine ok_bipush (v := 59) dX9_readPiece_120 bi_59 ?_
                obtain ⟨r13, e14, h⟩ := it_bind h
                refine okS_V (as := [.int 59]) (st := []) (r := some (.int r13.1)) (S' := r13.2) dX9_readPiece_122 cv_X9_50 rfl po_68 (Nat.le_of_ble_eq_true rfl) ⟨⟨by decide, by decide⟩, rfl, rfl⟩ (t_X9_passes e14) ?_
                show Ok D_X9_readPiece (0, 0) (0, 0) 125 [(5, .int r11.1), (4, .int (r7 - 48)), (3, .int r5), (0, .ref 68), (1, .int a1), (2, .int a2)] [.int r13.1] (St r13.2) _
                refine ok_if_ne (tgt := 130) dX9_readPiece_125 (by decide) (fun hc => ?_) (fun hc => ?_)
                · replace h := it_neg hc h
                  refine ok_aload_n dX9_readPiece_130 3 rfl ?_
                  refine okS_getR dX9_readPiece_131 fl_X9_15 pr_68_1 ?_
                  refine ok_aload_n dX9_readPiece_134 3 rfl ?_
                  refine okS_getI dX9_readPiece_135 fl_X9_25 pi_68_4 ?_
                  refine ok_iload dX9_readPiece_138 1 rfl ?_
                  obtain ⟨hi15, h⟩ := it_some h
                  refine okS_iastore dX9_readPiece_140 pa_70 hi15 ?_
                  refine ok_aload_n dX9_readPiece_141 3 rfl ?_
                  refine okS_getR dX9_readPiece_142 fl_X9_18 pr_68_2 ?_
                  refine ok_aload_n dX9_readPiece_145 3 rfl ?_
                  refine okS_getI dX9_readPiece_146 fl_X9_25 pi_68_4 ?_
                  refine ok_iload dX9_readPiece_149 0 rfl ?_
                  obtain ⟨hi16, h⟩ := it_some h
                  refine okS_iastore dX9_readPiece_151 pa_71 hi16 ?_
                  refine ok_aload_n dX9_readPiece_152 3 rfl ?_
                  refine ok_dup dX9_readPiece_153 rfl ?_
                  refine okS_getI dX9_readPiece_154 fl_X9_25 pi_68_4 ?_
                  refine ok_iconst (v := 1) dX9_readPiece_157 ic_1 ?_
                  refine ok_iadd dX9_readPiece_158 ?_
                  refine okS_putI dX9_readPiece_159 fl_X9_25 pi_68_4 ⟨rfl, rfl⟩ ?_
                  refine ok_iconst (v := 0) dX9_readPiece_162 ic_0 ?_
                  exact okS_ret dX9_readPiece_163 rfl rfl (by have e := Option.some.inj h; subst e; exact ⟨rfl, rfl⟩)
                · replace h := it_pos hc h
                  refine ok_iconst (v := 1) dX9_readPiece_128 ic_1 ?_
                  exact okS_ret dX9_readPiece_129 rfl rfl (by have e := Option.some.inj h; subst e; exact ⟨rfl, rfl⟩)
              · replace h := it_pos hc h
                refine ok_iconst (v := 1) dX9_readPiece_111 ic_1 ?_
                exact okS_ret dX9_readPiece_112 rfl rfl (by have e := Option.some.inj h; subst e; exact ⟨rfl, rfl⟩)
            · replace h := it_neg hc h
              refine ok_iconst (v := 2) dX9_readPiece_93 ic_2 ?_
              refine ok_goto (tgt := 98) dX9_readPiece_94 (by decide) ?_
              refine ok_iadd dX9_readPiece_98 ?_
              refine okS_putI dX9_readPiece_99 fl_X9_28 pi_68_5 ⟨rfl, rfl⟩ ?_
              refine ok_aload_n dX9_readPiece_102 2 rfl ?_
              refine ok_bipush (v := 58) dX9_readPiece_103 bi_58 ?_
              obtain ⟨r17, e18, h⟩ := it_bind h
              refine okS_V (as := [.int 58]) (st := []) (r := some (.int r17.1)) (S' := r17.2) dX9_readPiece_105 cv_X9_50 rfl po_68 (Nat.le_of_ble_eq_true rfl) ⟨⟨by decide, by decide⟩, rfl, rfl⟩ (t_X9_passes e18) ?_
              show Ok D_X9_readPiece (0, 0) (0, 0) 108 [(4, .int (r7 - 48)), (3, .int r5), (0, .ref 68), (1, .int a1), (2, .int a2)] [.int r17.1] (St r17.2) _
              refine ok_if_ne (tgt := 113) dX9_readPiece_108 (by decide) (fun hc => ?_) (fun hc => ?_)
              · replace h := it_neg hc h
                refine ok_aload_n dX9_readPiece_113 2 rfl ?_
                obtain ⟨r19, e20, h⟩ := it_bind h
                refine okS_V (as := []) (st := []) (r := some (.int r19.1)) (S' := r19.2) dX9_readPiece_114 cv_X9_54 rfl po_68 (Nat.le_of_ble_eq_true rfl) ⟨⟨by decide, by decide⟩, rfl, rfl⟩ (t_X9_readWords e20) ?_
                show Ok D_X9_readPiece (0, 0) (0, 0) 117 [(4, .int (r7 - 48)), (3, .int r5), (0, .ref 68), (1, .int a1), (2, .int a2)] [.int r19.1] (St r19.2) _
                refine ok_istore (L' := [(5, .int r19.1), (4, .int (r7 - 48)), (3, .int r5), (0, .ref 68), (1, .int a1), (2, .int a2)]) dX9_readPiece_117 (by decide) rfl ?_
                refine ok_aload_n dX9_readPiece_119 3 rfl ?_
                refine ok_bipush (v := 59) dX9_readPiece_120 bi_59 ?_
                obtain ⟨r21, e22, h⟩ := it_bind h
                refine okS_V (as := [.int 59]) (st := []) (r := some (.int r21.1)) (S' := r21.2) dX9_readPiece_122 cv_X9_50 rfl po_68 (Nat.le_of_ble_eq_true rfl) ⟨⟨by decide, by decide⟩, rfl, rfl⟩ (t_X9_passes e22) ?_
                show Ok D_X9_readPiece (0, 0) (0, 0) 125 [(5, .int r19.1), (4, .int (r7 - 48)), (3, .int r5), (0, .ref 68), (1, .int a1), (2, .int a2)] [.int r21.1] (St r21.2) _
                refine ok_if_ne (tgt := 130) dX9_readPiece_125 (by decide) (fun hc => ?_) (fun hc => ?_)
                · replace h := it_neg hc h
                  refine ok_aload_n dX9_readPiece_130 3 rfl ?_
                  refine okS_getR dX9_readPiece_131 fl_X9_15 pr_68_1 ?_
                  refine ok_aload_n dX9_readPiece_134 3 rfl ?_
                  refine okS_getI dX9_readPiece_135 fl_X9_25 pi_68_4 ?_
                  refine ok_iload dX9_readPiece_138 1 rfl ?_
                  obtain ⟨hi23, h⟩ := it_some h
                  refine okS_iastore dX9_readPiece_140 pa_70 hi23 ?_
                  refine ok_aload_n dX9_readPiece_141 3 rfl ?_
                  refine okS_getR dX9_readPiece_142 fl_X9_18 pr_68_2 ?_
                  refine ok_aload_n dX9_readPiece_145 3 rfl ?_
                  refine okS_getI dX9_readPiece_146 fl_X9_25 pi_68_4 ?_
                  refine ok_iload dX9_readPiece_149 0 rfl ?_
                  obtain ⟨hi24, h⟩ := it_some h
                  refine okS_iastore dX9_readPiece_151 pa_71 hi24 ?_
                  refine ok_aload_n dX9_readPiece_152 3 rfl ?_
                  refine ok_dup dX9_readPiece_153 rfl ?_
                  refine okS_getI dX9_readPiece_154 fl_X9_25 pi_68_4 ?_
                  refine ok_iconst (v := 1) dX9_readPiece_157 ic_1 ?_
                  refine ok_iadd dX9_readPiece_158 ?_
                  refine okS_putI dX9_readPiece_159 fl_X9_25 pi_68_4 ⟨rfl, rfl⟩ ?_
                  refine ok_iconst (v := 0) dX9_readPiece_162 ic_0 ?_
                  exact okS_ret dX9_readPiece_163 rfl rfl (by have e := Option.some.inj h; subst e; exact ⟨rfl, rfl⟩)
                · replace h := it_pos hc h
                  refine ok_iconst (v := 1) dX9_readPiece_128 ic_1 ?_
                  exact okS_ret dX9_readPiece_129 rfl rfl (by have e := Option.some.inj h; subst e; exact ⟨rfl, rfl⟩)
              · replace h := it_pos hc h
                refine ok_iconst (v := 1) dX9_readPiece_111 ic_1 ?_
                exact okS_ret dX9_readPiece_112 rfl rfl (by have e := Option.some.inj h; subst e; exact ⟨rfl, rfl⟩)
          · replace h := it_neg hc h
            refine ok_iconst (v := 3) dX9_readPiece_82 ic_3 ?_
            exact okS_ret dX9_readPiece_83 rfl rfl (by have e := Option.some.inj h; subst e; exact ⟨rfl, rfl⟩)
      · replace h := it_neg hc h
        refine ok_iconst (v := 2) dX9_readPiece_63 ic_2 ?_
        exact okS_ret dX9_readPiece_64 rfl rfl (by have e := Option.some.inj h; subst e; exact ⟨rfl, rfl⟩)
    · replace h := it_neg hc h
      refine ok_bipush (v := 10) dX9_readPiece_25 bi_10 ?_
      refine ok_aload_n dX9_readPiece_27 1 rfl ?_
      refine ok_aload_n dX9_readPiece_28 1 rfl ?_
      refine okS_getI dX9_readPiece_29 fl_X9_28 pi_68_5 ?_
      refine ok_iconst (v := 1) dX9_readPiece_32 ic_1 ?_
      refine ok_iadd dX9_readPiece_33 ?_
      obtain ⟨r25, e26, h⟩ := it_bind h
      refine okS_V (as := [.int ((S.1 68 5) + 1)]) (st := [.int 10]) (r := some (.int r25)) (S' := S) dX9_readPiece_34 cv_X9_39 rfl po_68 (Nat.le_of_ble_eq_true rfl) ⟨⟨by decide, by decide⟩, rfl, rfl⟩ (t_X9_letterAt e26) ?_
      show Ok D_X9_readPiece (0, 0) (0, 0) 37 [(3, .int r5), (0, .ref 68), (1, .int a1), (2, .int a2)] [.int r25, .int 10] (St S) _
      refine ok_iadd dX9_readPiece_37 ?_
      refine ok_bipush (v := 48) dX9_readPiece_38 bi_48 ?_
      refine ok_isub dX9_readPiece_40 ?_
      refine ok_goto (tgt := 55) dX9_readPiece_41 (by decide) ?_
      refine ok_istore (L' := [(4, .int ((10 + r25) - 48)), (3, .int r5), (0, .ref 68), (1, .int a1), (2, .int a2)]) dX9_readPiece_55 (by decide) rfl ?_
      refine ok_iload dX9_readPiece_57 0 rfl ?_
      refine ok_iload_n dX9_readPiece_59 3 rfl ?_
      refine ok_icmp_lt (tgt := 65) dX9_readPiece_60 (by decide) (fun hc => ?_) (fun hc => ?_)
      · replace h := it_pos hc h
        refine ok_aload_n dX9_readPiece_65 2 rfl ?_
        refine okS_getI dX9_readPiece_66 fl_X9_25 pi_68_4 ?_
        refine ok_iload_n dX9_readPiece_69 4 rfl ?_
        refine ok_icmp_ge (tgt := 82) dX9_readPiece_70 (by decide) (fun hc => ?_) (fun hc => ?_)
        · replace h := it_pos hc h
          refine ok_iconst (v := 3) dX9_readPiece_82 ic_3 ?_
          exact okS_ret dX9_readPiece_83 rfl rfl (by have e := Option.some.inj h; subst e; exact ⟨rfl, rfl⟩)
        · replace h := it_neg hc h
          refine ok_aload_n dX9_readPiece_73 2 rfl ?_
          refine okS_getI dX9_readPiece_74 fl_X9_25 pi_68_4 ?_
          refine ok_bipush (v := 20) dX9_readPiece_77 bi_20 ?_
          refine ok_icmp_lt (tgt := 84) dX9_readPiece_79 (by decide) (fun hc => ?_) (fun hc => ?_)
          · replace h := it_pos hc h
            refine ok_aload_n dX9_readPiece_84 2 rfl ?_
            refine ok_dup dX9_readPiece_85 rfl ?_
            refine okS_getI dX9_readPiece_86 fl_X9_28 pi_68_5 ?_
            refine ok_iload_n dX9_readPiece_89 1 rfl ?_
            refine ok_if_eq (tgt := 97) dX9_readPiece_90 (by decide) (fun hc => ?_) (fun hc => ?_)
            · replace h := it_pos hc h
              refine ok_iconst (v := 1) dX9_readPiece_97 ic_1 ?_
              refine ok_iadd dX9_readPiece_98 ?_
              refine okS_putI dX9_readPiece_99 fl_X9_28 pi_68_5 ⟨rfl, rfl⟩ ?_
              refine ok_aload_n dX9_readPiece_102 2 rfl ?_
              refine ok_bipush (v := 58) dX9_readPiece_103 bi_58 ?_
              obtain ⟨r27, e28, h⟩ := it_bind h
              refine okS_V (as := [.int 58]) (st := []) (r := some (.int r27.1)) (S' := r27.2) dX9_readPiece_105 cv_X9_50 rfl po_68 (Nat.le_of_ble_eq_true rfl) ⟨⟨by decide, by decide⟩, rfl, rfl⟩ (t_X9_passes e28) ?_
              show Ok D_X9_readPiece (0, 0) (0, 0) 108 [(4, .int ((10 + r25) - 48)), (3, .int r5), (0, .ref 68), (1, .int a1), (2, .int a2)] [.int r27.1] (St r27.2) _
              refine ok_if_ne (tgt := 113) dX9_readPiece_108 (by decide) (fun hc => ?_) (fun hc => ?_)
              · replace h := it_neg hc h
                refine ok_aload_n dX9_readPiece_113 2 rfl ?_
                obtain ⟨r29, e30, h⟩ := it_bind h
                refine okS_V (as := []) (st := []) (r := some (.int r29.1)) (S' := r29.2) dX9_readPiece_114 cv_X9_54 rfl po_68 (Nat.le_of_ble_eq_true rfl) ⟨⟨by decide, by decide⟩, rfl, rfl⟩ (t_X9_readWords e30) ?_
                show Ok D_X9_readPiece (0, 0) (0, 0) 117 [(4, .int ((10 + r25) - 48)), (3, .int r5), (0, .ref 68), (1, .int a1), (2, .int a2)] [.int r29.1] (St r29.2) _
                refine ok_istore (L' := [(5, .int r29.1), (4, .int ((10 + r25) - 48)), (3, .int r5), (0, .ref 68), (1, .int a1), (2, .int a2)]) dX9_readPiece_117 (by decide) rfl ?_
                refine ok_aload_n dX9_readPiece_119 3 rfl ?_
                refine ok_bipush (v := 59) dX9_readPiece_120 bi_59 ?_
                obtain ⟨r31, e32, h⟩ := it_bind h
                refine okS_V (as := [.int 59]) (st := []) (r := some (.int r31.1)) (S' := r31.2) dX9_readPiece_122 cv_X9_50 rfl po_68 (Nat.le_of_ble_eq_true rfl) ⟨⟨by decide, by decide⟩, rfl, rfl⟩ (t_X9_passes e32) ?_
                show Ok D_X9_readPiece (0, 0) (0, 0) 125 [(5, .int r29.1), (4, .int ((10 + r25) - 48)), (3, .int r5), (0, .ref 68), (1, .int a1), (2, .int a2)] [.int r31.1] (St r31.2) _
                refine ok_if_ne (tgt := 130) dX9_readPiece_125 (by decide) (fun hc => ?_) (fun hc => ?_)
                · replace h := it_neg hc h
                  refine ok_aload_n dX9_readPiece_130 3 rfl ?_
                  refine okS_getR dX9_readPiece_131 fl_X9_15 pr_68_1 ?_
                  refine ok_aload_n dX9_readPiece_134 3 rfl ?_
                  refine okS_getI dX9_readPiece_135 fl_X9_25 pi_68_4 ?_
                  refine ok_iload dX9_readPiece_138 1 rfl ?_
                  obtain ⟨hi33, h⟩ := it_some h
                  refine okS_iastore dX9_readPiece_140 pa_70 hi33 ?_
                  refine ok_aload_n dX9_readPiece_141 3 rfl ?_
                  refine okS_getR dX9_readPiece_142 fl_X9_18 pr_68_2 ?_
                  refine ok_aload_n dX9_readPiece_145 3 rfl ?_
                  refine okS_getI dX9_readPiece_146 fl_X9_25 pi_68_4 ?_
                  refine ok_iload dX9_readPiece_149 0 rfl ?_
                  obtain ⟨hi34, h⟩ := it_some h
                  refine okS_iastore dX9_readPiece_151 pa_71 hi34 ?_
                  refine ok_aload_n dX9_readPiece_152 3 rfl ?_
                  refine ok_dup dX9_readPiece_153 rfl ?_
                  refine okS_getI dX9_readPiece_154 fl_X9_25 pi_68_4 ?_
                  refine ok_iconst (v := 1) dX9_readPiece_157 ic_1 ?_
                  refine ok_iadd dX9_readPiece_158 ?_
                  refine okS_putI dX9_readPiece_159 fl_X9_25 pi_68_4 ⟨rfl, rfl⟩ ?_
                  refine ok_iconst (v := 0) dX9_readPiece_162 ic_0 ?_
                  exact okS_ret dX9_readPiece_163 rfl rfl (by have e := Option.some.inj h; subst e; exact ⟨rfl, rfl⟩)
                · replace h := it_pos hc h
                  refine ok_iconst (v := 1) dX9_readPiece_128 ic_1 ?_
                  exact okS_ret dX9_readPiece_129 rfl rfl (by have e := Option.some.inj h; subst e; exact ⟨rfl, rfl⟩)
              · replace h := it_pos hc h
                refine ok_iconst (v := 1) dX9_readPiece_111 ic_1 ?_
                exact okS_ret dX9_readPiece_112 rfl rfl (by have e := Option.some.inj h; subst e; exact ⟨rfl, rfl⟩)
            · replace h := it_neg hc h
              refine ok_iconst (v := 2) dX9_readPiece_93 ic_2 ?_
              refine ok_goto (tgt := 98) dX9_readPiece_94 (by decide) ?_
              refine ok_iadd dX9_readPiece_98 ?_
              refine okS_putI dX9_readPiece_99 fl_X9_28 pi_68_5 ⟨rfl, rfl⟩ ?_
              refine ok_aload_n dX9_readPiece_102 2 rfl ?_
              refine ok_bipush (v := 58) dX9_readPiece_103 bi_58 ?_
              obtain ⟨r35, e36, h⟩ := it_bind h
              refine okS_V (as := [.int 58]) (st := []) (r := some (.int r35.1)) (S' := r35.2) dX9_readPiece_105 cv_X9_50 rfl po_68 (Nat.le_of_ble_eq_true rfl) ⟨⟨by decide, by decide⟩, rfl, rfl⟩ (t_X9_passes e36) ?_
              show Ok D_X9_readPiece (0, 0) (0, 0) 108 [(4, .int ((10 + r25) - 48)), (3, .int r5), (0, .ref 68), (1, .int a1), (2, .int a2)] [.int r35.1] (St r35.2) _
              refine ok_if_ne (tgt := 113) dX9_readPiece_108 (by decide) (fun hc => ?_) (fun hc => ?_)
              · replace h := it_neg hc h
                refine ok_aload_n dX9_readPiece_113 2 rfl ?_
                obtain ⟨r37, e38, h⟩ := it_bind h
                refine okS_V (as := []) (st := []) (r := some (.int r37.1)) (S' := r37.2) dX9_readPiece_114 cv_X9_54 rfl po_68 (Nat.le_of_ble_eq_true rfl) ⟨⟨by decide, by decide⟩, rfl, rfl⟩ (t_X9_readWords e38) ?_
                show Ok D_X9_readPiece (0, 0) (0, 0) 117 [(4, .int ((10 + r25) - 48)), (3, .int r5), (0, .ref 68), (1, .int a1), (2, .int a2)] [.int r37.1] (St r37.2) _
                refine ok_istore (L' := [(5, .int r37.1), (4, .int ((10 + r25) - 48)), (3, .int r5), (0, .ref 68), (1, .int a1), (2, .int a2)]) dX9_readPiece_117 (by decide) rfl ?_
                refine ok_aload_n dX9_readPiece_119 3 rfl ?_
                refine ok_bipush (v := 59) dX9_readPiece_120 bi_59 ?_
                obtain ⟨r39, e40, h⟩ := it_bind h
                refine okS_V (as := [.int 59]) (st := []) (r := some (.int r39.1)) (S' := r39.2) dX9_readPiece_122 cv_X9_50 rfl po_68 (Nat.le_of_ble_eq_true rfl) ⟨⟨by decide, by decide⟩, rfl, rfl⟩ (t_X9_passes e40) ?_
                show Ok D_X9_readPiece (0, 0) (0, 0) 125 [(5, .int r37.1), (4, .int ((10 + r25) - 48)), (3, .int r5), (0, .ref 68), (1, .int a1), (2, .int a2)] [.int r39.1] (St r39.2) _
                refine ok_if_ne (tgt := 130) dX9_readPiece_125 (by decide) (fun hc => ?_) (fun hc => ?_)
                · replace h := it_neg hc h
                  refine ok_aload_n dX9_readPiece_130 3 rfl ?_
                  refine okS_getR dX9_readPiece_131 fl_X9_15 pr_68_1 ?_
                  refine ok_aload_n dX9_readPiece_134 3 rfl ?_
                  refine okS_getI dX9_readPiece_135 fl_X9_25 pi_68_4 ?_
                  refine ok_iload dX9_readPiece_138 1 rfl ?_
                  obtain ⟨hi41, h⟩ := it_some h
                  refine okS_iastore dX9_readPiece_140 pa_70 hi41 ?_
                  refine ok_aload_n dX9_readPiece_141 3 rfl ?_
                  refine okS_getR dX9_readPiece_142 fl_X9_18 pr_68_2 ?_
                  refine ok_aload_n dX9_readPiece_145 3 rfl ?_
                  refine okS_getI dX9_readPiece_146 fl_X9_25 pi_68_4 ?_
                  refine ok_iload dX9_readPiece_149 0 rfl ?_
                  obtain ⟨hi42, h⟩ := it_some h
                  refine okS_iastore dX9_readPiece_151 pa_71 hi42 ?_
                  refine ok_aload_n dX9_readPiece_152 3 rfl ?_
                  refine ok_dup dX9_readPiece_153 rfl ?_
                  refine okS_getI dX9_readPiece_154 fl_X9_25 pi_68_4 ?_
                  refine ok_iconst (v := 1) dX9_readPiece_157 ic_1 ?_
                  refine ok_iadd dX9_readPiece_158 ?_
                  refine okS_putI dX9_readPiece_159 fl_X9_25 pi_68_4 ⟨rfl, rfl⟩ ?_
                  refine ok_iconst (v := 0) dX9_readPiece_162 ic_0 ?_
                  exact okS_ret dX9_readPiece_163 rfl rfl (by have e := Option.some.inj h; subst e; exact ⟨rfl, rfl⟩)
                · replace h := it_pos hc h
                  refine ok_iconst (v := 1) dX9_readPiece_128 ic_1 ?_
                  exact okS_ret dX9_readPiece_129 rfl rfl (by have e := Option.some.inj h; subst e; exact ⟨rfl, rfl⟩)
              · replace h := it_pos hc h
                refine ok_iconst (v := 1) dX9_readPiece_111 ic_1 ?_
                exact okS_ret dX9_readPiece_112 rfl rfl (by have e := Option.some.inj h; subst e; exact ⟨rfl, rfl⟩)
          · replace h := it_neg hc h
            refine ok_iconst (v := 3) dX9_readPiece_82 ic_3 ?_
            exact okS_ret dX9_readPiece_83 rfl rfl (by have e := Option.some.inj h; subst e; exact ⟨rfl, rfl⟩)
      · replace h := it_neg hc h
        refine ok_iconst (v := 2) dX9_readPiece_63 ic_2 ?_
        exact okS_ret dX9_readPiece_64 rfl rfl (by have e := Option.some.inj h; subst e; exact ⟨rfl, rfl⟩)
  · replace h := it_pos hc h
    refine ok_iconst (v := 1) dX9_readPiece_14 ic_1 ?_
    exact okS_ret dX9_readPiece_15 rfl rfl (by have e := Option.some.inj h; subst e; exact ⟨rfl, rfl⟩)
def lp_X9_read_15 (k : Int32 → Int32 → Mm → Option (Int32 × Mm)) (c1 : Int32) (c2 : Int32) : Nat → Int32 → Int32 → Mm → Option (Int32 × Mm)
  | 0, _, _, _ => none
  | fuel + 1, x3, x4, S => (if 20 ≤ x4 then k x3 x4 S else (if (S.1 68 3) ≤ (S.1 68 5) then k x3 x4 S else (if x3 = 0 then ((f_X9_readPiece S c1 c2).bind fun r1 => lp_X9_read_15 k c1 c2 fuel r1.1 (x4 + 1) r1.2) else k x3 x4 S)))
def f_X9_read (S : Mm) (a1 : Int32) (a2 : Int32) : Option (Int32 × Mm) :=
  lp_X9_read_15 (fun y3_3 y4_4 S5 => some (y3_3, S5)) a1 a2 100000 0 0 (wr (wr S 68 5 0) 68 4 0)
set_option maxRecDepth 100000 in
set_option maxHeartbeats 4000000 in
theorem tlp_X9_read_15 {k : Int32 → Int32 → Mm → Option (Int32 × Mm)} {c1 : Int32} {c2 : Int32} (hk : ∀ (x3 x4 : Int32) (S : Mm) (out : Int32 × Mm), k x3 x4 S = some out → Ok D_X9_read (0, 0) (0, 0) 50 [(0, .ref 68), (1, .int c1), (2, .int c2), (3, .int x3), (4, .int x4)] [] (St S) (An (some (.int out.1)) out.2)) : ∀ (fuel : Nat) (x3 x4 : Int32) (S : Mm) (out : Int32 × Mm), lp_X9_read_15 k c1 c2 fuel x3 x4 S = some out → Ok D_X9_read (0, 0) (0, 0) 15 [(0, .ref 68), (1, .int c1), (2, .int c2), (3, .int x3), (4, .int x4)] [] (St S) (An (some (.int out.1)) out.2) := by
  intro fuel
  induction fuel with
  | zero => intro x3 x4 S out h; cases h
  | succ fuel ih =>
    intro x3 x4 S out h
    rw [lp_X9_read_15] at h
    refine ok_iload dX9_read_15 4 rfl ?_
    refine ok_bipush (v := 20) dX9_read_17 bi_20 ?_
    refine ok_icmp_ge (tgt := 50) dX9_read_19 (by decide) (fun hc => ?_) (fun hc => ?_)
    · replace h := it_pos hc h
      refine ok_perm [0, 1, 2, 3, 4] rfl ?_
      exact hk _ _ _ _ h
    · replace h := it_neg hc h
      refine ok_aload_n dX9_read_22 0 rfl ?_
      refine okS_getI dX9_read_23 fl_X9_28 pi_68_5 ?_
      refine ok_aload_n dX9_read_26 0 rfl ?_
      refine okS_getI dX9_read_27 fl_X9_21 pi_68_3 ?_
      refine ok_icmp_ge (tgt := 50) dX9_read_30 (by decide) (fun hc => ?_) (fun hc => ?_)
      · replace h := it_pos hc h
        refine ok_perm [0, 1, 2, 3, 4] rfl ?_
        exact hk _ _ _ _ h
      · replace h := it_neg hc h
        refine ok_iload_n dX9_read_33 3 rfl ?_
        refine ok_if_ne (tgt := 50) dX9_read_34 (by decide) (fun hc => ?_) (fun hc => ?_)
        · replace h := it_neg hc h
          refine ok_perm [0, 1, 2, 3, 4] rfl ?_
          exact hk _ _ _ _ h
        · replace h := it_pos hc h
          refine ok_aload_n dX9_read_37 0 rfl ?_
          refine ok_iload_n dX9_read_38 1 rfl ?_
          refine ok_iload_n dX9_read_39 2 rfl ?_
          obtain ⟨r1, e2, h⟩ := it_bind h
          refine okS_V (as := [.int c1, .int c2]) (st := []) (r := some (.int r1.1)) (S' := r1.2) dX9_read_40 cv_X9_35 rfl po_68 (Nat.le_of_ble_eq_true rfl) ⟨⟨by decide, by decide⟩, rfl, rfl⟩ (t_X9_readPiece e2) ?_
          show Ok D_X9_read (0, 0) (0, 0) 43 [(0, .ref 68), (1, .int c1), (2, .int c2), (3, .int x3), (4, .int x4)] [.int r1.1] (St r1.2) _
          refine ok_istore_n (L' := [(3, .int r1.1), (0, .ref 68), (1, .int c1), (2, .int c2), (4, .int x4)]) dX9_read_43 (by decide) rfl ?_
          refine ok_iinc (v := x4 + 1) (L' := [(4, .int (x4 + 1)), (3, .int r1.1), (0, .ref 68), (1, .int c1), (2, .int c2)]) dX9_read_44 4 rfl (ii_1 _) (by decide) rfl ?_
          refine ok_goto (tgt := 15) dX9_read_47 (by decide) ?_
          refine ok_perm [2, 3, 4, 1, 0] rfl ?_
          exact ih _ _ _ _ h
set_option maxRecDepth 100000 in
set_option maxHeartbeats 4000000 in
theorem t_X9_read {S : Mm} {a1 : Int32} {a2 : Int32} {out : Int32 × Mm} (h : f_X9_read S a1 a2 = some out) : Rs D_X9_read [.ref 68, .int a1, .int a2] S (some (.int out.1)) out.2 := by
  refine rs_of (by decide) rfl (Nat.le_of_ble_eq_true rfl) ?_
  unfold f_X9_read at h
  show Ok D_X9_read (0, 0) (0, 0) 0 [(0, .ref 68), (1, .int a1), (2, .int a2)] [] (St S) _
  refine ok_aload_n dX9_read_0 0 rfl ?_
  refine ok_iconst (v := 0) dX9_read_1 ic_0 ?_
  refine okS_putI dX9_read_2 fl_X9_28 pi_68_5 ⟨rfl, rfl⟩ ?_
  refine ok_aload_n dX9_read_5 0 rfl ?_
  refine ok_iconst (v := 0) dX9_read_6 ic_0 ?_
  refine okS_putI dX9_read_7 fl_X9_25 pi_68_4 ⟨rfl, rfl⟩ ?_
  refine ok_iconst (v := 0) dX9_read_10 ic_0 ?_
  refine ok_istore_n (L' := [(3, .int 0), (0, .ref 68), (1, .int a1), (2, .int a2)]) dX9_read_11 (by decide) rfl ?_
  refine ok_iconst (v := 0) dX9_read_12 ic_0 ?_
  refine ok_istore (L' := [(4, .int 0), (3, .int 0), (0, .ref 68), (1, .int a1), (2, .int a2)]) dX9_read_13 (by decide) rfl ?_
  refine ok_perm [2, 3, 4, 1, 0] rfl ?_
  refine tlp_X9_read_15 (fun y3_3 y4_4 S5 out6 h => ?_) _ _ _ _ _ h
  refine ok_iload_n dX9_read_50 3 rfl ?_
  exact okS_ret dX9_read_51 rfl rfl (by have e := Option.some.inj h; subst e; exact ⟨rfl, rfl⟩)
def f_X9_place (S : Mm)  : Option (Int32) :=
  some (S.1 68 5)
set_option maxRecDepth 100000 in
set_option maxHeartbeats 4000000 in
theorem t_X9_place {S : Mm} {out : Int32} (h : f_X9_place S  = some out) : Rs D_X9_place [.ref 68] S (some (.int out)) S := by
  refine rs_of (by decide) rfl (Nat.le_of_ble_eq_true rfl) ?_
  unfold f_X9_place at h
  show Ok D_X9_place (0, 0) (0, 0) 0 [(0, .ref 68)] [] (St S) _
  refine ok_aload_n dX9_place_0 0 rfl ?_
  refine okS_getI dX9_place_1 fl_X9_28 pi_68_5 ?_
  exact okS_ret dX9_place_4 rfl rfl (by have e := Option.some.inj h; subst e; exact ⟨rfl, rfl⟩)
def f_X9_clear (S : Mm)  : Option (Mm) :=
  some (wr S 68 3 0)
set_option maxRecDepth 100000 in
set_option maxHeartbeats 4000000 in
theorem t_X9_clear {S : Mm} {out : Mm} (h : f_X9_clear S  = some out) : Rs D_X9_clear [.ref 68] S none out := by
  refine rs_of (by decide) rfl (Nat.le_of_ble_eq_true rfl) ?_
  unfold f_X9_clear at h
  show Ok D_X9_clear (0, 0) (0, 0) 0 [(0, .ref 68)] [] (St S) _
  refine ok_aload_n dX9_clear_0 0 rfl ?_
  refine ok_iconst (v := 0) dX9_clear_1 ic_0 ?_
  refine okS_putI dX9_clear_2 fl_X9_21 pi_68_3 ⟨rfl, rfl⟩ ?_
  exact okS_retv dX9_clear_5 rfl (by have e := Option.some.inj h; subst e; exact ⟨rfl, rfl⟩)
def f_X9_readCount (S : Mm)  : Option (Int32) :=
  some (S.1 68 4)
set_option maxRecDepth 100000 in
set_option maxHeartbeats 4000000 in
theorem t_X9_readCount {S : Mm} {out : Int32} (h : f_X9_readCount S  = some out) : Rs D_X9_readCount [.ref 68] S (some (.int out)) S := by
  refine rs_of (by decide) rfl (Nat.le_of_ble_eq_true rfl) ?_
  unfold f_X9_readCount at h
  show Ok D_X9_readCount (0, 0) (0, 0) 0 [(0, .ref 68)] [] (St S) _
  refine ok_aload_n dX9_readCount_0 0 rfl ?_
  refine okS_getI dX9_readCount_1 fl_X9_25 pi_68_4 ?_
  exact okS_ret dX9_readCount_4 rfl rfl (by have e := Option.some.inj h; subst e; exact ⟨rfl, rfl⟩)
def f_X9_dayRead (S : Mm) (a1 : Int32) : Option (Int32) :=
  (if a1 < 0 then some (-1) else (if (S.1 68 4) ≤ a1 then some (-1) else (if inb a1 20 then some (S.1 70 a1.toNatClampNeg) else none)))
set_option maxRecDepth 100000 in
set_option maxHeartbeats 4000000 in
theorem t_X9_dayRead {S : Mm} {a1 : Int32} {out : Int32} (h : f_X9_dayRead S a1 = some out) : Rs D_X9_dayRead [.ref 68, .int a1] S (some (.int out)) S := by
  refine rs_of (by decide) rfl (Nat.le_of_ble_eq_true rfl) ?_
  unfold f_X9_dayRead at h
  show Ok D_X9_dayRead (0, 0) (0, 0) 0 [(0, .ref 68), (1, .int a1)] [] (St S) _
  refine ok_iload_n dX9_dayRead_0 1 rfl ?_
  refine ok_if_lt (tgt := 21) dX9_dayRead_1 (by decide) (fun hc => ?_) (fun hc => ?_)
  · replace h := it_pos hc h
    refine ok_iconst (v := (-1)) dX9_dayRead_21 ic_m1 ?_
    exact okS_ret dX9_dayRead_22 rfl rfl (by have e := Option.some.inj h; subst e; exact ⟨rfl, rfl⟩)
  · replace h := it_neg hc h
    refine ok_iload_n dX9_dayRead_4 1 rfl ?_
    refine ok_aload_n dX9_dayRead_5 0 rfl ?_
    refine okS_getI dX9_dayRead_6 fl_X9_25 pi_68_4 ?_
    refine ok_icmp_ge (tgt := 21) dX9_dayRead_9 (by decide) (fun hc => ?_) (fun hc => ?_)
    · replace h := it_pos hc h
      refine ok_iconst (v := (-1)) dX9_dayRead_21 ic_m1 ?_
      exact okS_ret dX9_dayRead_22 rfl rfl (by have e := Option.some.inj h; subst e; exact ⟨rfl, rfl⟩)
    · replace h := it_neg hc h
      refine ok_aload_n dX9_dayRead_12 0 rfl ?_
      refine okS_getR dX9_dayRead_13 fl_X9_15 pr_68_1 ?_
      refine ok_iload_n dX9_dayRead_16 1 rfl ?_
      obtain ⟨hi1, h⟩ := it_some h
      refine okS_iaload dX9_dayRead_17 pa_70 hi1 ?_
      refine ok_goto (tgt := 22) dX9_dayRead_18 (by decide) ?_
      exact okS_ret dX9_dayRead_22 rfl rfl (by have e := Option.some.inj h; subst e; exact ⟨rfl, rfl⟩)
def f_X9_setRead (S : Mm) (a1 : Int32) : Option (Int32) :=
  (if a1 < 0 then some 0 else (if (S.1 68 4) ≤ a1 then some 0 else (if inb a1 20 then some (S.1 71 a1.toNatClampNeg) else none)))
set_option maxRecDepth 100000 in
set_option maxHeartbeats 4000000 in
theorem t_X9_setRead {S : Mm} {a1 : Int32} {out : Int32} (h : f_X9_setRead S a1 = some out) : Rs D_X9_setRead [.ref 68, .int a1] S (some (.int out)) S := by
  refine rs_of (by decide) rfl (Nat.le_of_ble_eq_true rfl) ?_
  unfold f_X9_setRead at h
  show Ok D_X9_setRead (0, 0) (0, 0) 0 [(0, .ref 68), (1, .int a1)] [] (St S) _
  refine ok_iload_n dX9_setRead_0 1 rfl ?_
  refine ok_if_lt (tgt := 21) dX9_setRead_1 (by decide) (fun hc => ?_) (fun hc => ?_)
  · replace h := it_pos hc h
    refine ok_iconst (v := 0) dX9_setRead_21 ic_0 ?_
    exact okS_ret dX9_setRead_22 rfl rfl (by have e := Option.some.inj h; subst e; exact ⟨rfl, rfl⟩)
  · replace h := it_neg hc h
    refine ok_iload_n dX9_setRead_4 1 rfl ?_
    refine ok_aload_n dX9_setRead_5 0 rfl ?_
    refine okS_getI dX9_setRead_6 fl_X9_25 pi_68_4 ?_
    refine ok_icmp_ge (tgt := 21) dX9_setRead_9 (by decide) (fun hc => ?_) (fun hc => ?_)
    · replace h := it_pos hc h
      refine ok_iconst (v := 0) dX9_setRead_21 ic_0 ?_
      exact okS_ret dX9_setRead_22 rfl rfl (by have e := Option.some.inj h; subst e; exact ⟨rfl, rfl⟩)
    · replace h := it_neg hc h
      refine ok_aload_n dX9_setRead_12 0 rfl ?_
      refine okS_getR dX9_setRead_13 fl_X9_18 pr_68_2 ?_
      refine ok_iload_n dX9_setRead_16 1 rfl ?_
      obtain ⟨hi1, h⟩ := it_some h
      refine okS_iaload dX9_setRead_17 pa_71 hi1 ?_
      refine ok_goto (tgt := 22) dX9_setRead_18 (by decide) ?_
      exact okS_ret dX9_setRead_22 rfl rfl (by have e := Option.some.inj h; subst e; exact ⟨rfl, rfl⟩)
